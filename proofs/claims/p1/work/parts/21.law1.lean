theorem dL_law_0 : decode cL_law 0 = .ok (.new 8, 3) := by decide +kernel
theorem dL_law_3 : decode cL_law 3 = .ok (.dup, 1) := by decide +kernel
theorem dL_law_7 : decode cL_law 7 = .ok (.astore_n 1, 1) := by decide +kernel
theorem dL_law_8 : decode cL_law 8 = .ok (.new 102, 3) := by decide +kernel
theorem dL_law_11 : decode cL_law 11 = .ok (.dup, 1) := by decide +kernel
theorem dL_law_15 : decode cL_law 15 = .ok (.astore_n 2, 1) := by decide +kernel
theorem dL_law_16 : decode cL_law 16 = .ok (.iconst 1, 1) := by decide +kernel
theorem dL_law_17 : decode cL_law 17 = .ok (.newarray .long, 2) := by decide +kernel
theorem dL_law_19 : decode cL_law 19 = .ok (.astore_n 3, 1) := by decide +kernel
theorem dL_law_20 : decode cL_law 20 = .ok (.iconst 0, 1) := by decide +kernel
theorem dL_law_21 : decode cL_law 21 = .ok (.istore 4, 2) := by decide +kernel
theorem dL_law_33 : decode cL_law 33 = .ok (.aload_n 0, 1) := by decide +kernel
theorem dL_law_34 : decode cL_law 34 = .ok (.iload 4, 2) := by decide +kernel
theorem dL_law_36 : decode cL_law 36 = .ok (.iaload, 1) := by decide +kernel
theorem dL_law_37 : decode cL_law 37 = .ok (.bipush 31, 2) := by decide +kernel
theorem dL_law_39 : decode cL_law 39 = .ok (.iand, 1) := by decide +kernel
theorem dL_law_40 : decode cL_law 40 = .ok (.tableswitch 1993 0 27 #[128, 172, 240, 308, 400, 468, 555, 623, 698, 773, 853, 940, 1008, 1126, 1182, 1250, 1318, 1362, 1442, 1498, 1539, 1619, 1675, 1755, 1811, 1867, 1923, 1979], 128) := by decide +kernel
theorem dL_law_12 : decode cL_law 12 = .ok (.invokespecial 104, 3) := by decide +kernel
theorem dL_law_4 : decode cL_law 4 = .ok (.invokespecial 101, 3) := by decide +kernel
theorem dL_law_168 : decode cL_law 168 = .ok (.aload_n 1, 1) := by decide +kernel
theorem dL_law_169 : decode cL_law 169 = .ok (.aload_n 3, 1) := by decide +kernel
theorem dL_law_173 : decode cL_law 173 = .ok (.istore 5, 2) := by decide +kernel
theorem dL_law_175 : decode cL_law 175 = .ok (.aload_n 2, 1) := by decide +kernel
theorem dL_law_179 : decode cL_law 179 = .ok (.istore 6, 2) := by decide +kernel
theorem dL_law_181 : decode cL_law 181 = .ok (.aload_n 2, 1) := by decide +kernel
theorem dL_law_185 : decode cL_law 185 = .ok (.iload 5, 2) := by decide +kernel
theorem dL_law_187 : decode cL_law 187 = .ok (.if_icmp .eq 5, 3) := by decide +kernel
theorem dL_law_192 : decode cL_law 192 = .ok (.iload 5, 2) := by decide +kernel
theorem dL_law_194 : decode cL_law 194 = .ok (.ifCond .ne 15, 3) := by decide +kernel
theorem dL_law_209 : decode cL_law 209 = .ok (.goto 1824, 3) := by decide +kernel
theorem dL_law_197 : decode cL_law 197 = .ok (.aload_n 3, 1) := by decide +kernel
theorem dL_law_198 : decode cL_law 198 = .ok (.iconst 0, 1) := by decide +kernel
theorem dL_law_199 : decode cL_law 199 = .ok (.laload, 1) := by decide +kernel
theorem dL_law_200 : decode cL_law 200 = .ok (.iload 6, 2) := by decide +kernel
theorem dL_law_202 : decode cL_law 202 = .ok (.i2l, 1) := by decide +kernel
theorem dL_law_203 : decode cL_law 203 = .ok (.lcmp, 1) := by decide +kernel
theorem dL_law_204 : decode cL_law 204 = .ok (.ifCond .eq 5, 3) := by decide +kernel
theorem dL_law_207 : decode cL_law 207 = .ok (.iconst 0, 1) := by decide +kernel
theorem dL_law_190 : decode cL_law 190 = .ok (.iconst 0, 1) := by decide +kernel
theorem dL_law_182 : decode cL_law 182 = .ok (.invokevirtual 111, 3) := by decide +kernel
theorem dL_law_176 : decode cL_law 176 = .ok (.invokevirtual 110, 3) := by decide +kernel
theorem dL_law_170 : decode cL_law 170 = .ok (.invokestatic 105, 3) := by decide +kernel
def vl_0 (zE : Nat) (x : Nat) (m : Nat) (o : Nat) (b : Nat) (T : zT) (F : zF) : Prop :=
  (v_L_asset zE x o T F (fun (r1 : Int32) (T2 : zT) (F3 : zF) => (T2 m = some (12, 6) ∧ (v_X9_asset zE m T2 F3 (fun (r5 : Int32) (T6 : zT) (F7 : zF) => (T6 m = some (12, 6) ∧ (v_X9_thrown m T6 F7 (fun (r9 : Int32) => ((r9 = r1 → ((¬ r1 = 0 → (∃ L9 : Nat, T6 b = some (104, L9) ∧ L9 ≤ 7)) ∧ (r1 = 0 → (∃ n10 : Nat, T6 o = some (103, n10) ∧ vp_in 0 n10 ∧ ∃ x13 : Int64, F7 o (0).toNatClampNeg = .long x13 ∧ (((lg_cmp x13 r5.toInt64) = 0 → (∃ L9 : Nat, T6 b = some (104, L9) ∧ L9 ≤ 7)) ∧ (¬ (lg_cmp x13 r5.toInt64) = 0 → False)))))) ∧ (¬ r9 = r1 → False))))))))))
set_option maxRecDepth 100000 in
set_option maxHeartbeats 4000000 in
theorem kl_0 {p : Program} {l : Launch} {e : Env} {s : State} {m : MethodId} {below : List Frame} {meth : Method} {c : Code} {D : va_G} {cA : Nat → ClassId} {N0 zE : Nat} {x : Nat} {m : Nat} {o : Nat} {b : Nat} {T : zT} {F : zF} (hr : meth.sig.returnType = ret) (hN0 : N0 = s.heap.size) (C : z_C p l s m #[Value.ref b] meth c RL cL_law 9 ret D cA N0 zE) (h : vl_0 zE x m o b T F) : z_w p l e room_1 s m #[Value.ref b] below meth c D cA N0 9 20 80 (lw_Z below #[Value.ref b] s) 168 [(4, .int 0), (3, .ref o), (2, .ref m), (1, .ref x), (0, .ref b)] [] T F := by
  unfold vl_0 at h
  refine zr_aload_n C 3 dL_law_168 rfl rfl ?_
  refine zr_aload_n C 1 dL_law_169 rfl rfl ?_
  refine zr_callSH (As := [.ref x, .ref o]) C (k_L_asset h) ok_L_105 zq_616 rfl ⟨by decide, (Nat.le_of_ble_eq_true rfl)⟩ ⟨(Nat.le_of_ble_eq_true rfl), (Nat.le_of_ble_eq_true rfl)⟩ (Nat.le_of_ble_eq_true rfl) dL_law_170 (fun v21 U22 G23 hq => ?_)
  clear h
  · obtain ⟨r1, rfl, h⟩ := hq
    skip
    refine zr_istore C [(5, .int r1), (4, .int 0), (3, .ref o), (2, .ref m), (1, .ref x), (0, .ref b)] dL_law_173 (by decide) rfl ?_
    refine zr_aload_n C 3 dL_law_175 rfl rfl ?_
    obtain ⟨hT4, h⟩ := h
    refine zr_callV (As := []) (r := (RX9, TX9, 6)) C (k_X9_asset h) ok_L_110 zq_979 zq_980 hT4 (by decide) rfl rfl ⟨by decide, (Nat.le_of_ble_eq_true rfl)⟩ ⟨(Nat.le_of_ble_eq_true rfl), (Nat.le_of_ble_eq_true rfl)⟩ (Nat.le_of_ble_eq_true rfl) dL_law_176 (fun v18 U19 G20 hq => ?_)
    clear h
    · obtain ⟨r5, rfl, h⟩ := hq
      skip
      refine zr_istore C [(6, .int r5), (5, .int r1), (4, .int 0), (3, .ref o), (2, .ref m), (1, .ref x), (0, .ref b)] dL_law_179 (by decide) rfl ?_
      refine zr_aload_n C 4 dL_law_181 rfl rfl ?_
      obtain ⟨hT8, h⟩ := h
      refine zr_callV (As := []) (r := (RX9, TX9, 6)) C (k_X9_thrown h) ok_L_111 zq_975 zq_976 hT8 (by decide) rfl rfl ⟨by decide, (Nat.le_of_ble_eq_true rfl)⟩ ⟨(Nat.le_of_ble_eq_true rfl), (Nat.le_of_ble_eq_true rfl)⟩ (Nat.le_of_ble_eq_true rfl) dL_law_182 (fun v15 U16 G17 hq => ?_)
      clear h
      · obtain ⟨r9, rfl, rfl, rfl, h⟩ := hq
        refine zr_iload C 1 dL_law_185 rfl ?_
        obtain ⟨h1, h2⟩ := h
        refine zr_icmp_eq C 192 dL_law_187 (by decide) (fun hc => ?_) (fun hc => ?_)
        · have h := h1 hc
          clear h1 h2
          refine zr_iload C 1 dL_law_192 rfl ?_
          obtain ⟨h1, h2⟩ := h
          refine zr_if_ne C 209 dL_law_194 (by decide) (fun hc => ?_) (fun hc => ?_)
          · have h := h1 hc
            clear h1 h2
            refine zr_goto C 2033 dL_law_209 (by decide) ?_
            exact zr_sub [2, 6] rfl (kl_end hr hN0 C (Nat.le_of_ble_eq_true rfl) (Nat.le_of_ble_eq_true rfl) h)
          · have h := h2 hc
            clear h1 h2
            refine zr_aload_n C 3 dL_law_197 rfl rfl ?_
            refine zr_iconst C 0 dL_law_198 (by decide) ?_
            obtain ⟨n10, hT11, hi12, x13, hv14, h⟩ := h
            refine zr_lald C rfl hT11 hi12 hv14 dL_law_199 ?_
            refine zr_iload C 0 dL_law_200 rfl ?_
            refine zr_i2l C dL_law_202 ?_
            refine zr_lcmp C dL_law_203 ?_
            obtain ⟨h1, h2⟩ := h
            refine zr_if_eq C 209 dL_law_204 (by decide) (fun hc => ?_) (fun hc => ?_)
            · have h := h1 hc
              clear h1 h2
              refine zr_goto C 2033 dL_law_209 (by decide) ?_
              exact zr_sub [2, 6] rfl (kl_end hr hN0 C (Nat.le_of_ble_eq_true rfl) (Nat.le_of_ble_eq_true rfl) h)
            · have h := h2 hc
              clear h1 h2
              refine zr_iconst C 0 dL_law_207 (by decide) ?_
              exact h.elim
        · have h := h2 hc
          clear h1 h2
          refine zr_iconst C 0 dL_law_190 (by decide) ?_
          exact h.elim
theorem dL_law_212 : decode cL_law 212 = .ok (.aload_n 1, 1) := by decide +kernel
theorem dL_law_213 : decode cL_law 213 = .ok (.aload_n 0, 1) := by decide +kernel
theorem dL_law_214 : decode cL_law 214 = .ok (.iload 4, 2) := by decide +kernel
theorem dL_law_216 : decode cL_law 216 = .ok (.iconst 1, 1) := by decide +kernel
theorem dL_law_217 : decode cL_law 217 = .ok (.iadd, 1) := by decide +kernel
theorem dL_law_218 : decode cL_law 218 = .ok (.iaload, 1) := by decide +kernel
theorem dL_law_219 : decode cL_law 219 = .ok (.aload_n 0, 1) := by decide +kernel
theorem dL_law_220 : decode cL_law 220 = .ok (.iload 4, 2) := by decide +kernel
theorem dL_law_222 : decode cL_law 222 = .ok (.iconst 2, 1) := by decide +kernel
theorem dL_law_223 : decode cL_law 223 = .ok (.iadd, 1) := by decide +kernel
theorem dL_law_224 : decode cL_law 224 = .ok (.iaload, 1) := by decide +kernel
theorem dL_law_225 : decode cL_law 225 = .ok (.aload_n 3, 1) := by decide +kernel
theorem dL_law_229 : decode cL_law 229 = .ok (.istore 5, 2) := by decide +kernel
theorem dL_law_231 : decode cL_law 231 = .ok (.aload_n 2, 1) := by decide +kernel
theorem dL_law_232 : decode cL_law 232 = .ok (.aload_n 0, 1) := by decide +kernel
theorem dL_law_233 : decode cL_law 233 = .ok (.iload 4, 2) := by decide +kernel
theorem dL_law_235 : decode cL_law 235 = .ok (.iconst 1, 1) := by decide +kernel
theorem dL_law_236 : decode cL_law 236 = .ok (.iadd, 1) := by decide +kernel
theorem dL_law_237 : decode cL_law 237 = .ok (.iaload, 1) := by decide +kernel
theorem dL_law_238 : decode cL_law 238 = .ok (.aload_n 0, 1) := by decide +kernel
theorem dL_law_239 : decode cL_law 239 = .ok (.iload 4, 2) := by decide +kernel
theorem dL_law_241 : decode cL_law 241 = .ok (.iconst 2, 1) := by decide +kernel
theorem dL_law_242 : decode cL_law 242 = .ok (.iadd, 1) := by decide +kernel
theorem dL_law_243 : decode cL_law 243 = .ok (.iaload, 1) := by decide +kernel
theorem dL_law_247 : decode cL_law 247 = .ok (.istore 6, 2) := by decide +kernel
theorem dL_law_249 : decode cL_law 249 = .ok (.aload_n 2, 1) := by decide +kernel
theorem dL_law_253 : decode cL_law 253 = .ok (.iload 5, 2) := by decide +kernel
theorem dL_law_255 : decode cL_law 255 = .ok (.if_icmp .eq 5, 3) := by decide +kernel
theorem dL_law_260 : decode cL_law 260 = .ok (.iload 5, 2) := by decide +kernel
theorem dL_law_262 : decode cL_law 262 = .ok (.ifCond .ne 15, 3) := by decide +kernel
theorem dL_law_277 : decode cL_law 277 = .ok (.goto 1756, 3) := by decide +kernel
theorem dL_law_265 : decode cL_law 265 = .ok (.aload_n 3, 1) := by decide +kernel
theorem dL_law_266 : decode cL_law 266 = .ok (.iconst 0, 1) := by decide +kernel
theorem dL_law_267 : decode cL_law 267 = .ok (.laload, 1) := by decide +kernel
theorem dL_law_268 : decode cL_law 268 = .ok (.iload 6, 2) := by decide +kernel
theorem dL_law_270 : decode cL_law 270 = .ok (.i2l, 1) := by decide +kernel
theorem dL_law_271 : decode cL_law 271 = .ok (.lcmp, 1) := by decide +kernel
theorem dL_law_272 : decode cL_law 272 = .ok (.ifCond .eq 5, 3) := by decide +kernel
theorem dL_law_275 : decode cL_law 275 = .ok (.iconst 0, 1) := by decide +kernel
theorem dL_law_258 : decode cL_law 258 = .ok (.iconst 0, 1) := by decide +kernel
theorem dL_law_250 : decode cL_law 250 = .ok (.invokevirtual 111, 3) := by decide +kernel
theorem dL_law_244 : decode cL_law 244 = .ok (.invokevirtual 117, 3) := by decide +kernel
theorem dL_law_226 : decode cL_law 226 = .ok (.invokestatic 114, 3) := by decide +kernel
def vl_1 (x : Nat) (m : Nat) (o : Nat) (b : Nat) (T : zT) (F : zF) : Prop :=
  (∃ n1 : Nat, T b = some (104, n1) ∧ vp_in 1 n1 ∧ ∃ x4 : Int32, F b (1).toNatClampNeg = .int x4 ∧ vp_in 2 n1 ∧ ∃ x7 : Int32, F b (2).toNatClampNeg = .int x7 ∧ (v_L_version x x4 x7 o T F (fun (r9 : Int32) (F10 : zF) => (vp_in 1 n1 ∧ ∃ x12 : Int32, F10 b (1).toNatClampNeg = .int x12 ∧ vp_in 2 n1 ∧ ∃ x15 : Int32, F10 b (2).toNatClampNeg = .int x15 ∧ T m = some (12, 6) ∧ (v_X9_version m x12 x15 T F10 (fun (r18 : Int32) (F19 : zF) => (v_X9_thrown m T F19 (fun (r20 : Int32) => ((r20 = r9 → ((¬ r9 = 0 → (∃ L9 : Nat, T b = some (104, L9) ∧ L9 ≤ 7)) ∧ (r9 = 0 → (∃ n21 : Nat, T o = some (103, n21) ∧ vp_in 0 n21 ∧ ∃ x24 : Int64, F19 o (0).toNatClampNeg = .long x24 ∧ (((lg_cmp x24 r18.toInt64) = 0 → (∃ L9 : Nat, T b = some (104, L9) ∧ L9 ≤ 7)) ∧ (¬ (lg_cmp x24 r18.toInt64) = 0 → False)))))) ∧ (¬ r20 = r9 → False))))))))))
set_option maxRecDepth 100000 in
set_option maxHeartbeats 4000000 in
theorem kl_1 {p : Program} {l : Launch} {e : Env} {s : State} {m : MethodId} {below : List Frame} {meth : Method} {c : Code} {D : va_G} {cA : Nat → ClassId} {N0 zE : Nat} {x : Nat} {m : Nat} {o : Nat} {b : Nat} {T : zT} {F : zF} (hr : meth.sig.returnType = ret) (hN0 : N0 = s.heap.size) (C : z_C p l s m #[Value.ref b] meth c RL cL_law 9 ret D cA N0 zE) (h : vl_1 x m o b T F) : z_w p l e room_1 s m #[Value.ref b] below meth c D cA N0 9 20 80 (lw_Z below #[Value.ref b] s) 212 [(4, .int 0), (3, .ref o), (2, .ref m), (1, .ref x), (0, .ref b)] [] T F := by
  unfold vl_1 at h
  refine zr_aload_n C 3 dL_law_212 rfl rfl ?_
  refine zr_aload_n C 4 dL_law_213 rfl rfl ?_
  refine zr_iload C 0 dL_law_214 rfl ?_
  refine zr_iconst C 1 dL_law_216 (by decide) ?_
  refine zr_iadd C dL_law_217 ?_
  refine zr_eqi (y := 1) (by decide) ?_
  obtain ⟨n1, hT2, hi3, x4, hv5, h⟩ := h
  refine zr_iald4 C rfl hT2 hi3 hv5 dL_law_218 ?_
  refine zr_aload_n C 4 dL_law_219 rfl rfl ?_
  refine zr_iload C 0 dL_law_220 rfl ?_
  refine zr_iconst C 2 dL_law_222 (by decide) ?_
  refine zr_iadd C dL_law_223 ?_
  refine zr_eqi (y := 2) (by decide) ?_
  obtain ⟨hi6, x7, hv8, h⟩ := h
  refine zr_iald4 C rfl hT2 hi6 hv8 dL_law_224 ?_
  refine zr_aload_n C 1 dL_law_225 rfl rfl ?_
  refine zr_callSH (As := [.ref x, .int x4, .int x7, .ref o]) C (k_L_version h) ok_L_114 zq_666 rfl ⟨by decide, (Nat.le_of_ble_eq_true rfl)⟩ ⟨(Nat.le_of_ble_eq_true rfl), (Nat.le_of_ble_eq_true rfl)⟩ (Nat.le_of_ble_eq_true rfl) dL_law_226 (fun v32 U33 G34 hq => ?_)
  clear h
  · obtain ⟨r9, rfl, rfl, h⟩ := hq
    refine zr_istore C [(5, .int r9), (4, .int 0), (3, .ref o), (2, .ref m), (1, .ref x), (0, .ref b)] dL_law_229 (by decide) rfl ?_
    refine zr_aload_n C 3 dL_law_231 rfl rfl ?_
    refine zr_aload_n C 5 dL_law_232 rfl rfl ?_
    refine zr_iload C 1 dL_law_233 rfl ?_
    refine zr_iconst C 1 dL_law_235 (by decide) ?_
    refine zr_iadd C dL_law_236 ?_
    refine zr_eqi (y := 1) (by decide) ?_
    obtain ⟨hi11, x12, hv13, h⟩ := h
    refine zr_iald4 C rfl hT2 hi11 hv13 dL_law_237 ?_
    refine zr_aload_n C 5 dL_law_238 rfl rfl ?_
    refine zr_iload C 1 dL_law_239 rfl ?_
    refine zr_iconst C 2 dL_law_241 (by decide) ?_
    refine zr_iadd C dL_law_242 ?_
    refine zr_eqi (y := 2) (by decide) ?_
    obtain ⟨hi14, x15, hv16, h⟩ := h
    refine zr_iald4 C rfl hT2 hi14 hv16 dL_law_243 ?_
    obtain ⟨hT17, h⟩ := h
    refine zr_callV (As := [.int x12, .int x15]) (r := (RX9, TX9, 6)) C (k_X9_version h) ok_L_117 zq_1014 zq_1015 hT17 (by decide) rfl rfl ⟨by decide, (Nat.le_of_ble_eq_true rfl)⟩ ⟨(Nat.le_of_ble_eq_true rfl), (Nat.le_of_ble_eq_true rfl)⟩ (Nat.le_of_ble_eq_true rfl) dL_law_244 (fun v29 U30 G31 hq => ?_)
    clear h
    · obtain ⟨r18, rfl, rfl, h⟩ := hq
      refine zr_istore C [(6, .int r18), (5, .int r9), (4, .int 0), (3, .ref o), (2, .ref m), (1, .ref x), (0, .ref b)] dL_law_247 (by decide) rfl ?_
      refine zr_aload_n C 4 dL_law_249 rfl rfl ?_
      refine zr_callV (As := []) (r := (RX9, TX9, 6)) C (k_X9_thrown h) ok_L_111 zq_975 zq_976 hT17 (by decide) rfl rfl ⟨by decide, (Nat.le_of_ble_eq_true rfl)⟩ ⟨(Nat.le_of_ble_eq_true rfl), (Nat.le_of_ble_eq_true rfl)⟩ (Nat.le_of_ble_eq_true rfl) dL_law_250 (fun v26 U27 G28 hq => ?_)
      clear h
      · obtain ⟨r20, rfl, rfl, rfl, h⟩ := hq
        refine zr_iload C 1 dL_law_253 rfl ?_
        obtain ⟨h1, h2⟩ := h
        refine zr_icmp_eq C 260 dL_law_255 (by decide) (fun hc => ?_) (fun hc => ?_)
        · have h := h1 hc
          clear h1 h2
          refine zr_iload C 1 dL_law_260 rfl ?_
          obtain ⟨h1, h2⟩ := h
          refine zr_if_ne C 277 dL_law_262 (by decide) (fun hc => ?_) (fun hc => ?_)
          · have h := h1 hc
            clear h1 h2
            refine zr_goto C 2033 dL_law_277 (by decide) ?_
            exact zr_sub [2, 6] rfl (kl_end hr hN0 C (Nat.le_of_ble_eq_true rfl) (Nat.le_of_ble_eq_true rfl) h)
          · have h := h2 hc
            clear h1 h2
            refine zr_aload_n C 3 dL_law_265 rfl rfl ?_
            refine zr_iconst C 0 dL_law_266 (by decide) ?_
            obtain ⟨n21, hT22, hi23, x24, hv25, h⟩ := h
            refine zr_lald C rfl hT22 hi23 hv25 dL_law_267 ?_
            refine zr_iload C 0 dL_law_268 rfl ?_
            refine zr_i2l C dL_law_270 ?_
            refine zr_lcmp C dL_law_271 ?_
            obtain ⟨h1, h2⟩ := h
            refine zr_if_eq C 277 dL_law_272 (by decide) (fun hc => ?_) (fun hc => ?_)
            · have h := h1 hc
              clear h1 h2
              refine zr_goto C 2033 dL_law_277 (by decide) ?_
              exact zr_sub [2, 6] rfl (kl_end hr hN0 C (Nat.le_of_ble_eq_true rfl) (Nat.le_of_ble_eq_true rfl) h)
            · have h := h2 hc
              clear h1 h2
              refine zr_iconst C 0 dL_law_275 (by decide) ?_
              exact h.elim
        · have h := h2 hc
          clear h1 h2
          refine zr_iconst C 0 dL_law_258 (by decide) ?_
          exact h.elim
theorem dL_law_280 : decode cL_law 280 = .ok (.aload_n 1, 1) := by decide +kernel
theorem dL_law_281 : decode cL_law 281 = .ok (.aload_n 0, 1) := by decide +kernel
theorem dL_law_282 : decode cL_law 282 = .ok (.iload 4, 2) := by decide +kernel
theorem dL_law_284 : decode cL_law 284 = .ok (.iconst 1, 1) := by decide +kernel
theorem dL_law_285 : decode cL_law 285 = .ok (.iadd, 1) := by decide +kernel
theorem dL_law_286 : decode cL_law 286 = .ok (.iaload, 1) := by decide +kernel
theorem dL_law_287 : decode cL_law 287 = .ok (.aload_n 0, 1) := by decide +kernel
theorem dL_law_288 : decode cL_law 288 = .ok (.iload 4, 2) := by decide +kernel
theorem dL_law_290 : decode cL_law 290 = .ok (.iconst 2, 1) := by decide +kernel
theorem dL_law_291 : decode cL_law 291 = .ok (.iadd, 1) := by decide +kernel
theorem dL_law_292 : decode cL_law 292 = .ok (.iaload, 1) := by decide +kernel
theorem dL_law_293 : decode cL_law 293 = .ok (.aload_n 3, 1) := by decide +kernel
theorem dL_law_297 : decode cL_law 297 = .ok (.istore 5, 2) := by decide +kernel
theorem dL_law_299 : decode cL_law 299 = .ok (.aload_n 2, 1) := by decide +kernel
theorem dL_law_300 : decode cL_law 300 = .ok (.aload_n 0, 1) := by decide +kernel
theorem dL_law_301 : decode cL_law 301 = .ok (.iload 4, 2) := by decide +kernel
theorem dL_law_303 : decode cL_law 303 = .ok (.iconst 1, 1) := by decide +kernel
theorem dL_law_304 : decode cL_law 304 = .ok (.iadd, 1) := by decide +kernel
theorem dL_law_305 : decode cL_law 305 = .ok (.iaload, 1) := by decide +kernel
theorem dL_law_306 : decode cL_law 306 = .ok (.aload_n 0, 1) := by decide +kernel
theorem dL_law_307 : decode cL_law 307 = .ok (.iload 4, 2) := by decide +kernel
theorem dL_law_309 : decode cL_law 309 = .ok (.iconst 2, 1) := by decide +kernel
theorem dL_law_310 : decode cL_law 310 = .ok (.iadd, 1) := by decide +kernel
theorem dL_law_311 : decode cL_law 311 = .ok (.iaload, 1) := by decide +kernel
theorem dL_law_315 : decode cL_law 315 = .ok (.istore 6, 2) := by decide +kernel
theorem dL_law_317 : decode cL_law 317 = .ok (.aload_n 2, 1) := by decide +kernel
theorem dL_law_321 : decode cL_law 321 = .ok (.iload 5, 2) := by decide +kernel
theorem dL_law_323 : decode cL_law 323 = .ok (.if_icmp .eq 5, 3) := by decide +kernel
theorem dL_law_328 : decode cL_law 328 = .ok (.iload 5, 2) := by decide +kernel
theorem dL_law_330 : decode cL_law 330 = .ok (.ifCond .ne 15, 3) := by decide +kernel
theorem dL_law_345 : decode cL_law 345 = .ok (.goto 1688, 3) := by decide +kernel
theorem dL_law_333 : decode cL_law 333 = .ok (.aload_n 3, 1) := by decide +kernel
theorem dL_law_334 : decode cL_law 334 = .ok (.iconst 0, 1) := by decide +kernel
theorem dL_law_335 : decode cL_law 335 = .ok (.laload, 1) := by decide +kernel
theorem dL_law_336 : decode cL_law 336 = .ok (.iload 6, 2) := by decide +kernel
theorem dL_law_338 : decode cL_law 338 = .ok (.i2l, 1) := by decide +kernel
theorem dL_law_339 : decode cL_law 339 = .ok (.lcmp, 1) := by decide +kernel
theorem dL_law_340 : decode cL_law 340 = .ok (.ifCond .eq 5, 3) := by decide +kernel
theorem dL_law_343 : decode cL_law 343 = .ok (.iconst 0, 1) := by decide +kernel
theorem dL_law_326 : decode cL_law 326 = .ok (.iconst 0, 1) := by decide +kernel
theorem dL_law_318 : decode cL_law 318 = .ok (.invokevirtual 111, 3) := by decide +kernel
theorem dL_law_312 : decode cL_law 312 = .ok (.invokevirtual 120, 3) := by decide +kernel
theorem dL_law_294 : decode cL_law 294 = .ok (.invokestatic 118, 3) := by decide +kernel
def vl_2 (x : Nat) (m : Nat) (o : Nat) (b : Nat) (T : zT) (F : zF) : Prop :=
  (∃ n1 : Nat, T b = some (104, n1) ∧ vp_in 1 n1 ∧ ∃ x4 : Int32, F b (1).toNatClampNeg = .int x4 ∧ vp_in 2 n1 ∧ ∃ x7 : Int32, F b (2).toNatClampNeg = .int x7 ∧ (v_L_late x x4 x7 o T F (fun (r9 : Int32) (F10 : zF) => (vp_in 1 n1 ∧ ∃ x12 : Int32, F10 b (1).toNatClampNeg = .int x12 ∧ vp_in 2 n1 ∧ ∃ x15 : Int32, F10 b (2).toNatClampNeg = .int x15 ∧ T m = some (12, 6) ∧ (v_X9_late m x12 x15 T F10 (fun (r18 : Int32) (F19 : zF) => (v_X9_thrown m T F19 (fun (r20 : Int32) => ((r20 = r9 → ((¬ r9 = 0 → (∃ L9 : Nat, T b = some (104, L9) ∧ L9 ≤ 7)) ∧ (r9 = 0 → (∃ n21 : Nat, T o = some (103, n21) ∧ vp_in 0 n21 ∧ ∃ x24 : Int64, F19 o (0).toNatClampNeg = .long x24 ∧ (((lg_cmp x24 r18.toInt64) = 0 → (∃ L9 : Nat, T b = some (104, L9) ∧ L9 ≤ 7)) ∧ (¬ (lg_cmp x24 r18.toInt64) = 0 → False)))))) ∧ (¬ r20 = r9 → False))))))))))
set_option maxRecDepth 100000 in
set_option maxHeartbeats 4000000 in
theorem kl_2 {p : Program} {l : Launch} {e : Env} {s : State} {m : MethodId} {below : List Frame} {meth : Method} {c : Code} {D : va_G} {cA : Nat → ClassId} {N0 zE : Nat} {x : Nat} {m : Nat} {o : Nat} {b : Nat} {T : zT} {F : zF} (hr : meth.sig.returnType = ret) (hN0 : N0 = s.heap.size) (C : z_C p l s m #[Value.ref b] meth c RL cL_law 9 ret D cA N0 zE) (h : vl_2 x m o b T F) : z_w p l e room_1 s m #[Value.ref b] below meth c D cA N0 9 20 80 (lw_Z below #[Value.ref b] s) 280 [(4, .int 0), (3, .ref o), (2, .ref m), (1, .ref x), (0, .ref b)] [] T F := by
  unfold vl_2 at h
  refine zr_aload_n C 3 dL_law_280 rfl rfl ?_
  refine zr_aload_n C 4 dL_law_281 rfl rfl ?_
  refine zr_iload C 0 dL_law_282 rfl ?_
  refine zr_iconst C 1 dL_law_284 (by decide) ?_
  refine zr_iadd C dL_law_285 ?_
  refine zr_eqi (y := 1) (by decide) ?_
  obtain ⟨n1, hT2, hi3, x4, hv5, h⟩ := h
  refine zr_iald4 C rfl hT2 hi3 hv5 dL_law_286 ?_
  refine zr_aload_n C 4 dL_law_287 rfl rfl ?_
  refine zr_iload C 0 dL_law_288 rfl ?_
  refine zr_iconst C 2 dL_law_290 (by decide) ?_
  refine zr_iadd C dL_law_291 ?_
  refine zr_eqi (y := 2) (by decide) ?_
  obtain ⟨hi6, x7, hv8, h⟩ := h
  refine zr_iald4 C rfl hT2 hi6 hv8 dL_law_292 ?_
  refine zr_aload_n C 1 dL_law_293 rfl rfl ?_
  refine zr_callSH (As := [.ref x, .int x4, .int x7, .ref o]) C (k_L_late h) ok_L_118 zq_681 rfl ⟨by decide, (Nat.le_of_ble_eq_true rfl)⟩ ⟨(Nat.le_of_ble_eq_true rfl), (Nat.le_of_ble_eq_true rfl)⟩ (Nat.le_of_ble_eq_true rfl) dL_law_294 (fun v32 U33 G34 hq => ?_)
  clear h
  · obtain ⟨r9, rfl, rfl, h⟩ := hq
    refine zr_istore C [(5, .int r9), (4, .int 0), (3, .ref o), (2, .ref m), (1, .ref x), (0, .ref b)] dL_law_297 (by decide) rfl ?_
    refine zr_aload_n C 3 dL_law_299 rfl rfl ?_
    refine zr_aload_n C 5 dL_law_300 rfl rfl ?_
    refine zr_iload C 1 dL_law_301 rfl ?_
    refine zr_iconst C 1 dL_law_303 (by decide) ?_
    refine zr_iadd C dL_law_304 ?_
    refine zr_eqi (y := 1) (by decide) ?_
    obtain ⟨hi11, x12, hv13, h⟩ := h
    refine zr_iald4 C rfl hT2 hi11 hv13 dL_law_305 ?_
    refine zr_aload_n C 5 dL_law_306 rfl rfl ?_
    refine zr_iload C 1 dL_law_307 rfl ?_
    refine zr_iconst C 2 dL_law_309 (by decide) ?_
    refine zr_iadd C dL_law_310 ?_
    refine zr_eqi (y := 2) (by decide) ?_
    obtain ⟨hi14, x15, hv16, h⟩ := h
    refine zr_iald4 C rfl hT2 hi14 hv16 dL_law_311 ?_
    obtain ⟨hT17, h⟩ := h
    refine zr_callV (As := [.int x12, .int x15]) (r := (RX9, TX9, 6)) C (k_X9_late h) ok_L_120 zq_1046 zq_1047 hT17 (by decide) rfl rfl ⟨by decide, (Nat.le_of_ble_eq_true rfl)⟩ ⟨(Nat.le_of_ble_eq_true rfl), (Nat.le_of_ble_eq_true rfl)⟩ (Nat.le_of_ble_eq_true rfl) dL_law_312 (fun v29 U30 G31 hq => ?_)
    clear h
    · obtain ⟨r18, rfl, rfl, h⟩ := hq
      refine zr_istore C [(6, .int r18), (5, .int r9), (4, .int 0), (3, .ref o), (2, .ref m), (1, .ref x), (0, .ref b)] dL_law_315 (by decide) rfl ?_
      refine zr_aload_n C 4 dL_law_317 rfl rfl ?_
      refine zr_callV (As := []) (r := (RX9, TX9, 6)) C (k_X9_thrown h) ok_L_111 zq_975 zq_976 hT17 (by decide) rfl rfl ⟨by decide, (Nat.le_of_ble_eq_true rfl)⟩ ⟨(Nat.le_of_ble_eq_true rfl), (Nat.le_of_ble_eq_true rfl)⟩ (Nat.le_of_ble_eq_true rfl) dL_law_318 (fun v26 U27 G28 hq => ?_)
      clear h
      · obtain ⟨r20, rfl, rfl, rfl, h⟩ := hq
        refine zr_iload C 1 dL_law_321 rfl ?_
        obtain ⟨h1, h2⟩ := h
        refine zr_icmp_eq C 328 dL_law_323 (by decide) (fun hc => ?_) (fun hc => ?_)
        · have h := h1 hc
          clear h1 h2
          refine zr_iload C 1 dL_law_328 rfl ?_
          obtain ⟨h1, h2⟩ := h
          refine zr_if_ne C 345 dL_law_330 (by decide) (fun hc => ?_) (fun hc => ?_)
          · have h := h1 hc
            clear h1 h2
            refine zr_goto C 2033 dL_law_345 (by decide) ?_
            exact zr_sub [2, 6] rfl (kl_end hr hN0 C (Nat.le_of_ble_eq_true rfl) (Nat.le_of_ble_eq_true rfl) h)
          · have h := h2 hc
            clear h1 h2
            refine zr_aload_n C 3 dL_law_333 rfl rfl ?_
            refine zr_iconst C 0 dL_law_334 (by decide) ?_
            obtain ⟨n21, hT22, hi23, x24, hv25, h⟩ := h
            refine zr_lald C rfl hT22 hi23 hv25 dL_law_335 ?_
            refine zr_iload C 0 dL_law_336 rfl ?_
            refine zr_i2l C dL_law_338 ?_
            refine zr_lcmp C dL_law_339 ?_
            obtain ⟨h1, h2⟩ := h
            refine zr_if_eq C 345 dL_law_340 (by decide) (fun hc => ?_) (fun hc => ?_)
            · have h := h1 hc
              clear h1 h2
              refine zr_goto C 2033 dL_law_345 (by decide) ?_
              exact zr_sub [2, 6] rfl (kl_end hr hN0 C (Nat.le_of_ble_eq_true rfl) (Nat.le_of_ble_eq_true rfl) h)
            · have h := h2 hc
              clear h1 h2
              refine zr_iconst C 0 dL_law_343 (by decide) ?_
              exact h.elim
        · have h := h2 hc
          clear h1 h2
          refine zr_iconst C 0 dL_law_326 (by decide) ?_
          exact h.elim
theorem dL_law_348 : decode cL_law 348 = .ok (.aload_n 1, 1) := by decide +kernel
theorem dL_law_349 : decode cL_law 349 = .ok (.aload_n 0, 1) := by decide +kernel
theorem dL_law_350 : decode cL_law 350 = .ok (.iload 4, 2) := by decide +kernel
theorem dL_law_352 : decode cL_law 352 = .ok (.iconst 1, 1) := by decide +kernel
theorem dL_law_353 : decode cL_law 353 = .ok (.iadd, 1) := by decide +kernel
theorem dL_law_354 : decode cL_law 354 = .ok (.iaload, 1) := by decide +kernel
theorem dL_law_355 : decode cL_law 355 = .ok (.aload_n 0, 1) := by decide +kernel
theorem dL_law_356 : decode cL_law 356 = .ok (.iload 4, 2) := by decide +kernel
theorem dL_law_358 : decode cL_law 358 = .ok (.iconst 2, 1) := by decide +kernel
theorem dL_law_359 : decode cL_law 359 = .ok (.iadd, 1) := by decide +kernel
theorem dL_law_360 : decode cL_law 360 = .ok (.iaload, 1) := by decide +kernel
theorem dL_law_361 : decode cL_law 361 = .ok (.aload_n 0, 1) := by decide +kernel
theorem dL_law_362 : decode cL_law 362 = .ok (.iload 4, 2) := by decide +kernel
theorem dL_law_364 : decode cL_law 364 = .ok (.iconst 3, 1) := by decide +kernel
theorem dL_law_365 : decode cL_law 365 = .ok (.iadd, 1) := by decide +kernel
theorem dL_law_366 : decode cL_law 366 = .ok (.iaload, 1) := by decide +kernel
theorem dL_law_367 : decode cL_law 367 = .ok (.aload_n 0, 1) := by decide +kernel
theorem dL_law_368 : decode cL_law 368 = .ok (.iload 4, 2) := by decide +kernel
theorem dL_law_370 : decode cL_law 370 = .ok (.iconst 4, 1) := by decide +kernel
theorem dL_law_371 : decode cL_law 371 = .ok (.iadd, 1) := by decide +kernel
theorem dL_law_372 : decode cL_law 372 = .ok (.iaload, 1) := by decide +kernel
theorem dL_law_373 : decode cL_law 373 = .ok (.aload_n 3, 1) := by decide +kernel
theorem dL_law_377 : decode cL_law 377 = .ok (.istore 5, 2) := by decide +kernel
theorem dL_law_379 : decode cL_law 379 = .ok (.aload_n 2, 1) := by decide +kernel
theorem dL_law_380 : decode cL_law 380 = .ok (.aload_n 0, 1) := by decide +kernel
theorem dL_law_381 : decode cL_law 381 = .ok (.iload 4, 2) := by decide +kernel
theorem dL_law_383 : decode cL_law 383 = .ok (.iconst 1, 1) := by decide +kernel
theorem dL_law_384 : decode cL_law 384 = .ok (.iadd, 1) := by decide +kernel
theorem dL_law_385 : decode cL_law 385 = .ok (.iaload, 1) := by decide +kernel
theorem dL_law_386 : decode cL_law 386 = .ok (.aload_n 0, 1) := by decide +kernel
theorem dL_law_387 : decode cL_law 387 = .ok (.iload 4, 2) := by decide +kernel
theorem dL_law_389 : decode cL_law 389 = .ok (.iconst 2, 1) := by decide +kernel
theorem dL_law_390 : decode cL_law 390 = .ok (.iadd, 1) := by decide +kernel
theorem dL_law_391 : decode cL_law 391 = .ok (.iaload, 1) := by decide +kernel
theorem dL_law_392 : decode cL_law 392 = .ok (.aload_n 0, 1) := by decide +kernel
theorem dL_law_393 : decode cL_law 393 = .ok (.iload 4, 2) := by decide +kernel
theorem dL_law_395 : decode cL_law 395 = .ok (.iconst 3, 1) := by decide +kernel
theorem dL_law_396 : decode cL_law 396 = .ok (.iadd, 1) := by decide +kernel
theorem dL_law_397 : decode cL_law 397 = .ok (.iaload, 1) := by decide +kernel
theorem dL_law_398 : decode cL_law 398 = .ok (.aload_n 0, 1) := by decide +kernel
theorem dL_law_399 : decode cL_law 399 = .ok (.iload 4, 2) := by decide +kernel
theorem dL_law_401 : decode cL_law 401 = .ok (.iconst 4, 1) := by decide +kernel
theorem dL_law_402 : decode cL_law 402 = .ok (.iadd, 1) := by decide +kernel
theorem dL_law_403 : decode cL_law 403 = .ok (.iaload, 1) := by decide +kernel
theorem dL_law_407 : decode cL_law 407 = .ok (.istore 6, 2) := by decide +kernel
theorem dL_law_409 : decode cL_law 409 = .ok (.aload_n 2, 1) := by decide +kernel
theorem dL_law_413 : decode cL_law 413 = .ok (.iload 5, 2) := by decide +kernel
theorem dL_law_415 : decode cL_law 415 = .ok (.if_icmp .eq 5, 3) := by decide +kernel
theorem dL_law_420 : decode cL_law 420 = .ok (.iload 5, 2) := by decide +kernel
theorem dL_law_422 : decode cL_law 422 = .ok (.ifCond .ne 15, 3) := by decide +kernel
theorem dL_law_437 : decode cL_law 437 = .ok (.goto 1596, 3) := by decide +kernel
theorem dL_law_425 : decode cL_law 425 = .ok (.aload_n 3, 1) := by decide +kernel
theorem dL_law_426 : decode cL_law 426 = .ok (.iconst 0, 1) := by decide +kernel
theorem dL_law_427 : decode cL_law 427 = .ok (.laload, 1) := by decide +kernel
theorem dL_law_428 : decode cL_law 428 = .ok (.iload 6, 2) := by decide +kernel
theorem dL_law_430 : decode cL_law 430 = .ok (.i2l, 1) := by decide +kernel
theorem dL_law_431 : decode cL_law 431 = .ok (.lcmp, 1) := by decide +kernel
theorem dL_law_432 : decode cL_law 432 = .ok (.ifCond .eq 5, 3) := by decide +kernel
theorem dL_law_435 : decode cL_law 435 = .ok (.iconst 0, 1) := by decide +kernel
theorem dL_law_418 : decode cL_law 418 = .ok (.iconst 0, 1) := by decide +kernel
theorem dL_law_410 : decode cL_law 410 = .ok (.invokevirtual 111, 3) := by decide +kernel
theorem dL_law_404 : decode cL_law 404 = .ok (.invokevirtual 124, 3) := by decide +kernel
theorem dL_law_374 : decode cL_law 374 = .ok (.invokestatic 121, 3) := by decide +kernel
def vl_3 (x : Nat) (m : Nat) (o : Nat) (b : Nat) (T : zT) (F : zF) : Prop :=
  (∃ n1 : Nat, T b = some (104, n1) ∧ vp_in 1 n1 ∧ ∃ x4 : Int32, F b (1).toNatClampNeg = .int x4 ∧ vp_in 2 n1 ∧ ∃ x7 : Int32, F b (2).toNatClampNeg = .int x7 ∧ vp_in 3 n1 ∧ ∃ x10 : Int32, F b (3).toNatClampNeg = .int x10 ∧ vp_in 4 n1 ∧ ∃ x13 : Int32, F b (4).toNatClampNeg = .int x13 ∧ (v_L_rights x x4 x7 x10 x13 o T F (fun (r15 : Int32) (F16 : zF) => (vp_in 1 n1 ∧ ∃ x18 : Int32, F16 b (1).toNatClampNeg = .int x18 ∧ vp_in 2 n1 ∧ ∃ x21 : Int32, F16 b (2).toNatClampNeg = .int x21 ∧ vp_in 3 n1 ∧ ∃ x24 : Int32, F16 b (3).toNatClampNeg = .int x24 ∧ vp_in 4 n1 ∧ ∃ x27 : Int32, F16 b (4).toNatClampNeg = .int x27 ∧ T m = some (12, 6) ∧ (v_X9_rights m x18 x21 x24 x27 T F16 (fun (r30 : Int32) (F31 : zF) => (v_X9_thrown m T F31 (fun (r32 : Int32) => ((r32 = r15 → ((¬ r15 = 0 → (∃ L9 : Nat, T b = some (104, L9) ∧ L9 ≤ 7)) ∧ (r15 = 0 → (∃ n33 : Nat, T o = some (103, n33) ∧ vp_in 0 n33 ∧ ∃ x36 : Int64, F31 o (0).toNatClampNeg = .long x36 ∧ (((lg_cmp x36 r30.toInt64) = 0 → (∃ L9 : Nat, T b = some (104, L9) ∧ L9 ≤ 7)) ∧ (¬ (lg_cmp x36 r30.toInt64) = 0 → False)))))) ∧ (¬ r32 = r15 → False))))))))))
set_option maxRecDepth 100000 in
set_option maxHeartbeats 4000000 in
theorem kl_3 {p : Program} {l : Launch} {e : Env} {s : State} {m : MethodId} {below : List Frame} {meth : Method} {c : Code} {D : va_G} {cA : Nat → ClassId} {N0 zE : Nat} {x : Nat} {m : Nat} {o : Nat} {b : Nat} {T : zT} {F : zF} (hr : meth.sig.returnType = ret) (hN0 : N0 = s.heap.size) (C : z_C p l s m #[Value.ref b] meth c RL cL_law 9 ret D cA N0 zE) (h : vl_3 x m o b T F) : z_w p l e room_1 s m #[Value.ref b] below meth c D cA N0 9 20 80 (lw_Z below #[Value.ref b] s) 348 [(4, .int 0), (3, .ref o), (2, .ref m), (1, .ref x), (0, .ref b)] [] T F := by
  unfold vl_3 at h
  refine zr_aload_n C 3 dL_law_348 rfl rfl ?_
  refine zr_aload_n C 4 dL_law_349 rfl rfl ?_
  refine zr_iload C 0 dL_law_350 rfl ?_
  refine zr_iconst C 1 dL_law_352 (by decide) ?_
  refine zr_iadd C dL_law_353 ?_
  refine zr_eqi (y := 1) (by decide) ?_
  obtain ⟨n1, hT2, hi3, x4, hv5, h⟩ := h
  refine zr_iald4 C rfl hT2 hi3 hv5 dL_law_354 ?_
  refine zr_aload_n C 4 dL_law_355 rfl rfl ?_
  refine zr_iload C 0 dL_law_356 rfl ?_
  refine zr_iconst C 2 dL_law_358 (by decide) ?_
  refine zr_iadd C dL_law_359 ?_
  refine zr_eqi (y := 2) (by decide) ?_
  obtain ⟨hi6, x7, hv8, h⟩ := h
  refine zr_iald4 C rfl hT2 hi6 hv8 dL_law_360 ?_
  refine zr_aload_n C 4 dL_law_361 rfl rfl ?_
  refine zr_iload C 0 dL_law_362 rfl ?_
  refine zr_iconst C 3 dL_law_364 (by decide) ?_
  refine zr_iadd C dL_law_365 ?_
  refine zr_eqi (y := 3) (by decide) ?_
  obtain ⟨hi9, x10, hv11, h⟩ := h
  refine zr_iald4 C rfl hT2 hi9 hv11 dL_law_366 ?_
  refine zr_aload_n C 4 dL_law_367 rfl rfl ?_
  refine zr_iload C 0 dL_law_368 rfl ?_
  refine zr_iconst C 4 dL_law_370 (by decide) ?_
  refine zr_iadd C dL_law_371 ?_
  refine zr_eqi (y := 4) (by decide) ?_
  obtain ⟨hi12, x13, hv14, h⟩ := h
  refine zr_iald4 C rfl hT2 hi12 hv14 dL_law_372 ?_
  refine zr_aload_n C 1 dL_law_373 rfl rfl ?_
  refine zr_callSH (As := [.ref x, .int x4, .int x7, .int x10, .int x13, .ref o]) C (k_L_rights h) ok_L_121 zq_702 rfl ⟨by decide, (Nat.le_of_ble_eq_true rfl)⟩ ⟨(Nat.le_of_ble_eq_true rfl), (Nat.le_of_ble_eq_true rfl)⟩ (Nat.le_of_ble_eq_true rfl) dL_law_374 (fun v44 U45 G46 hq => ?_)
  clear h
  · obtain ⟨r15, rfl, rfl, h⟩ := hq
    refine zr_istore C [(5, .int r15), (4, .int 0), (3, .ref o), (2, .ref m), (1, .ref x), (0, .ref b)] dL_law_377 (by decide) rfl ?_
    refine zr_aload_n C 3 dL_law_379 rfl rfl ?_
    refine zr_aload_n C 5 dL_law_380 rfl rfl ?_
    refine zr_iload C 1 dL_law_381 rfl ?_
    refine zr_iconst C 1 dL_law_383 (by decide) ?_
    refine zr_iadd C dL_law_384 ?_
    refine zr_eqi (y := 1) (by decide) ?_
    obtain ⟨hi17, x18, hv19, h⟩ := h
    refine zr_iald4 C rfl hT2 hi17 hv19 dL_law_385 ?_
    refine zr_aload_n C 5 dL_law_386 rfl rfl ?_
    refine zr_iload C 1 dL_law_387 rfl ?_
    refine zr_iconst C 2 dL_law_389 (by decide) ?_
    refine zr_iadd C dL_law_390 ?_
    refine zr_eqi (y := 2) (by decide) ?_
    obtain ⟨hi20, x21, hv22, h⟩ := h
    refine zr_iald4 C rfl hT2 hi20 hv22 dL_law_391 ?_
    refine zr_aload_n C 5 dL_law_392 rfl rfl ?_
    refine zr_iload C 1 dL_law_393 rfl ?_
    refine zr_iconst C 3 dL_law_395 (by decide) ?_
    refine zr_iadd C dL_law_396 ?_
    refine zr_eqi (y := 3) (by decide) ?_
    obtain ⟨hi23, x24, hv25, h⟩ := h
    refine zr_iald4 C rfl hT2 hi23 hv25 dL_law_397 ?_
    refine zr_aload_n C 5 dL_law_398 rfl rfl ?_
    refine zr_iload C 1 dL_law_399 rfl ?_
    refine zr_iconst C 4 dL_law_401 (by decide) ?_
    refine zr_iadd C dL_law_402 ?_
    refine zr_eqi (y := 4) (by decide) ?_
    obtain ⟨hi26, x27, hv28, h⟩ := h
    refine zr_iald4 C rfl hT2 hi26 hv28 dL_law_403 ?_
    obtain ⟨hT29, h⟩ := h
    refine zr_callV (As := [.int x18, .int x21, .int x24, .int x27]) (r := (RX9, TX9, 6)) C (k_X9_rights h) ok_L_124 zq_1060 zq_1061 hT29 (by decide) rfl rfl ⟨by decide, (Nat.le_of_ble_eq_true rfl)⟩ ⟨(Nat.le_of_ble_eq_true rfl), (Nat.le_of_ble_eq_true rfl)⟩ (Nat.le_of_ble_eq_true rfl) dL_law_404 (fun v41 U42 G43 hq => ?_)
    clear h
    · obtain ⟨r30, rfl, rfl, h⟩ := hq
      refine zr_istore C [(6, .int r30), (5, .int r15), (4, .int 0), (3, .ref o), (2, .ref m), (1, .ref x), (0, .ref b)] dL_law_407 (by decide) rfl ?_
      refine zr_aload_n C 4 dL_law_409 rfl rfl ?_
      refine zr_callV (As := []) (r := (RX9, TX9, 6)) C (k_X9_thrown h) ok_L_111 zq_975 zq_976 hT29 (by decide) rfl rfl ⟨by decide, (Nat.le_of_ble_eq_true rfl)⟩ ⟨(Nat.le_of_ble_eq_true rfl), (Nat.le_of_ble_eq_true rfl)⟩ (Nat.le_of_ble_eq_true rfl) dL_law_410 (fun v38 U39 G40 hq => ?_)
      clear h
      · obtain ⟨r32, rfl, rfl, rfl, h⟩ := hq
        refine zr_iload C 1 dL_law_413 rfl ?_
        obtain ⟨h1, h2⟩ := h
        refine zr_icmp_eq C 420 dL_law_415 (by decide) (fun hc => ?_) (fun hc => ?_)
        · have h := h1 hc
          clear h1 h2
          refine zr_iload C 1 dL_law_420 rfl ?_
          obtain ⟨h1, h2⟩ := h
          refine zr_if_ne C 437 dL_law_422 (by decide) (fun hc => ?_) (fun hc => ?_)
          · have h := h1 hc
            clear h1 h2
            refine zr_goto C 2033 dL_law_437 (by decide) ?_
            exact zr_sub [2, 6] rfl (kl_end hr hN0 C (Nat.le_of_ble_eq_true rfl) (Nat.le_of_ble_eq_true rfl) h)
          · have h := h2 hc
            clear h1 h2
            refine zr_aload_n C 3 dL_law_425 rfl rfl ?_
            refine zr_iconst C 0 dL_law_426 (by decide) ?_
            obtain ⟨n33, hT34, hi35, x36, hv37, h⟩ := h
            refine zr_lald C rfl hT34 hi35 hv37 dL_law_427 ?_
            refine zr_iload C 0 dL_law_428 rfl ?_
            refine zr_i2l C dL_law_430 ?_
            refine zr_lcmp C dL_law_431 ?_
            obtain ⟨h1, h2⟩ := h
            refine zr_if_eq C 437 dL_law_432 (by decide) (fun hc => ?_) (fun hc => ?_)
            · have h := h1 hc
              clear h1 h2
              refine zr_goto C 2033 dL_law_437 (by decide) ?_
              exact zr_sub [2, 6] rfl (kl_end hr hN0 C (Nat.le_of_ble_eq_true rfl) (Nat.le_of_ble_eq_true rfl) h)
            · have h := h2 hc
              clear h1 h2
              refine zr_iconst C 0 dL_law_435 (by decide) ?_
              exact h.elim
        · have h := h2 hc
          clear h1 h2
          refine zr_iconst C 0 dL_law_418 (by decide) ?_
          exact h.elim
theorem dL_law_440 : decode cL_law 440 = .ok (.aload_n 1, 1) := by decide +kernel
theorem dL_law_441 : decode cL_law 441 = .ok (.aload_n 0, 1) := by decide +kernel
theorem dL_law_442 : decode cL_law 442 = .ok (.iload 4, 2) := by decide +kernel
theorem dL_law_444 : decode cL_law 444 = .ok (.iconst 1, 1) := by decide +kernel
theorem dL_law_445 : decode cL_law 445 = .ok (.iadd, 1) := by decide +kernel
theorem dL_law_446 : decode cL_law 446 = .ok (.iaload, 1) := by decide +kernel
theorem dL_law_447 : decode cL_law 447 = .ok (.aload_n 0, 1) := by decide +kernel
theorem dL_law_448 : decode cL_law 448 = .ok (.iload 4, 2) := by decide +kernel
theorem dL_law_450 : decode cL_law 450 = .ok (.iconst 2, 1) := by decide +kernel
theorem dL_law_451 : decode cL_law 451 = .ok (.iadd, 1) := by decide +kernel
theorem dL_law_452 : decode cL_law 452 = .ok (.iaload, 1) := by decide +kernel
theorem dL_law_453 : decode cL_law 453 = .ok (.aload_n 3, 1) := by decide +kernel
theorem dL_law_457 : decode cL_law 457 = .ok (.istore 5, 2) := by decide +kernel
theorem dL_law_459 : decode cL_law 459 = .ok (.aload_n 2, 1) := by decide +kernel
theorem dL_law_460 : decode cL_law 460 = .ok (.aload_n 0, 1) := by decide +kernel
theorem dL_law_461 : decode cL_law 461 = .ok (.iload 4, 2) := by decide +kernel
theorem dL_law_463 : decode cL_law 463 = .ok (.iconst 1, 1) := by decide +kernel
theorem dL_law_464 : decode cL_law 464 = .ok (.iadd, 1) := by decide +kernel
theorem dL_law_465 : decode cL_law 465 = .ok (.iaload, 1) := by decide +kernel
theorem dL_law_466 : decode cL_law 466 = .ok (.aload_n 0, 1) := by decide +kernel
theorem dL_law_467 : decode cL_law 467 = .ok (.iload 4, 2) := by decide +kernel
theorem dL_law_469 : decode cL_law 469 = .ok (.iconst 2, 1) := by decide +kernel
theorem dL_law_470 : decode cL_law 470 = .ok (.iadd, 1) := by decide +kernel
theorem dL_law_471 : decode cL_law 471 = .ok (.iaload, 1) := by decide +kernel
theorem dL_law_475 : decode cL_law 475 = .ok (.istore 6, 2) := by decide +kernel
theorem dL_law_477 : decode cL_law 477 = .ok (.aload_n 2, 1) := by decide +kernel
theorem dL_law_481 : decode cL_law 481 = .ok (.iload 5, 2) := by decide +kernel
theorem dL_law_483 : decode cL_law 483 = .ok (.if_icmp .eq 5, 3) := by decide +kernel
theorem dL_law_488 : decode cL_law 488 = .ok (.iload 5, 2) := by decide +kernel
theorem dL_law_490 : decode cL_law 490 = .ok (.ifCond .ne 15, 3) := by decide +kernel
theorem dL_law_505 : decode cL_law 505 = .ok (.goto 1528, 3) := by decide +kernel
theorem dL_law_493 : decode cL_law 493 = .ok (.aload_n 3, 1) := by decide +kernel
theorem dL_law_494 : decode cL_law 494 = .ok (.iconst 0, 1) := by decide +kernel
theorem dL_law_495 : decode cL_law 495 = .ok (.laload, 1) := by decide +kernel
theorem dL_law_496 : decode cL_law 496 = .ok (.iload 6, 2) := by decide +kernel
theorem dL_law_498 : decode cL_law 498 = .ok (.i2l, 1) := by decide +kernel
theorem dL_law_499 : decode cL_law 499 = .ok (.lcmp, 1) := by decide +kernel
theorem dL_law_500 : decode cL_law 500 = .ok (.ifCond .eq 5, 3) := by decide +kernel
theorem dL_law_503 : decode cL_law 503 = .ok (.iconst 0, 1) := by decide +kernel
theorem dL_law_486 : decode cL_law 486 = .ok (.iconst 0, 1) := by decide +kernel
theorem dL_law_478 : decode cL_law 478 = .ok (.invokevirtual 111, 3) := by decide +kernel
theorem dL_law_472 : decode cL_law 472 = .ok (.invokevirtual 127, 3) := by decide +kernel
theorem dL_law_454 : decode cL_law 454 = .ok (.invokestatic 125, 3) := by decide +kernel
def vl_4 (x : Nat) (m : Nat) (o : Nat) (b : Nat) (T : zT) (F : zF) : Prop :=
  (∃ n1 : Nat, T b = some (104, n1) ∧ vp_in 1 n1 ∧ ∃ x4 : Int32, F b (1).toNatClampNeg = .int x4 ∧ vp_in 2 n1 ∧ ∃ x7 : Int32, F b (2).toNatClampNeg = .int x7 ∧ (v_L_versionOn x x4 x7 o T F (fun (r9 : Int32) (F10 : zF) => (vp_in 1 n1 ∧ ∃ x12 : Int32, F10 b (1).toNatClampNeg = .int x12 ∧ vp_in 2 n1 ∧ ∃ x15 : Int32, F10 b (2).toNatClampNeg = .int x15 ∧ T m = some (12, 6) ∧ (v_X9_versionOn m x12 x15 T F10 (fun (r18 : Int32) (F19 : zF) => (v_X9_thrown m T F19 (fun (r20 : Int32) => ((r20 = r9 → ((¬ r9 = 0 → (∃ L9 : Nat, T b = some (104, L9) ∧ L9 ≤ 7)) ∧ (r9 = 0 → (∃ n21 : Nat, T o = some (103, n21) ∧ vp_in 0 n21 ∧ ∃ x24 : Int64, F19 o (0).toNatClampNeg = .long x24 ∧ (((lg_cmp x24 r18.toInt64) = 0 → (∃ L9 : Nat, T b = some (104, L9) ∧ L9 ≤ 7)) ∧ (¬ (lg_cmp x24 r18.toInt64) = 0 → False)))))) ∧ (¬ r20 = r9 → False))))))))))
set_option maxRecDepth 100000 in
set_option maxHeartbeats 4000000 in
theorem kl_4 {p : Program} {l : Launch} {e : Env} {s : State} {m : MethodId} {below : List Frame} {meth : Method} {c : Code} {D : va_G} {cA : Nat → ClassId} {N0 zE : Nat} {x : Nat} {m : Nat} {o : Nat} {b : Nat} {T : zT} {F : zF} (hr : meth.sig.returnType = ret) (hN0 : N0 = s.heap.size) (C : z_C p l s m #[Value.ref b] meth c RL cL_law 9 ret D cA N0 zE) (h : vl_4 x m o b T F) : z_w p l e room_1 s m #[Value.ref b] below meth c D cA N0 9 20 80 (lw_Z below #[Value.ref b] s) 440 [(4, .int 0), (3, .ref o), (2, .ref m), (1, .ref x), (0, .ref b)] [] T F := by
  unfold vl_4 at h
  refine zr_aload_n C 3 dL_law_440 rfl rfl ?_
  refine zr_aload_n C 4 dL_law_441 rfl rfl ?_
  refine zr_iload C 0 dL_law_442 rfl ?_
  refine zr_iconst C 1 dL_law_444 (by decide) ?_
  refine zr_iadd C dL_law_445 ?_
  refine zr_eqi (y := 1) (by decide) ?_
  obtain ⟨n1, hT2, hi3, x4, hv5, h⟩ := h
  refine zr_iald4 C rfl hT2 hi3 hv5 dL_law_446 ?_
  refine zr_aload_n C 4 dL_law_447 rfl rfl ?_
  refine zr_iload C 0 dL_law_448 rfl ?_
  refine zr_iconst C 2 dL_law_450 (by decide) ?_
  refine zr_iadd C dL_law_451 ?_
  refine zr_eqi (y := 2) (by decide) ?_
  obtain ⟨hi6, x7, hv8, h⟩ := h
  refine zr_iald4 C rfl hT2 hi6 hv8 dL_law_452 ?_
  refine zr_aload_n C 1 dL_law_453 rfl rfl ?_
  refine zr_callSH (As := [.ref x, .int x4, .int x7, .ref o]) C (k_L_versionOn h) ok_L_125 zq_715 rfl ⟨by decide, (Nat.le_of_ble_eq_true rfl)⟩ ⟨(Nat.le_of_ble_eq_true rfl), (Nat.le_of_ble_eq_true rfl)⟩ (Nat.le_of_ble_eq_true rfl) dL_law_454 (fun v32 U33 G34 hq => ?_)
  clear h
  · obtain ⟨r9, rfl, rfl, h⟩ := hq
    refine zr_istore C [(5, .int r9), (4, .int 0), (3, .ref o), (2, .ref m), (1, .ref x), (0, .ref b)] dL_law_457 (by decide) rfl ?_
    refine zr_aload_n C 3 dL_law_459 rfl rfl ?_
    refine zr_aload_n C 5 dL_law_460 rfl rfl ?_
    refine zr_iload C 1 dL_law_461 rfl ?_
    refine zr_iconst C 1 dL_law_463 (by decide) ?_
    refine zr_iadd C dL_law_464 ?_
    refine zr_eqi (y := 1) (by decide) ?_
    obtain ⟨hi11, x12, hv13, h⟩ := h
    refine zr_iald4 C rfl hT2 hi11 hv13 dL_law_465 ?_
    refine zr_aload_n C 5 dL_law_466 rfl rfl ?_
    refine zr_iload C 1 dL_law_467 rfl ?_
    refine zr_iconst C 2 dL_law_469 (by decide) ?_
    refine zr_iadd C dL_law_470 ?_
    refine zr_eqi (y := 2) (by decide) ?_
    obtain ⟨hi14, x15, hv16, h⟩ := h
    refine zr_iald4 C rfl hT2 hi14 hv16 dL_law_471 ?_
    obtain ⟨hT17, h⟩ := h
    refine zr_callV (As := [.int x12, .int x15]) (r := (RX9, TX9, 6)) C (k_X9_versionOn h) ok_L_127 zq_1067 zq_1068 hT17 (by decide) rfl rfl ⟨by decide, (Nat.le_of_ble_eq_true rfl)⟩ ⟨(Nat.le_of_ble_eq_true rfl), (Nat.le_of_ble_eq_true rfl)⟩ (Nat.le_of_ble_eq_true rfl) dL_law_472 (fun v29 U30 G31 hq => ?_)
    clear h
    · obtain ⟨r18, rfl, rfl, h⟩ := hq
      refine zr_istore C [(6, .int r18), (5, .int r9), (4, .int 0), (3, .ref o), (2, .ref m), (1, .ref x), (0, .ref b)] dL_law_475 (by decide) rfl ?_
      refine zr_aload_n C 4 dL_law_477 rfl rfl ?_
      refine zr_callV (As := []) (r := (RX9, TX9, 6)) C (k_X9_thrown h) ok_L_111 zq_975 zq_976 hT17 (by decide) rfl rfl ⟨by decide, (Nat.le_of_ble_eq_true rfl)⟩ ⟨(Nat.le_of_ble_eq_true rfl), (Nat.le_of_ble_eq_true rfl)⟩ (Nat.le_of_ble_eq_true rfl) dL_law_478 (fun v26 U27 G28 hq => ?_)
      clear h
      · obtain ⟨r20, rfl, rfl, rfl, h⟩ := hq
        refine zr_iload C 1 dL_law_481 rfl ?_
        obtain ⟨h1, h2⟩ := h
        refine zr_icmp_eq C 488 dL_law_483 (by decide) (fun hc => ?_) (fun hc => ?_)
        · have h := h1 hc
          clear h1 h2
          refine zr_iload C 1 dL_law_488 rfl ?_
          obtain ⟨h1, h2⟩ := h
          refine zr_if_ne C 505 dL_law_490 (by decide) (fun hc => ?_) (fun hc => ?_)
          · have h := h1 hc
            clear h1 h2
            refine zr_goto C 2033 dL_law_505 (by decide) ?_
            exact zr_sub [2, 6] rfl (kl_end hr hN0 C (Nat.le_of_ble_eq_true rfl) (Nat.le_of_ble_eq_true rfl) h)
          · have h := h2 hc
            clear h1 h2
            refine zr_aload_n C 3 dL_law_493 rfl rfl ?_
            refine zr_iconst C 0 dL_law_494 (by decide) ?_
            obtain ⟨n21, hT22, hi23, x24, hv25, h⟩ := h
            refine zr_lald C rfl hT22 hi23 hv25 dL_law_495 ?_
            refine zr_iload C 0 dL_law_496 rfl ?_
            refine zr_i2l C dL_law_498 ?_
            refine zr_lcmp C dL_law_499 ?_
            obtain ⟨h1, h2⟩ := h
            refine zr_if_eq C 505 dL_law_500 (by decide) (fun hc => ?_) (fun hc => ?_)
            · have h := h1 hc
              clear h1 h2
              refine zr_goto C 2033 dL_law_505 (by decide) ?_
              exact zr_sub [2, 6] rfl (kl_end hr hN0 C (Nat.le_of_ble_eq_true rfl) (Nat.le_of_ble_eq_true rfl) h)
            · have h := h2 hc
              clear h1 h2
              refine zr_iconst C 0 dL_law_503 (by decide) ?_
              exact h.elim
        · have h := h2 hc
          clear h1 h2
          refine zr_iconst C 0 dL_law_486 (by decide) ?_
          exact h.elim
theorem dL_law_508 : decode cL_law 508 = .ok (.aload_n 1, 1) := by decide +kernel
theorem dL_law_509 : decode cL_law 509 = .ok (.aload_n 0, 1) := by decide +kernel
theorem dL_law_510 : decode cL_law 510 = .ok (.iload 4, 2) := by decide +kernel
theorem dL_law_512 : decode cL_law 512 = .ok (.iconst 1, 1) := by decide +kernel
theorem dL_law_513 : decode cL_law 513 = .ok (.iadd, 1) := by decide +kernel
theorem dL_law_514 : decode cL_law 514 = .ok (.iaload, 1) := by decide +kernel
theorem dL_law_515 : decode cL_law 515 = .ok (.aload_n 0, 1) := by decide +kernel
theorem dL_law_516 : decode cL_law 516 = .ok (.iload 4, 2) := by decide +kernel
theorem dL_law_518 : decode cL_law 518 = .ok (.iconst 2, 1) := by decide +kernel
theorem dL_law_519 : decode cL_law 519 = .ok (.iadd, 1) := by decide +kernel
theorem dL_law_520 : decode cL_law 520 = .ok (.iaload, 1) := by decide +kernel
theorem dL_law_521 : decode cL_law 521 = .ok (.aload_n 0, 1) := by decide +kernel
theorem dL_law_522 : decode cL_law 522 = .ok (.iload 4, 2) := by decide +kernel
theorem dL_law_524 : decode cL_law 524 = .ok (.iconst 3, 1) := by decide +kernel
theorem dL_law_525 : decode cL_law 525 = .ok (.iadd, 1) := by decide +kernel
theorem dL_law_526 : decode cL_law 526 = .ok (.iaload, 1) := by decide +kernel
theorem dL_law_527 : decode cL_law 527 = .ok (.aload_n 3, 1) := by decide +kernel
theorem dL_law_531 : decode cL_law 531 = .ok (.istore 5, 2) := by decide +kernel
theorem dL_law_533 : decode cL_law 533 = .ok (.aload_n 2, 1) := by decide +kernel
theorem dL_law_534 : decode cL_law 534 = .ok (.aload_n 0, 1) := by decide +kernel
theorem dL_law_535 : decode cL_law 535 = .ok (.iload 4, 2) := by decide +kernel
theorem dL_law_537 : decode cL_law 537 = .ok (.iconst 1, 1) := by decide +kernel
theorem dL_law_538 : decode cL_law 538 = .ok (.iadd, 1) := by decide +kernel
theorem dL_law_539 : decode cL_law 539 = .ok (.iaload, 1) := by decide +kernel
theorem dL_law_540 : decode cL_law 540 = .ok (.aload_n 0, 1) := by decide +kernel
theorem dL_law_541 : decode cL_law 541 = .ok (.iload 4, 2) := by decide +kernel
theorem dL_law_543 : decode cL_law 543 = .ok (.iconst 2, 1) := by decide +kernel
theorem dL_law_544 : decode cL_law 544 = .ok (.iadd, 1) := by decide +kernel
theorem dL_law_545 : decode cL_law 545 = .ok (.iaload, 1) := by decide +kernel
theorem dL_law_546 : decode cL_law 546 = .ok (.aload_n 0, 1) := by decide +kernel
theorem dL_law_547 : decode cL_law 547 = .ok (.iload 4, 2) := by decide +kernel
theorem dL_law_549 : decode cL_law 549 = .ok (.iconst 3, 1) := by decide +kernel
theorem dL_law_550 : decode cL_law 550 = .ok (.iadd, 1) := by decide +kernel
theorem dL_law_551 : decode cL_law 551 = .ok (.iaload, 1) := by decide +kernel
theorem dL_law_555 : decode cL_law 555 = .ok (.istore 6, 2) := by decide +kernel
theorem dL_law_557 : decode cL_law 557 = .ok (.aload_n 2, 1) := by decide +kernel
theorem dL_law_561 : decode cL_law 561 = .ok (.iload 5, 2) := by decide +kernel
theorem dL_law_563 : decode cL_law 563 = .ok (.if_icmp .eq 5, 3) := by decide +kernel
theorem dL_law_568 : decode cL_law 568 = .ok (.iload 5, 2) := by decide +kernel
theorem dL_law_570 : decode cL_law 570 = .ok (.ifCond .ne 22, 3) := by decide +kernel
theorem dL_law_592 : decode cL_law 592 = .ok (.goto 1441, 3) := by decide +kernel
theorem dL_law_573 : decode cL_law 573 = .ok (.aload_n 3, 1) := by decide +kernel
theorem dL_law_574 : decode cL_law 574 = .ok (.iconst 0, 1) := by decide +kernel
theorem dL_law_575 : decode cL_law 575 = .ok (.laload, 1) := by decide +kernel
theorem dL_law_576 : decode cL_law 576 = .ok (.iload 6, 2) := by decide +kernel
theorem dL_law_578 : decode cL_law 578 = .ok (.ifCond .eq 7, 3) := by decide +kernel
theorem dL_law_585 : decode cL_law 585 = .ok (.lconst 0, 1) := by decide +kernel
theorem dL_law_586 : decode cL_law 586 = .ok (.lcmp, 1) := by decide +kernel
theorem dL_law_587 : decode cL_law 587 = .ok (.ifCond .eq 5, 3) := by decide +kernel
theorem dL_law_590 : decode cL_law 590 = .ok (.iconst 0, 1) := by decide +kernel
theorem dL_law_581 : decode cL_law 581 = .ok (.lconst 1, 1) := by decide +kernel
theorem dL_law_582 : decode cL_law 582 = .ok (.goto 4, 3) := by decide +kernel
theorem dL_law_566 : decode cL_law 566 = .ok (.iconst 0, 1) := by decide +kernel
theorem dL_law_558 : decode cL_law 558 = .ok (.invokevirtual 111, 3) := by decide +kernel
theorem dL_law_552 : decode cL_law 552 = .ok (.invokevirtual 131, 3) := by decide +kernel
theorem dL_law_528 : decode cL_law 528 = .ok (.invokestatic 128, 3) := by decide +kernel
def vl_5 (x : Nat) (m : Nat) (o : Nat) (b : Nat) (T : zT) (F : zF) : Prop :=
  (∃ n1 : Nat, T b = some (104, n1) ∧ vp_in 1 n1 ∧ ∃ x4 : Int32, F b (1).toNatClampNeg = .int x4 ∧ vp_in 2 n1 ∧ ∃ x7 : Int32, F b (2).toNatClampNeg = .int x7 ∧ vp_in 3 n1 ∧ ∃ x10 : Int32, F b (3).toNatClampNeg = .int x10 ∧ (v_L_hasRights x x4 x7 x10 o T F (fun (r12 : Int32) (F13 : zF) => (vp_in 1 n1 ∧ ∃ x15 : Int32, F13 b (1).toNatClampNeg = .int x15 ∧ vp_in 2 n1 ∧ ∃ x18 : Int32, F13 b (2).toNatClampNeg = .int x18 ∧ vp_in 3 n1 ∧ ∃ x21 : Int32, F13 b (3).toNatClampNeg = .int x21 ∧ T m = some (12, 6) ∧ (v_X9_hasRights m x15 x18 x21 T F13 (fun (r24 : Int32) (F25 : zF) => (v_X9_thrown m T F25 (fun (r26 : Int32) => ((r26 = r12 → ((¬ r12 = 0 → (∃ L9 : Nat, T b = some (104, L9) ∧ L9 ≤ 7)) ∧ (r12 = 0 → (∃ n27 : Nat, T o = some (103, n27) ∧ vp_in 0 n27 ∧ ∃ x30 : Int64, F25 o (0).toNatClampNeg = .long x30 ∧ ((r24 = 0 → (((lg_cmp x30 0) = 0 → (∃ L9 : Nat, T b = some (104, L9) ∧ L9 ≤ 7)) ∧ (¬ (lg_cmp x30 0) = 0 → False))) ∧ (¬ r24 = 0 → (((lg_cmp x30 1) = 0 → (∃ L9 : Nat, T b = some (104, L9) ∧ L9 ≤ 7)) ∧ (¬ (lg_cmp x30 1) = 0 → False)))))))) ∧ (¬ r26 = r12 → False))))))))))
set_option maxRecDepth 100000 in
set_option maxHeartbeats 4000000 in
theorem kl_5 {p : Program} {l : Launch} {e : Env} {s : State} {m : MethodId} {below : List Frame} {meth : Method} {c : Code} {D : va_G} {cA : Nat → ClassId} {N0 zE : Nat} {x : Nat} {m : Nat} {o : Nat} {b : Nat} {T : zT} {F : zF} (hr : meth.sig.returnType = ret) (hN0 : N0 = s.heap.size) (C : z_C p l s m #[Value.ref b] meth c RL cL_law 9 ret D cA N0 zE) (h : vl_5 x m o b T F) : z_w p l e room_1 s m #[Value.ref b] below meth c D cA N0 9 20 80 (lw_Z below #[Value.ref b] s) 508 [(4, .int 0), (3, .ref o), (2, .ref m), (1, .ref x), (0, .ref b)] [] T F := by
  unfold vl_5 at h
  refine zr_aload_n C 3 dL_law_508 rfl rfl ?_
  refine zr_aload_n C 4 dL_law_509 rfl rfl ?_
  refine zr_iload C 0 dL_law_510 rfl ?_
  refine zr_iconst C 1 dL_law_512 (by decide) ?_
  refine zr_iadd C dL_law_513 ?_
  refine zr_eqi (y := 1) (by decide) ?_
  obtain ⟨n1, hT2, hi3, x4, hv5, h⟩ := h
  refine zr_iald4 C rfl hT2 hi3 hv5 dL_law_514 ?_
  refine zr_aload_n C 4 dL_law_515 rfl rfl ?_
  refine zr_iload C 0 dL_law_516 rfl ?_
  refine zr_iconst C 2 dL_law_518 (by decide) ?_
  refine zr_iadd C dL_law_519 ?_
  refine zr_eqi (y := 2) (by decide) ?_
  obtain ⟨hi6, x7, hv8, h⟩ := h
  refine zr_iald4 C rfl hT2 hi6 hv8 dL_law_520 ?_
  refine zr_aload_n C 4 dL_law_521 rfl rfl ?_
  refine zr_iload C 0 dL_law_522 rfl ?_
  refine zr_iconst C 3 dL_law_524 (by decide) ?_
  refine zr_iadd C dL_law_525 ?_
  refine zr_eqi (y := 3) (by decide) ?_
  obtain ⟨hi9, x10, hv11, h⟩ := h
  refine zr_iald4 C rfl hT2 hi9 hv11 dL_law_526 ?_
  refine zr_aload_n C 1 dL_law_527 rfl rfl ?_
  refine zr_callSH (As := [.ref x, .int x4, .int x7, .int x10, .ref o]) C (k_L_hasRights h) ok_L_128 zq_719 rfl ⟨by decide, (Nat.le_of_ble_eq_true rfl)⟩ ⟨(Nat.le_of_ble_eq_true rfl), (Nat.le_of_ble_eq_true rfl)⟩ (Nat.le_of_ble_eq_true rfl) dL_law_528 (fun v38 U39 G40 hq => ?_)
  clear h
  · obtain ⟨r12, rfl, rfl, h⟩ := hq
    refine zr_istore C [(5, .int r12), (4, .int 0), (3, .ref o), (2, .ref m), (1, .ref x), (0, .ref b)] dL_law_531 (by decide) rfl ?_
    refine zr_aload_n C 3 dL_law_533 rfl rfl ?_
    refine zr_aload_n C 5 dL_law_534 rfl rfl ?_
    refine zr_iload C 1 dL_law_535 rfl ?_
    refine zr_iconst C 1 dL_law_537 (by decide) ?_
    refine zr_iadd C dL_law_538 ?_
    refine zr_eqi (y := 1) (by decide) ?_
    obtain ⟨hi14, x15, hv16, h⟩ := h
    refine zr_iald4 C rfl hT2 hi14 hv16 dL_law_539 ?_
    refine zr_aload_n C 5 dL_law_540 rfl rfl ?_
    refine zr_iload C 1 dL_law_541 rfl ?_
    refine zr_iconst C 2 dL_law_543 (by decide) ?_
    refine zr_iadd C dL_law_544 ?_
    refine zr_eqi (y := 2) (by decide) ?_
    obtain ⟨hi17, x18, hv19, h⟩ := h
    refine zr_iald4 C rfl hT2 hi17 hv19 dL_law_545 ?_
    refine zr_aload_n C 5 dL_law_546 rfl rfl ?_
    refine zr_iload C 1 dL_law_547 rfl ?_
    refine zr_iconst C 3 dL_law_549 (by decide) ?_
    refine zr_iadd C dL_law_550 ?_
    refine zr_eqi (y := 3) (by decide) ?_
    obtain ⟨hi20, x21, hv22, h⟩ := h
    refine zr_iald4 C rfl hT2 hi20 hv22 dL_law_551 ?_
    obtain ⟨hT23, h⟩ := h
    refine zr_callV (As := [.int x15, .int x18, .int x21]) (r := (RX9, TX9, 6)) C (k_X9_hasRights h) ok_L_131 zq_1079 zq_1080 hT23 (by decide) rfl rfl ⟨by decide, (Nat.le_of_ble_eq_true rfl)⟩ ⟨(Nat.le_of_ble_eq_true rfl), (Nat.le_of_ble_eq_true rfl)⟩ (Nat.le_of_ble_eq_true rfl) dL_law_552 (fun v35 U36 G37 hq => ?_)
    clear h
    · obtain ⟨r24, rfl, rfl, h⟩ := hq
      refine zr_istore C [(6, .int r24), (5, .int r12), (4, .int 0), (3, .ref o), (2, .ref m), (1, .ref x), (0, .ref b)] dL_law_555 (by decide) rfl ?_
      refine zr_aload_n C 4 dL_law_557 rfl rfl ?_
      refine zr_callV (As := []) (r := (RX9, TX9, 6)) C (k_X9_thrown h) ok_L_111 zq_975 zq_976 hT23 (by decide) rfl rfl ⟨by decide, (Nat.le_of_ble_eq_true rfl)⟩ ⟨(Nat.le_of_ble_eq_true rfl), (Nat.le_of_ble_eq_true rfl)⟩ (Nat.le_of_ble_eq_true rfl) dL_law_558 (fun v32 U33 G34 hq => ?_)
      clear h
      · obtain ⟨r26, rfl, rfl, rfl, h⟩ := hq
        refine zr_iload C 1 dL_law_561 rfl ?_
        obtain ⟨h1, h2⟩ := h
        refine zr_icmp_eq C 568 dL_law_563 (by decide) (fun hc => ?_) (fun hc => ?_)
        · have h := h1 hc
          clear h1 h2
          refine zr_iload C 1 dL_law_568 rfl ?_
          obtain ⟨h1, h2⟩ := h
          refine zr_if_ne C 592 dL_law_570 (by decide) (fun hc => ?_) (fun hc => ?_)
          · have h := h1 hc
            clear h1 h2
            refine zr_goto C 2033 dL_law_592 (by decide) ?_
            exact zr_sub [2, 6] rfl (kl_end hr hN0 C (Nat.le_of_ble_eq_true rfl) (Nat.le_of_ble_eq_true rfl) h)
          · have h := h2 hc
            clear h1 h2
            refine zr_aload_n C 3 dL_law_573 rfl rfl ?_
            refine zr_iconst C 0 dL_law_574 (by decide) ?_
            obtain ⟨n27, hT28, hi29, x30, hv31, h⟩ := h
            refine zr_lald C rfl hT28 hi29 hv31 dL_law_575 ?_
            refine zr_iload C 0 dL_law_576 rfl ?_
            obtain ⟨h1, h2⟩ := h
            refine zr_if_eq C 585 dL_law_578 (by decide) (fun hc => ?_) (fun hc => ?_)
            · have h := h1 hc
              clear h1 h2
              refine zr_lconst C 0 dL_law_585 (by decide) ?_
              refine zr_lcmp C dL_law_586 ?_
              obtain ⟨h1, h2⟩ := h
              refine zr_if_eq C 592 dL_law_587 (by decide) (fun hc => ?_) (fun hc => ?_)
              · have h := h1 hc
                clear h1 h2
                refine zr_goto C 2033 dL_law_592 (by decide) ?_
                exact zr_sub [2, 6] rfl (kl_end hr hN0 C (Nat.le_of_ble_eq_true rfl) (Nat.le_of_ble_eq_true rfl) h)
              · have h := h2 hc
                clear h1 h2
                refine zr_iconst C 0 dL_law_590 (by decide) ?_
                exact h.elim
            · have h := h2 hc
              clear h1 h2
              refine zr_lconst C 1 dL_law_581 (by decide) ?_
              refine zr_goto C 586 dL_law_582 (by decide) ?_
              refine zr_lcmp C dL_law_586 ?_
              obtain ⟨h1, h2⟩ := h
              refine zr_if_eq C 592 dL_law_587 (by decide) (fun hc => ?_) (fun hc => ?_)
              · have h := h1 hc
                clear h1 h2
                refine zr_goto C 2033 dL_law_592 (by decide) ?_
                exact zr_sub [2, 6] rfl (kl_end hr hN0 C (Nat.le_of_ble_eq_true rfl) (Nat.le_of_ble_eq_true rfl) h)
              · have h := h2 hc
                clear h1 h2
                refine zr_iconst C 0 dL_law_590 (by decide) ?_
                exact h.elim
        · have h := h2 hc
          clear h1 h2
          refine zr_iconst C 0 dL_law_566 (by decide) ?_
          exact h.elim
theorem dL_law_595 : decode cL_law 595 = .ok (.aload_n 1, 1) := by decide +kernel
theorem dL_law_596 : decode cL_law 596 = .ok (.aload_n 0, 1) := by decide +kernel
theorem dL_law_597 : decode cL_law 597 = .ok (.iload 4, 2) := by decide +kernel
theorem dL_law_599 : decode cL_law 599 = .ok (.iconst 1, 1) := by decide +kernel
theorem dL_law_600 : decode cL_law 600 = .ok (.iadd, 1) := by decide +kernel
theorem dL_law_601 : decode cL_law 601 = .ok (.iaload, 1) := by decide +kernel
theorem dL_law_602 : decode cL_law 602 = .ok (.aload_n 0, 1) := by decide +kernel
theorem dL_law_603 : decode cL_law 603 = .ok (.iload 4, 2) := by decide +kernel
theorem dL_law_605 : decode cL_law 605 = .ok (.iconst 2, 1) := by decide +kernel
theorem dL_law_606 : decode cL_law 606 = .ok (.iadd, 1) := by decide +kernel
theorem dL_law_607 : decode cL_law 607 = .ok (.iaload, 1) := by decide +kernel
theorem dL_law_608 : decode cL_law 608 = .ok (.aload_n 3, 1) := by decide +kernel
theorem dL_law_612 : decode cL_law 612 = .ok (.istore 5, 2) := by decide +kernel
theorem dL_law_614 : decode cL_law 614 = .ok (.aload_n 2, 1) := by decide +kernel
theorem dL_law_615 : decode cL_law 615 = .ok (.aload_n 0, 1) := by decide +kernel
theorem dL_law_616 : decode cL_law 616 = .ok (.iload 4, 2) := by decide +kernel
theorem dL_law_618 : decode cL_law 618 = .ok (.iconst 1, 1) := by decide +kernel
theorem dL_law_619 : decode cL_law 619 = .ok (.iadd, 1) := by decide +kernel
theorem dL_law_620 : decode cL_law 620 = .ok (.iaload, 1) := by decide +kernel
theorem dL_law_621 : decode cL_law 621 = .ok (.aload_n 0, 1) := by decide +kernel
theorem dL_law_622 : decode cL_law 622 = .ok (.iload 4, 2) := by decide +kernel
theorem dL_law_624 : decode cL_law 624 = .ok (.iconst 2, 1) := by decide +kernel
theorem dL_law_625 : decode cL_law 625 = .ok (.iadd, 1) := by decide +kernel
theorem dL_law_626 : decode cL_law 626 = .ok (.iaload, 1) := by decide +kernel
theorem dL_law_630 : decode cL_law 630 = .ok (.istore 6, 2) := by decide +kernel
theorem dL_law_632 : decode cL_law 632 = .ok (.aload_n 2, 1) := by decide +kernel
theorem dL_law_636 : decode cL_law 636 = .ok (.iload 5, 2) := by decide +kernel
theorem dL_law_638 : decode cL_law 638 = .ok (.if_icmp .eq 5, 3) := by decide +kernel
theorem dL_law_643 : decode cL_law 643 = .ok (.iload 5, 2) := by decide +kernel
theorem dL_law_645 : decode cL_law 645 = .ok (.ifCond .ne 15, 3) := by decide +kernel
theorem dL_law_660 : decode cL_law 660 = .ok (.goto 1373, 3) := by decide +kernel
theorem dL_law_648 : decode cL_law 648 = .ok (.aload_n 3, 1) := by decide +kernel
theorem dL_law_649 : decode cL_law 649 = .ok (.iconst 0, 1) := by decide +kernel
theorem dL_law_650 : decode cL_law 650 = .ok (.laload, 1) := by decide +kernel
theorem dL_law_651 : decode cL_law 651 = .ok (.iload 6, 2) := by decide +kernel
theorem dL_law_653 : decode cL_law 653 = .ok (.i2l, 1) := by decide +kernel
theorem dL_law_654 : decode cL_law 654 = .ok (.lcmp, 1) := by decide +kernel
theorem dL_law_655 : decode cL_law 655 = .ok (.ifCond .eq 5, 3) := by decide +kernel
theorem dL_law_658 : decode cL_law 658 = .ok (.iconst 0, 1) := by decide +kernel
theorem dL_law_641 : decode cL_law 641 = .ok (.iconst 0, 1) := by decide +kernel
theorem dL_law_633 : decode cL_law 633 = .ok (.invokevirtual 111, 3) := by decide +kernel
theorem dL_law_627 : decode cL_law 627 = .ok (.invokevirtual 134, 3) := by decide +kernel
theorem dL_law_609 : decode cL_law 609 = .ok (.invokestatic 132, 3) := by decide +kernel
def vl_6 (x : Nat) (m : Nat) (o : Nat) (b : Nat) (T : zT) (F : zF) : Prop :=
  (∃ n1 : Nat, T b = some (104, n1) ∧ vp_in 1 n1 ∧ ∃ x4 : Int32, F b (1).toNatClampNeg = .int x4 ∧ vp_in 2 n1 ∧ ∃ x7 : Int32, F b (2).toNatClampNeg = .int x7 ∧ (v_L_piece x x4 x7 o T F (fun (r9 : Int32) (T10 : zT) (F11 : zF) => (∃ n12 : Nat, T10 b = some (104, n12) ∧ vp_in 1 n12 ∧ ∃ x15 : Int32, F11 b (1).toNatClampNeg = .int x15 ∧ vp_in 2 n12 ∧ ∃ x18 : Int32, F11 b (2).toNatClampNeg = .int x18 ∧ T10 m = some (12, 6) ∧ (v_X9_piece m x15 x18 T10 F11 (fun (r21 : Int32) (T22 : zT) (F23 : zF) => (T22 m = some (12, 6) ∧ (v_X9_thrown m T22 F23 (fun (r25 : Int32) => ((r25 = r9 → ((¬ r9 = 0 → (∃ L9 : Nat, T22 b = some (104, L9) ∧ L9 ≤ 7)) ∧ (r9 = 0 → (∃ n26 : Nat, T22 o = some (103, n26) ∧ vp_in 0 n26 ∧ ∃ x29 : Int64, F23 o (0).toNatClampNeg = .long x29 ∧ (((lg_cmp x29 r21.toInt64) = 0 → (∃ L9 : Nat, T22 b = some (104, L9) ∧ L9 ≤ 7)) ∧ (¬ (lg_cmp x29 r21.toInt64) = 0 → False)))))) ∧ (¬ r25 = r9 → False)))))))))))
set_option maxRecDepth 100000 in
set_option maxHeartbeats 4000000 in
theorem kl_6 {p : Program} {l : Launch} {e : Env} {s : State} {m : MethodId} {below : List Frame} {meth : Method} {c : Code} {D : va_G} {cA : Nat → ClassId} {N0 zE : Nat} {x : Nat} {m : Nat} {o : Nat} {b : Nat} {T : zT} {F : zF} (hr : meth.sig.returnType = ret) (hN0 : N0 = s.heap.size) (C : z_C p l s m #[Value.ref b] meth c RL cL_law 9 ret D cA N0 zE) (h : vl_6 x m o b T F) : z_w p l e room_1 s m #[Value.ref b] below meth c D cA N0 9 20 80 (lw_Z below #[Value.ref b] s) 595 [(4, .int 0), (3, .ref o), (2, .ref m), (1, .ref x), (0, .ref b)] [] T F := by
  unfold vl_6 at h
  refine zr_aload_n C 3 dL_law_595 rfl rfl ?_
  refine zr_aload_n C 4 dL_law_596 rfl rfl ?_
  refine zr_iload C 0 dL_law_597 rfl ?_
  refine zr_iconst C 1 dL_law_599 (by decide) ?_
  refine zr_iadd C dL_law_600 ?_
  refine zr_eqi (y := 1) (by decide) ?_
  obtain ⟨n1, hT2, hi3, x4, hv5, h⟩ := h
  refine zr_iald4 C rfl hT2 hi3 hv5 dL_law_601 ?_
  refine zr_aload_n C 4 dL_law_602 rfl rfl ?_
  refine zr_iload C 0 dL_law_603 rfl ?_
  refine zr_iconst C 2 dL_law_605 (by decide) ?_
  refine zr_iadd C dL_law_606 ?_
  refine zr_eqi (y := 2) (by decide) ?_
  obtain ⟨hi6, x7, hv8, h⟩ := h
  refine zr_iald4 C rfl hT2 hi6 hv8 dL_law_607 ?_
  refine zr_aload_n C 1 dL_law_608 rfl rfl ?_
  refine zr_callSH (As := [.ref x, .int x4, .int x7, .ref o]) C (k_L_piece h) ok_L_132 zq_727 rfl ⟨by decide, (Nat.le_of_ble_eq_true rfl)⟩ ⟨(Nat.le_of_ble_eq_true rfl), (Nat.le_of_ble_eq_true rfl)⟩ (Nat.le_of_ble_eq_true rfl) dL_law_609 (fun v37 U38 G39 hq => ?_)
  clear h
  · obtain ⟨r9, rfl, h⟩ := hq
    skip
    refine zr_istore C [(5, .int r9), (4, .int 0), (3, .ref o), (2, .ref m), (1, .ref x), (0, .ref b)] dL_law_612 (by decide) rfl ?_
    refine zr_aload_n C 3 dL_law_614 rfl rfl ?_
    refine zr_aload_n C 5 dL_law_615 rfl rfl ?_
    refine zr_iload C 1 dL_law_616 rfl ?_
    refine zr_iconst C 1 dL_law_618 (by decide) ?_
    refine zr_iadd C dL_law_619 ?_
    refine zr_eqi (y := 1) (by decide) ?_
    obtain ⟨n12, hT13, hi14, x15, hv16, h⟩ := h
    refine zr_iald4 C rfl hT13 hi14 hv16 dL_law_620 ?_
    refine zr_aload_n C 5 dL_law_621 rfl rfl ?_
    refine zr_iload C 1 dL_law_622 rfl ?_
    refine zr_iconst C 2 dL_law_624 (by decide) ?_
    refine zr_iadd C dL_law_625 ?_
    refine zr_eqi (y := 2) (by decide) ?_
    obtain ⟨hi17, x18, hv19, h⟩ := h
    refine zr_iald4 C rfl hT13 hi17 hv19 dL_law_626 ?_
    obtain ⟨hT20, h⟩ := h
    refine zr_callV (As := [.int x15, .int x18]) (r := (RX9, TX9, 6)) C (k_X9_piece h) ok_L_134 zq_1094 zq_1095 hT20 (by decide) rfl rfl ⟨by decide, (Nat.le_of_ble_eq_true rfl)⟩ ⟨(Nat.le_of_ble_eq_true rfl), (Nat.le_of_ble_eq_true rfl)⟩ (Nat.le_of_ble_eq_true rfl) dL_law_627 (fun v34 U35 G36 hq => ?_)
    clear h
    · obtain ⟨r21, rfl, h⟩ := hq
      skip
      refine zr_istore C [(6, .int r21), (5, .int r9), (4, .int 0), (3, .ref o), (2, .ref m), (1, .ref x), (0, .ref b)] dL_law_630 (by decide) rfl ?_
      refine zr_aload_n C 4 dL_law_632 rfl rfl ?_
      obtain ⟨hT24, h⟩ := h
      refine zr_callV (As := []) (r := (RX9, TX9, 6)) C (k_X9_thrown h) ok_L_111 zq_975 zq_976 hT24 (by decide) rfl rfl ⟨by decide, (Nat.le_of_ble_eq_true rfl)⟩ ⟨(Nat.le_of_ble_eq_true rfl), (Nat.le_of_ble_eq_true rfl)⟩ (Nat.le_of_ble_eq_true rfl) dL_law_633 (fun v31 U32 G33 hq => ?_)
      clear h
      · obtain ⟨r25, rfl, rfl, rfl, h⟩ := hq
        refine zr_iload C 1 dL_law_636 rfl ?_
        obtain ⟨h1, h2⟩ := h
        refine zr_icmp_eq C 643 dL_law_638 (by decide) (fun hc => ?_) (fun hc => ?_)
        · have h := h1 hc
          clear h1 h2
          refine zr_iload C 1 dL_law_643 rfl ?_
          obtain ⟨h1, h2⟩ := h
          refine zr_if_ne C 660 dL_law_645 (by decide) (fun hc => ?_) (fun hc => ?_)
          · have h := h1 hc
            clear h1 h2
            refine zr_goto C 2033 dL_law_660 (by decide) ?_
            exact zr_sub [2, 6] rfl (kl_end hr hN0 C (Nat.le_of_ble_eq_true rfl) (Nat.le_of_ble_eq_true rfl) h)
          · have h := h2 hc
            clear h1 h2
            refine zr_aload_n C 3 dL_law_648 rfl rfl ?_
            refine zr_iconst C 0 dL_law_649 (by decide) ?_
            obtain ⟨n26, hT27, hi28, x29, hv30, h⟩ := h
            refine zr_lald C rfl hT27 hi28 hv30 dL_law_650 ?_
            refine zr_iload C 0 dL_law_651 rfl ?_
            refine zr_i2l C dL_law_653 ?_
            refine zr_lcmp C dL_law_654 ?_
            obtain ⟨h1, h2⟩ := h
            refine zr_if_eq C 660 dL_law_655 (by decide) (fun hc => ?_) (fun hc => ?_)
            · have h := h1 hc
              clear h1 h2
              refine zr_goto C 2033 dL_law_660 (by decide) ?_
              exact zr_sub [2, 6] rfl (kl_end hr hN0 C (Nat.le_of_ble_eq_true rfl) (Nat.le_of_ble_eq_true rfl) h)
            · have h := h2 hc
              clear h1 h2
              refine zr_iconst C 0 dL_law_658 (by decide) ?_
              exact h.elim
        · have h := h2 hc
          clear h1 h2
          refine zr_iconst C 0 dL_law_641 (by decide) ?_
          exact h.elim
theorem dL_law_663 : decode cL_law 663 = .ok (.aload_n 1, 1) := by decide +kernel
theorem dL_law_664 : decode cL_law 664 = .ok (.aload_n 0, 1) := by decide +kernel
theorem dL_law_665 : decode cL_law 665 = .ok (.iload 4, 2) := by decide +kernel
theorem dL_law_667 : decode cL_law 667 = .ok (.iconst 1, 1) := by decide +kernel
theorem dL_law_668 : decode cL_law 668 = .ok (.iadd, 1) := by decide +kernel
theorem dL_law_669 : decode cL_law 669 = .ok (.iaload, 1) := by decide +kernel
theorem dL_law_670 : decode cL_law 670 = .ok (.aload_n 0, 1) := by decide +kernel
theorem dL_law_671 : decode cL_law 671 = .ok (.iload 4, 2) := by decide +kernel
theorem dL_law_673 : decode cL_law 673 = .ok (.iconst 2, 1) := by decide +kernel
theorem dL_law_674 : decode cL_law 674 = .ok (.iadd, 1) := by decide +kernel
theorem dL_law_675 : decode cL_law 675 = .ok (.iaload, 1) := by decide +kernel
theorem dL_law_676 : decode cL_law 676 = .ok (.aload_n 3, 1) := by decide +kernel
theorem dL_law_680 : decode cL_law 680 = .ok (.istore 5, 2) := by decide +kernel
theorem dL_law_682 : decode cL_law 682 = .ok (.aload_n 2, 1) := by decide +kernel
theorem dL_law_683 : decode cL_law 683 = .ok (.aload_n 0, 1) := by decide +kernel
theorem dL_law_684 : decode cL_law 684 = .ok (.iload 4, 2) := by decide +kernel
theorem dL_law_686 : decode cL_law 686 = .ok (.iconst 1, 1) := by decide +kernel
theorem dL_law_687 : decode cL_law 687 = .ok (.iadd, 1) := by decide +kernel
theorem dL_law_688 : decode cL_law 688 = .ok (.iaload, 1) := by decide +kernel
theorem dL_law_689 : decode cL_law 689 = .ok (.aload_n 0, 1) := by decide +kernel
theorem dL_law_690 : decode cL_law 690 = .ok (.iload 4, 2) := by decide +kernel
theorem dL_law_692 : decode cL_law 692 = .ok (.iconst 2, 1) := by decide +kernel
theorem dL_law_693 : decode cL_law 693 = .ok (.iadd, 1) := by decide +kernel
theorem dL_law_694 : decode cL_law 694 = .ok (.iaload, 1) := by decide +kernel
theorem dL_law_698 : decode cL_law 698 = .ok (.istore 6, 2) := by decide +kernel
theorem dL_law_700 : decode cL_law 700 = .ok (.aload_n 2, 1) := by decide +kernel
theorem dL_law_704 : decode cL_law 704 = .ok (.iload 5, 2) := by decide +kernel
theorem dL_law_706 : decode cL_law 706 = .ok (.if_icmp .eq 5, 3) := by decide +kernel
theorem dL_law_711 : decode cL_law 711 = .ok (.iload 5, 2) := by decide +kernel
theorem dL_law_713 : decode cL_law 713 = .ok (.ifCond .ne 22, 3) := by decide +kernel
theorem dL_law_735 : decode cL_law 735 = .ok (.goto 1298, 3) := by decide +kernel
theorem dL_law_716 : decode cL_law 716 = .ok (.aload_n 3, 1) := by decide +kernel
theorem dL_law_717 : decode cL_law 717 = .ok (.iconst 0, 1) := by decide +kernel
theorem dL_law_718 : decode cL_law 718 = .ok (.laload, 1) := by decide +kernel
theorem dL_law_719 : decode cL_law 719 = .ok (.iload 6, 2) := by decide +kernel
theorem dL_law_721 : decode cL_law 721 = .ok (.ifCond .eq 7, 3) := by decide +kernel
theorem dL_law_728 : decode cL_law 728 = .ok (.lconst 0, 1) := by decide +kernel
theorem dL_law_729 : decode cL_law 729 = .ok (.lcmp, 1) := by decide +kernel
theorem dL_law_730 : decode cL_law 730 = .ok (.ifCond .eq 5, 3) := by decide +kernel
theorem dL_law_733 : decode cL_law 733 = .ok (.iconst 0, 1) := by decide +kernel
theorem dL_law_724 : decode cL_law 724 = .ok (.lconst 1, 1) := by decide +kernel
theorem dL_law_725 : decode cL_law 725 = .ok (.goto 4, 3) := by decide +kernel
theorem dL_law_709 : decode cL_law 709 = .ok (.iconst 0, 1) := by decide +kernel
theorem dL_law_701 : decode cL_law 701 = .ok (.invokevirtual 111, 3) := by decide +kernel
theorem dL_law_695 : decode cL_law 695 = .ok (.invokevirtual 137, 3) := by decide +kernel
theorem dL_law_677 : decode cL_law 677 = .ok (.invokestatic 135, 3) := by decide +kernel
def vl_7 (x : Nat) (m : Nat) (o : Nat) (b : Nat) (T : zT) (F : zF) : Prop :=
  (∃ n1 : Nat, T b = some (104, n1) ∧ vp_in 1 n1 ∧ ∃ x4 : Int32, F b (1).toNatClampNeg = .int x4 ∧ vp_in 2 n1 ∧ ∃ x7 : Int32, F b (2).toNatClampNeg = .int x7 ∧ (v_L_approve x x4 x7 o T F (fun (r9 : Int32) (F10 : zF) => (vp_in 1 n1 ∧ ∃ x12 : Int32, F10 b (1).toNatClampNeg = .int x12 ∧ vp_in 2 n1 ∧ ∃ x15 : Int32, F10 b (2).toNatClampNeg = .int x15 ∧ T m = some (12, 6) ∧ (v_X9_approve m x12 x15 T F10 (fun (r18 : Int32) (F19 : zF) => (v_X9_thrown m T F19 (fun (r20 : Int32) => ((r20 = r9 → ((¬ r9 = 0 → (∃ L9 : Nat, T b = some (104, L9) ∧ L9 ≤ 7)) ∧ (r9 = 0 → (∃ n21 : Nat, T o = some (103, n21) ∧ vp_in 0 n21 ∧ ∃ x24 : Int64, F19 o (0).toNatClampNeg = .long x24 ∧ ((r18 = 0 → (((lg_cmp x24 0) = 0 → (∃ L9 : Nat, T b = some (104, L9) ∧ L9 ≤ 7)) ∧ (¬ (lg_cmp x24 0) = 0 → False))) ∧ (¬ r18 = 0 → (((lg_cmp x24 1) = 0 → (∃ L9 : Nat, T b = some (104, L9) ∧ L9 ≤ 7)) ∧ (¬ (lg_cmp x24 1) = 0 → False)))))))) ∧ (¬ r20 = r9 → False))))))))))
set_option maxRecDepth 100000 in
set_option maxHeartbeats 4000000 in
theorem kl_7 {p : Program} {l : Launch} {e : Env} {s : State} {m : MethodId} {below : List Frame} {meth : Method} {c : Code} {D : va_G} {cA : Nat → ClassId} {N0 zE : Nat} {x : Nat} {m : Nat} {o : Nat} {b : Nat} {T : zT} {F : zF} (hr : meth.sig.returnType = ret) (hN0 : N0 = s.heap.size) (C : z_C p l s m #[Value.ref b] meth c RL cL_law 9 ret D cA N0 zE) (h : vl_7 x m o b T F) : z_w p l e room_1 s m #[Value.ref b] below meth c D cA N0 9 20 80 (lw_Z below #[Value.ref b] s) 663 [(4, .int 0), (3, .ref o), (2, .ref m), (1, .ref x), (0, .ref b)] [] T F := by
  unfold vl_7 at h
  refine zr_aload_n C 3 dL_law_663 rfl rfl ?_
  refine zr_aload_n C 4 dL_law_664 rfl rfl ?_
  refine zr_iload C 0 dL_law_665 rfl ?_
  refine zr_iconst C 1 dL_law_667 (by decide) ?_
  refine zr_iadd C dL_law_668 ?_
  refine zr_eqi (y := 1) (by decide) ?_
  obtain ⟨n1, hT2, hi3, x4, hv5, h⟩ := h
  refine zr_iald4 C rfl hT2 hi3 hv5 dL_law_669 ?_
  refine zr_aload_n C 4 dL_law_670 rfl rfl ?_
  refine zr_iload C 0 dL_law_671 rfl ?_
  refine zr_iconst C 2 dL_law_673 (by decide) ?_
  refine zr_iadd C dL_law_674 ?_
  refine zr_eqi (y := 2) (by decide) ?_
  obtain ⟨hi6, x7, hv8, h⟩ := h
  refine zr_iald4 C rfl hT2 hi6 hv8 dL_law_675 ?_
  refine zr_aload_n C 1 dL_law_676 rfl rfl ?_
  refine zr_callSH (As := [.ref x, .int x4, .int x7, .ref o]) C (k_L_approve h) ok_L_135 zq_768 rfl ⟨by decide, (Nat.le_of_ble_eq_true rfl)⟩ ⟨(Nat.le_of_ble_eq_true rfl), (Nat.le_of_ble_eq_true rfl)⟩ (Nat.le_of_ble_eq_true rfl) dL_law_677 (fun v32 U33 G34 hq => ?_)
  clear h
  · obtain ⟨r9, rfl, rfl, h⟩ := hq
    refine zr_istore C [(5, .int r9), (4, .int 0), (3, .ref o), (2, .ref m), (1, .ref x), (0, .ref b)] dL_law_680 (by decide) rfl ?_
    refine zr_aload_n C 3 dL_law_682 rfl rfl ?_
    refine zr_aload_n C 5 dL_law_683 rfl rfl ?_
    refine zr_iload C 1 dL_law_684 rfl ?_
    refine zr_iconst C 1 dL_law_686 (by decide) ?_
    refine zr_iadd C dL_law_687 ?_
    refine zr_eqi (y := 1) (by decide) ?_
    obtain ⟨hi11, x12, hv13, h⟩ := h
    refine zr_iald4 C rfl hT2 hi11 hv13 dL_law_688 ?_
    refine zr_aload_n C 5 dL_law_689 rfl rfl ?_
    refine zr_iload C 1 dL_law_690 rfl ?_
    refine zr_iconst C 2 dL_law_692 (by decide) ?_
    refine zr_iadd C dL_law_693 ?_
    refine zr_eqi (y := 2) (by decide) ?_
    obtain ⟨hi14, x15, hv16, h⟩ := h
    refine zr_iald4 C rfl hT2 hi14 hv16 dL_law_694 ?_
    obtain ⟨hT17, h⟩ := h
    refine zr_callV (As := [.int x12, .int x15]) (r := (RX9, TX9, 6)) C (k_X9_approve h) ok_L_137 zq_1122 zq_1123 hT17 (by decide) rfl rfl ⟨by decide, (Nat.le_of_ble_eq_true rfl)⟩ ⟨(Nat.le_of_ble_eq_true rfl), (Nat.le_of_ble_eq_true rfl)⟩ (Nat.le_of_ble_eq_true rfl) dL_law_695 (fun v29 U30 G31 hq => ?_)
    clear h
    · obtain ⟨r18, rfl, rfl, h⟩ := hq
      refine zr_istore C [(6, .int r18), (5, .int r9), (4, .int 0), (3, .ref o), (2, .ref m), (1, .ref x), (0, .ref b)] dL_law_698 (by decide) rfl ?_
      refine zr_aload_n C 4 dL_law_700 rfl rfl ?_
      refine zr_callV (As := []) (r := (RX9, TX9, 6)) C (k_X9_thrown h) ok_L_111 zq_975 zq_976 hT17 (by decide) rfl rfl ⟨by decide, (Nat.le_of_ble_eq_true rfl)⟩ ⟨(Nat.le_of_ble_eq_true rfl), (Nat.le_of_ble_eq_true rfl)⟩ (Nat.le_of_ble_eq_true rfl) dL_law_701 (fun v26 U27 G28 hq => ?_)
      clear h
      · obtain ⟨r20, rfl, rfl, rfl, h⟩ := hq
        refine zr_iload C 1 dL_law_704 rfl ?_
        obtain ⟨h1, h2⟩ := h
        refine zr_icmp_eq C 711 dL_law_706 (by decide) (fun hc => ?_) (fun hc => ?_)
        · have h := h1 hc
          clear h1 h2
          refine zr_iload C 1 dL_law_711 rfl ?_
          obtain ⟨h1, h2⟩ := h
          refine zr_if_ne C 735 dL_law_713 (by decide) (fun hc => ?_) (fun hc => ?_)
          · have h := h1 hc
            clear h1 h2
            refine zr_goto C 2033 dL_law_735 (by decide) ?_
            exact zr_sub [2, 6] rfl (kl_end hr hN0 C (Nat.le_of_ble_eq_true rfl) (Nat.le_of_ble_eq_true rfl) h)
          · have h := h2 hc
            clear h1 h2
            refine zr_aload_n C 3 dL_law_716 rfl rfl ?_
            refine zr_iconst C 0 dL_law_717 (by decide) ?_
            obtain ⟨n21, hT22, hi23, x24, hv25, h⟩ := h
            refine zr_lald C rfl hT22 hi23 hv25 dL_law_718 ?_
            refine zr_iload C 0 dL_law_719 rfl ?_
            obtain ⟨h1, h2⟩ := h
            refine zr_if_eq C 728 dL_law_721 (by decide) (fun hc => ?_) (fun hc => ?_)
            · have h := h1 hc
              clear h1 h2
              refine zr_lconst C 0 dL_law_728 (by decide) ?_
              refine zr_lcmp C dL_law_729 ?_
              obtain ⟨h1, h2⟩ := h
              refine zr_if_eq C 735 dL_law_730 (by decide) (fun hc => ?_) (fun hc => ?_)
              · have h := h1 hc
                clear h1 h2
                refine zr_goto C 2033 dL_law_735 (by decide) ?_
                exact zr_sub [2, 6] rfl (kl_end hr hN0 C (Nat.le_of_ble_eq_true rfl) (Nat.le_of_ble_eq_true rfl) h)
              · have h := h2 hc
                clear h1 h2
                refine zr_iconst C 0 dL_law_733 (by decide) ?_
                exact h.elim
            · have h := h2 hc
              clear h1 h2
              refine zr_lconst C 1 dL_law_724 (by decide) ?_
              refine zr_goto C 729 dL_law_725 (by decide) ?_
              refine zr_lcmp C dL_law_729 ?_
              obtain ⟨h1, h2⟩ := h
              refine zr_if_eq C 735 dL_law_730 (by decide) (fun hc => ?_) (fun hc => ?_)
              · have h := h1 hc
                clear h1 h2
                refine zr_goto C 2033 dL_law_735 (by decide) ?_
                exact zr_sub [2, 6] rfl (kl_end hr hN0 C (Nat.le_of_ble_eq_true rfl) (Nat.le_of_ble_eq_true rfl) h)
              · have h := h2 hc
                clear h1 h2
                refine zr_iconst C 0 dL_law_733 (by decide) ?_
                exact h.elim
        · have h := h2 hc
          clear h1 h2
          refine zr_iconst C 0 dL_law_709 (by decide) ?_
          exact h.elim
theorem dL_law_738 : decode cL_law 738 = .ok (.aload_n 1, 1) := by decide +kernel
theorem dL_law_739 : decode cL_law 739 = .ok (.aload_n 0, 1) := by decide +kernel
theorem dL_law_740 : decode cL_law 740 = .ok (.iload 4, 2) := by decide +kernel
theorem dL_law_742 : decode cL_law 742 = .ok (.iconst 1, 1) := by decide +kernel
theorem dL_law_743 : decode cL_law 743 = .ok (.iadd, 1) := by decide +kernel
theorem dL_law_744 : decode cL_law 744 = .ok (.iaload, 1) := by decide +kernel
theorem dL_law_745 : decode cL_law 745 = .ok (.aload_n 0, 1) := by decide +kernel
theorem dL_law_746 : decode cL_law 746 = .ok (.iload 4, 2) := by decide +kernel
theorem dL_law_748 : decode cL_law 748 = .ok (.iconst 2, 1) := by decide +kernel
theorem dL_law_749 : decode cL_law 749 = .ok (.iadd, 1) := by decide +kernel
theorem dL_law_750 : decode cL_law 750 = .ok (.iaload, 1) := by decide +kernel
theorem dL_law_751 : decode cL_law 751 = .ok (.aload_n 3, 1) := by decide +kernel
theorem dL_law_755 : decode cL_law 755 = .ok (.istore 5, 2) := by decide +kernel
theorem dL_law_757 : decode cL_law 757 = .ok (.aload_n 2, 1) := by decide +kernel
theorem dL_law_758 : decode cL_law 758 = .ok (.aload_n 0, 1) := by decide +kernel
theorem dL_law_759 : decode cL_law 759 = .ok (.iload 4, 2) := by decide +kernel
theorem dL_law_761 : decode cL_law 761 = .ok (.iconst 1, 1) := by decide +kernel
theorem dL_law_762 : decode cL_law 762 = .ok (.iadd, 1) := by decide +kernel
theorem dL_law_763 : decode cL_law 763 = .ok (.iaload, 1) := by decide +kernel
theorem dL_law_764 : decode cL_law 764 = .ok (.aload_n 0, 1) := by decide +kernel
theorem dL_law_765 : decode cL_law 765 = .ok (.iload 4, 2) := by decide +kernel
theorem dL_law_767 : decode cL_law 767 = .ok (.iconst 2, 1) := by decide +kernel
theorem dL_law_768 : decode cL_law 768 = .ok (.iadd, 1) := by decide +kernel
theorem dL_law_769 : decode cL_law 769 = .ok (.iaload, 1) := by decide +kernel
theorem dL_law_773 : decode cL_law 773 = .ok (.istore 6, 2) := by decide +kernel
theorem dL_law_775 : decode cL_law 775 = .ok (.aload_n 2, 1) := by decide +kernel
theorem dL_law_779 : decode cL_law 779 = .ok (.iload 5, 2) := by decide +kernel
theorem dL_law_781 : decode cL_law 781 = .ok (.if_icmp .eq 5, 3) := by decide +kernel
theorem dL_law_786 : decode cL_law 786 = .ok (.iload 5, 2) := by decide +kernel
theorem dL_law_788 : decode cL_law 788 = .ok (.ifCond .ne 22, 3) := by decide +kernel
theorem dL_law_810 : decode cL_law 810 = .ok (.goto 1223, 3) := by decide +kernel
theorem dL_law_791 : decode cL_law 791 = .ok (.aload_n 3, 1) := by decide +kernel
theorem dL_law_792 : decode cL_law 792 = .ok (.iconst 0, 1) := by decide +kernel
theorem dL_law_793 : decode cL_law 793 = .ok (.laload, 1) := by decide +kernel
theorem dL_law_794 : decode cL_law 794 = .ok (.iload 6, 2) := by decide +kernel
theorem dL_law_796 : decode cL_law 796 = .ok (.ifCond .eq 7, 3) := by decide +kernel
theorem dL_law_803 : decode cL_law 803 = .ok (.lconst 0, 1) := by decide +kernel
theorem dL_law_804 : decode cL_law 804 = .ok (.lcmp, 1) := by decide +kernel
theorem dL_law_805 : decode cL_law 805 = .ok (.ifCond .eq 5, 3) := by decide +kernel
theorem dL_law_808 : decode cL_law 808 = .ok (.iconst 0, 1) := by decide +kernel
theorem dL_law_799 : decode cL_law 799 = .ok (.lconst 1, 1) := by decide +kernel
theorem dL_law_800 : decode cL_law 800 = .ok (.goto 4, 3) := by decide +kernel
theorem dL_law_784 : decode cL_law 784 = .ok (.iconst 0, 1) := by decide +kernel
theorem dL_law_776 : decode cL_law 776 = .ok (.invokevirtual 111, 3) := by decide +kernel
theorem dL_law_770 : decode cL_law 770 = .ok (.invokevirtual 140, 3) := by decide +kernel
theorem dL_law_752 : decode cL_law 752 = .ok (.invokestatic 138, 3) := by decide +kernel
def vl_8 (x : Nat) (m : Nat) (o : Nat) (b : Nat) (T : zT) (F : zF) : Prop :=
  (∃ n1 : Nat, T b = some (104, n1) ∧ vp_in 1 n1 ∧ ∃ x4 : Int32, F b (1).toNatClampNeg = .int x4 ∧ vp_in 2 n1 ∧ ∃ x7 : Int32, F b (2).toNatClampNeg = .int x7 ∧ (v_L_hold x x4 x7 o T F (fun (r9 : Int32) (F10 : zF) => (vp_in 1 n1 ∧ ∃ x12 : Int32, F10 b (1).toNatClampNeg = .int x12 ∧ vp_in 2 n1 ∧ ∃ x15 : Int32, F10 b (2).toNatClampNeg = .int x15 ∧ T m = some (12, 6) ∧ (v_X9_hold m x12 x15 T F10 (fun (r18 : Int32) (F19 : zF) => (v_X9_thrown m T F19 (fun (r20 : Int32) => ((r20 = r9 → ((¬ r9 = 0 → (∃ L9 : Nat, T b = some (104, L9) ∧ L9 ≤ 7)) ∧ (r9 = 0 → (∃ n21 : Nat, T o = some (103, n21) ∧ vp_in 0 n21 ∧ ∃ x24 : Int64, F19 o (0).toNatClampNeg = .long x24 ∧ ((r18 = 0 → (((lg_cmp x24 0) = 0 → (∃ L9 : Nat, T b = some (104, L9) ∧ L9 ≤ 7)) ∧ (¬ (lg_cmp x24 0) = 0 → False))) ∧ (¬ r18 = 0 → (((lg_cmp x24 1) = 0 → (∃ L9 : Nat, T b = some (104, L9) ∧ L9 ≤ 7)) ∧ (¬ (lg_cmp x24 1) = 0 → False)))))))) ∧ (¬ r20 = r9 → False))))))))))
set_option maxRecDepth 100000 in
set_option maxHeartbeats 4000000 in
theorem kl_8 {p : Program} {l : Launch} {e : Env} {s : State} {m : MethodId} {below : List Frame} {meth : Method} {c : Code} {D : va_G} {cA : Nat → ClassId} {N0 zE : Nat} {x : Nat} {m : Nat} {o : Nat} {b : Nat} {T : zT} {F : zF} (hr : meth.sig.returnType = ret) (hN0 : N0 = s.heap.size) (C : z_C p l s m #[Value.ref b] meth c RL cL_law 9 ret D cA N0 zE) (h : vl_8 x m o b T F) : z_w p l e room_1 s m #[Value.ref b] below meth c D cA N0 9 20 80 (lw_Z below #[Value.ref b] s) 738 [(4, .int 0), (3, .ref o), (2, .ref m), (1, .ref x), (0, .ref b)] [] T F := by
  unfold vl_8 at h
  refine zr_aload_n C 3 dL_law_738 rfl rfl ?_
  refine zr_aload_n C 4 dL_law_739 rfl rfl ?_
  refine zr_iload C 0 dL_law_740 rfl ?_
  refine zr_iconst C 1 dL_law_742 (by decide) ?_
  refine zr_iadd C dL_law_743 ?_
  refine zr_eqi (y := 1) (by decide) ?_
  obtain ⟨n1, hT2, hi3, x4, hv5, h⟩ := h
  refine zr_iald4 C rfl hT2 hi3 hv5 dL_law_744 ?_
  refine zr_aload_n C 4 dL_law_745 rfl rfl ?_
  refine zr_iload C 0 dL_law_746 rfl ?_
  refine zr_iconst C 2 dL_law_748 (by decide) ?_
  refine zr_iadd C dL_law_749 ?_
  refine zr_eqi (y := 2) (by decide) ?_
  obtain ⟨hi6, x7, hv8, h⟩ := h
  refine zr_iald4 C rfl hT2 hi6 hv8 dL_law_750 ?_
  refine zr_aload_n C 1 dL_law_751 rfl rfl ?_
  refine zr_callSH (As := [.ref x, .int x4, .int x7, .ref o]) C (k_L_hold h) ok_L_138 zq_782 rfl ⟨by decide, (Nat.le_of_ble_eq_true rfl)⟩ ⟨(Nat.le_of_ble_eq_true rfl), (Nat.le_of_ble_eq_true rfl)⟩ (Nat.le_of_ble_eq_true rfl) dL_law_752 (fun v32 U33 G34 hq => ?_)
  clear h
  · obtain ⟨r9, rfl, rfl, h⟩ := hq
    refine zr_istore C [(5, .int r9), (4, .int 0), (3, .ref o), (2, .ref m), (1, .ref x), (0, .ref b)] dL_law_755 (by decide) rfl ?_
    refine zr_aload_n C 3 dL_law_757 rfl rfl ?_
    refine zr_aload_n C 5 dL_law_758 rfl rfl ?_
    refine zr_iload C 1 dL_law_759 rfl ?_
    refine zr_iconst C 1 dL_law_761 (by decide) ?_
    refine zr_iadd C dL_law_762 ?_
    refine zr_eqi (y := 1) (by decide) ?_
    obtain ⟨hi11, x12, hv13, h⟩ := h
    refine zr_iald4 C rfl hT2 hi11 hv13 dL_law_763 ?_
    refine zr_aload_n C 5 dL_law_764 rfl rfl ?_
    refine zr_iload C 1 dL_law_765 rfl ?_
    refine zr_iconst C 2 dL_law_767 (by decide) ?_
    refine zr_iadd C dL_law_768 ?_
    refine zr_eqi (y := 2) (by decide) ?_
    obtain ⟨hi14, x15, hv16, h⟩ := h
    refine zr_iald4 C rfl hT2 hi14 hv16 dL_law_769 ?_
    obtain ⟨hT17, h⟩ := h
    refine zr_callV (As := [.int x12, .int x15]) (r := (RX9, TX9, 6)) C (k_X9_hold h) ok_L_140 zq_1249 zq_1250 hT17 (by decide) rfl rfl ⟨by decide, (Nat.le_of_ble_eq_true rfl)⟩ ⟨(Nat.le_of_ble_eq_true rfl), (Nat.le_of_ble_eq_true rfl)⟩ (Nat.le_of_ble_eq_true rfl) dL_law_770 (fun v29 U30 G31 hq => ?_)
    clear h
    · obtain ⟨r18, rfl, rfl, h⟩ := hq
      refine zr_istore C [(6, .int r18), (5, .int r9), (4, .int 0), (3, .ref o), (2, .ref m), (1, .ref x), (0, .ref b)] dL_law_773 (by decide) rfl ?_
      refine zr_aload_n C 4 dL_law_775 rfl rfl ?_
      refine zr_callV (As := []) (r := (RX9, TX9, 6)) C (k_X9_thrown h) ok_L_111 zq_975 zq_976 hT17 (by decide) rfl rfl ⟨by decide, (Nat.le_of_ble_eq_true rfl)⟩ ⟨(Nat.le_of_ble_eq_true rfl), (Nat.le_of_ble_eq_true rfl)⟩ (Nat.le_of_ble_eq_true rfl) dL_law_776 (fun v26 U27 G28 hq => ?_)
      clear h
      · obtain ⟨r20, rfl, rfl, rfl, h⟩ := hq
        refine zr_iload C 1 dL_law_779 rfl ?_
        obtain ⟨h1, h2⟩ := h
        refine zr_icmp_eq C 786 dL_law_781 (by decide) (fun hc => ?_) (fun hc => ?_)
        · have h := h1 hc
          clear h1 h2
          refine zr_iload C 1 dL_law_786 rfl ?_
          obtain ⟨h1, h2⟩ := h
          refine zr_if_ne C 810 dL_law_788 (by decide) (fun hc => ?_) (fun hc => ?_)
          · have h := h1 hc
            clear h1 h2
            refine zr_goto C 2033 dL_law_810 (by decide) ?_
            exact zr_sub [2, 6] rfl (kl_end hr hN0 C (Nat.le_of_ble_eq_true rfl) (Nat.le_of_ble_eq_true rfl) h)
          · have h := h2 hc
            clear h1 h2
            refine zr_aload_n C 3 dL_law_791 rfl rfl ?_
            refine zr_iconst C 0 dL_law_792 (by decide) ?_
            obtain ⟨n21, hT22, hi23, x24, hv25, h⟩ := h
            refine zr_lald C rfl hT22 hi23 hv25 dL_law_793 ?_
            refine zr_iload C 0 dL_law_794 rfl ?_
            obtain ⟨h1, h2⟩ := h
            refine zr_if_eq C 803 dL_law_796 (by decide) (fun hc => ?_) (fun hc => ?_)
            · have h := h1 hc
              clear h1 h2
              refine zr_lconst C 0 dL_law_803 (by decide) ?_
              refine zr_lcmp C dL_law_804 ?_
              obtain ⟨h1, h2⟩ := h
              refine zr_if_eq C 810 dL_law_805 (by decide) (fun hc => ?_) (fun hc => ?_)
              · have h := h1 hc
                clear h1 h2
                refine zr_goto C 2033 dL_law_810 (by decide) ?_
                exact zr_sub [2, 6] rfl (kl_end hr hN0 C (Nat.le_of_ble_eq_true rfl) (Nat.le_of_ble_eq_true rfl) h)
              · have h := h2 hc
                clear h1 h2
                refine zr_iconst C 0 dL_law_808 (by decide) ?_
                exact h.elim
            · have h := h2 hc
              clear h1 h2
              refine zr_lconst C 1 dL_law_799 (by decide) ?_
              refine zr_goto C 804 dL_law_800 (by decide) ?_
              refine zr_lcmp C dL_law_804 ?_
              obtain ⟨h1, h2⟩ := h
              refine zr_if_eq C 810 dL_law_805 (by decide) (fun hc => ?_) (fun hc => ?_)
              · have h := h1 hc
                clear h1 h2
                refine zr_goto C 2033 dL_law_810 (by decide) ?_
                exact zr_sub [2, 6] rfl (kl_end hr hN0 C (Nat.le_of_ble_eq_true rfl) (Nat.le_of_ble_eq_true rfl) h)
              · have h := h2 hc
                clear h1 h2
                refine zr_iconst C 0 dL_law_808 (by decide) ?_
                exact h.elim
        · have h := h2 hc
          clear h1 h2
          refine zr_iconst C 0 dL_law_784 (by decide) ?_
          exact h.elim
theorem dL_law_813 : decode cL_law 813 = .ok (.aload_n 1, 1) := by decide +kernel
theorem dL_law_814 : decode cL_law 814 = .ok (.aload_n 0, 1) := by decide +kernel
theorem dL_law_815 : decode cL_law 815 = .ok (.iload 4, 2) := by decide +kernel
theorem dL_law_817 : decode cL_law 817 = .ok (.iconst 1, 1) := by decide +kernel
theorem dL_law_818 : decode cL_law 818 = .ok (.iadd, 1) := by decide +kernel
theorem dL_law_819 : decode cL_law 819 = .ok (.iaload, 1) := by decide +kernel
theorem dL_law_820 : decode cL_law 820 = .ok (.aload_n 0, 1) := by decide +kernel
theorem dL_law_821 : decode cL_law 821 = .ok (.iload 4, 2) := by decide +kernel
theorem dL_law_823 : decode cL_law 823 = .ok (.iconst 2, 1) := by decide +kernel
theorem dL_law_824 : decode cL_law 824 = .ok (.iadd, 1) := by decide +kernel
theorem dL_law_825 : decode cL_law 825 = .ok (.iaload, 1) := by decide +kernel
theorem dL_law_826 : decode cL_law 826 = .ok (.aload_n 0, 1) := by decide +kernel
theorem dL_law_827 : decode cL_law 827 = .ok (.iload 4, 2) := by decide +kernel
theorem dL_law_829 : decode cL_law 829 = .ok (.iconst 3, 1) := by decide +kernel
theorem dL_law_830 : decode cL_law 830 = .ok (.iadd, 1) := by decide +kernel
theorem dL_law_831 : decode cL_law 831 = .ok (.iaload, 1) := by decide +kernel
theorem dL_law_832 : decode cL_law 832 = .ok (.aload_n 3, 1) := by decide +kernel
theorem dL_law_836 : decode cL_law 836 = .ok (.istore 5, 2) := by decide +kernel
theorem dL_law_838 : decode cL_law 838 = .ok (.aload_n 2, 1) := by decide +kernel
theorem dL_law_839 : decode cL_law 839 = .ok (.aload_n 0, 1) := by decide +kernel
theorem dL_law_840 : decode cL_law 840 = .ok (.iload 4, 2) := by decide +kernel
theorem dL_law_842 : decode cL_law 842 = .ok (.iconst 1, 1) := by decide +kernel
theorem dL_law_843 : decode cL_law 843 = .ok (.iadd, 1) := by decide +kernel
theorem dL_law_844 : decode cL_law 844 = .ok (.iaload, 1) := by decide +kernel
theorem dL_law_845 : decode cL_law 845 = .ok (.aload_n 0, 1) := by decide +kernel
theorem dL_law_846 : decode cL_law 846 = .ok (.iload 4, 2) := by decide +kernel
theorem dL_law_848 : decode cL_law 848 = .ok (.iconst 2, 1) := by decide +kernel
theorem dL_law_849 : decode cL_law 849 = .ok (.iadd, 1) := by decide +kernel
theorem dL_law_850 : decode cL_law 850 = .ok (.iaload, 1) := by decide +kernel
theorem dL_law_851 : decode cL_law 851 = .ok (.aload_n 0, 1) := by decide +kernel
theorem dL_law_852 : decode cL_law 852 = .ok (.iload 4, 2) := by decide +kernel
theorem dL_law_854 : decode cL_law 854 = .ok (.iconst 3, 1) := by decide +kernel
theorem dL_law_855 : decode cL_law 855 = .ok (.iadd, 1) := by decide +kernel
theorem dL_law_856 : decode cL_law 856 = .ok (.iaload, 1) := by decide +kernel
theorem dL_law_860 : decode cL_law 860 = .ok (.istore 6, 2) := by decide +kernel
theorem dL_law_862 : decode cL_law 862 = .ok (.aload_n 2, 1) := by decide +kernel
theorem dL_law_866 : decode cL_law 866 = .ok (.iload 5, 2) := by decide +kernel
theorem dL_law_868 : decode cL_law 868 = .ok (.if_icmp .eq 5, 3) := by decide +kernel
theorem dL_law_873 : decode cL_law 873 = .ok (.iload 5, 2) := by decide +kernel
theorem dL_law_875 : decode cL_law 875 = .ok (.ifCond .ne 15, 3) := by decide +kernel
theorem dL_law_890 : decode cL_law 890 = .ok (.goto 1143, 3) := by decide +kernel
theorem dL_law_878 : decode cL_law 878 = .ok (.aload_n 3, 1) := by decide +kernel
theorem dL_law_879 : decode cL_law 879 = .ok (.iconst 0, 1) := by decide +kernel
theorem dL_law_880 : decode cL_law 880 = .ok (.laload, 1) := by decide +kernel
theorem dL_law_881 : decode cL_law 881 = .ok (.iload 6, 2) := by decide +kernel
theorem dL_law_883 : decode cL_law 883 = .ok (.i2l, 1) := by decide +kernel
theorem dL_law_884 : decode cL_law 884 = .ok (.lcmp, 1) := by decide +kernel
theorem dL_law_885 : decode cL_law 885 = .ok (.ifCond .eq 5, 3) := by decide +kernel
theorem dL_law_888 : decode cL_law 888 = .ok (.iconst 0, 1) := by decide +kernel
theorem dL_law_871 : decode cL_law 871 = .ok (.iconst 0, 1) := by decide +kernel
theorem dL_law_863 : decode cL_law 863 = .ok (.invokevirtual 111, 3) := by decide +kernel
theorem dL_law_857 : decode cL_law 857 = .ok (.invokevirtual 143, 3) := by decide +kernel
theorem dL_law_833 : decode cL_law 833 = .ok (.invokestatic 141, 3) := by decide +kernel
def vl_9 (x : Nat) (m : Nat) (o : Nat) (b : Nat) (T : zT) (F : zF) : Prop :=
  (∃ n1 : Nat, T b = some (104, n1) ∧ vp_in 1 n1 ∧ ∃ x4 : Int32, F b (1).toNatClampNeg = .int x4 ∧ vp_in 2 n1 ∧ ∃ x7 : Int32, F b (2).toNatClampNeg = .int x7 ∧ vp_in 3 n1 ∧ ∃ x10 : Int32, F b (3).toNatClampNeg = .int x10 ∧ (v_L_reason x x4 x7 x10 o T F (fun (r12 : Int32) (F13 : zF) => (vp_in 1 n1 ∧ ∃ x15 : Int32, F13 b (1).toNatClampNeg = .int x15 ∧ vp_in 2 n1 ∧ ∃ x18 : Int32, F13 b (2).toNatClampNeg = .int x18 ∧ vp_in 3 n1 ∧ ∃ x21 : Int32, F13 b (3).toNatClampNeg = .int x21 ∧ T m = some (12, 6) ∧ (v_X9_reason m x15 x18 x21 T F13 (fun (r24 : Int32) (F25 : zF) => (v_X9_thrown m T F25 (fun (r26 : Int32) => ((r26 = r12 → ((¬ r12 = 0 → (∃ L9 : Nat, T b = some (104, L9) ∧ L9 ≤ 7)) ∧ (r12 = 0 → (∃ n27 : Nat, T o = some (103, n27) ∧ vp_in 0 n27 ∧ ∃ x30 : Int64, F25 o (0).toNatClampNeg = .long x30 ∧ (((lg_cmp x30 r24.toInt64) = 0 → (∃ L9 : Nat, T b = some (104, L9) ∧ L9 ≤ 7)) ∧ (¬ (lg_cmp x30 r24.toInt64) = 0 → False)))))) ∧ (¬ r26 = r12 → False))))))))))
set_option maxRecDepth 100000 in
set_option maxHeartbeats 4000000 in
theorem kl_9 {p : Program} {l : Launch} {e : Env} {s : State} {m : MethodId} {below : List Frame} {meth : Method} {c : Code} {D : va_G} {cA : Nat → ClassId} {N0 zE : Nat} {x : Nat} {m : Nat} {o : Nat} {b : Nat} {T : zT} {F : zF} (hr : meth.sig.returnType = ret) (hN0 : N0 = s.heap.size) (C : z_C p l s m #[Value.ref b] meth c RL cL_law 9 ret D cA N0 zE) (h : vl_9 x m o b T F) : z_w p l e room_1 s m #[Value.ref b] below meth c D cA N0 9 20 80 (lw_Z below #[Value.ref b] s) 813 [(4, .int 0), (3, .ref o), (2, .ref m), (1, .ref x), (0, .ref b)] [] T F := by
  unfold vl_9 at h
  refine zr_aload_n C 3 dL_law_813 rfl rfl ?_
  refine zr_aload_n C 4 dL_law_814 rfl rfl ?_
  refine zr_iload C 0 dL_law_815 rfl ?_
  refine zr_iconst C 1 dL_law_817 (by decide) ?_
  refine zr_iadd C dL_law_818 ?_
  refine zr_eqi (y := 1) (by decide) ?_
  obtain ⟨n1, hT2, hi3, x4, hv5, h⟩ := h
  refine zr_iald4 C rfl hT2 hi3 hv5 dL_law_819 ?_
  refine zr_aload_n C 4 dL_law_820 rfl rfl ?_
  refine zr_iload C 0 dL_law_821 rfl ?_
  refine zr_iconst C 2 dL_law_823 (by decide) ?_
  refine zr_iadd C dL_law_824 ?_
  refine zr_eqi (y := 2) (by decide) ?_
  obtain ⟨hi6, x7, hv8, h⟩ := h
  refine zr_iald4 C rfl hT2 hi6 hv8 dL_law_825 ?_
  refine zr_aload_n C 4 dL_law_826 rfl rfl ?_
  refine zr_iload C 0 dL_law_827 rfl ?_
  refine zr_iconst C 3 dL_law_829 (by decide) ?_
  refine zr_iadd C dL_law_830 ?_
  refine zr_eqi (y := 3) (by decide) ?_
  obtain ⟨hi9, x10, hv11, h⟩ := h
  refine zr_iald4 C rfl hT2 hi9 hv11 dL_law_831 ?_
  refine zr_aload_n C 1 dL_law_832 rfl rfl ?_
  refine zr_callSH (As := [.ref x, .int x4, .int x7, .int x10, .ref o]) C (k_L_reason h) ok_L_141 zq_793 rfl ⟨by decide, (Nat.le_of_ble_eq_true rfl)⟩ ⟨(Nat.le_of_ble_eq_true rfl), (Nat.le_of_ble_eq_true rfl)⟩ (Nat.le_of_ble_eq_true rfl) dL_law_833 (fun v38 U39 G40 hq => ?_)
  clear h
  · obtain ⟨r12, rfl, rfl, h⟩ := hq
    refine zr_istore C [(5, .int r12), (4, .int 0), (3, .ref o), (2, .ref m), (1, .ref x), (0, .ref b)] dL_law_836 (by decide) rfl ?_
    refine zr_aload_n C 3 dL_law_838 rfl rfl ?_
    refine zr_aload_n C 5 dL_law_839 rfl rfl ?_
    refine zr_iload C 1 dL_law_840 rfl ?_
    refine zr_iconst C 1 dL_law_842 (by decide) ?_
    refine zr_iadd C dL_law_843 ?_
    refine zr_eqi (y := 1) (by decide) ?_
    obtain ⟨hi14, x15, hv16, h⟩ := h
    refine zr_iald4 C rfl hT2 hi14 hv16 dL_law_844 ?_
    refine zr_aload_n C 5 dL_law_845 rfl rfl ?_
    refine zr_iload C 1 dL_law_846 rfl ?_
    refine zr_iconst C 2 dL_law_848 (by decide) ?_
    refine zr_iadd C dL_law_849 ?_
    refine zr_eqi (y := 2) (by decide) ?_
    obtain ⟨hi17, x18, hv19, h⟩ := h
    refine zr_iald4 C rfl hT2 hi17 hv19 dL_law_850 ?_
    refine zr_aload_n C 5 dL_law_851 rfl rfl ?_
    refine zr_iload C 1 dL_law_852 rfl ?_
    refine zr_iconst C 3 dL_law_854 (by decide) ?_
    refine zr_iadd C dL_law_855 ?_
    refine zr_eqi (y := 3) (by decide) ?_
    obtain ⟨hi20, x21, hv22, h⟩ := h
    refine zr_iald4 C rfl hT2 hi20 hv22 dL_law_856 ?_
    obtain ⟨hT23, h⟩ := h
    refine zr_callV (As := [.int x15, .int x18, .int x21]) (r := (RX9, TX9, 6)) C (k_X9_reason h) ok_L_143 zq_1253 zq_1254 hT23 (by decide) rfl rfl ⟨by decide, (Nat.le_of_ble_eq_true rfl)⟩ ⟨(Nat.le_of_ble_eq_true rfl), (Nat.le_of_ble_eq_true rfl)⟩ (Nat.le_of_ble_eq_true rfl) dL_law_857 (fun v35 U36 G37 hq => ?_)
    clear h
    · obtain ⟨r24, rfl, rfl, h⟩ := hq
      refine zr_istore C [(6, .int r24), (5, .int r12), (4, .int 0), (3, .ref o), (2, .ref m), (1, .ref x), (0, .ref b)] dL_law_860 (by decide) rfl ?_
      refine zr_aload_n C 4 dL_law_862 rfl rfl ?_
      refine zr_callV (As := []) (r := (RX9, TX9, 6)) C (k_X9_thrown h) ok_L_111 zq_975 zq_976 hT23 (by decide) rfl rfl ⟨by decide, (Nat.le_of_ble_eq_true rfl)⟩ ⟨(Nat.le_of_ble_eq_true rfl), (Nat.le_of_ble_eq_true rfl)⟩ (Nat.le_of_ble_eq_true rfl) dL_law_863 (fun v32 U33 G34 hq => ?_)
      clear h
      · obtain ⟨r26, rfl, rfl, rfl, h⟩ := hq
        refine zr_iload C 1 dL_law_866 rfl ?_
        obtain ⟨h1, h2⟩ := h
        refine zr_icmp_eq C 873 dL_law_868 (by decide) (fun hc => ?_) (fun hc => ?_)
        · have h := h1 hc
          clear h1 h2
          refine zr_iload C 1 dL_law_873 rfl ?_
          obtain ⟨h1, h2⟩ := h
          refine zr_if_ne C 890 dL_law_875 (by decide) (fun hc => ?_) (fun hc => ?_)
          · have h := h1 hc
            clear h1 h2
            refine zr_goto C 2033 dL_law_890 (by decide) ?_
            exact zr_sub [2, 6] rfl (kl_end hr hN0 C (Nat.le_of_ble_eq_true rfl) (Nat.le_of_ble_eq_true rfl) h)
          · have h := h2 hc
            clear h1 h2
            refine zr_aload_n C 3 dL_law_878 rfl rfl ?_
            refine zr_iconst C 0 dL_law_879 (by decide) ?_
            obtain ⟨n27, hT28, hi29, x30, hv31, h⟩ := h
            refine zr_lald C rfl hT28 hi29 hv31 dL_law_880 ?_
            refine zr_iload C 0 dL_law_881 rfl ?_
            refine zr_i2l C dL_law_883 ?_
            refine zr_lcmp C dL_law_884 ?_
            obtain ⟨h1, h2⟩ := h
            refine zr_if_eq C 890 dL_law_885 (by decide) (fun hc => ?_) (fun hc => ?_)
            · have h := h1 hc
              clear h1 h2
              refine zr_goto C 2033 dL_law_890 (by decide) ?_
              exact zr_sub [2, 6] rfl (kl_end hr hN0 C (Nat.le_of_ble_eq_true rfl) (Nat.le_of_ble_eq_true rfl) h)
            · have h := h2 hc
              clear h1 h2
              refine zr_iconst C 0 dL_law_888 (by decide) ?_
              exact h.elim
        · have h := h2 hc
          clear h1 h2
          refine zr_iconst C 0 dL_law_871 (by decide) ?_
          exact h.elim
theorem dL_law_893 : decode cL_law 893 = .ok (.aload_n 1, 1) := by decide +kernel
theorem dL_law_894 : decode cL_law 894 = .ok (.aload_n 0, 1) := by decide +kernel
theorem dL_law_895 : decode cL_law 895 = .ok (.iload 4, 2) := by decide +kernel
theorem dL_law_897 : decode cL_law 897 = .ok (.iconst 1, 1) := by decide +kernel
theorem dL_law_898 : decode cL_law 898 = .ok (.iadd, 1) := by decide +kernel
theorem dL_law_899 : decode cL_law 899 = .ok (.iaload, 1) := by decide +kernel
theorem dL_law_900 : decode cL_law 900 = .ok (.aload_n 0, 1) := by decide +kernel
theorem dL_law_901 : decode cL_law 901 = .ok (.iload 4, 2) := by decide +kernel
theorem dL_law_903 : decode cL_law 903 = .ok (.iconst 2, 1) := by decide +kernel
theorem dL_law_904 : decode cL_law 904 = .ok (.iadd, 1) := by decide +kernel
theorem dL_law_905 : decode cL_law 905 = .ok (.iaload, 1) := by decide +kernel
theorem dL_law_906 : decode cL_law 906 = .ok (.aload_n 0, 1) := by decide +kernel
theorem dL_law_907 : decode cL_law 907 = .ok (.iload 4, 2) := by decide +kernel
theorem dL_law_909 : decode cL_law 909 = .ok (.iconst 3, 1) := by decide +kernel
theorem dL_law_910 : decode cL_law 910 = .ok (.iadd, 1) := by decide +kernel
theorem dL_law_911 : decode cL_law 911 = .ok (.iaload, 1) := by decide +kernel
theorem dL_law_912 : decode cL_law 912 = .ok (.aload_n 3, 1) := by decide +kernel
theorem dL_law_916 : decode cL_law 916 = .ok (.istore 5, 2) := by decide +kernel
theorem dL_law_918 : decode cL_law 918 = .ok (.aload_n 2, 1) := by decide +kernel
theorem dL_law_919 : decode cL_law 919 = .ok (.aload_n 0, 1) := by decide +kernel
theorem dL_law_920 : decode cL_law 920 = .ok (.iload 4, 2) := by decide +kernel
theorem dL_law_922 : decode cL_law 922 = .ok (.iconst 1, 1) := by decide +kernel
theorem dL_law_923 : decode cL_law 923 = .ok (.iadd, 1) := by decide +kernel
theorem dL_law_924 : decode cL_law 924 = .ok (.iaload, 1) := by decide +kernel
theorem dL_law_925 : decode cL_law 925 = .ok (.aload_n 0, 1) := by decide +kernel
theorem dL_law_926 : decode cL_law 926 = .ok (.iload 4, 2) := by decide +kernel
theorem dL_law_928 : decode cL_law 928 = .ok (.iconst 2, 1) := by decide +kernel
theorem dL_law_929 : decode cL_law 929 = .ok (.iadd, 1) := by decide +kernel
theorem dL_law_930 : decode cL_law 930 = .ok (.iaload, 1) := by decide +kernel
theorem dL_law_931 : decode cL_law 931 = .ok (.aload_n 0, 1) := by decide +kernel
theorem dL_law_932 : decode cL_law 932 = .ok (.iload 4, 2) := by decide +kernel
theorem dL_law_934 : decode cL_law 934 = .ok (.iconst 3, 1) := by decide +kernel
theorem dL_law_935 : decode cL_law 935 = .ok (.iadd, 1) := by decide +kernel
theorem dL_law_936 : decode cL_law 936 = .ok (.iaload, 1) := by decide +kernel
theorem dL_law_940 : decode cL_law 940 = .ok (.istore 6, 2) := by decide +kernel
theorem dL_law_942 : decode cL_law 942 = .ok (.aload_n 2, 1) := by decide +kernel
theorem dL_law_946 : decode cL_law 946 = .ok (.iload 5, 2) := by decide +kernel
theorem dL_law_948 : decode cL_law 948 = .ok (.if_icmp .eq 5, 3) := by decide +kernel
theorem dL_law_953 : decode cL_law 953 = .ok (.iload 5, 2) := by decide +kernel
theorem dL_law_955 : decode cL_law 955 = .ok (.ifCond .ne 22, 3) := by decide +kernel
theorem dL_law_977 : decode cL_law 977 = .ok (.goto 1056, 3) := by decide +kernel
theorem dL_law_958 : decode cL_law 958 = .ok (.aload_n 3, 1) := by decide +kernel
theorem dL_law_959 : decode cL_law 959 = .ok (.iconst 0, 1) := by decide +kernel
theorem dL_law_960 : decode cL_law 960 = .ok (.laload, 1) := by decide +kernel
theorem dL_law_961 : decode cL_law 961 = .ok (.iload 6, 2) := by decide +kernel
theorem dL_law_963 : decode cL_law 963 = .ok (.ifCond .eq 7, 3) := by decide +kernel
theorem dL_law_970 : decode cL_law 970 = .ok (.lconst 0, 1) := by decide +kernel
theorem dL_law_971 : decode cL_law 971 = .ok (.lcmp, 1) := by decide +kernel
theorem dL_law_972 : decode cL_law 972 = .ok (.ifCond .eq 5, 3) := by decide +kernel
theorem dL_law_975 : decode cL_law 975 = .ok (.iconst 0, 1) := by decide +kernel
theorem dL_law_966 : decode cL_law 966 = .ok (.lconst 1, 1) := by decide +kernel
theorem dL_law_967 : decode cL_law 967 = .ok (.goto 4, 3) := by decide +kernel
theorem dL_law_951 : decode cL_law 951 = .ok (.iconst 0, 1) := by decide +kernel
theorem dL_law_943 : decode cL_law 943 = .ok (.invokevirtual 111, 3) := by decide +kernel
theorem dL_law_937 : decode cL_law 937 = .ok (.invokevirtual 146, 3) := by decide +kernel
theorem dL_law_913 : decode cL_law 913 = .ok (.invokestatic 144, 3) := by decide +kernel
def vl_10 (x : Nat) (m : Nat) (o : Nat) (b : Nat) (T : zT) (F : zF) : Prop :=
  (∃ n1 : Nat, T b = some (104, n1) ∧ vp_in 1 n1 ∧ ∃ x4 : Int32, F b (1).toNatClampNeg = .int x4 ∧ vp_in 2 n1 ∧ ∃ x7 : Int32, F b (2).toNatClampNeg = .int x7 ∧ vp_in 3 n1 ∧ ∃ x10 : Int32, F b (3).toNatClampNeg = .int x10 ∧ (v_L_isFit x x4 x7 x10 o T F (fun (r12 : Int32) (F13 : zF) => (vp_in 1 n1 ∧ ∃ x15 : Int32, F13 b (1).toNatClampNeg = .int x15 ∧ vp_in 2 n1 ∧ ∃ x18 : Int32, F13 b (2).toNatClampNeg = .int x18 ∧ vp_in 3 n1 ∧ ∃ x21 : Int32, F13 b (3).toNatClampNeg = .int x21 ∧ T m = some (12, 6) ∧ (v_X9_isFit m x15 x18 x21 T F13 (fun (r24 : Int32) (F25 : zF) => (v_X9_thrown m T F25 (fun (r26 : Int32) => ((r26 = r12 → ((¬ r12 = 0 → (∃ L9 : Nat, T b = some (104, L9) ∧ L9 ≤ 7)) ∧ (r12 = 0 → (∃ n27 : Nat, T o = some (103, n27) ∧ vp_in 0 n27 ∧ ∃ x30 : Int64, F25 o (0).toNatClampNeg = .long x30 ∧ ((r24 = 0 → (((lg_cmp x30 0) = 0 → (∃ L9 : Nat, T b = some (104, L9) ∧ L9 ≤ 7)) ∧ (¬ (lg_cmp x30 0) = 0 → False))) ∧ (¬ r24 = 0 → (((lg_cmp x30 1) = 0 → (∃ L9 : Nat, T b = some (104, L9) ∧ L9 ≤ 7)) ∧ (¬ (lg_cmp x30 1) = 0 → False)))))))) ∧ (¬ r26 = r12 → False))))))))))
set_option maxRecDepth 100000 in
set_option maxHeartbeats 4000000 in
theorem kl_10 {p : Program} {l : Launch} {e : Env} {s : State} {m : MethodId} {below : List Frame} {meth : Method} {c : Code} {D : va_G} {cA : Nat → ClassId} {N0 zE : Nat} {x : Nat} {m : Nat} {o : Nat} {b : Nat} {T : zT} {F : zF} (hr : meth.sig.returnType = ret) (hN0 : N0 = s.heap.size) (C : z_C p l s m #[Value.ref b] meth c RL cL_law 9 ret D cA N0 zE) (h : vl_10 x m o b T F) : z_w p l e room_1 s m #[Value.ref b] below meth c D cA N0 9 20 80 (lw_Z below #[Value.ref b] s) 893 [(4, .int 0), (3, .ref o), (2, .ref m), (1, .ref x), (0, .ref b)] [] T F := by
  unfold vl_10 at h
  refine zr_aload_n C 3 dL_law_893 rfl rfl ?_
  refine zr_aload_n C 4 dL_law_894 rfl rfl ?_
  refine zr_iload C 0 dL_law_895 rfl ?_
  refine zr_iconst C 1 dL_law_897 (by decide) ?_
  refine zr_iadd C dL_law_898 ?_
  refine zr_eqi (y := 1) (by decide) ?_
  obtain ⟨n1, hT2, hi3, x4, hv5, h⟩ := h
  refine zr_iald4 C rfl hT2 hi3 hv5 dL_law_899 ?_
  refine zr_aload_n C 4 dL_law_900 rfl rfl ?_
  refine zr_iload C 0 dL_law_901 rfl ?_
  refine zr_iconst C 2 dL_law_903 (by decide) ?_
  refine zr_iadd C dL_law_904 ?_
  refine zr_eqi (y := 2) (by decide) ?_
  obtain ⟨hi6, x7, hv8, h⟩ := h
  refine zr_iald4 C rfl hT2 hi6 hv8 dL_law_905 ?_
  refine zr_aload_n C 4 dL_law_906 rfl rfl ?_
  refine zr_iload C 0 dL_law_907 rfl ?_
  refine zr_iconst C 3 dL_law_909 (by decide) ?_
  refine zr_iadd C dL_law_910 ?_
  refine zr_eqi (y := 3) (by decide) ?_
  obtain ⟨hi9, x10, hv11, h⟩ := h
  refine zr_iald4 C rfl hT2 hi9 hv11 dL_law_911 ?_
  refine zr_aload_n C 1 dL_law_912 rfl rfl ?_
  refine zr_callSH (As := [.ref x, .int x4, .int x7, .int x10, .ref o]) C (k_L_isFit h) ok_L_144 zq_797 rfl ⟨by decide, (Nat.le_of_ble_eq_true rfl)⟩ ⟨(Nat.le_of_ble_eq_true rfl), (Nat.le_of_ble_eq_true rfl)⟩ (Nat.le_of_ble_eq_true rfl) dL_law_913 (fun v38 U39 G40 hq => ?_)
  clear h
  · obtain ⟨r12, rfl, rfl, h⟩ := hq
    refine zr_istore C [(5, .int r12), (4, .int 0), (3, .ref o), (2, .ref m), (1, .ref x), (0, .ref b)] dL_law_916 (by decide) rfl ?_
    refine zr_aload_n C 3 dL_law_918 rfl rfl ?_
    refine zr_aload_n C 5 dL_law_919 rfl rfl ?_
    refine zr_iload C 1 dL_law_920 rfl ?_
    refine zr_iconst C 1 dL_law_922 (by decide) ?_
    refine zr_iadd C dL_law_923 ?_
    refine zr_eqi (y := 1) (by decide) ?_
    obtain ⟨hi14, x15, hv16, h⟩ := h
    refine zr_iald4 C rfl hT2 hi14 hv16 dL_law_924 ?_
    refine zr_aload_n C 5 dL_law_925 rfl rfl ?_
    refine zr_iload C 1 dL_law_926 rfl ?_
    refine zr_iconst C 2 dL_law_928 (by decide) ?_
    refine zr_iadd C dL_law_929 ?_
    refine zr_eqi (y := 2) (by decide) ?_
    obtain ⟨hi17, x18, hv19, h⟩ := h
    refine zr_iald4 C rfl hT2 hi17 hv19 dL_law_930 ?_
    refine zr_aload_n C 5 dL_law_931 rfl rfl ?_
    refine zr_iload C 1 dL_law_932 rfl ?_
    refine zr_iconst C 3 dL_law_934 (by decide) ?_
    refine zr_iadd C dL_law_935 ?_
    refine zr_eqi (y := 3) (by decide) ?_
    obtain ⟨hi20, x21, hv22, h⟩ := h
    refine zr_iald4 C rfl hT2 hi20 hv22 dL_law_936 ?_
    obtain ⟨hT23, h⟩ := h
    refine zr_callV (As := [.int x15, .int x18, .int x21]) (r := (RX9, TX9, 6)) C (k_X9_isFit h) ok_L_146 zq_1268 zq_1269 hT23 (by decide) rfl rfl ⟨by decide, (Nat.le_of_ble_eq_true rfl)⟩ ⟨(Nat.le_of_ble_eq_true rfl), (Nat.le_of_ble_eq_true rfl)⟩ (Nat.le_of_ble_eq_true rfl) dL_law_937 (fun v35 U36 G37 hq => ?_)
    clear h
    · obtain ⟨r24, rfl, rfl, h⟩ := hq
      refine zr_istore C [(6, .int r24), (5, .int r12), (4, .int 0), (3, .ref o), (2, .ref m), (1, .ref x), (0, .ref b)] dL_law_940 (by decide) rfl ?_
      refine zr_aload_n C 4 dL_law_942 rfl rfl ?_
      refine zr_callV (As := []) (r := (RX9, TX9, 6)) C (k_X9_thrown h) ok_L_111 zq_975 zq_976 hT23 (by decide) rfl rfl ⟨by decide, (Nat.le_of_ble_eq_true rfl)⟩ ⟨(Nat.le_of_ble_eq_true rfl), (Nat.le_of_ble_eq_true rfl)⟩ (Nat.le_of_ble_eq_true rfl) dL_law_943 (fun v32 U33 G34 hq => ?_)
      clear h
      · obtain ⟨r26, rfl, rfl, rfl, h⟩ := hq
        refine zr_iload C 1 dL_law_946 rfl ?_
        obtain ⟨h1, h2⟩ := h
        refine zr_icmp_eq C 953 dL_law_948 (by decide) (fun hc => ?_) (fun hc => ?_)
        · have h := h1 hc
          clear h1 h2
          refine zr_iload C 1 dL_law_953 rfl ?_
          obtain ⟨h1, h2⟩ := h
          refine zr_if_ne C 977 dL_law_955 (by decide) (fun hc => ?_) (fun hc => ?_)
          · have h := h1 hc
            clear h1 h2
            refine zr_goto C 2033 dL_law_977 (by decide) ?_
            exact zr_sub [2, 6] rfl (kl_end hr hN0 C (Nat.le_of_ble_eq_true rfl) (Nat.le_of_ble_eq_true rfl) h)
          · have h := h2 hc
            clear h1 h2
            refine zr_aload_n C 3 dL_law_958 rfl rfl ?_
            refine zr_iconst C 0 dL_law_959 (by decide) ?_
            obtain ⟨n27, hT28, hi29, x30, hv31, h⟩ := h
            refine zr_lald C rfl hT28 hi29 hv31 dL_law_960 ?_
            refine zr_iload C 0 dL_law_961 rfl ?_
            obtain ⟨h1, h2⟩ := h
            refine zr_if_eq C 970 dL_law_963 (by decide) (fun hc => ?_) (fun hc => ?_)
            · have h := h1 hc
              clear h1 h2
              refine zr_lconst C 0 dL_law_970 (by decide) ?_
              refine zr_lcmp C dL_law_971 ?_
              obtain ⟨h1, h2⟩ := h
              refine zr_if_eq C 977 dL_law_972 (by decide) (fun hc => ?_) (fun hc => ?_)
              · have h := h1 hc
                clear h1 h2
                refine zr_goto C 2033 dL_law_977 (by decide) ?_
                exact zr_sub [2, 6] rfl (kl_end hr hN0 C (Nat.le_of_ble_eq_true rfl) (Nat.le_of_ble_eq_true rfl) h)
              · have h := h2 hc
                clear h1 h2
                refine zr_iconst C 0 dL_law_975 (by decide) ?_
                exact h.elim
            · have h := h2 hc
              clear h1 h2
              refine zr_lconst C 1 dL_law_966 (by decide) ?_
              refine zr_goto C 971 dL_law_967 (by decide) ?_
              refine zr_lcmp C dL_law_971 ?_
              obtain ⟨h1, h2⟩ := h
              refine zr_if_eq C 977 dL_law_972 (by decide) (fun hc => ?_) (fun hc => ?_)
              · have h := h1 hc
                clear h1 h2
                refine zr_goto C 2033 dL_law_977 (by decide) ?_
                exact zr_sub [2, 6] rfl (kl_end hr hN0 C (Nat.le_of_ble_eq_true rfl) (Nat.le_of_ble_eq_true rfl) h)
              · have h := h2 hc
                clear h1 h2
                refine zr_iconst C 0 dL_law_975 (by decide) ?_
                exact h.elim
        · have h := h2 hc
          clear h1 h2
          refine zr_iconst C 0 dL_law_951 (by decide) ?_
          exact h.elim
theorem dL_law_980 : decode cL_law 980 = .ok (.aload_n 1, 1) := by decide +kernel
theorem dL_law_981 : decode cL_law 981 = .ok (.aload_n 0, 1) := by decide +kernel
theorem dL_law_982 : decode cL_law 982 = .ok (.iload 4, 2) := by decide +kernel
theorem dL_law_984 : decode cL_law 984 = .ok (.iconst 1, 1) := by decide +kernel
theorem dL_law_985 : decode cL_law 985 = .ok (.iadd, 1) := by decide +kernel
theorem dL_law_986 : decode cL_law 986 = .ok (.iaload, 1) := by decide +kernel
theorem dL_law_987 : decode cL_law 987 = .ok (.aload_n 0, 1) := by decide +kernel
theorem dL_law_988 : decode cL_law 988 = .ok (.iload 4, 2) := by decide +kernel
theorem dL_law_990 : decode cL_law 990 = .ok (.iconst 2, 1) := by decide +kernel
theorem dL_law_991 : decode cL_law 991 = .ok (.iadd, 1) := by decide +kernel
theorem dL_law_992 : decode cL_law 992 = .ok (.iaload, 1) := by decide +kernel
theorem dL_law_993 : decode cL_law 993 = .ok (.aload_n 3, 1) := by decide +kernel
theorem dL_law_997 : decode cL_law 997 = .ok (.istore 5, 2) := by decide +kernel
theorem dL_law_999 : decode cL_law 999 = .ok (.aload_n 2, 1) := by decide +kernel
theorem dL_law_1000 : decode cL_law 1000 = .ok (.aload_n 0, 1) := by decide +kernel
theorem dL_law_1001 : decode cL_law 1001 = .ok (.iload 4, 2) := by decide +kernel
theorem dL_law_1003 : decode cL_law 1003 = .ok (.iconst 1, 1) := by decide +kernel
theorem dL_law_1004 : decode cL_law 1004 = .ok (.iadd, 1) := by decide +kernel
theorem dL_law_1005 : decode cL_law 1005 = .ok (.iaload, 1) := by decide +kernel
theorem dL_law_1006 : decode cL_law 1006 = .ok (.aload_n 0, 1) := by decide +kernel
theorem dL_law_1007 : decode cL_law 1007 = .ok (.iload 4, 2) := by decide +kernel
theorem dL_law_1009 : decode cL_law 1009 = .ok (.iconst 2, 1) := by decide +kernel
theorem dL_law_1010 : decode cL_law 1010 = .ok (.iadd, 1) := by decide +kernel
theorem dL_law_1011 : decode cL_law 1011 = .ok (.iaload, 1) := by decide +kernel
theorem dL_law_1015 : decode cL_law 1015 = .ok (.istore 6, 2) := by decide +kernel
theorem dL_law_1017 : decode cL_law 1017 = .ok (.aload_n 2, 1) := by decide +kernel
theorem dL_law_1021 : decode cL_law 1021 = .ok (.iload 5, 2) := by decide +kernel
theorem dL_law_1023 : decode cL_law 1023 = .ok (.if_icmp .eq 5, 3) := by decide +kernel
theorem dL_law_1028 : decode cL_law 1028 = .ok (.iload 5, 2) := by decide +kernel
theorem dL_law_1030 : decode cL_law 1030 = .ok (.ifCond .ne 15, 3) := by decide +kernel
theorem dL_law_1045 : decode cL_law 1045 = .ok (.goto 988, 3) := by decide +kernel
theorem dL_law_1033 : decode cL_law 1033 = .ok (.aload_n 3, 1) := by decide +kernel
theorem dL_law_1034 : decode cL_law 1034 = .ok (.iconst 0, 1) := by decide +kernel
theorem dL_law_1035 : decode cL_law 1035 = .ok (.laload, 1) := by decide +kernel
theorem dL_law_1036 : decode cL_law 1036 = .ok (.iload 6, 2) := by decide +kernel
theorem dL_law_1038 : decode cL_law 1038 = .ok (.i2l, 1) := by decide +kernel
theorem dL_law_1039 : decode cL_law 1039 = .ok (.lcmp, 1) := by decide +kernel
theorem dL_law_1040 : decode cL_law 1040 = .ok (.ifCond .eq 5, 3) := by decide +kernel
theorem dL_law_1043 : decode cL_law 1043 = .ok (.iconst 0, 1) := by decide +kernel
theorem dL_law_1026 : decode cL_law 1026 = .ok (.iconst 0, 1) := by decide +kernel
theorem dL_law_1018 : decode cL_law 1018 = .ok (.invokevirtual 111, 3) := by decide +kernel
theorem dL_law_1012 : decode cL_law 1012 = .ok (.invokevirtual 149, 3) := by decide +kernel
theorem dL_law_994 : decode cL_law 994 = .ok (.invokestatic 147, 3) := by decide +kernel
def vl_11 (x : Nat) (m : Nat) (o : Nat) (b : Nat) (T : zT) (F : zF) : Prop :=
  (∃ n1 : Nat, T b = some (104, n1) ∧ vp_in 1 n1 ∧ ∃ x4 : Int32, F b (1).toNatClampNeg = .int x4 ∧ vp_in 2 n1 ∧ ∃ x7 : Int32, F b (2).toNatClampNeg = .int x7 ∧ (v_L_ofPiece x x4 x7 o T F (fun (r9 : Int32) (F10 : zF) => (vp_in 1 n1 ∧ ∃ x12 : Int32, F10 b (1).toNatClampNeg = .int x12 ∧ vp_in 2 n1 ∧ ∃ x15 : Int32, F10 b (2).toNatClampNeg = .int x15 ∧ T m = some (12, 6) ∧ (v_X9_ofPiece m x12 x15 T F10 (fun (r18 : Int32) (F19 : zF) => (v_X9_thrown m T F19 (fun (r20 : Int32) => ((r20 = r9 → ((¬ r9 = 0 → (∃ L9 : Nat, T b = some (104, L9) ∧ L9 ≤ 7)) ∧ (r9 = 0 → (∃ n21 : Nat, T o = some (103, n21) ∧ vp_in 0 n21 ∧ ∃ x24 : Int64, F19 o (0).toNatClampNeg = .long x24 ∧ (((lg_cmp x24 r18.toInt64) = 0 → (∃ L9 : Nat, T b = some (104, L9) ∧ L9 ≤ 7)) ∧ (¬ (lg_cmp x24 r18.toInt64) = 0 → False)))))) ∧ (¬ r20 = r9 → False))))))))))
set_option maxRecDepth 100000 in
set_option maxHeartbeats 4000000 in
theorem kl_11 {p : Program} {l : Launch} {e : Env} {s : State} {m : MethodId} {below : List Frame} {meth : Method} {c : Code} {D : va_G} {cA : Nat → ClassId} {N0 zE : Nat} {x : Nat} {m : Nat} {o : Nat} {b : Nat} {T : zT} {F : zF} (hr : meth.sig.returnType = ret) (hN0 : N0 = s.heap.size) (C : z_C p l s m #[Value.ref b] meth c RL cL_law 9 ret D cA N0 zE) (h : vl_11 x m o b T F) : z_w p l e room_1 s m #[Value.ref b] below meth c D cA N0 9 20 80 (lw_Z below #[Value.ref b] s) 980 [(4, .int 0), (3, .ref o), (2, .ref m), (1, .ref x), (0, .ref b)] [] T F := by
  unfold vl_11 at h
  refine zr_aload_n C 3 dL_law_980 rfl rfl ?_
  refine zr_aload_n C 4 dL_law_981 rfl rfl ?_
  refine zr_iload C 0 dL_law_982 rfl ?_
  refine zr_iconst C 1 dL_law_984 (by decide) ?_
  refine zr_iadd C dL_law_985 ?_
  refine zr_eqi (y := 1) (by decide) ?_
  obtain ⟨n1, hT2, hi3, x4, hv5, h⟩ := h
  refine zr_iald4 C rfl hT2 hi3 hv5 dL_law_986 ?_
  refine zr_aload_n C 4 dL_law_987 rfl rfl ?_
  refine zr_iload C 0 dL_law_988 rfl ?_
  refine zr_iconst C 2 dL_law_990 (by decide) ?_
  refine zr_iadd C dL_law_991 ?_
  refine zr_eqi (y := 2) (by decide) ?_
  obtain ⟨hi6, x7, hv8, h⟩ := h
  refine zr_iald4 C rfl hT2 hi6 hv8 dL_law_992 ?_
  refine zr_aload_n C 1 dL_law_993 rfl rfl ?_
  refine zr_callSH (As := [.ref x, .int x4, .int x7, .ref o]) C (k_L_ofPiece h) ok_L_147 zq_804 rfl ⟨by decide, (Nat.le_of_ble_eq_true rfl)⟩ ⟨(Nat.le_of_ble_eq_true rfl), (Nat.le_of_ble_eq_true rfl)⟩ (Nat.le_of_ble_eq_true rfl) dL_law_994 (fun v32 U33 G34 hq => ?_)
  clear h
  · obtain ⟨r9, rfl, rfl, h⟩ := hq
    refine zr_istore C [(5, .int r9), (4, .int 0), (3, .ref o), (2, .ref m), (1, .ref x), (0, .ref b)] dL_law_997 (by decide) rfl ?_
    refine zr_aload_n C 3 dL_law_999 rfl rfl ?_
    refine zr_aload_n C 5 dL_law_1000 rfl rfl ?_
    refine zr_iload C 1 dL_law_1001 rfl ?_
    refine zr_iconst C 1 dL_law_1003 (by decide) ?_
    refine zr_iadd C dL_law_1004 ?_
    refine zr_eqi (y := 1) (by decide) ?_
    obtain ⟨hi11, x12, hv13, h⟩ := h
    refine zr_iald4 C rfl hT2 hi11 hv13 dL_law_1005 ?_
    refine zr_aload_n C 5 dL_law_1006 rfl rfl ?_
    refine zr_iload C 1 dL_law_1007 rfl ?_
    refine zr_iconst C 2 dL_law_1009 (by decide) ?_
    refine zr_iadd C dL_law_1010 ?_
    refine zr_eqi (y := 2) (by decide) ?_
    obtain ⟨hi14, x15, hv16, h⟩ := h
    refine zr_iald4 C rfl hT2 hi14 hv16 dL_law_1011 ?_
    obtain ⟨hT17, h⟩ := h
    refine zr_callV (As := [.int x12, .int x15]) (r := (RX9, TX9, 6)) C (k_X9_ofPiece h) ok_L_149 zq_1272 zq_1273 hT17 (by decide) rfl rfl ⟨by decide, (Nat.le_of_ble_eq_true rfl)⟩ ⟨(Nat.le_of_ble_eq_true rfl), (Nat.le_of_ble_eq_true rfl)⟩ (Nat.le_of_ble_eq_true rfl) dL_law_1012 (fun v29 U30 G31 hq => ?_)
    clear h
    · obtain ⟨r18, rfl, rfl, h⟩ := hq
      refine zr_istore C [(6, .int r18), (5, .int r9), (4, .int 0), (3, .ref o), (2, .ref m), (1, .ref x), (0, .ref b)] dL_law_1015 (by decide) rfl ?_
      refine zr_aload_n C 4 dL_law_1017 rfl rfl ?_
      refine zr_callV (As := []) (r := (RX9, TX9, 6)) C (k_X9_thrown h) ok_L_111 zq_975 zq_976 hT17 (by decide) rfl rfl ⟨by decide, (Nat.le_of_ble_eq_true rfl)⟩ ⟨(Nat.le_of_ble_eq_true rfl), (Nat.le_of_ble_eq_true rfl)⟩ (Nat.le_of_ble_eq_true rfl) dL_law_1018 (fun v26 U27 G28 hq => ?_)
      clear h
      · obtain ⟨r20, rfl, rfl, rfl, h⟩ := hq
        refine zr_iload C 1 dL_law_1021 rfl ?_
        obtain ⟨h1, h2⟩ := h
        refine zr_icmp_eq C 1028 dL_law_1023 (by decide) (fun hc => ?_) (fun hc => ?_)
        · have h := h1 hc
          clear h1 h2
          refine zr_iload C 1 dL_law_1028 rfl ?_
          obtain ⟨h1, h2⟩ := h
          refine zr_if_ne C 1045 dL_law_1030 (by decide) (fun hc => ?_) (fun hc => ?_)
          · have h := h1 hc
            clear h1 h2
            refine zr_goto C 2033 dL_law_1045 (by decide) ?_
            exact zr_sub [2, 6] rfl (kl_end hr hN0 C (Nat.le_of_ble_eq_true rfl) (Nat.le_of_ble_eq_true rfl) h)
          · have h := h2 hc
            clear h1 h2
            refine zr_aload_n C 3 dL_law_1033 rfl rfl ?_
            refine zr_iconst C 0 dL_law_1034 (by decide) ?_
            obtain ⟨n21, hT22, hi23, x24, hv25, h⟩ := h
            refine zr_lald C rfl hT22 hi23 hv25 dL_law_1035 ?_
            refine zr_iload C 0 dL_law_1036 rfl ?_
            refine zr_i2l C dL_law_1038 ?_
            refine zr_lcmp C dL_law_1039 ?_
            obtain ⟨h1, h2⟩ := h
            refine zr_if_eq C 1045 dL_law_1040 (by decide) (fun hc => ?_) (fun hc => ?_)
            · have h := h1 hc
              clear h1 h2
              refine zr_goto C 2033 dL_law_1045 (by decide) ?_
              exact zr_sub [2, 6] rfl (kl_end hr hN0 C (Nat.le_of_ble_eq_true rfl) (Nat.le_of_ble_eq_true rfl) h)
            · have h := h2 hc
              clear h1 h2
              refine zr_iconst C 0 dL_law_1043 (by decide) ?_
              exact h.elim
        · have h := h2 hc
          clear h1 h2
          refine zr_iconst C 0 dL_law_1026 (by decide) ?_
          exact h.elim
theorem dL_law_1048 : decode cL_law 1048 = .ok (.aload_n 1, 1) := by decide +kernel
theorem dL_law_1049 : decode cL_law 1049 = .ok (.aload_n 0, 1) := by decide +kernel
theorem dL_law_1050 : decode cL_law 1050 = .ok (.iload 4, 2) := by decide +kernel
theorem dL_law_1052 : decode cL_law 1052 = .ok (.iconst 1, 1) := by decide +kernel
theorem dL_law_1053 : decode cL_law 1053 = .ok (.iadd, 1) := by decide +kernel
theorem dL_law_1054 : decode cL_law 1054 = .ok (.iaload, 1) := by decide +kernel
theorem dL_law_1055 : decode cL_law 1055 = .ok (.aload_n 0, 1) := by decide +kernel
theorem dL_law_1056 : decode cL_law 1056 = .ok (.iload 4, 2) := by decide +kernel
theorem dL_law_1058 : decode cL_law 1058 = .ok (.iconst 2, 1) := by decide +kernel
theorem dL_law_1059 : decode cL_law 1059 = .ok (.iadd, 1) := by decide +kernel
theorem dL_law_1060 : decode cL_law 1060 = .ok (.iaload, 1) := by decide +kernel
theorem dL_law_1061 : decode cL_law 1061 = .ok (.aload_n 0, 1) := by decide +kernel
theorem dL_law_1062 : decode cL_law 1062 = .ok (.iload 4, 2) := by decide +kernel
theorem dL_law_1064 : decode cL_law 1064 = .ok (.iconst 3, 1) := by decide +kernel
theorem dL_law_1065 : decode cL_law 1065 = .ok (.iadd, 1) := by decide +kernel
theorem dL_law_1066 : decode cL_law 1066 = .ok (.iaload, 1) := by decide +kernel
theorem dL_law_1067 : decode cL_law 1067 = .ok (.aload_n 0, 1) := by decide +kernel
theorem dL_law_1068 : decode cL_law 1068 = .ok (.iload 4, 2) := by decide +kernel
theorem dL_law_1070 : decode cL_law 1070 = .ok (.iconst 4, 1) := by decide +kernel
theorem dL_law_1071 : decode cL_law 1071 = .ok (.iadd, 1) := by decide +kernel
theorem dL_law_1072 : decode cL_law 1072 = .ok (.iaload, 1) := by decide +kernel
theorem dL_law_1073 : decode cL_law 1073 = .ok (.aload_n 0, 1) := by decide +kernel
theorem dL_law_1074 : decode cL_law 1074 = .ok (.iload 4, 2) := by decide +kernel
theorem dL_law_1076 : decode cL_law 1076 = .ok (.iconst 5, 1) := by decide +kernel
theorem dL_law_1077 : decode cL_law 1077 = .ok (.iadd, 1) := by decide +kernel
theorem dL_law_1078 : decode cL_law 1078 = .ok (.iaload, 1) := by decide +kernel
theorem dL_law_1079 : decode cL_law 1079 = .ok (.aload_n 0, 1) := by decide +kernel
theorem dL_law_1080 : decode cL_law 1080 = .ok (.iload 4, 2) := by decide +kernel
theorem dL_law_1082 : decode cL_law 1082 = .ok (.bipush 6, 2) := by decide +kernel
theorem dL_law_1084 : decode cL_law 1084 = .ok (.iadd, 1) := by decide +kernel
theorem dL_law_1085 : decode cL_law 1085 = .ok (.iaload, 1) := by decide +kernel
theorem dL_law_1086 : decode cL_law 1086 = .ok (.aload_n 3, 1) := by decide +kernel
theorem dL_law_1090 : decode cL_law 1090 = .ok (.istore 5, 2) := by decide +kernel
theorem dL_law_1092 : decode cL_law 1092 = .ok (.aload_n 2, 1) := by decide +kernel
theorem dL_law_1093 : decode cL_law 1093 = .ok (.aload_n 0, 1) := by decide +kernel
theorem dL_law_1094 : decode cL_law 1094 = .ok (.iload 4, 2) := by decide +kernel
theorem dL_law_1096 : decode cL_law 1096 = .ok (.iconst 1, 1) := by decide +kernel
theorem dL_law_1097 : decode cL_law 1097 = .ok (.iadd, 1) := by decide +kernel
theorem dL_law_1098 : decode cL_law 1098 = .ok (.iaload, 1) := by decide +kernel
theorem dL_law_1099 : decode cL_law 1099 = .ok (.aload_n 0, 1) := by decide +kernel
theorem dL_law_1100 : decode cL_law 1100 = .ok (.iload 4, 2) := by decide +kernel
theorem dL_law_1102 : decode cL_law 1102 = .ok (.iconst 2, 1) := by decide +kernel
theorem dL_law_1103 : decode cL_law 1103 = .ok (.iadd, 1) := by decide +kernel
theorem dL_law_1104 : decode cL_law 1104 = .ok (.iaload, 1) := by decide +kernel
theorem dL_law_1105 : decode cL_law 1105 = .ok (.aload_n 0, 1) := by decide +kernel
theorem dL_law_1106 : decode cL_law 1106 = .ok (.iload 4, 2) := by decide +kernel
theorem dL_law_1108 : decode cL_law 1108 = .ok (.iconst 3, 1) := by decide +kernel
theorem dL_law_1109 : decode cL_law 1109 = .ok (.iadd, 1) := by decide +kernel
theorem dL_law_1110 : decode cL_law 1110 = .ok (.iaload, 1) := by decide +kernel
theorem dL_law_1111 : decode cL_law 1111 = .ok (.aload_n 0, 1) := by decide +kernel
theorem dL_law_1112 : decode cL_law 1112 = .ok (.iload 4, 2) := by decide +kernel
theorem dL_law_1114 : decode cL_law 1114 = .ok (.iconst 4, 1) := by decide +kernel
theorem dL_law_1115 : decode cL_law 1115 = .ok (.iadd, 1) := by decide +kernel
theorem dL_law_1116 : decode cL_law 1116 = .ok (.iaload, 1) := by decide +kernel
theorem dL_law_1117 : decode cL_law 1117 = .ok (.aload_n 0, 1) := by decide +kernel
theorem dL_law_1118 : decode cL_law 1118 = .ok (.iload 4, 2) := by decide +kernel
theorem dL_law_1120 : decode cL_law 1120 = .ok (.iconst 5, 1) := by decide +kernel
theorem dL_law_1121 : decode cL_law 1121 = .ok (.iadd, 1) := by decide +kernel
theorem dL_law_1122 : decode cL_law 1122 = .ok (.iaload, 1) := by decide +kernel
theorem dL_law_1123 : decode cL_law 1123 = .ok (.aload_n 0, 1) := by decide +kernel
theorem dL_law_1124 : decode cL_law 1124 = .ok (.iload 4, 2) := by decide +kernel
theorem dL_law_1126 : decode cL_law 1126 = .ok (.bipush 6, 2) := by decide +kernel
theorem dL_law_1128 : decode cL_law 1128 = .ok (.iadd, 1) := by decide +kernel
theorem dL_law_1129 : decode cL_law 1129 = .ok (.iaload, 1) := by decide +kernel
theorem dL_law_1133 : decode cL_law 1133 = .ok (.istore 6, 2) := by decide +kernel
theorem dL_law_1135 : decode cL_law 1135 = .ok (.aload_n 2, 1) := by decide +kernel
theorem dL_law_1139 : decode cL_law 1139 = .ok (.iload 5, 2) := by decide +kernel
theorem dL_law_1141 : decode cL_law 1141 = .ok (.if_icmp .eq 5, 3) := by decide +kernel
theorem dL_law_1146 : decode cL_law 1146 = .ok (.iload 5, 2) := by decide +kernel
theorem dL_law_1148 : decode cL_law 1148 = .ok (.ifCond .ne 15, 3) := by decide +kernel
theorem dL_law_1163 : decode cL_law 1163 = .ok (.goto 870, 3) := by decide +kernel
theorem dL_law_1151 : decode cL_law 1151 = .ok (.aload_n 3, 1) := by decide +kernel
theorem dL_law_1152 : decode cL_law 1152 = .ok (.iconst 0, 1) := by decide +kernel
theorem dL_law_1153 : decode cL_law 1153 = .ok (.laload, 1) := by decide +kernel
theorem dL_law_1154 : decode cL_law 1154 = .ok (.iload 6, 2) := by decide +kernel
theorem dL_law_1156 : decode cL_law 1156 = .ok (.i2l, 1) := by decide +kernel
theorem dL_law_1157 : decode cL_law 1157 = .ok (.lcmp, 1) := by decide +kernel
theorem dL_law_1158 : decode cL_law 1158 = .ok (.ifCond .eq 5, 3) := by decide +kernel
theorem dL_law_1161 : decode cL_law 1161 = .ok (.iconst 0, 1) := by decide +kernel
theorem dL_law_1144 : decode cL_law 1144 = .ok (.iconst 0, 1) := by decide +kernel
theorem dL_law_1136 : decode cL_law 1136 = .ok (.invokevirtual 111, 3) := by decide +kernel
theorem dL_law_1130 : decode cL_law 1130 = .ok (.invokevirtual 153, 3) := by decide +kernel
theorem dL_law_1087 : decode cL_law 1087 = .ok (.invokestatic 150, 3) := by decide +kernel
def vl_12 (x : Nat) (m : Nat) (o : Nat) (b : Nat) (T : zT) (F : zF) : Prop :=
  (∃ n1 : Nat, T b = some (104, n1) ∧ vp_in 1 n1 ∧ ∃ x4 : Int32, F b (1).toNatClampNeg = .int x4 ∧ vp_in 2 n1 ∧ ∃ x7 : Int32, F b (2).toNatClampNeg = .int x7 ∧ vp_in 3 n1 ∧ ∃ x10 : Int32, F b (3).toNatClampNeg = .int x10 ∧ vp_in 4 n1 ∧ ∃ x13 : Int32, F b (4).toNatClampNeg = .int x13 ∧ vp_in 5 n1 ∧ ∃ x16 : Int32, F b (5).toNatClampNeg = .int x16 ∧ vp_in 6 n1 ∧ ∃ x19 : Int32, F b (6).toNatClampNeg = .int x19 ∧ (v_L_book x x4 x7 x10 x13 x16 x19 o T F (fun (r21 : Int32) (F22 : zF) => (vp_in 1 n1 ∧ ∃ x24 : Int32, F22 b (1).toNatClampNeg = .int x24 ∧ vp_in 2 n1 ∧ ∃ x27 : Int32, F22 b (2).toNatClampNeg = .int x27 ∧ vp_in 3 n1 ∧ ∃ x30 : Int32, F22 b (3).toNatClampNeg = .int x30 ∧ vp_in 4 n1 ∧ ∃ x33 : Int32, F22 b (4).toNatClampNeg = .int x33 ∧ vp_in 5 n1 ∧ ∃ x36 : Int32, F22 b (5).toNatClampNeg = .int x36 ∧ vp_in 6 n1 ∧ ∃ x39 : Int32, F22 b (6).toNatClampNeg = .int x39 ∧ T m = some (12, 6) ∧ (v_X9_book m x24 x27 x30 x33 x36 x39 T F22 (fun (r42 : Int32) (T43 : zT) (F44 : zF) => (T43 m = some (12, 6) ∧ (v_X9_thrown m T43 F44 (fun (r46 : Int32) => ((r46 = r21 → ((¬ r21 = 0 → (∃ L9 : Nat, T43 b = some (104, L9) ∧ L9 ≤ 7)) ∧ (r21 = 0 → (∃ n47 : Nat, T43 o = some (103, n47) ∧ vp_in 0 n47 ∧ ∃ x50 : Int64, F44 o (0).toNatClampNeg = .long x50 ∧ (((lg_cmp x50 r42.toInt64) = 0 → (∃ L9 : Nat, T43 b = some (104, L9) ∧ L9 ≤ 7)) ∧ (¬ (lg_cmp x50 r42.toInt64) = 0 → False)))))) ∧ (¬ r46 = r21 → False)))))))))))
set_option maxRecDepth 100000 in
set_option maxHeartbeats 4000000 in
theorem kl_12 {p : Program} {l : Launch} {e : Env} {s : State} {m : MethodId} {below : List Frame} {meth : Method} {c : Code} {D : va_G} {cA : Nat → ClassId} {N0 zE : Nat} {x : Nat} {m : Nat} {o : Nat} {b : Nat} {T : zT} {F : zF} (hr : meth.sig.returnType = ret) (hN0 : N0 = s.heap.size) (C : z_C p l s m #[Value.ref b] meth c RL cL_law 9 ret D cA N0 zE) (h : vl_12 x m o b T F) : z_w p l e room_1 s m #[Value.ref b] below meth c D cA N0 9 20 80 (lw_Z below #[Value.ref b] s) 1048 [(4, .int 0), (3, .ref o), (2, .ref m), (1, .ref x), (0, .ref b)] [] T F := by
  unfold vl_12 at h
  refine zr_aload_n C 3 dL_law_1048 rfl rfl ?_
  refine zr_aload_n C 4 dL_law_1049 rfl rfl ?_
  refine zr_iload C 0 dL_law_1050 rfl ?_
  refine zr_iconst C 1 dL_law_1052 (by decide) ?_
  refine zr_iadd C dL_law_1053 ?_
  refine zr_eqi (y := 1) (by decide) ?_
  obtain ⟨n1, hT2, hi3, x4, hv5, h⟩ := h
  refine zr_iald4 C rfl hT2 hi3 hv5 dL_law_1054 ?_
  refine zr_aload_n C 4 dL_law_1055 rfl rfl ?_
  refine zr_iload C 0 dL_law_1056 rfl ?_
  refine zr_iconst C 2 dL_law_1058 (by decide) ?_
  refine zr_iadd C dL_law_1059 ?_
  refine zr_eqi (y := 2) (by decide) ?_
  obtain ⟨hi6, x7, hv8, h⟩ := h
  refine zr_iald4 C rfl hT2 hi6 hv8 dL_law_1060 ?_
  refine zr_aload_n C 4 dL_law_1061 rfl rfl ?_
  refine zr_iload C 0 dL_law_1062 rfl ?_
  refine zr_iconst C 3 dL_law_1064 (by decide) ?_
  refine zr_iadd C dL_law_1065 ?_
  refine zr_eqi (y := 3) (by decide) ?_
  obtain ⟨hi9, x10, hv11, h⟩ := h
  refine zr_iald4 C rfl hT2 hi9 hv11 dL_law_1066 ?_
  refine zr_aload_n C 4 dL_law_1067 rfl rfl ?_
  refine zr_iload C 0 dL_law_1068 rfl ?_
  refine zr_iconst C 4 dL_law_1070 (by decide) ?_
  refine zr_iadd C dL_law_1071 ?_
  refine zr_eqi (y := 4) (by decide) ?_
  obtain ⟨hi12, x13, hv14, h⟩ := h
  refine zr_iald4 C rfl hT2 hi12 hv14 dL_law_1072 ?_
  refine zr_aload_n C 4 dL_law_1073 rfl rfl ?_
  refine zr_iload C 0 dL_law_1074 rfl ?_
  refine zr_iconst C 5 dL_law_1076 (by decide) ?_
  refine zr_iadd C dL_law_1077 ?_
  refine zr_eqi (y := 5) (by decide) ?_
  obtain ⟨hi15, x16, hv17, h⟩ := h
  refine zr_iald4 C rfl hT2 hi15 hv17 dL_law_1078 ?_
  refine zr_aload_n C 4 dL_law_1079 rfl rfl ?_
  refine zr_iload C 0 dL_law_1080 rfl ?_
  refine zr_bipush C 6 dL_law_1082 (by decide) ?_
  refine zr_iadd C dL_law_1084 ?_
  refine zr_eqi (y := 6) (by decide) ?_
  obtain ⟨hi18, x19, hv20, h⟩ := h
  refine zr_iald4 C rfl hT2 hi18 hv20 dL_law_1085 ?_
  refine zr_aload_n C 1 dL_law_1086 rfl rfl ?_
  refine zr_callSH (As := [.ref x, .int x4, .int x7, .int x10, .int x13, .int x16, .int x19, .ref o]) C (k_L_book h) ok_L_150 zq_808 rfl ⟨by decide, (Nat.le_of_ble_eq_true rfl)⟩ ⟨(Nat.le_of_ble_eq_true rfl), (Nat.le_of_ble_eq_true rfl)⟩ (Nat.le_of_ble_eq_true rfl) dL_law_1087 (fun v58 U59 G60 hq => ?_)
  clear h
  · obtain ⟨r21, rfl, rfl, h⟩ := hq
    refine zr_istore C [(5, .int r21), (4, .int 0), (3, .ref o), (2, .ref m), (1, .ref x), (0, .ref b)] dL_law_1090 (by decide) rfl ?_
    refine zr_aload_n C 3 dL_law_1092 rfl rfl ?_
    refine zr_aload_n C 5 dL_law_1093 rfl rfl ?_
    refine zr_iload C 1 dL_law_1094 rfl ?_
    refine zr_iconst C 1 dL_law_1096 (by decide) ?_
    refine zr_iadd C dL_law_1097 ?_
    refine zr_eqi (y := 1) (by decide) ?_
    obtain ⟨hi23, x24, hv25, h⟩ := h
    refine zr_iald4 C rfl hT2 hi23 hv25 dL_law_1098 ?_
    refine zr_aload_n C 5 dL_law_1099 rfl rfl ?_
    refine zr_iload C 1 dL_law_1100 rfl ?_
    refine zr_iconst C 2 dL_law_1102 (by decide) ?_
    refine zr_iadd C dL_law_1103 ?_
    refine zr_eqi (y := 2) (by decide) ?_
    obtain ⟨hi26, x27, hv28, h⟩ := h
    refine zr_iald4 C rfl hT2 hi26 hv28 dL_law_1104 ?_
    refine zr_aload_n C 5 dL_law_1105 rfl rfl ?_
    refine zr_iload C 1 dL_law_1106 rfl ?_
    refine zr_iconst C 3 dL_law_1108 (by decide) ?_
    refine zr_iadd C dL_law_1109 ?_
    refine zr_eqi (y := 3) (by decide) ?_
    obtain ⟨hi29, x30, hv31, h⟩ := h
    refine zr_iald4 C rfl hT2 hi29 hv31 dL_law_1110 ?_
    refine zr_aload_n C 5 dL_law_1111 rfl rfl ?_
    refine zr_iload C 1 dL_law_1112 rfl ?_
    refine zr_iconst C 4 dL_law_1114 (by decide) ?_
    refine zr_iadd C dL_law_1115 ?_
    refine zr_eqi (y := 4) (by decide) ?_
    obtain ⟨hi32, x33, hv34, h⟩ := h
    refine zr_iald4 C rfl hT2 hi32 hv34 dL_law_1116 ?_
    refine zr_aload_n C 5 dL_law_1117 rfl rfl ?_
    refine zr_iload C 1 dL_law_1118 rfl ?_
    refine zr_iconst C 5 dL_law_1120 (by decide) ?_
    refine zr_iadd C dL_law_1121 ?_
    refine zr_eqi (y := 5) (by decide) ?_
    obtain ⟨hi35, x36, hv37, h⟩ := h
    refine zr_iald4 C rfl hT2 hi35 hv37 dL_law_1122 ?_
    refine zr_aload_n C 5 dL_law_1123 rfl rfl ?_
    refine zr_iload C 1 dL_law_1124 rfl ?_
    refine zr_bipush C 6 dL_law_1126 (by decide) ?_
    refine zr_iadd C dL_law_1128 ?_
    refine zr_eqi (y := 6) (by decide) ?_
    obtain ⟨hi38, x39, hv40, h⟩ := h
    refine zr_iald4 C rfl hT2 hi38 hv40 dL_law_1129 ?_
    obtain ⟨hT41, h⟩ := h
    refine zr_callV (As := [.int x24, .int x27, .int x30, .int x33, .int x36, .int x39]) (r := (RX9, TX9, 6)) C (k_X9_book h) ok_L_153 zq_1335 zq_1336 hT41 (by decide) rfl rfl ⟨by decide, (Nat.le_of_ble_eq_true rfl)⟩ ⟨(Nat.le_of_ble_eq_true rfl), (Nat.le_of_ble_eq_true rfl)⟩ (Nat.le_of_ble_eq_true rfl) dL_law_1130 (fun v55 U56 G57 hq => ?_)
    clear h
    · obtain ⟨r42, rfl, h⟩ := hq
      skip
      refine zr_istore C [(6, .int r42), (5, .int r21), (4, .int 0), (3, .ref o), (2, .ref m), (1, .ref x), (0, .ref b)] dL_law_1133 (by decide) rfl ?_
      refine zr_aload_n C 4 dL_law_1135 rfl rfl ?_
      obtain ⟨hT45, h⟩ := h
      refine zr_callV (As := []) (r := (RX9, TX9, 6)) C (k_X9_thrown h) ok_L_111 zq_975 zq_976 hT45 (by decide) rfl rfl ⟨by decide, (Nat.le_of_ble_eq_true rfl)⟩ ⟨(Nat.le_of_ble_eq_true rfl), (Nat.le_of_ble_eq_true rfl)⟩ (Nat.le_of_ble_eq_true rfl) dL_law_1136 (fun v52 U53 G54 hq => ?_)
      clear h
      · obtain ⟨r46, rfl, rfl, rfl, h⟩ := hq
        refine zr_iload C 1 dL_law_1139 rfl ?_
        obtain ⟨h1, h2⟩ := h
        refine zr_icmp_eq C 1146 dL_law_1141 (by decide) (fun hc => ?_) (fun hc => ?_)
        · have h := h1 hc
          clear h1 h2
          refine zr_iload C 1 dL_law_1146 rfl ?_
          obtain ⟨h1, h2⟩ := h
          refine zr_if_ne C 1163 dL_law_1148 (by decide) (fun hc => ?_) (fun hc => ?_)
          · have h := h1 hc
            clear h1 h2
            refine zr_goto C 2033 dL_law_1163 (by decide) ?_
            exact zr_sub [2, 6] rfl (kl_end hr hN0 C (Nat.le_of_ble_eq_true rfl) (Nat.le_of_ble_eq_true rfl) h)
          · have h := h2 hc
            clear h1 h2
            refine zr_aload_n C 3 dL_law_1151 rfl rfl ?_
            refine zr_iconst C 0 dL_law_1152 (by decide) ?_
            obtain ⟨n47, hT48, hi49, x50, hv51, h⟩ := h
            refine zr_lald C rfl hT48 hi49 hv51 dL_law_1153 ?_
            refine zr_iload C 0 dL_law_1154 rfl ?_
            refine zr_i2l C dL_law_1156 ?_
            refine zr_lcmp C dL_law_1157 ?_
            obtain ⟨h1, h2⟩ := h
            refine zr_if_eq C 1163 dL_law_1158 (by decide) (fun hc => ?_) (fun hc => ?_)
            · have h := h1 hc
              clear h1 h2
              refine zr_goto C 2033 dL_law_1163 (by decide) ?_
              exact zr_sub [2, 6] rfl (kl_end hr hN0 C (Nat.le_of_ble_eq_true rfl) (Nat.le_of_ble_eq_true rfl) h)
            · have h := h2 hc
              clear h1 h2
              refine zr_iconst C 0 dL_law_1161 (by decide) ?_
              exact h.elim
        · have h := h2 hc
          clear h1 h2
          refine zr_iconst C 0 dL_law_1144 (by decide) ?_
          exact h.elim
theorem dL_law_1166 : decode cL_law 1166 = .ok (.aload_n 1, 1) := by decide +kernel
theorem dL_law_1167 : decode cL_law 1167 = .ok (.aload_n 0, 1) := by decide +kernel
theorem dL_law_1168 : decode cL_law 1168 = .ok (.iload 4, 2) := by decide +kernel
theorem dL_law_1170 : decode cL_law 1170 = .ok (.iconst 1, 1) := by decide +kernel
theorem dL_law_1171 : decode cL_law 1171 = .ok (.iadd, 1) := by decide +kernel
theorem dL_law_1172 : decode cL_law 1172 = .ok (.iaload, 1) := by decide +kernel
theorem dL_law_1173 : decode cL_law 1173 = .ok (.aload_n 3, 1) := by decide +kernel
theorem dL_law_1177 : decode cL_law 1177 = .ok (.istore 5, 2) := by decide +kernel
theorem dL_law_1179 : decode cL_law 1179 = .ok (.aload_n 2, 1) := by decide +kernel
theorem dL_law_1180 : decode cL_law 1180 = .ok (.aload_n 0, 1) := by decide +kernel
theorem dL_law_1181 : decode cL_law 1181 = .ok (.iload 4, 2) := by decide +kernel
theorem dL_law_1183 : decode cL_law 1183 = .ok (.iconst 1, 1) := by decide +kernel
theorem dL_law_1184 : decode cL_law 1184 = .ok (.iadd, 1) := by decide +kernel
theorem dL_law_1185 : decode cL_law 1185 = .ok (.iaload, 1) := by decide +kernel
theorem dL_law_1189 : decode cL_law 1189 = .ok (.istore 6, 2) := by decide +kernel
theorem dL_law_1191 : decode cL_law 1191 = .ok (.aload_n 2, 1) := by decide +kernel
theorem dL_law_1195 : decode cL_law 1195 = .ok (.iload 5, 2) := by decide +kernel
theorem dL_law_1197 : decode cL_law 1197 = .ok (.if_icmp .eq 5, 3) := by decide +kernel
theorem dL_law_1202 : decode cL_law 1202 = .ok (.iload 5, 2) := by decide +kernel
theorem dL_law_1204 : decode cL_law 1204 = .ok (.ifCond .ne 15, 3) := by decide +kernel
theorem dL_law_1219 : decode cL_law 1219 = .ok (.goto 814, 3) := by decide +kernel
theorem dL_law_1207 : decode cL_law 1207 = .ok (.aload_n 3, 1) := by decide +kernel
theorem dL_law_1208 : decode cL_law 1208 = .ok (.iconst 0, 1) := by decide +kernel
theorem dL_law_1209 : decode cL_law 1209 = .ok (.laload, 1) := by decide +kernel
theorem dL_law_1210 : decode cL_law 1210 = .ok (.iload 6, 2) := by decide +kernel
theorem dL_law_1212 : decode cL_law 1212 = .ok (.i2l, 1) := by decide +kernel
theorem dL_law_1213 : decode cL_law 1213 = .ok (.lcmp, 1) := by decide +kernel
theorem dL_law_1214 : decode cL_law 1214 = .ok (.ifCond .eq 5, 3) := by decide +kernel
theorem dL_law_1217 : decode cL_law 1217 = .ok (.iconst 0, 1) := by decide +kernel
theorem dL_law_1200 : decode cL_law 1200 = .ok (.iconst 0, 1) := by decide +kernel
theorem dL_law_1192 : decode cL_law 1192 = .ok (.invokevirtual 111, 3) := by decide +kernel
theorem dL_law_1186 : decode cL_law 1186 = .ok (.invokevirtual 157, 3) := by decide +kernel
theorem dL_law_1174 : decode cL_law 1174 = .ok (.invokestatic 154, 3) := by decide +kernel
def vl_13 (x : Nat) (m : Nat) (o : Nat) (b : Nat) (T : zT) (F : zF) : Prop :=
  (∃ n1 : Nat, T b = some (104, n1) ∧ vp_in 1 n1 ∧ ∃ x4 : Int32, F b (1).toNatClampNeg = .int x4 ∧ (v_L_cancel x x4 o T F (fun (r6 : Int32) (F7 : zF) => (vp_in 1 n1 ∧ ∃ x9 : Int32, F7 b (1).toNatClampNeg = .int x9 ∧ T m = some (12, 6) ∧ (v_X9_cancel m x9 T F7 (fun (r12 : Int32) (F13 : zF) => (v_X9_thrown m T F13 (fun (r14 : Int32) => ((r14 = r6 → ((¬ r6 = 0 → (∃ L9 : Nat, T b = some (104, L9) ∧ L9 ≤ 7)) ∧ (r6 = 0 → (∃ n15 : Nat, T o = some (103, n15) ∧ vp_in 0 n15 ∧ ∃ x18 : Int64, F13 o (0).toNatClampNeg = .long x18 ∧ (((lg_cmp x18 r12.toInt64) = 0 → (∃ L9 : Nat, T b = some (104, L9) ∧ L9 ≤ 7)) ∧ (¬ (lg_cmp x18 r12.toInt64) = 0 → False)))))) ∧ (¬ r14 = r6 → False))))))))))
set_option maxRecDepth 100000 in
set_option maxHeartbeats 4000000 in
theorem kl_13 {p : Program} {l : Launch} {e : Env} {s : State} {m : MethodId} {below : List Frame} {meth : Method} {c : Code} {D : va_G} {cA : Nat → ClassId} {N0 zE : Nat} {x : Nat} {m : Nat} {o : Nat} {b : Nat} {T : zT} {F : zF} (hr : meth.sig.returnType = ret) (hN0 : N0 = s.heap.size) (C : z_C p l s m #[Value.ref b] meth c RL cL_law 9 ret D cA N0 zE) (h : vl_13 x m o b T F) : z_w p l e room_1 s m #[Value.ref b] below meth c D cA N0 9 20 80 (lw_Z below #[Value.ref b] s) 1166 [(4, .int 0), (3, .ref o), (2, .ref m), (1, .ref x), (0, .ref b)] [] T F := by
  unfold vl_13 at h
  refine zr_aload_n C 3 dL_law_1166 rfl rfl ?_
  refine zr_aload_n C 4 dL_law_1167 rfl rfl ?_
  refine zr_iload C 0 dL_law_1168 rfl ?_
  refine zr_iconst C 1 dL_law_1170 (by decide) ?_
  refine zr_iadd C dL_law_1171 ?_
  refine zr_eqi (y := 1) (by decide) ?_
  obtain ⟨n1, hT2, hi3, x4, hv5, h⟩ := h
  refine zr_iald4 C rfl hT2 hi3 hv5 dL_law_1172 ?_
  refine zr_aload_n C 1 dL_law_1173 rfl rfl ?_
  refine zr_callSH (As := [.ref x, .int x4, .ref o]) C (k_L_cancel h) ok_L_154 zq_837 rfl ⟨by decide, (Nat.le_of_ble_eq_true rfl)⟩ ⟨(Nat.le_of_ble_eq_true rfl), (Nat.le_of_ble_eq_true rfl)⟩ (Nat.le_of_ble_eq_true rfl) dL_law_1174 (fun v26 U27 G28 hq => ?_)
  clear h
  · obtain ⟨r6, rfl, rfl, h⟩ := hq
    refine zr_istore C [(5, .int r6), (4, .int 0), (3, .ref o), (2, .ref m), (1, .ref x), (0, .ref b)] dL_law_1177 (by decide) rfl ?_
    refine zr_aload_n C 3 dL_law_1179 rfl rfl ?_
    refine zr_aload_n C 5 dL_law_1180 rfl rfl ?_
    refine zr_iload C 1 dL_law_1181 rfl ?_
    refine zr_iconst C 1 dL_law_1183 (by decide) ?_
    refine zr_iadd C dL_law_1184 ?_
    refine zr_eqi (y := 1) (by decide) ?_
    obtain ⟨hi8, x9, hv10, h⟩ := h
    refine zr_iald4 C rfl hT2 hi8 hv10 dL_law_1185 ?_
    obtain ⟨hT11, h⟩ := h
    refine zr_callV (As := [.int x9]) (r := (RX9, TX9, 6)) C (k_X9_cancel h) ok_L_157 zq_1430 zq_1431 hT11 (by decide) rfl rfl ⟨by decide, (Nat.le_of_ble_eq_true rfl)⟩ ⟨(Nat.le_of_ble_eq_true rfl), (Nat.le_of_ble_eq_true rfl)⟩ (Nat.le_of_ble_eq_true rfl) dL_law_1186 (fun v23 U24 G25 hq => ?_)
    clear h
    · obtain ⟨r12, rfl, rfl, h⟩ := hq
      refine zr_istore C [(6, .int r12), (5, .int r6), (4, .int 0), (3, .ref o), (2, .ref m), (1, .ref x), (0, .ref b)] dL_law_1189 (by decide) rfl ?_
      refine zr_aload_n C 4 dL_law_1191 rfl rfl ?_
      refine zr_callV (As := []) (r := (RX9, TX9, 6)) C (k_X9_thrown h) ok_L_111 zq_975 zq_976 hT11 (by decide) rfl rfl ⟨by decide, (Nat.le_of_ble_eq_true rfl)⟩ ⟨(Nat.le_of_ble_eq_true rfl), (Nat.le_of_ble_eq_true rfl)⟩ (Nat.le_of_ble_eq_true rfl) dL_law_1192 (fun v20 U21 G22 hq => ?_)
      clear h
      · obtain ⟨r14, rfl, rfl, rfl, h⟩ := hq
        refine zr_iload C 1 dL_law_1195 rfl ?_
        obtain ⟨h1, h2⟩ := h
        refine zr_icmp_eq C 1202 dL_law_1197 (by decide) (fun hc => ?_) (fun hc => ?_)
        · have h := h1 hc
          clear h1 h2
          refine zr_iload C 1 dL_law_1202 rfl ?_
          obtain ⟨h1, h2⟩ := h
          refine zr_if_ne C 1219 dL_law_1204 (by decide) (fun hc => ?_) (fun hc => ?_)
          · have h := h1 hc
            clear h1 h2
            refine zr_goto C 2033 dL_law_1219 (by decide) ?_
            exact zr_sub [2, 6] rfl (kl_end hr hN0 C (Nat.le_of_ble_eq_true rfl) (Nat.le_of_ble_eq_true rfl) h)
          · have h := h2 hc
            clear h1 h2
            refine zr_aload_n C 3 dL_law_1207 rfl rfl ?_
            refine zr_iconst C 0 dL_law_1208 (by decide) ?_
            obtain ⟨n15, hT16, hi17, x18, hv19, h⟩ := h
            refine zr_lald C rfl hT16 hi17 hv19 dL_law_1209 ?_
            refine zr_iload C 0 dL_law_1210 rfl ?_
            refine zr_i2l C dL_law_1212 ?_
            refine zr_lcmp C dL_law_1213 ?_
            obtain ⟨h1, h2⟩ := h
            refine zr_if_eq C 1219 dL_law_1214 (by decide) (fun hc => ?_) (fun hc => ?_)
            · have h := h1 hc
              clear h1 h2
              refine zr_goto C 2033 dL_law_1219 (by decide) ?_
              exact zr_sub [2, 6] rfl (kl_end hr hN0 C (Nat.le_of_ble_eq_true rfl) (Nat.le_of_ble_eq_true rfl) h)
            · have h := h2 hc
              clear h1 h2
              refine zr_iconst C 0 dL_law_1217 (by decide) ?_
              exact h.elim
        · have h := h2 hc
          clear h1 h2
          refine zr_iconst C 0 dL_law_1200 (by decide) ?_
          exact h.elim
theorem dL_law_1222 : decode cL_law 1222 = .ok (.aload_n 1, 1) := by decide +kernel
theorem dL_law_1223 : decode cL_law 1223 = .ok (.aload_n 0, 1) := by decide +kernel
theorem dL_law_1224 : decode cL_law 1224 = .ok (.iload 4, 2) := by decide +kernel
theorem dL_law_1226 : decode cL_law 1226 = .ok (.iconst 1, 1) := by decide +kernel
theorem dL_law_1227 : decode cL_law 1227 = .ok (.iadd, 1) := by decide +kernel
theorem dL_law_1228 : decode cL_law 1228 = .ok (.iaload, 1) := by decide +kernel
theorem dL_law_1229 : decode cL_law 1229 = .ok (.aload_n 0, 1) := by decide +kernel
theorem dL_law_1230 : decode cL_law 1230 = .ok (.iload 4, 2) := by decide +kernel
theorem dL_law_1232 : decode cL_law 1232 = .ok (.iconst 2, 1) := by decide +kernel
theorem dL_law_1233 : decode cL_law 1233 = .ok (.iadd, 1) := by decide +kernel
theorem dL_law_1234 : decode cL_law 1234 = .ok (.iaload, 1) := by decide +kernel
theorem dL_law_1235 : decode cL_law 1235 = .ok (.aload_n 3, 1) := by decide +kernel
theorem dL_law_1239 : decode cL_law 1239 = .ok (.istore 5, 2) := by decide +kernel
theorem dL_law_1241 : decode cL_law 1241 = .ok (.aload_n 2, 1) := by decide +kernel
theorem dL_law_1242 : decode cL_law 1242 = .ok (.aload_n 0, 1) := by decide +kernel
theorem dL_law_1243 : decode cL_law 1243 = .ok (.iload 4, 2) := by decide +kernel
theorem dL_law_1245 : decode cL_law 1245 = .ok (.iconst 1, 1) := by decide +kernel
theorem dL_law_1246 : decode cL_law 1246 = .ok (.iadd, 1) := by decide +kernel
theorem dL_law_1247 : decode cL_law 1247 = .ok (.iaload, 1) := by decide +kernel
theorem dL_law_1248 : decode cL_law 1248 = .ok (.aload_n 0, 1) := by decide +kernel
theorem dL_law_1249 : decode cL_law 1249 = .ok (.iload 4, 2) := by decide +kernel
theorem dL_law_1251 : decode cL_law 1251 = .ok (.iconst 2, 1) := by decide +kernel
theorem dL_law_1252 : decode cL_law 1252 = .ok (.iadd, 1) := by decide +kernel
theorem dL_law_1253 : decode cL_law 1253 = .ok (.iaload, 1) := by decide +kernel
theorem dL_law_1257 : decode cL_law 1257 = .ok (.istore 6, 2) := by decide +kernel
theorem dL_law_1259 : decode cL_law 1259 = .ok (.aload_n 2, 1) := by decide +kernel
theorem dL_law_1263 : decode cL_law 1263 = .ok (.iload 5, 2) := by decide +kernel
theorem dL_law_1265 : decode cL_law 1265 = .ok (.if_icmp .eq 5, 3) := by decide +kernel
theorem dL_law_1270 : decode cL_law 1270 = .ok (.iload 5, 2) := by decide +kernel
theorem dL_law_1272 : decode cL_law 1272 = .ok (.ifCond .ne 15, 3) := by decide +kernel
theorem dL_law_1287 : decode cL_law 1287 = .ok (.goto 746, 3) := by decide +kernel
theorem dL_law_1275 : decode cL_law 1275 = .ok (.aload_n 3, 1) := by decide +kernel
theorem dL_law_1276 : decode cL_law 1276 = .ok (.iconst 0, 1) := by decide +kernel
theorem dL_law_1277 : decode cL_law 1277 = .ok (.laload, 1) := by decide +kernel
theorem dL_law_1278 : decode cL_law 1278 = .ok (.iload 6, 2) := by decide +kernel
theorem dL_law_1280 : decode cL_law 1280 = .ok (.i2l, 1) := by decide +kernel
theorem dL_law_1281 : decode cL_law 1281 = .ok (.lcmp, 1) := by decide +kernel
theorem dL_law_1282 : decode cL_law 1282 = .ok (.ifCond .eq 5, 3) := by decide +kernel
theorem dL_law_1285 : decode cL_law 1285 = .ok (.iconst 0, 1) := by decide +kernel
theorem dL_law_1268 : decode cL_law 1268 = .ok (.iconst 0, 1) := by decide +kernel
theorem dL_law_1260 : decode cL_law 1260 = .ok (.invokevirtual 111, 3) := by decide +kernel
theorem dL_law_1254 : decode cL_law 1254 = .ok (.invokevirtual 160, 3) := by decide +kernel
theorem dL_law_1236 : decode cL_law 1236 = .ok (.invokestatic 158, 3) := by decide +kernel
def vl_14 (x : Nat) (m : Nat) (o : Nat) (b : Nat) (T : zT) (F : zF) : Prop :=
  (∃ n1 : Nat, T b = some (104, n1) ∧ vp_in 1 n1 ∧ ∃ x4 : Int32, F b (1).toNatClampNeg = .int x4 ∧ vp_in 2 n1 ∧ ∃ x7 : Int32, F b (2).toNatClampNeg = .int x7 ∧ (v_L_swap x x4 x7 o T F (fun (r9 : Int32) (F10 : zF) => (vp_in 1 n1 ∧ ∃ x12 : Int32, F10 b (1).toNatClampNeg = .int x12 ∧ vp_in 2 n1 ∧ ∃ x15 : Int32, F10 b (2).toNatClampNeg = .int x15 ∧ T m = some (12, 6) ∧ (v_X9_swap m x12 x15 T F10 (fun (r18 : Int32) (F19 : zF) => (v_X9_thrown m T F19 (fun (r20 : Int32) => ((r20 = r9 → ((¬ r9 = 0 → (∃ L9 : Nat, T b = some (104, L9) ∧ L9 ≤ 7)) ∧ (r9 = 0 → (∃ n21 : Nat, T o = some (103, n21) ∧ vp_in 0 n21 ∧ ∃ x24 : Int64, F19 o (0).toNatClampNeg = .long x24 ∧ (((lg_cmp x24 r18.toInt64) = 0 → (∃ L9 : Nat, T b = some (104, L9) ∧ L9 ≤ 7)) ∧ (¬ (lg_cmp x24 r18.toInt64) = 0 → False)))))) ∧ (¬ r20 = r9 → False))))))))))
set_option maxRecDepth 100000 in
set_option maxHeartbeats 4000000 in
theorem kl_14 {p : Program} {l : Launch} {e : Env} {s : State} {m : MethodId} {below : List Frame} {meth : Method} {c : Code} {D : va_G} {cA : Nat → ClassId} {N0 zE : Nat} {x : Nat} {m : Nat} {o : Nat} {b : Nat} {T : zT} {F : zF} (hr : meth.sig.returnType = ret) (hN0 : N0 = s.heap.size) (C : z_C p l s m #[Value.ref b] meth c RL cL_law 9 ret D cA N0 zE) (h : vl_14 x m o b T F) : z_w p l e room_1 s m #[Value.ref b] below meth c D cA N0 9 20 80 (lw_Z below #[Value.ref b] s) 1222 [(4, .int 0), (3, .ref o), (2, .ref m), (1, .ref x), (0, .ref b)] [] T F := by
  unfold vl_14 at h
  refine zr_aload_n C 3 dL_law_1222 rfl rfl ?_
  refine zr_aload_n C 4 dL_law_1223 rfl rfl ?_
  refine zr_iload C 0 dL_law_1224 rfl ?_
  refine zr_iconst C 1 dL_law_1226 (by decide) ?_
  refine zr_iadd C dL_law_1227 ?_
  refine zr_eqi (y := 1) (by decide) ?_
  obtain ⟨n1, hT2, hi3, x4, hv5, h⟩ := h
  refine zr_iald4 C rfl hT2 hi3 hv5 dL_law_1228 ?_
  refine zr_aload_n C 4 dL_law_1229 rfl rfl ?_
  refine zr_iload C 0 dL_law_1230 rfl ?_
  refine zr_iconst C 2 dL_law_1232 (by decide) ?_
  refine zr_iadd C dL_law_1233 ?_
  refine zr_eqi (y := 2) (by decide) ?_
  obtain ⟨hi6, x7, hv8, h⟩ := h
  refine zr_iald4 C rfl hT2 hi6 hv8 dL_law_1234 ?_
  refine zr_aload_n C 1 dL_law_1235 rfl rfl ?_
  refine zr_callSH (As := [.ref x, .int x4, .int x7, .ref o]) C (k_L_swap h) ok_L_158 zq_850 rfl ⟨by decide, (Nat.le_of_ble_eq_true rfl)⟩ ⟨(Nat.le_of_ble_eq_true rfl), (Nat.le_of_ble_eq_true rfl)⟩ (Nat.le_of_ble_eq_true rfl) dL_law_1236 (fun v32 U33 G34 hq => ?_)
  clear h
  · obtain ⟨r9, rfl, rfl, h⟩ := hq
    refine zr_istore C [(5, .int r9), (4, .int 0), (3, .ref o), (2, .ref m), (1, .ref x), (0, .ref b)] dL_law_1239 (by decide) rfl ?_
    refine zr_aload_n C 3 dL_law_1241 rfl rfl ?_
    refine zr_aload_n C 5 dL_law_1242 rfl rfl ?_
    refine zr_iload C 1 dL_law_1243 rfl ?_
    refine zr_iconst C 1 dL_law_1245 (by decide) ?_
    refine zr_iadd C dL_law_1246 ?_
    refine zr_eqi (y := 1) (by decide) ?_
    obtain ⟨hi11, x12, hv13, h⟩ := h
    refine zr_iald4 C rfl hT2 hi11 hv13 dL_law_1247 ?_
    refine zr_aload_n C 5 dL_law_1248 rfl rfl ?_
    refine zr_iload C 1 dL_law_1249 rfl ?_
    refine zr_iconst C 2 dL_law_1251 (by decide) ?_
    refine zr_iadd C dL_law_1252 ?_
    refine zr_eqi (y := 2) (by decide) ?_
    obtain ⟨hi14, x15, hv16, h⟩ := h
    refine zr_iald4 C rfl hT2 hi14 hv16 dL_law_1253 ?_
    obtain ⟨hT17, h⟩ := h
    refine zr_callV (As := [.int x12, .int x15]) (r := (RX9, TX9, 6)) C (k_X9_swap h) ok_L_160 zq_1446 zq_1447 hT17 (by decide) rfl rfl ⟨by decide, (Nat.le_of_ble_eq_true rfl)⟩ ⟨(Nat.le_of_ble_eq_true rfl), (Nat.le_of_ble_eq_true rfl)⟩ (Nat.le_of_ble_eq_true rfl) dL_law_1254 (fun v29 U30 G31 hq => ?_)
    clear h
    · obtain ⟨r18, rfl, rfl, h⟩ := hq
      refine zr_istore C [(6, .int r18), (5, .int r9), (4, .int 0), (3, .ref o), (2, .ref m), (1, .ref x), (0, .ref b)] dL_law_1257 (by decide) rfl ?_
      refine zr_aload_n C 4 dL_law_1259 rfl rfl ?_
      refine zr_callV (As := []) (r := (RX9, TX9, 6)) C (k_X9_thrown h) ok_L_111 zq_975 zq_976 hT17 (by decide) rfl rfl ⟨by decide, (Nat.le_of_ble_eq_true rfl)⟩ ⟨(Nat.le_of_ble_eq_true rfl), (Nat.le_of_ble_eq_true rfl)⟩ (Nat.le_of_ble_eq_true rfl) dL_law_1260 (fun v26 U27 G28 hq => ?_)
      clear h
      · obtain ⟨r20, rfl, rfl, rfl, h⟩ := hq
        refine zr_iload C 1 dL_law_1263 rfl ?_
        obtain ⟨h1, h2⟩ := h
        refine zr_icmp_eq C 1270 dL_law_1265 (by decide) (fun hc => ?_) (fun hc => ?_)
        · have h := h1 hc
          clear h1 h2
          refine zr_iload C 1 dL_law_1270 rfl ?_
          obtain ⟨h1, h2⟩ := h
          refine zr_if_ne C 1287 dL_law_1272 (by decide) (fun hc => ?_) (fun hc => ?_)
          · have h := h1 hc
            clear h1 h2
            refine zr_goto C 2033 dL_law_1287 (by decide) ?_
            exact zr_sub [2, 6] rfl (kl_end hr hN0 C (Nat.le_of_ble_eq_true rfl) (Nat.le_of_ble_eq_true rfl) h)
          · have h := h2 hc
            clear h1 h2
            refine zr_aload_n C 3 dL_law_1275 rfl rfl ?_
            refine zr_iconst C 0 dL_law_1276 (by decide) ?_
            obtain ⟨n21, hT22, hi23, x24, hv25, h⟩ := h
            refine zr_lald C rfl hT22 hi23 hv25 dL_law_1277 ?_
            refine zr_iload C 0 dL_law_1278 rfl ?_
            refine zr_i2l C dL_law_1280 ?_
            refine zr_lcmp C dL_law_1281 ?_
            obtain ⟨h1, h2⟩ := h
            refine zr_if_eq C 1287 dL_law_1282 (by decide) (fun hc => ?_) (fun hc => ?_)
            · have h := h1 hc
              clear h1 h2
              refine zr_goto C 2033 dL_law_1287 (by decide) ?_
              exact zr_sub [2, 6] rfl (kl_end hr hN0 C (Nat.le_of_ble_eq_true rfl) (Nat.le_of_ble_eq_true rfl) h)
            · have h := h2 hc
              clear h1 h2
              refine zr_iconst C 0 dL_law_1285 (by decide) ?_
              exact h.elim
        · have h := h2 hc
          clear h1 h2
          refine zr_iconst C 0 dL_law_1268 (by decide) ?_
          exact h.elim
theorem dL_law_1290 : decode cL_law 1290 = .ok (.aload_n 1, 1) := by decide +kernel
theorem dL_law_1291 : decode cL_law 1291 = .ok (.aload_n 0, 1) := by decide +kernel
theorem dL_law_1292 : decode cL_law 1292 = .ok (.iload 4, 2) := by decide +kernel
theorem dL_law_1294 : decode cL_law 1294 = .ok (.iconst 1, 1) := by decide +kernel
theorem dL_law_1295 : decode cL_law 1295 = .ok (.iadd, 1) := by decide +kernel
theorem dL_law_1296 : decode cL_law 1296 = .ok (.iaload, 1) := by decide +kernel
theorem dL_law_1297 : decode cL_law 1297 = .ok (.aload_n 0, 1) := by decide +kernel
theorem dL_law_1298 : decode cL_law 1298 = .ok (.iload 4, 2) := by decide +kernel
theorem dL_law_1300 : decode cL_law 1300 = .ok (.iconst 2, 1) := by decide +kernel
theorem dL_law_1301 : decode cL_law 1301 = .ok (.iadd, 1) := by decide +kernel
theorem dL_law_1302 : decode cL_law 1302 = .ok (.iaload, 1) := by decide +kernel
theorem dL_law_1303 : decode cL_law 1303 = .ok (.aload_n 3, 1) := by decide +kernel
theorem dL_law_1307 : decode cL_law 1307 = .ok (.istore 5, 2) := by decide +kernel
theorem dL_law_1309 : decode cL_law 1309 = .ok (.aload_n 2, 1) := by decide +kernel
theorem dL_law_1310 : decode cL_law 1310 = .ok (.aload_n 0, 1) := by decide +kernel
theorem dL_law_1311 : decode cL_law 1311 = .ok (.iload 4, 2) := by decide +kernel
theorem dL_law_1313 : decode cL_law 1313 = .ok (.iconst 1, 1) := by decide +kernel
theorem dL_law_1314 : decode cL_law 1314 = .ok (.iadd, 1) := by decide +kernel
theorem dL_law_1315 : decode cL_law 1315 = .ok (.iaload, 1) := by decide +kernel
theorem dL_law_1316 : decode cL_law 1316 = .ok (.aload_n 0, 1) := by decide +kernel
theorem dL_law_1317 : decode cL_law 1317 = .ok (.iload 4, 2) := by decide +kernel
theorem dL_law_1319 : decode cL_law 1319 = .ok (.iconst 2, 1) := by decide +kernel
theorem dL_law_1320 : decode cL_law 1320 = .ok (.iadd, 1) := by decide +kernel
theorem dL_law_1321 : decode cL_law 1321 = .ok (.iaload, 1) := by decide +kernel
theorem dL_law_1325 : decode cL_law 1325 = .ok (.istore 6, 2) := by decide +kernel
theorem dL_law_1327 : decode cL_law 1327 = .ok (.aload_n 2, 1) := by decide +kernel
theorem dL_law_1331 : decode cL_law 1331 = .ok (.iload 5, 2) := by decide +kernel
theorem dL_law_1333 : decode cL_law 1333 = .ok (.if_icmp .eq 5, 3) := by decide +kernel
theorem dL_law_1338 : decode cL_law 1338 = .ok (.iload 5, 2) := by decide +kernel
theorem dL_law_1340 : decode cL_law 1340 = .ok (.ifCond .ne 15, 3) := by decide +kernel
theorem dL_law_1355 : decode cL_law 1355 = .ok (.goto 678, 3) := by decide +kernel
theorem dL_law_1343 : decode cL_law 1343 = .ok (.aload_n 3, 1) := by decide +kernel
theorem dL_law_1344 : decode cL_law 1344 = .ok (.iconst 0, 1) := by decide +kernel
theorem dL_law_1345 : decode cL_law 1345 = .ok (.laload, 1) := by decide +kernel
theorem dL_law_1346 : decode cL_law 1346 = .ok (.iload 6, 2) := by decide +kernel
theorem dL_law_1348 : decode cL_law 1348 = .ok (.i2l, 1) := by decide +kernel
theorem dL_law_1349 : decode cL_law 1349 = .ok (.lcmp, 1) := by decide +kernel
theorem dL_law_1350 : decode cL_law 1350 = .ok (.ifCond .eq 5, 3) := by decide +kernel
theorem dL_law_1353 : decode cL_law 1353 = .ok (.iconst 0, 1) := by decide +kernel
theorem dL_law_1336 : decode cL_law 1336 = .ok (.iconst 0, 1) := by decide +kernel
theorem dL_law_1328 : decode cL_law 1328 = .ok (.invokevirtual 111, 3) := by decide +kernel
theorem dL_law_1322 : decode cL_law 1322 = .ok (.invokevirtual 163, 3) := by decide +kernel
theorem dL_law_1304 : decode cL_law 1304 = .ok (.invokestatic 161, 3) := by decide +kernel
def vl_15 (x : Nat) (m : Nat) (o : Nat) (b : Nat) (T : zT) (F : zF) : Prop :=
  (∃ n1 : Nat, T b = some (104, n1) ∧ vp_in 1 n1 ∧ ∃ x4 : Int32, F b (1).toNatClampNeg = .int x4 ∧ vp_in 2 n1 ∧ ∃ x7 : Int32, F b (2).toNatClampNeg = .int x7 ∧ (v_L_ofBooking x x4 x7 o T F (fun (r9 : Int32) (F10 : zF) => (vp_in 1 n1 ∧ ∃ x12 : Int32, F10 b (1).toNatClampNeg = .int x12 ∧ vp_in 2 n1 ∧ ∃ x15 : Int32, F10 b (2).toNatClampNeg = .int x15 ∧ T m = some (12, 6) ∧ (v_X9_ofBooking m x12 x15 T F10 (fun (r18 : Int32) (F19 : zF) => (v_X9_thrown m T F19 (fun (r20 : Int32) => ((r20 = r9 → ((¬ r9 = 0 → (∃ L9 : Nat, T b = some (104, L9) ∧ L9 ≤ 7)) ∧ (r9 = 0 → (∃ n21 : Nat, T o = some (103, n21) ∧ vp_in 0 n21 ∧ ∃ x24 : Int64, F19 o (0).toNatClampNeg = .long x24 ∧ (((lg_cmp x24 r18.toInt64) = 0 → (∃ L9 : Nat, T b = some (104, L9) ∧ L9 ≤ 7)) ∧ (¬ (lg_cmp x24 r18.toInt64) = 0 → False)))))) ∧ (¬ r20 = r9 → False))))))))))
set_option maxRecDepth 100000 in
set_option maxHeartbeats 4000000 in
theorem kl_15 {p : Program} {l : Launch} {e : Env} {s : State} {m : MethodId} {below : List Frame} {meth : Method} {c : Code} {D : va_G} {cA : Nat → ClassId} {N0 zE : Nat} {x : Nat} {m : Nat} {o : Nat} {b : Nat} {T : zT} {F : zF} (hr : meth.sig.returnType = ret) (hN0 : N0 = s.heap.size) (C : z_C p l s m #[Value.ref b] meth c RL cL_law 9 ret D cA N0 zE) (h : vl_15 x m o b T F) : z_w p l e room_1 s m #[Value.ref b] below meth c D cA N0 9 20 80 (lw_Z below #[Value.ref b] s) 1290 [(4, .int 0), (3, .ref o), (2, .ref m), (1, .ref x), (0, .ref b)] [] T F := by
  unfold vl_15 at h
  refine zr_aload_n C 3 dL_law_1290 rfl rfl ?_
  refine zr_aload_n C 4 dL_law_1291 rfl rfl ?_
  refine zr_iload C 0 dL_law_1292 rfl ?_
  refine zr_iconst C 1 dL_law_1294 (by decide) ?_
  refine zr_iadd C dL_law_1295 ?_
  refine zr_eqi (y := 1) (by decide) ?_
  obtain ⟨n1, hT2, hi3, x4, hv5, h⟩ := h
  refine zr_iald4 C rfl hT2 hi3 hv5 dL_law_1296 ?_
  refine zr_aload_n C 4 dL_law_1297 rfl rfl ?_
  refine zr_iload C 0 dL_law_1298 rfl ?_
  refine zr_iconst C 2 dL_law_1300 (by decide) ?_
  refine zr_iadd C dL_law_1301 ?_
  refine zr_eqi (y := 2) (by decide) ?_
  obtain ⟨hi6, x7, hv8, h⟩ := h
  refine zr_iald4 C rfl hT2 hi6 hv8 dL_law_1302 ?_
  refine zr_aload_n C 1 dL_law_1303 rfl rfl ?_
  refine zr_callSH (As := [.ref x, .int x4, .int x7, .ref o]) C (k_L_ofBooking h) ok_L_161 zq_860 rfl ⟨by decide, (Nat.le_of_ble_eq_true rfl)⟩ ⟨(Nat.le_of_ble_eq_true rfl), (Nat.le_of_ble_eq_true rfl)⟩ (Nat.le_of_ble_eq_true rfl) dL_law_1304 (fun v32 U33 G34 hq => ?_)
  clear h
  · obtain ⟨r9, rfl, rfl, h⟩ := hq
    refine zr_istore C [(5, .int r9), (4, .int 0), (3, .ref o), (2, .ref m), (1, .ref x), (0, .ref b)] dL_law_1307 (by decide) rfl ?_
    refine zr_aload_n C 3 dL_law_1309 rfl rfl ?_
    refine zr_aload_n C 5 dL_law_1310 rfl rfl ?_
    refine zr_iload C 1 dL_law_1311 rfl ?_
    refine zr_iconst C 1 dL_law_1313 (by decide) ?_
    refine zr_iadd C dL_law_1314 ?_
    refine zr_eqi (y := 1) (by decide) ?_
    obtain ⟨hi11, x12, hv13, h⟩ := h
    refine zr_iald4 C rfl hT2 hi11 hv13 dL_law_1315 ?_
    refine zr_aload_n C 5 dL_law_1316 rfl rfl ?_
    refine zr_iload C 1 dL_law_1317 rfl ?_
    refine zr_iconst C 2 dL_law_1319 (by decide) ?_
    refine zr_iadd C dL_law_1320 ?_
    refine zr_eqi (y := 2) (by decide) ?_
    obtain ⟨hi14, x15, hv16, h⟩ := h
    refine zr_iald4 C rfl hT2 hi14 hv16 dL_law_1321 ?_
    obtain ⟨hT17, h⟩ := h
    refine zr_callV (As := [.int x12, .int x15]) (r := (RX9, TX9, 6)) C (k_X9_ofBooking h) ok_L_163 zq_1463 zq_1464 hT17 (by decide) rfl rfl ⟨by decide, (Nat.le_of_ble_eq_true rfl)⟩ ⟨(Nat.le_of_ble_eq_true rfl), (Nat.le_of_ble_eq_true rfl)⟩ (Nat.le_of_ble_eq_true rfl) dL_law_1322 (fun v29 U30 G31 hq => ?_)
    clear h
    · obtain ⟨r18, rfl, rfl, h⟩ := hq
      refine zr_istore C [(6, .int r18), (5, .int r9), (4, .int 0), (3, .ref o), (2, .ref m), (1, .ref x), (0, .ref b)] dL_law_1325 (by decide) rfl ?_
      refine zr_aload_n C 4 dL_law_1327 rfl rfl ?_
      refine zr_callV (As := []) (r := (RX9, TX9, 6)) C (k_X9_thrown h) ok_L_111 zq_975 zq_976 hT17 (by decide) rfl rfl ⟨by decide, (Nat.le_of_ble_eq_true rfl)⟩ ⟨(Nat.le_of_ble_eq_true rfl), (Nat.le_of_ble_eq_true rfl)⟩ (Nat.le_of_ble_eq_true rfl) dL_law_1328 (fun v26 U27 G28 hq => ?_)
      clear h
      · obtain ⟨r20, rfl, rfl, rfl, h⟩ := hq
        refine zr_iload C 1 dL_law_1331 rfl ?_
        obtain ⟨h1, h2⟩ := h
        refine zr_icmp_eq C 1338 dL_law_1333 (by decide) (fun hc => ?_) (fun hc => ?_)
        · have h := h1 hc
          clear h1 h2
          refine zr_iload C 1 dL_law_1338 rfl ?_
          obtain ⟨h1, h2⟩ := h
          refine zr_if_ne C 1355 dL_law_1340 (by decide) (fun hc => ?_) (fun hc => ?_)
          · have h := h1 hc
            clear h1 h2
            refine zr_goto C 2033 dL_law_1355 (by decide) ?_
            exact zr_sub [2, 6] rfl (kl_end hr hN0 C (Nat.le_of_ble_eq_true rfl) (Nat.le_of_ble_eq_true rfl) h)
          · have h := h2 hc
            clear h1 h2
            refine zr_aload_n C 3 dL_law_1343 rfl rfl ?_
            refine zr_iconst C 0 dL_law_1344 (by decide) ?_
            obtain ⟨n21, hT22, hi23, x24, hv25, h⟩ := h
            refine zr_lald C rfl hT22 hi23 hv25 dL_law_1345 ?_
            refine zr_iload C 0 dL_law_1346 rfl ?_
            refine zr_i2l C dL_law_1348 ?_
            refine zr_lcmp C dL_law_1349 ?_
            obtain ⟨h1, h2⟩ := h
            refine zr_if_eq C 1355 dL_law_1350 (by decide) (fun hc => ?_) (fun hc => ?_)
            · have h := h1 hc
              clear h1 h2
              refine zr_goto C 2033 dL_law_1355 (by decide) ?_
              exact zr_sub [2, 6] rfl (kl_end hr hN0 C (Nat.le_of_ble_eq_true rfl) (Nat.le_of_ble_eq_true rfl) h)
            · have h := h2 hc
              clear h1 h2
              refine zr_iconst C 0 dL_law_1353 (by decide) ?_
              exact h.elim
        · have h := h2 hc
          clear h1 h2
          refine zr_iconst C 0 dL_law_1336 (by decide) ?_
          exact h.elim
theorem dL_law_1358 : decode cL_law 1358 = .ok (.aload_n 1, 1) := by decide +kernel
theorem dL_law_1359 : decode cL_law 1359 = .ok (.aload_n 3, 1) := by decide +kernel
theorem dL_law_1363 : decode cL_law 1363 = .ok (.istore 5, 2) := by decide +kernel
theorem dL_law_1365 : decode cL_law 1365 = .ok (.aload_n 2, 1) := by decide +kernel
theorem dL_law_1369 : decode cL_law 1369 = .ok (.istore 6, 2) := by decide +kernel
theorem dL_law_1371 : decode cL_law 1371 = .ok (.aload_n 2, 1) := by decide +kernel
theorem dL_law_1375 : decode cL_law 1375 = .ok (.iload 5, 2) := by decide +kernel
theorem dL_law_1377 : decode cL_law 1377 = .ok (.if_icmp .eq 5, 3) := by decide +kernel
theorem dL_law_1382 : decode cL_law 1382 = .ok (.iload 5, 2) := by decide +kernel
theorem dL_law_1384 : decode cL_law 1384 = .ok (.ifCond .ne 15, 3) := by decide +kernel
theorem dL_law_1399 : decode cL_law 1399 = .ok (.goto 634, 3) := by decide +kernel
theorem dL_law_1387 : decode cL_law 1387 = .ok (.aload_n 3, 1) := by decide +kernel
theorem dL_law_1388 : decode cL_law 1388 = .ok (.iconst 0, 1) := by decide +kernel
theorem dL_law_1389 : decode cL_law 1389 = .ok (.laload, 1) := by decide +kernel
theorem dL_law_1390 : decode cL_law 1390 = .ok (.iload 6, 2) := by decide +kernel
theorem dL_law_1392 : decode cL_law 1392 = .ok (.i2l, 1) := by decide +kernel
theorem dL_law_1393 : decode cL_law 1393 = .ok (.lcmp, 1) := by decide +kernel
theorem dL_law_1394 : decode cL_law 1394 = .ok (.ifCond .eq 5, 3) := by decide +kernel
theorem dL_law_1397 : decode cL_law 1397 = .ok (.iconst 0, 1) := by decide +kernel
theorem dL_law_1380 : decode cL_law 1380 = .ok (.iconst 0, 1) := by decide +kernel
theorem dL_law_1372 : decode cL_law 1372 = .ok (.invokevirtual 111, 3) := by decide +kernel
theorem dL_law_1366 : decode cL_law 1366 = .ok (.invokevirtual 166, 3) := by decide +kernel
theorem dL_law_1360 : decode cL_law 1360 = .ok (.invokestatic 164, 3) := by decide +kernel
def vl_16 (x : Nat) (m : Nat) (o : Nat) (b : Nat) (T : zT) (F : zF) : Prop :=
  (v_L_day x o T F (fun (r1 : Int32) (F2 : zF) => (T m = some (12, 6) ∧ (v_X9_day m T F2 (fun (r4 : Int32) (T5 : zT) (F6 : zF) => (T5 m = some (12, 6) ∧ (v_X9_thrown m T5 F6 (fun (r8 : Int32) => ((r8 = r1 → ((¬ r1 = 0 → (∃ L9 : Nat, T5 b = some (104, L9) ∧ L9 ≤ 7)) ∧ (r1 = 0 → (∃ n9 : Nat, T5 o = some (103, n9) ∧ vp_in 0 n9 ∧ ∃ x12 : Int64, F6 o (0).toNatClampNeg = .long x12 ∧ (((lg_cmp x12 r4.toInt64) = 0 → (∃ L9 : Nat, T5 b = some (104, L9) ∧ L9 ≤ 7)) ∧ (¬ (lg_cmp x12 r4.toInt64) = 0 → False)))))) ∧ (¬ r8 = r1 → False))))))))))
set_option maxRecDepth 100000 in
set_option maxHeartbeats 4000000 in
theorem kl_16 {p : Program} {l : Launch} {e : Env} {s : State} {m : MethodId} {below : List Frame} {meth : Method} {c : Code} {D : va_G} {cA : Nat → ClassId} {N0 zE : Nat} {x : Nat} {m : Nat} {o : Nat} {b : Nat} {T : zT} {F : zF} (hr : meth.sig.returnType = ret) (hN0 : N0 = s.heap.size) (C : z_C p l s m #[Value.ref b] meth c RL cL_law 9 ret D cA N0 zE) (h : vl_16 x m o b T F) : z_w p l e room_1 s m #[Value.ref b] below meth c D cA N0 9 20 80 (lw_Z below #[Value.ref b] s) 1358 [(4, .int 0), (3, .ref o), (2, .ref m), (1, .ref x), (0, .ref b)] [] T F := by
  unfold vl_16 at h
  refine zr_aload_n C 3 dL_law_1358 rfl rfl ?_
  refine zr_aload_n C 1 dL_law_1359 rfl rfl ?_
  refine zr_callSH (As := [.ref x, .ref o]) C (k_L_day h) ok_L_164 zq_864 rfl ⟨by decide, (Nat.le_of_ble_eq_true rfl)⟩ ⟨(Nat.le_of_ble_eq_true rfl), (Nat.le_of_ble_eq_true rfl)⟩ (Nat.le_of_ble_eq_true rfl) dL_law_1360 (fun v20 U21 G22 hq => ?_)
  clear h
  · obtain ⟨r1, rfl, rfl, h⟩ := hq
    refine zr_istore C [(5, .int r1), (4, .int 0), (3, .ref o), (2, .ref m), (1, .ref x), (0, .ref b)] dL_law_1363 (by decide) rfl ?_
    refine zr_aload_n C 3 dL_law_1365 rfl rfl ?_
    obtain ⟨hT3, h⟩ := h
    refine zr_callV (As := []) (r := (RX9, TX9, 6)) C (k_X9_day h) ok_L_166 zq_1470 zq_1471 hT3 (by decide) rfl rfl ⟨by decide, (Nat.le_of_ble_eq_true rfl)⟩ ⟨(Nat.le_of_ble_eq_true rfl), (Nat.le_of_ble_eq_true rfl)⟩ (Nat.le_of_ble_eq_true rfl) dL_law_1366 (fun v17 U18 G19 hq => ?_)
    clear h
    · obtain ⟨r4, rfl, h⟩ := hq
      skip
      refine zr_istore C [(6, .int r4), (5, .int r1), (4, .int 0), (3, .ref o), (2, .ref m), (1, .ref x), (0, .ref b)] dL_law_1369 (by decide) rfl ?_
      refine zr_aload_n C 4 dL_law_1371 rfl rfl ?_
      obtain ⟨hT7, h⟩ := h
      refine zr_callV (As := []) (r := (RX9, TX9, 6)) C (k_X9_thrown h) ok_L_111 zq_975 zq_976 hT7 (by decide) rfl rfl ⟨by decide, (Nat.le_of_ble_eq_true rfl)⟩ ⟨(Nat.le_of_ble_eq_true rfl), (Nat.le_of_ble_eq_true rfl)⟩ (Nat.le_of_ble_eq_true rfl) dL_law_1372 (fun v14 U15 G16 hq => ?_)
      clear h
      · obtain ⟨r8, rfl, rfl, rfl, h⟩ := hq
        refine zr_iload C 1 dL_law_1375 rfl ?_
        obtain ⟨h1, h2⟩ := h
        refine zr_icmp_eq C 1382 dL_law_1377 (by decide) (fun hc => ?_) (fun hc => ?_)
        · have h := h1 hc
          clear h1 h2
          refine zr_iload C 1 dL_law_1382 rfl ?_
          obtain ⟨h1, h2⟩ := h
          refine zr_if_ne C 1399 dL_law_1384 (by decide) (fun hc => ?_) (fun hc => ?_)
          · have h := h1 hc
            clear h1 h2
            refine zr_goto C 2033 dL_law_1399 (by decide) ?_
            exact zr_sub [2, 6] rfl (kl_end hr hN0 C (Nat.le_of_ble_eq_true rfl) (Nat.le_of_ble_eq_true rfl) h)
          · have h := h2 hc
            clear h1 h2
            refine zr_aload_n C 3 dL_law_1387 rfl rfl ?_
            refine zr_iconst C 0 dL_law_1388 (by decide) ?_
            obtain ⟨n9, hT10, hi11, x12, hv13, h⟩ := h
            refine zr_lald C rfl hT10 hi11 hv13 dL_law_1389 ?_
            refine zr_iload C 0 dL_law_1390 rfl ?_
            refine zr_i2l C dL_law_1392 ?_
            refine zr_lcmp C dL_law_1393 ?_
            obtain ⟨h1, h2⟩ := h
            refine zr_if_eq C 1399 dL_law_1394 (by decide) (fun hc => ?_) (fun hc => ?_)
            · have h := h1 hc
              clear h1 h2
              refine zr_goto C 2033 dL_law_1399 (by decide) ?_
              exact zr_sub [2, 6] rfl (kl_end hr hN0 C (Nat.le_of_ble_eq_true rfl) (Nat.le_of_ble_eq_true rfl) h)
            · have h := h2 hc
              clear h1 h2
              refine zr_iconst C 0 dL_law_1397 (by decide) ?_
              exact h.elim
        · have h := h2 hc
          clear h1 h2
          refine zr_iconst C 0 dL_law_1380 (by decide) ?_
          exact h.elim
theorem dL_law_1402 : decode cL_law 1402 = .ok (.aload_n 1, 1) := by decide +kernel
theorem dL_law_1403 : decode cL_law 1403 = .ok (.aload_n 0, 1) := by decide +kernel
theorem dL_law_1404 : decode cL_law 1404 = .ok (.iload 4, 2) := by decide +kernel
theorem dL_law_1406 : decode cL_law 1406 = .ok (.iconst 1, 1) := by decide +kernel
theorem dL_law_1407 : decode cL_law 1407 = .ok (.iadd, 1) := by decide +kernel
theorem dL_law_1408 : decode cL_law 1408 = .ok (.iaload, 1) := by decide +kernel
theorem dL_law_1409 : decode cL_law 1409 = .ok (.aload_n 0, 1) := by decide +kernel
theorem dL_law_1410 : decode cL_law 1410 = .ok (.iload 4, 2) := by decide +kernel
theorem dL_law_1412 : decode cL_law 1412 = .ok (.iconst 2, 1) := by decide +kernel
theorem dL_law_1413 : decode cL_law 1413 = .ok (.iadd, 1) := by decide +kernel
theorem dL_law_1414 : decode cL_law 1414 = .ok (.iaload, 1) := by decide +kernel
theorem dL_law_1415 : decode cL_law 1415 = .ok (.aload_n 0, 1) := by decide +kernel
theorem dL_law_1416 : decode cL_law 1416 = .ok (.iload 4, 2) := by decide +kernel
theorem dL_law_1418 : decode cL_law 1418 = .ok (.iconst 3, 1) := by decide +kernel
theorem dL_law_1419 : decode cL_law 1419 = .ok (.iadd, 1) := by decide +kernel
theorem dL_law_1420 : decode cL_law 1420 = .ok (.iaload, 1) := by decide +kernel
theorem dL_law_1421 : decode cL_law 1421 = .ok (.aload_n 3, 1) := by decide +kernel
theorem dL_law_1425 : decode cL_law 1425 = .ok (.istore 5, 2) := by decide +kernel
theorem dL_law_1427 : decode cL_law 1427 = .ok (.aload_n 2, 1) := by decide +kernel
theorem dL_law_1428 : decode cL_law 1428 = .ok (.aload_n 0, 1) := by decide +kernel
theorem dL_law_1429 : decode cL_law 1429 = .ok (.iload 4, 2) := by decide +kernel
theorem dL_law_1431 : decode cL_law 1431 = .ok (.iconst 1, 1) := by decide +kernel
theorem dL_law_1432 : decode cL_law 1432 = .ok (.iadd, 1) := by decide +kernel
theorem dL_law_1433 : decode cL_law 1433 = .ok (.iaload, 1) := by decide +kernel
theorem dL_law_1434 : decode cL_law 1434 = .ok (.aload_n 0, 1) := by decide +kernel
theorem dL_law_1435 : decode cL_law 1435 = .ok (.iload 4, 2) := by decide +kernel
theorem dL_law_1437 : decode cL_law 1437 = .ok (.iconst 2, 1) := by decide +kernel
theorem dL_law_1438 : decode cL_law 1438 = .ok (.iadd, 1) := by decide +kernel
theorem dL_law_1439 : decode cL_law 1439 = .ok (.iaload, 1) := by decide +kernel
theorem dL_law_1440 : decode cL_law 1440 = .ok (.aload_n 0, 1) := by decide +kernel
theorem dL_law_1441 : decode cL_law 1441 = .ok (.iload 4, 2) := by decide +kernel
theorem dL_law_1443 : decode cL_law 1443 = .ok (.iconst 3, 1) := by decide +kernel
theorem dL_law_1444 : decode cL_law 1444 = .ok (.iadd, 1) := by decide +kernel
theorem dL_law_1445 : decode cL_law 1445 = .ok (.iaload, 1) := by decide +kernel
theorem dL_law_1449 : decode cL_law 1449 = .ok (.istore 6, 2) := by decide +kernel
theorem dL_law_1451 : decode cL_law 1451 = .ok (.aload_n 2, 1) := by decide +kernel
theorem dL_law_1455 : decode cL_law 1455 = .ok (.iload 5, 2) := by decide +kernel
theorem dL_law_1457 : decode cL_law 1457 = .ok (.if_icmp .eq 5, 3) := by decide +kernel
theorem dL_law_1462 : decode cL_law 1462 = .ok (.iload 5, 2) := by decide +kernel
theorem dL_law_1464 : decode cL_law 1464 = .ok (.ifCond .ne 15, 3) := by decide +kernel
theorem dL_law_1479 : decode cL_law 1479 = .ok (.goto 554, 3) := by decide +kernel
theorem dL_law_1467 : decode cL_law 1467 = .ok (.aload_n 3, 1) := by decide +kernel
theorem dL_law_1468 : decode cL_law 1468 = .ok (.iconst 0, 1) := by decide +kernel
theorem dL_law_1469 : decode cL_law 1469 = .ok (.laload, 1) := by decide +kernel
theorem dL_law_1470 : decode cL_law 1470 = .ok (.iload 6, 2) := by decide +kernel
theorem dL_law_1472 : decode cL_law 1472 = .ok (.i2l, 1) := by decide +kernel
theorem dL_law_1473 : decode cL_law 1473 = .ok (.lcmp, 1) := by decide +kernel
theorem dL_law_1474 : decode cL_law 1474 = .ok (.ifCond .eq 5, 3) := by decide +kernel
theorem dL_law_1477 : decode cL_law 1477 = .ok (.iconst 0, 1) := by decide +kernel
theorem dL_law_1460 : decode cL_law 1460 = .ok (.iconst 0, 1) := by decide +kernel
theorem dL_law_1452 : decode cL_law 1452 = .ok (.invokevirtual 111, 3) := by decide +kernel
theorem dL_law_1446 : decode cL_law 1446 = .ok (.invokevirtual 169, 3) := by decide +kernel
theorem dL_law_1422 : decode cL_law 1422 = .ok (.invokestatic 167, 3) := by decide +kernel
def vl_17 (x : Nat) (m : Nat) (o : Nat) (b : Nat) (T : zT) (F : zF) : Prop :=
  (∃ n1 : Nat, T b = some (104, n1) ∧ vp_in 1 n1 ∧ ∃ x4 : Int32, F b (1).toNatClampNeg = .int x4 ∧ vp_in 2 n1 ∧ ∃ x7 : Int32, F b (2).toNatClampNeg = .int x7 ∧ vp_in 3 n1 ∧ ∃ x10 : Int32, F b (3).toNatClampNeg = .int x10 ∧ (v_L_at x x4 x7 x10 o T F (fun (r12 : Int32) (F13 : zF) => (vp_in 1 n1 ∧ ∃ x15 : Int32, F13 b (1).toNatClampNeg = .int x15 ∧ vp_in 2 n1 ∧ ∃ x18 : Int32, F13 b (2).toNatClampNeg = .int x18 ∧ vp_in 3 n1 ∧ ∃ x21 : Int32, F13 b (3).toNatClampNeg = .int x21 ∧ T m = some (12, 6) ∧ (v_X9_at m x15 x18 x21 T F13 (fun (r24 : Int32) (F25 : zF) => (v_X9_thrown m T F25 (fun (r26 : Int32) => ((r26 = r12 → ((¬ r12 = 0 → (∃ L9 : Nat, T b = some (104, L9) ∧ L9 ≤ 7)) ∧ (r12 = 0 → (∃ n27 : Nat, T o = some (103, n27) ∧ vp_in 0 n27 ∧ ∃ x30 : Int64, F25 o (0).toNatClampNeg = .long x30 ∧ (((lg_cmp x30 r24.toInt64) = 0 → (∃ L9 : Nat, T b = some (104, L9) ∧ L9 ≤ 7)) ∧ (¬ (lg_cmp x30 r24.toInt64) = 0 → False)))))) ∧ (¬ r26 = r12 → False))))))))))
set_option maxRecDepth 100000 in
set_option maxHeartbeats 4000000 in
theorem kl_17 {p : Program} {l : Launch} {e : Env} {s : State} {m : MethodId} {below : List Frame} {meth : Method} {c : Code} {D : va_G} {cA : Nat → ClassId} {N0 zE : Nat} {x : Nat} {m : Nat} {o : Nat} {b : Nat} {T : zT} {F : zF} (hr : meth.sig.returnType = ret) (hN0 : N0 = s.heap.size) (C : z_C p l s m #[Value.ref b] meth c RL cL_law 9 ret D cA N0 zE) (h : vl_17 x m o b T F) : z_w p l e room_1 s m #[Value.ref b] below meth c D cA N0 9 20 80 (lw_Z below #[Value.ref b] s) 1402 [(4, .int 0), (3, .ref o), (2, .ref m), (1, .ref x), (0, .ref b)] [] T F := by
  unfold vl_17 at h
  refine zr_aload_n C 3 dL_law_1402 rfl rfl ?_
  refine zr_aload_n C 4 dL_law_1403 rfl rfl ?_
  refine zr_iload C 0 dL_law_1404 rfl ?_
  refine zr_iconst C 1 dL_law_1406 (by decide) ?_
  refine zr_iadd C dL_law_1407 ?_
  refine zr_eqi (y := 1) (by decide) ?_
  obtain ⟨n1, hT2, hi3, x4, hv5, h⟩ := h
  refine zr_iald4 C rfl hT2 hi3 hv5 dL_law_1408 ?_
  refine zr_aload_n C 4 dL_law_1409 rfl rfl ?_
  refine zr_iload C 0 dL_law_1410 rfl ?_
  refine zr_iconst C 2 dL_law_1412 (by decide) ?_
  refine zr_iadd C dL_law_1413 ?_
  refine zr_eqi (y := 2) (by decide) ?_
  obtain ⟨hi6, x7, hv8, h⟩ := h
  refine zr_iald4 C rfl hT2 hi6 hv8 dL_law_1414 ?_
  refine zr_aload_n C 4 dL_law_1415 rfl rfl ?_
  refine zr_iload C 0 dL_law_1416 rfl ?_
  refine zr_iconst C 3 dL_law_1418 (by decide) ?_
  refine zr_iadd C dL_law_1419 ?_
  refine zr_eqi (y := 3) (by decide) ?_
  obtain ⟨hi9, x10, hv11, h⟩ := h
  refine zr_iald4 C rfl hT2 hi9 hv11 dL_law_1420 ?_
  refine zr_aload_n C 1 dL_law_1421 rfl rfl ?_
  refine zr_callSH (As := [.ref x, .int x4, .int x7, .int x10, .ref o]) C (k_L_at h) ok_L_167 zq_872 rfl ⟨by decide, (Nat.le_of_ble_eq_true rfl)⟩ ⟨(Nat.le_of_ble_eq_true rfl), (Nat.le_of_ble_eq_true rfl)⟩ (Nat.le_of_ble_eq_true rfl) dL_law_1422 (fun v38 U39 G40 hq => ?_)
  clear h
  · obtain ⟨r12, rfl, rfl, h⟩ := hq
    refine zr_istore C [(5, .int r12), (4, .int 0), (3, .ref o), (2, .ref m), (1, .ref x), (0, .ref b)] dL_law_1425 (by decide) rfl ?_
    refine zr_aload_n C 3 dL_law_1427 rfl rfl ?_
    refine zr_aload_n C 5 dL_law_1428 rfl rfl ?_
    refine zr_iload C 1 dL_law_1429 rfl ?_
    refine zr_iconst C 1 dL_law_1431 (by decide) ?_
    refine zr_iadd C dL_law_1432 ?_
    refine zr_eqi (y := 1) (by decide) ?_
    obtain ⟨hi14, x15, hv16, h⟩ := h
    refine zr_iald4 C rfl hT2 hi14 hv16 dL_law_1433 ?_
    refine zr_aload_n C 5 dL_law_1434 rfl rfl ?_
    refine zr_iload C 1 dL_law_1435 rfl ?_
    refine zr_iconst C 2 dL_law_1437 (by decide) ?_
    refine zr_iadd C dL_law_1438 ?_
    refine zr_eqi (y := 2) (by decide) ?_
    obtain ⟨hi17, x18, hv19, h⟩ := h
    refine zr_iald4 C rfl hT2 hi17 hv19 dL_law_1439 ?_
    refine zr_aload_n C 5 dL_law_1440 rfl rfl ?_
    refine zr_iload C 1 dL_law_1441 rfl ?_
    refine zr_iconst C 3 dL_law_1443 (by decide) ?_
    refine zr_iadd C dL_law_1444 ?_
    refine zr_eqi (y := 3) (by decide) ?_
    obtain ⟨hi20, x21, hv22, h⟩ := h
    refine zr_iald4 C rfl hT2 hi20 hv22 dL_law_1445 ?_
    obtain ⟨hT23, h⟩ := h
    refine zr_callV (As := [.int x15, .int x18, .int x21]) (r := (RX9, TX9, 6)) C (k_X9_at h) ok_L_169 zq_1491 zq_1492 hT23 (by decide) rfl rfl ⟨by decide, (Nat.le_of_ble_eq_true rfl)⟩ ⟨(Nat.le_of_ble_eq_true rfl), (Nat.le_of_ble_eq_true rfl)⟩ (Nat.le_of_ble_eq_true rfl) dL_law_1446 (fun v35 U36 G37 hq => ?_)
    clear h
    · obtain ⟨r24, rfl, rfl, h⟩ := hq
      refine zr_istore C [(6, .int r24), (5, .int r12), (4, .int 0), (3, .ref o), (2, .ref m), (1, .ref x), (0, .ref b)] dL_law_1449 (by decide) rfl ?_
      refine zr_aload_n C 4 dL_law_1451 rfl rfl ?_
      refine zr_callV (As := []) (r := (RX9, TX9, 6)) C (k_X9_thrown h) ok_L_111 zq_975 zq_976 hT23 (by decide) rfl rfl ⟨by decide, (Nat.le_of_ble_eq_true rfl)⟩ ⟨(Nat.le_of_ble_eq_true rfl), (Nat.le_of_ble_eq_true rfl)⟩ (Nat.le_of_ble_eq_true rfl) dL_law_1452 (fun v32 U33 G34 hq => ?_)
      clear h
      · obtain ⟨r26, rfl, rfl, rfl, h⟩ := hq
        refine zr_iload C 1 dL_law_1455 rfl ?_
        obtain ⟨h1, h2⟩ := h
        refine zr_icmp_eq C 1462 dL_law_1457 (by decide) (fun hc => ?_) (fun hc => ?_)
        · have h := h1 hc
          clear h1 h2
          refine zr_iload C 1 dL_law_1462 rfl ?_
          obtain ⟨h1, h2⟩ := h
          refine zr_if_ne C 1479 dL_law_1464 (by decide) (fun hc => ?_) (fun hc => ?_)
          · have h := h1 hc
            clear h1 h2
            refine zr_goto C 2033 dL_law_1479 (by decide) ?_
            exact zr_sub [2, 6] rfl (kl_end hr hN0 C (Nat.le_of_ble_eq_true rfl) (Nat.le_of_ble_eq_true rfl) h)
          · have h := h2 hc
            clear h1 h2
            refine zr_aload_n C 3 dL_law_1467 rfl rfl ?_
            refine zr_iconst C 0 dL_law_1468 (by decide) ?_
            obtain ⟨n27, hT28, hi29, x30, hv31, h⟩ := h
            refine zr_lald C rfl hT28 hi29 hv31 dL_law_1469 ?_
            refine zr_iload C 0 dL_law_1470 rfl ?_
            refine zr_i2l C dL_law_1472 ?_
            refine zr_lcmp C dL_law_1473 ?_
            obtain ⟨h1, h2⟩ := h
            refine zr_if_eq C 1479 dL_law_1474 (by decide) (fun hc => ?_) (fun hc => ?_)
            · have h := h1 hc
              clear h1 h2
              refine zr_goto C 2033 dL_law_1479 (by decide) ?_
              exact zr_sub [2, 6] rfl (kl_end hr hN0 C (Nat.le_of_ble_eq_true rfl) (Nat.le_of_ble_eq_true rfl) h)
            · have h := h2 hc
              clear h1 h2
              refine zr_iconst C 0 dL_law_1477 (by decide) ?_
              exact h.elim
        · have h := h2 hc
          clear h1 h2
          refine zr_iconst C 0 dL_law_1460 (by decide) ?_
          exact h.elim
theorem dL_law_1482 : decode cL_law 1482 = .ok (.aload_n 1, 1) := by decide +kernel
theorem dL_law_1483 : decode cL_law 1483 = .ok (.aload_n 0, 1) := by decide +kernel
theorem dL_law_1484 : decode cL_law 1484 = .ok (.iload 4, 2) := by decide +kernel
theorem dL_law_1486 : decode cL_law 1486 = .ok (.iconst 1, 1) := by decide +kernel
theorem dL_law_1487 : decode cL_law 1487 = .ok (.iadd, 1) := by decide +kernel
theorem dL_law_1488 : decode cL_law 1488 = .ok (.iaload, 1) := by decide +kernel
theorem dL_law_1489 : decode cL_law 1489 = .ok (.aload_n 3, 1) := by decide +kernel
theorem dL_law_1493 : decode cL_law 1493 = .ok (.istore 5, 2) := by decide +kernel
theorem dL_law_1495 : decode cL_law 1495 = .ok (.aload_n 2, 1) := by decide +kernel
theorem dL_law_1496 : decode cL_law 1496 = .ok (.aload_n 0, 1) := by decide +kernel
theorem dL_law_1497 : decode cL_law 1497 = .ok (.iload 4, 2) := by decide +kernel
theorem dL_law_1499 : decode cL_law 1499 = .ok (.iconst 1, 1) := by decide +kernel
theorem dL_law_1500 : decode cL_law 1500 = .ok (.iadd, 1) := by decide +kernel
theorem dL_law_1501 : decode cL_law 1501 = .ok (.iaload, 1) := by decide +kernel
theorem dL_law_1505 : decode cL_law 1505 = .ok (.istore 6, 2) := by decide +kernel
theorem dL_law_1507 : decode cL_law 1507 = .ok (.aload_n 2, 1) := by decide +kernel
theorem dL_law_1511 : decode cL_law 1511 = .ok (.iload 5, 2) := by decide +kernel
theorem dL_law_1513 : decode cL_law 1513 = .ok (.if_icmp .eq 5, 3) := by decide +kernel
theorem dL_law_1518 : decode cL_law 1518 = .ok (.iload 5, 2) := by decide +kernel
theorem dL_law_1520 : decode cL_law 1520 = .ok (.ifCond .ne 15, 3) := by decide +kernel
theorem dL_law_1535 : decode cL_law 1535 = .ok (.goto 498, 3) := by decide +kernel
theorem dL_law_1523 : decode cL_law 1523 = .ok (.aload_n 3, 1) := by decide +kernel
theorem dL_law_1524 : decode cL_law 1524 = .ok (.iconst 0, 1) := by decide +kernel
theorem dL_law_1525 : decode cL_law 1525 = .ok (.laload, 1) := by decide +kernel
theorem dL_law_1526 : decode cL_law 1526 = .ok (.iload 6, 2) := by decide +kernel
theorem dL_law_1528 : decode cL_law 1528 = .ok (.i2l, 1) := by decide +kernel
theorem dL_law_1529 : decode cL_law 1529 = .ok (.lcmp, 1) := by decide +kernel
theorem dL_law_1530 : decode cL_law 1530 = .ok (.ifCond .eq 5, 3) := by decide +kernel
theorem dL_law_1533 : decode cL_law 1533 = .ok (.iconst 0, 1) := by decide +kernel
theorem dL_law_1516 : decode cL_law 1516 = .ok (.iconst 0, 1) := by decide +kernel
theorem dL_law_1508 : decode cL_law 1508 = .ok (.invokevirtual 111, 3) := by decide +kernel
theorem dL_law_1502 : decode cL_law 1502 = .ok (.invokevirtual 172, 3) := by decide +kernel
theorem dL_law_1490 : decode cL_law 1490 = .ok (.invokestatic 170, 3) := by decide +kernel
def vl_18 (x : Nat) (m : Nat) (o : Nat) (b : Nat) (T : zT) (F : zF) : Prop :=
  (∃ n1 : Nat, T b = some (104, n1) ∧ vp_in 1 n1 ∧ ∃ x4 : Int32, F b (1).toNatClampNeg = .int x4 ∧ (v_L_many x x4 o T F (fun (r6 : Int32) (F7 : zF) => (vp_in 1 n1 ∧ ∃ x9 : Int32, F7 b (1).toNatClampNeg = .int x9 ∧ T m = some (12, 6) ∧ (v_X9_many m x9 T F7 (fun (r12 : Int32) (T13 : zT) (F14 : zF) => (T13 m = some (12, 6) ∧ (v_X9_thrown m T13 F14 (fun (r16 : Int32) => ((r16 = r6 → ((¬ r6 = 0 → (∃ L9 : Nat, T13 b = some (104, L9) ∧ L9 ≤ 7)) ∧ (r6 = 0 → (∃ n17 : Nat, T13 o = some (103, n17) ∧ vp_in 0 n17 ∧ ∃ x20 : Int64, F14 o (0).toNatClampNeg = .long x20 ∧ (((lg_cmp x20 r12.toInt64) = 0 → (∃ L9 : Nat, T13 b = some (104, L9) ∧ L9 ≤ 7)) ∧ (¬ (lg_cmp x20 r12.toInt64) = 0 → False)))))) ∧ (¬ r16 = r6 → False)))))))))))
set_option maxRecDepth 100000 in
set_option maxHeartbeats 4000000 in
theorem kl_18 {p : Program} {l : Launch} {e : Env} {s : State} {m : MethodId} {below : List Frame} {meth : Method} {c : Code} {D : va_G} {cA : Nat → ClassId} {N0 zE : Nat} {x : Nat} {m : Nat} {o : Nat} {b : Nat} {T : zT} {F : zF} (hr : meth.sig.returnType = ret) (hN0 : N0 = s.heap.size) (C : z_C p l s m #[Value.ref b] meth c RL cL_law 9 ret D cA N0 zE) (h : vl_18 x m o b T F) : z_w p l e room_1 s m #[Value.ref b] below meth c D cA N0 9 20 80 (lw_Z below #[Value.ref b] s) 1482 [(4, .int 0), (3, .ref o), (2, .ref m), (1, .ref x), (0, .ref b)] [] T F := by
  unfold vl_18 at h
  refine zr_aload_n C 3 dL_law_1482 rfl rfl ?_
  refine zr_aload_n C 4 dL_law_1483 rfl rfl ?_
  refine zr_iload C 0 dL_law_1484 rfl ?_
  refine zr_iconst C 1 dL_law_1486 (by decide) ?_
  refine zr_iadd C dL_law_1487 ?_
  refine zr_eqi (y := 1) (by decide) ?_
  obtain ⟨n1, hT2, hi3, x4, hv5, h⟩ := h
  refine zr_iald4 C rfl hT2 hi3 hv5 dL_law_1488 ?_
  refine zr_aload_n C 1 dL_law_1489 rfl rfl ?_
  refine zr_callSH (As := [.ref x, .int x4, .ref o]) C (k_L_many h) ok_L_170 zq_883 rfl ⟨by decide, (Nat.le_of_ble_eq_true rfl)⟩ ⟨(Nat.le_of_ble_eq_true rfl), (Nat.le_of_ble_eq_true rfl)⟩ (Nat.le_of_ble_eq_true rfl) dL_law_1490 (fun v28 U29 G30 hq => ?_)
  clear h
  · obtain ⟨r6, rfl, rfl, h⟩ := hq
    refine zr_istore C [(5, .int r6), (4, .int 0), (3, .ref o), (2, .ref m), (1, .ref x), (0, .ref b)] dL_law_1493 (by decide) rfl ?_
    refine zr_aload_n C 3 dL_law_1495 rfl rfl ?_
    refine zr_aload_n C 5 dL_law_1496 rfl rfl ?_
    refine zr_iload C 1 dL_law_1497 rfl ?_
    refine zr_iconst C 1 dL_law_1499 (by decide) ?_
    refine zr_iadd C dL_law_1500 ?_
    refine zr_eqi (y := 1) (by decide) ?_
    obtain ⟨hi8, x9, hv10, h⟩ := h
    refine zr_iald4 C rfl hT2 hi8 hv10 dL_law_1501 ?_
    obtain ⟨hT11, h⟩ := h
    refine zr_callV (As := [.int x9]) (r := (RX9, TX9, 6)) C (k_X9_many h) ok_L_172 zq_1499 zq_1500 hT11 (by decide) rfl rfl ⟨by decide, (Nat.le_of_ble_eq_true rfl)⟩ ⟨(Nat.le_of_ble_eq_true rfl), (Nat.le_of_ble_eq_true rfl)⟩ (Nat.le_of_ble_eq_true rfl) dL_law_1502 (fun v25 U26 G27 hq => ?_)
    clear h
    · obtain ⟨r12, rfl, h⟩ := hq
      skip
      refine zr_istore C [(6, .int r12), (5, .int r6), (4, .int 0), (3, .ref o), (2, .ref m), (1, .ref x), (0, .ref b)] dL_law_1505 (by decide) rfl ?_
      refine zr_aload_n C 4 dL_law_1507 rfl rfl ?_
      obtain ⟨hT15, h⟩ := h
      refine zr_callV (As := []) (r := (RX9, TX9, 6)) C (k_X9_thrown h) ok_L_111 zq_975 zq_976 hT15 (by decide) rfl rfl ⟨by decide, (Nat.le_of_ble_eq_true rfl)⟩ ⟨(Nat.le_of_ble_eq_true rfl), (Nat.le_of_ble_eq_true rfl)⟩ (Nat.le_of_ble_eq_true rfl) dL_law_1508 (fun v22 U23 G24 hq => ?_)
      clear h
      · obtain ⟨r16, rfl, rfl, rfl, h⟩ := hq
        refine zr_iload C 1 dL_law_1511 rfl ?_
        obtain ⟨h1, h2⟩ := h
        refine zr_icmp_eq C 1518 dL_law_1513 (by decide) (fun hc => ?_) (fun hc => ?_)
        · have h := h1 hc
          clear h1 h2
          refine zr_iload C 1 dL_law_1518 rfl ?_
          obtain ⟨h1, h2⟩ := h
          refine zr_if_ne C 1535 dL_law_1520 (by decide) (fun hc => ?_) (fun hc => ?_)
          · have h := h1 hc
            clear h1 h2
            refine zr_goto C 2033 dL_law_1535 (by decide) ?_
            exact zr_sub [2, 6] rfl (kl_end hr hN0 C (Nat.le_of_ble_eq_true rfl) (Nat.le_of_ble_eq_true rfl) h)
          · have h := h2 hc
            clear h1 h2
            refine zr_aload_n C 3 dL_law_1523 rfl rfl ?_
            refine zr_iconst C 0 dL_law_1524 (by decide) ?_
            obtain ⟨n17, hT18, hi19, x20, hv21, h⟩ := h
            refine zr_lald C rfl hT18 hi19 hv21 dL_law_1525 ?_
            refine zr_iload C 0 dL_law_1526 rfl ?_
            refine zr_i2l C dL_law_1528 ?_
            refine zr_lcmp C dL_law_1529 ?_
            obtain ⟨h1, h2⟩ := h
            refine zr_if_eq C 1535 dL_law_1530 (by decide) (fun hc => ?_) (fun hc => ?_)
            · have h := h1 hc
              clear h1 h2
              refine zr_goto C 2033 dL_law_1535 (by decide) ?_
              exact zr_sub [2, 6] rfl (kl_end hr hN0 C (Nat.le_of_ble_eq_true rfl) (Nat.le_of_ble_eq_true rfl) h)
            · have h := h2 hc
              clear h1 h2
              refine zr_iconst C 0 dL_law_1533 (by decide) ?_
              exact h.elim
        · have h := h2 hc
          clear h1 h2
          refine zr_iconst C 0 dL_law_1516 (by decide) ?_
          exact h.elim
theorem dL_law_1538 : decode cL_law 1538 = .ok (.aload_n 1, 1) := by decide +kernel
theorem dL_law_1542 : decode cL_law 1542 = .ok (.dstore 5, 2) := by decide +kernel
theorem dL_law_1544 : decode cL_law 1544 = .ok (.aload_n 2, 1) := by decide +kernel
theorem dL_law_1548 : decode cL_law 1548 = .ok (.dstore 7, 2) := by decide +kernel
theorem dL_law_1550 : decode cL_law 1550 = .ok (.dload 5, 2) := by decide +kernel
theorem dL_law_1552 : decode cL_law 1552 = .ok (.dload 7, 2) := by decide +kernel
theorem dL_law_1554 : decode cL_law 1554 = .ok (.dcmp .l, 1) := by decide +kernel
theorem dL_law_1555 : decode cL_law 1555 = .ok (.ifCond .eq 21, 3) := by decide +kernel
theorem dL_law_1576 : decode cL_law 1576 = .ok (.goto 457, 3) := by decide +kernel
theorem dL_law_1558 : decode cL_law 1558 = .ok (.dload 5, 2) := by decide +kernel
theorem dL_law_1560 : decode cL_law 1560 = .ok (.dload 5, 2) := by decide +kernel
theorem dL_law_1562 : decode cL_law 1562 = .ok (.dcmp .l, 1) := by decide +kernel
theorem dL_law_1563 : decode cL_law 1563 = .ok (.ifCond .eq 11, 3) := by decide +kernel
theorem dL_law_1574 : decode cL_law 1574 = .ok (.iconst 0, 1) := by decide +kernel
theorem dL_law_1566 : decode cL_law 1566 = .ok (.dload 7, 2) := by decide +kernel
theorem dL_law_1568 : decode cL_law 1568 = .ok (.dload 7, 2) := by decide +kernel
theorem dL_law_1570 : decode cL_law 1570 = .ok (.dcmp .l, 1) := by decide +kernel
theorem dL_law_1571 : decode cL_law 1571 = .ok (.ifCond .ne 5, 3) := by decide +kernel
theorem dL_law_1545 : decode cL_law 1545 = .ok (.invokevirtual 177, 3) := by decide +kernel
theorem dL_law_1539 : decode cL_law 1539 = .ok (.invokevirtual 173, 3) := by decide +kernel
def vl_19 (x : Nat) (m : Nat) (o : Nat) (b : Nat) (T : zT) (F : zF) : Prop :=
  (T x = some (7, 4) ∧ (v_X4_meanPrice x T F (fun (r2 : UInt64) => (T m = some (12, 6) ∧ (v_X9_meanPrice m T F (fun (r4 : UInt64) (T5 : zT) (F6 : zF) => (((Op.cmpValue (FP.dcmp r2 r4) .l) = 0 → (∃ L9 : Nat, T5 b = some (104, L9) ∧ L9 ≤ 7)) ∧ (¬ (Op.cmpValue (FP.dcmp r2 r4) .l) = 0 → (((Op.cmpValue (FP.dcmp r2 r2) .l) = 0 → False) ∧ (¬ (Op.cmpValue (FP.dcmp r2 r2) .l) = 0 → ((¬ (Op.cmpValue (FP.dcmp r4 r4) .l) = 0 → (∃ L9 : Nat, T5 b = some (104, L9) ∧ L9 ≤ 7)) ∧ ((Op.cmpValue (FP.dcmp r4 r4) .l) = 0 → False))))))))))))
set_option maxRecDepth 100000 in
set_option maxHeartbeats 4000000 in
theorem kl_19 {p : Program} {l : Launch} {e : Env} {s : State} {m : MethodId} {below : List Frame} {meth : Method} {c : Code} {D : va_G} {cA : Nat → ClassId} {N0 zE : Nat} {x : Nat} {m : Nat} {o : Nat} {b : Nat} {T : zT} {F : zF} (hr : meth.sig.returnType = ret) (hN0 : N0 = s.heap.size) (C : z_C p l s m #[Value.ref b] meth c RL cL_law 9 ret D cA N0 zE) (h : vl_19 x m o b T F) : z_w p l e room_1 s m #[Value.ref b] below meth c D cA N0 9 20 80 (lw_Z below #[Value.ref b] s) 1538 [(4, .int 0), (3, .ref o), (2, .ref m), (1, .ref x), (0, .ref b)] [] T F := by
  unfold vl_19 at h
  refine zr_aload_n C 3 dL_law_1538 rfl rfl ?_
  obtain ⟨hT1, h⟩ := h
  refine zr_callV (As := []) (r := (RX4, TX4, 4)) C (k_X4_meanPrice h) ok_L_173 zq_136 zq_137 hT1 (by decide) rfl rfl ⟨by decide, (Nat.le_of_ble_eq_true rfl)⟩ ⟨(Nat.le_of_ble_eq_true rfl), (Nat.le_of_ble_eq_true rfl)⟩ (Nat.le_of_ble_eq_true rfl) dL_law_1539 (fun v10 U11 G12 hq => ?_)
  clear h
  · obtain ⟨r2, rfl, rfl, rfl, h⟩ := hq
    refine zr_dstore C [(5, .double r2), (4, .int 0), (3, .ref o), (2, .ref m), (1, .ref x), (0, .ref b)] dL_law_1542 (by decide) rfl ?_
    refine zr_aload_n C 3 dL_law_1544 rfl rfl ?_
    obtain ⟨hT3, h⟩ := h
    refine zr_callV (As := []) (r := (RX9, TX9, 6)) C (k_X9_meanPrice h) ok_L_177 zq_1511 zq_1512 hT3 (by decide) rfl rfl ⟨by decide, (Nat.le_of_ble_eq_true rfl)⟩ ⟨(Nat.le_of_ble_eq_true rfl), (Nat.le_of_ble_eq_true rfl)⟩ (Nat.le_of_ble_eq_true rfl) dL_law_1545 (fun v7 U8 G9 hq => ?_)
    clear h
    · obtain ⟨r4, rfl, h⟩ := hq
      skip
      refine zr_dstore C [(7, .double r4), (5, .double r2), (4, .int 0), (3, .ref o), (2, .ref m), (1, .ref x), (0, .ref b)] dL_law_1548 (by decide) rfl ?_
      refine zr_dload C 1 dL_law_1550 rfl ?_
      refine zr_dload C 0 dL_law_1552 rfl ?_
      refine zr_dcmp C dL_law_1554 ?_
      obtain ⟨h1, h2⟩ := h
      refine zr_if_eq C 1576 dL_law_1555 (by decide) (fun hc => ?_) (fun hc => ?_)
      · have h := h1 hc
        clear h1 h2
        refine zr_goto C 2033 dL_law_1576 (by decide) ?_
        exact zr_sub [2, 6] rfl (kl_end hr hN0 C (Nat.le_of_ble_eq_true rfl) (Nat.le_of_ble_eq_true rfl) h)
      · have h := h2 hc
        clear h1 h2
        refine zr_dload C 1 dL_law_1558 rfl ?_
        refine zr_dload C 1 dL_law_1560 rfl ?_
        refine zr_dcmp C dL_law_1562 ?_
        obtain ⟨h1, h2⟩ := h
        refine zr_if_eq C 1574 dL_law_1563 (by decide) (fun hc => ?_) (fun hc => ?_)
        · have h := h1 hc
          clear h1 h2
          refine zr_iconst C 0 dL_law_1574 (by decide) ?_
          exact h.elim
        · have h := h2 hc
          clear h1 h2
          refine zr_dload C 0 dL_law_1566 rfl ?_
          refine zr_dload C 0 dL_law_1568 rfl ?_
          refine zr_dcmp C dL_law_1570 ?_
          obtain ⟨h1, h2⟩ := h
          refine zr_if_ne C 1576 dL_law_1571 (by decide) (fun hc => ?_) (fun hc => ?_)
          · have h := h1 hc
            clear h1 h2
            refine zr_goto C 2033 dL_law_1576 (by decide) ?_
            exact zr_sub [2, 6] rfl (kl_end hr hN0 C (Nat.le_of_ble_eq_true rfl) (Nat.le_of_ble_eq_true rfl) h)
          · have h := h2 hc
            clear h1 h2
            refine zr_iconst C 0 dL_law_1574 (by decide) ?_
            exact h.elim
theorem dL_law_1579 : decode cL_law 1579 = .ok (.aload_n 1, 1) := by decide +kernel
theorem dL_law_1580 : decode cL_law 1580 = .ok (.aload_n 0, 1) := by decide +kernel
theorem dL_law_1581 : decode cL_law 1581 = .ok (.iload 4, 2) := by decide +kernel
theorem dL_law_1583 : decode cL_law 1583 = .ok (.iconst 1, 1) := by decide +kernel
theorem dL_law_1584 : decode cL_law 1584 = .ok (.iadd, 1) := by decide +kernel
theorem dL_law_1585 : decode cL_law 1585 = .ok (.iaload, 1) := by decide +kernel
theorem dL_law_1586 : decode cL_law 1586 = .ok (.aload_n 0, 1) := by decide +kernel
theorem dL_law_1587 : decode cL_law 1587 = .ok (.iload 4, 2) := by decide +kernel
theorem dL_law_1589 : decode cL_law 1589 = .ok (.iconst 2, 1) := by decide +kernel
theorem dL_law_1590 : decode cL_law 1590 = .ok (.iadd, 1) := by decide +kernel
theorem dL_law_1591 : decode cL_law 1591 = .ok (.iaload, 1) := by decide +kernel
theorem dL_law_1592 : decode cL_law 1592 = .ok (.aload_n 0, 1) := by decide +kernel
theorem dL_law_1593 : decode cL_law 1593 = .ok (.iload 4, 2) := by decide +kernel
theorem dL_law_1595 : decode cL_law 1595 = .ok (.iconst 3, 1) := by decide +kernel
theorem dL_law_1596 : decode cL_law 1596 = .ok (.iadd, 1) := by decide +kernel
theorem dL_law_1597 : decode cL_law 1597 = .ok (.iaload, 1) := by decide +kernel
theorem dL_law_1598 : decode cL_law 1598 = .ok (.aload_n 3, 1) := by decide +kernel
theorem dL_law_1602 : decode cL_law 1602 = .ok (.istore 5, 2) := by decide +kernel
theorem dL_law_1604 : decode cL_law 1604 = .ok (.aload_n 2, 1) := by decide +kernel
theorem dL_law_1605 : decode cL_law 1605 = .ok (.aload_n 0, 1) := by decide +kernel
theorem dL_law_1606 : decode cL_law 1606 = .ok (.iload 4, 2) := by decide +kernel
theorem dL_law_1608 : decode cL_law 1608 = .ok (.iconst 1, 1) := by decide +kernel
theorem dL_law_1609 : decode cL_law 1609 = .ok (.iadd, 1) := by decide +kernel
theorem dL_law_1610 : decode cL_law 1610 = .ok (.iaload, 1) := by decide +kernel
theorem dL_law_1611 : decode cL_law 1611 = .ok (.aload_n 0, 1) := by decide +kernel
theorem dL_law_1612 : decode cL_law 1612 = .ok (.iload 4, 2) := by decide +kernel
theorem dL_law_1614 : decode cL_law 1614 = .ok (.iconst 2, 1) := by decide +kernel
theorem dL_law_1615 : decode cL_law 1615 = .ok (.iadd, 1) := by decide +kernel
theorem dL_law_1616 : decode cL_law 1616 = .ok (.iaload, 1) := by decide +kernel
theorem dL_law_1617 : decode cL_law 1617 = .ok (.aload_n 0, 1) := by decide +kernel
theorem dL_law_1618 : decode cL_law 1618 = .ok (.iload 4, 2) := by decide +kernel
theorem dL_law_1620 : decode cL_law 1620 = .ok (.iconst 3, 1) := by decide +kernel
theorem dL_law_1621 : decode cL_law 1621 = .ok (.iadd, 1) := by decide +kernel
theorem dL_law_1622 : decode cL_law 1622 = .ok (.iaload, 1) := by decide +kernel
theorem dL_law_1626 : decode cL_law 1626 = .ok (.istore 6, 2) := by decide +kernel
theorem dL_law_1628 : decode cL_law 1628 = .ok (.aload_n 2, 1) := by decide +kernel
theorem dL_law_1632 : decode cL_law 1632 = .ok (.iload 5, 2) := by decide +kernel
theorem dL_law_1634 : decode cL_law 1634 = .ok (.if_icmp .eq 5, 3) := by decide +kernel
theorem dL_law_1639 : decode cL_law 1639 = .ok (.iload 5, 2) := by decide +kernel
theorem dL_law_1641 : decode cL_law 1641 = .ok (.ifCond .ne 15, 3) := by decide +kernel
theorem dL_law_1656 : decode cL_law 1656 = .ok (.goto 377, 3) := by decide +kernel
theorem dL_law_1644 : decode cL_law 1644 = .ok (.aload_n 3, 1) := by decide +kernel
theorem dL_law_1645 : decode cL_law 1645 = .ok (.iconst 0, 1) := by decide +kernel
theorem dL_law_1646 : decode cL_law 1646 = .ok (.laload, 1) := by decide +kernel
theorem dL_law_1647 : decode cL_law 1647 = .ok (.iload 6, 2) := by decide +kernel
theorem dL_law_1649 : decode cL_law 1649 = .ok (.i2l, 1) := by decide +kernel
theorem dL_law_1650 : decode cL_law 1650 = .ok (.lcmp, 1) := by decide +kernel
theorem dL_law_1651 : decode cL_law 1651 = .ok (.ifCond .eq 5, 3) := by decide +kernel
theorem dL_law_1654 : decode cL_law 1654 = .ok (.iconst 0, 1) := by decide +kernel
theorem dL_law_1637 : decode cL_law 1637 = .ok (.iconst 0, 1) := by decide +kernel
theorem dL_law_1629 : decode cL_law 1629 = .ok (.invokevirtual 111, 3) := by decide +kernel
theorem dL_law_1623 : decode cL_law 1623 = .ok (.invokevirtual 180, 3) := by decide +kernel
theorem dL_law_1599 : decode cL_law 1599 = .ok (.invokestatic 178, 3) := by decide +kernel
def vl_20 (x : Nat) (m : Nat) (o : Nat) (b : Nat) (T : zT) (F : zF) : Prop :=
  (∃ n1 : Nat, T b = some (104, n1) ∧ vp_in 1 n1 ∧ ∃ x4 : Int32, F b (1).toNatClampNeg = .int x4 ∧ vp_in 2 n1 ∧ ∃ x7 : Int32, F b (2).toNatClampNeg = .int x7 ∧ vp_in 3 n1 ∧ ∃ x10 : Int32, F b (3).toNatClampNeg = .int x10 ∧ (v_L_groups x x4 x7 x10 o T F (fun (r12 : Int32) (F13 : zF) => (vp_in 1 n1 ∧ ∃ x15 : Int32, F13 b (1).toNatClampNeg = .int x15 ∧ vp_in 2 n1 ∧ ∃ x18 : Int32, F13 b (2).toNatClampNeg = .int x18 ∧ vp_in 3 n1 ∧ ∃ x21 : Int32, F13 b (3).toNatClampNeg = .int x21 ∧ T m = some (12, 6) ∧ (v_X9_groups m x15 x18 x21 T F13 (fun (r24 : Int32) (F25 : zF) => (v_X9_thrown m T F25 (fun (r26 : Int32) => ((r26 = r12 → ((¬ r12 = 0 → (∃ L9 : Nat, T b = some (104, L9) ∧ L9 ≤ 7)) ∧ (r12 = 0 → (∃ n27 : Nat, T o = some (103, n27) ∧ vp_in 0 n27 ∧ ∃ x30 : Int64, F25 o (0).toNatClampNeg = .long x30 ∧ (((lg_cmp x30 r24.toInt64) = 0 → (∃ L9 : Nat, T b = some (104, L9) ∧ L9 ≤ 7)) ∧ (¬ (lg_cmp x30 r24.toInt64) = 0 → False)))))) ∧ (¬ r26 = r12 → False))))))))))
set_option maxRecDepth 100000 in
set_option maxHeartbeats 4000000 in
theorem kl_20 {p : Program} {l : Launch} {e : Env} {s : State} {m : MethodId} {below : List Frame} {meth : Method} {c : Code} {D : va_G} {cA : Nat → ClassId} {N0 zE : Nat} {x : Nat} {m : Nat} {o : Nat} {b : Nat} {T : zT} {F : zF} (hr : meth.sig.returnType = ret) (hN0 : N0 = s.heap.size) (C : z_C p l s m #[Value.ref b] meth c RL cL_law 9 ret D cA N0 zE) (h : vl_20 x m o b T F) : z_w p l e room_1 s m #[Value.ref b] below meth c D cA N0 9 20 80 (lw_Z below #[Value.ref b] s) 1579 [(4, .int 0), (3, .ref o), (2, .ref m), (1, .ref x), (0, .ref b)] [] T F := by
  unfold vl_20 at h
  refine zr_aload_n C 3 dL_law_1579 rfl rfl ?_
  refine zr_aload_n C 4 dL_law_1580 rfl rfl ?_
  refine zr_iload C 0 dL_law_1581 rfl ?_
  refine zr_iconst C 1 dL_law_1583 (by decide) ?_
  refine zr_iadd C dL_law_1584 ?_
  refine zr_eqi (y := 1) (by decide) ?_
  obtain ⟨n1, hT2, hi3, x4, hv5, h⟩ := h
  refine zr_iald4 C rfl hT2 hi3 hv5 dL_law_1585 ?_
  refine zr_aload_n C 4 dL_law_1586 rfl rfl ?_
  refine zr_iload C 0 dL_law_1587 rfl ?_
  refine zr_iconst C 2 dL_law_1589 (by decide) ?_
  refine zr_iadd C dL_law_1590 ?_
  refine zr_eqi (y := 2) (by decide) ?_
  obtain ⟨hi6, x7, hv8, h⟩ := h
  refine zr_iald4 C rfl hT2 hi6 hv8 dL_law_1591 ?_
  refine zr_aload_n C 4 dL_law_1592 rfl rfl ?_
  refine zr_iload C 0 dL_law_1593 rfl ?_
  refine zr_iconst C 3 dL_law_1595 (by decide) ?_
  refine zr_iadd C dL_law_1596 ?_
  refine zr_eqi (y := 3) (by decide) ?_
  obtain ⟨hi9, x10, hv11, h⟩ := h
  refine zr_iald4 C rfl hT2 hi9 hv11 dL_law_1597 ?_
  refine zr_aload_n C 1 dL_law_1598 rfl rfl ?_
  refine zr_callSH (As := [.ref x, .int x4, .int x7, .int x10, .ref o]) C (k_L_groups h) ok_L_178 zq_887 rfl ⟨by decide, (Nat.le_of_ble_eq_true rfl)⟩ ⟨(Nat.le_of_ble_eq_true rfl), (Nat.le_of_ble_eq_true rfl)⟩ (Nat.le_of_ble_eq_true rfl) dL_law_1599 (fun v38 U39 G40 hq => ?_)
  clear h
  · obtain ⟨r12, rfl, rfl, h⟩ := hq
    refine zr_istore C [(5, .int r12), (4, .int 0), (3, .ref o), (2, .ref m), (1, .ref x), (0, .ref b)] dL_law_1602 (by decide) rfl ?_
    refine zr_aload_n C 3 dL_law_1604 rfl rfl ?_
    refine zr_aload_n C 5 dL_law_1605 rfl rfl ?_
    refine zr_iload C 1 dL_law_1606 rfl ?_
    refine zr_iconst C 1 dL_law_1608 (by decide) ?_
    refine zr_iadd C dL_law_1609 ?_
    refine zr_eqi (y := 1) (by decide) ?_
    obtain ⟨hi14, x15, hv16, h⟩ := h
    refine zr_iald4 C rfl hT2 hi14 hv16 dL_law_1610 ?_
    refine zr_aload_n C 5 dL_law_1611 rfl rfl ?_
    refine zr_iload C 1 dL_law_1612 rfl ?_
    refine zr_iconst C 2 dL_law_1614 (by decide) ?_
    refine zr_iadd C dL_law_1615 ?_
    refine zr_eqi (y := 2) (by decide) ?_
    obtain ⟨hi17, x18, hv19, h⟩ := h
    refine zr_iald4 C rfl hT2 hi17 hv19 dL_law_1616 ?_
    refine zr_aload_n C 5 dL_law_1617 rfl rfl ?_
    refine zr_iload C 1 dL_law_1618 rfl ?_
    refine zr_iconst C 3 dL_law_1620 (by decide) ?_
    refine zr_iadd C dL_law_1621 ?_
    refine zr_eqi (y := 3) (by decide) ?_
    obtain ⟨hi20, x21, hv22, h⟩ := h
    refine zr_iald4 C rfl hT2 hi20 hv22 dL_law_1622 ?_
    obtain ⟨hT23, h⟩ := h
    refine zr_callV (As := [.int x15, .int x18, .int x21]) (r := (RX9, TX9, 6)) C (k_X9_groups h) ok_L_180 zq_1519 zq_1520 hT23 (by decide) rfl rfl ⟨by decide, (Nat.le_of_ble_eq_true rfl)⟩ ⟨(Nat.le_of_ble_eq_true rfl), (Nat.le_of_ble_eq_true rfl)⟩ (Nat.le_of_ble_eq_true rfl) dL_law_1623 (fun v35 U36 G37 hq => ?_)
    clear h
    · obtain ⟨r24, rfl, rfl, h⟩ := hq
      refine zr_istore C [(6, .int r24), (5, .int r12), (4, .int 0), (3, .ref o), (2, .ref m), (1, .ref x), (0, .ref b)] dL_law_1626 (by decide) rfl ?_
      refine zr_aload_n C 4 dL_law_1628 rfl rfl ?_
      refine zr_callV (As := []) (r := (RX9, TX9, 6)) C (k_X9_thrown h) ok_L_111 zq_975 zq_976 hT23 (by decide) rfl rfl ⟨by decide, (Nat.le_of_ble_eq_true rfl)⟩ ⟨(Nat.le_of_ble_eq_true rfl), (Nat.le_of_ble_eq_true rfl)⟩ (Nat.le_of_ble_eq_true rfl) dL_law_1629 (fun v32 U33 G34 hq => ?_)
      clear h
      · obtain ⟨r26, rfl, rfl, rfl, h⟩ := hq
        refine zr_iload C 1 dL_law_1632 rfl ?_
        obtain ⟨h1, h2⟩ := h
        refine zr_icmp_eq C 1639 dL_law_1634 (by decide) (fun hc => ?_) (fun hc => ?_)
        · have h := h1 hc
          clear h1 h2
          refine zr_iload C 1 dL_law_1639 rfl ?_
          obtain ⟨h1, h2⟩ := h
          refine zr_if_ne C 1656 dL_law_1641 (by decide) (fun hc => ?_) (fun hc => ?_)
          · have h := h1 hc
            clear h1 h2
            refine zr_goto C 2033 dL_law_1656 (by decide) ?_
            exact zr_sub [2, 6] rfl (kl_end hr hN0 C (Nat.le_of_ble_eq_true rfl) (Nat.le_of_ble_eq_true rfl) h)
          · have h := h2 hc
            clear h1 h2
            refine zr_aload_n C 3 dL_law_1644 rfl rfl ?_
            refine zr_iconst C 0 dL_law_1645 (by decide) ?_
            obtain ⟨n27, hT28, hi29, x30, hv31, h⟩ := h
            refine zr_lald C rfl hT28 hi29 hv31 dL_law_1646 ?_
            refine zr_iload C 0 dL_law_1647 rfl ?_
            refine zr_i2l C dL_law_1649 ?_
            refine zr_lcmp C dL_law_1650 ?_
            obtain ⟨h1, h2⟩ := h
            refine zr_if_eq C 1656 dL_law_1651 (by decide) (fun hc => ?_) (fun hc => ?_)
            · have h := h1 hc
              clear h1 h2
              refine zr_goto C 2033 dL_law_1656 (by decide) ?_
              exact zr_sub [2, 6] rfl (kl_end hr hN0 C (Nat.le_of_ble_eq_true rfl) (Nat.le_of_ble_eq_true rfl) h)
            · have h := h2 hc
              clear h1 h2
              refine zr_iconst C 0 dL_law_1654 (by decide) ?_
              exact h.elim
        · have h := h2 hc
          clear h1 h2
          refine zr_iconst C 0 dL_law_1637 (by decide) ?_
          exact h.elim
theorem dL_law_1659 : decode cL_law 1659 = .ok (.aload_n 1, 1) := by decide +kernel
theorem dL_law_1660 : decode cL_law 1660 = .ok (.aload_n 0, 1) := by decide +kernel
theorem dL_law_1661 : decode cL_law 1661 = .ok (.iload 4, 2) := by decide +kernel
theorem dL_law_1663 : decode cL_law 1663 = .ok (.iconst 1, 1) := by decide +kernel
theorem dL_law_1664 : decode cL_law 1664 = .ok (.iadd, 1) := by decide +kernel
theorem dL_law_1665 : decode cL_law 1665 = .ok (.iaload, 1) := by decide +kernel
theorem dL_law_1666 : decode cL_law 1666 = .ok (.aload_n 3, 1) := by decide +kernel
theorem dL_law_1670 : decode cL_law 1670 = .ok (.istore 5, 2) := by decide +kernel
theorem dL_law_1672 : decode cL_law 1672 = .ok (.aload_n 2, 1) := by decide +kernel
theorem dL_law_1673 : decode cL_law 1673 = .ok (.aload_n 0, 1) := by decide +kernel
theorem dL_law_1674 : decode cL_law 1674 = .ok (.iload 4, 2) := by decide +kernel
theorem dL_law_1676 : decode cL_law 1676 = .ok (.iconst 1, 1) := by decide +kernel
theorem dL_law_1677 : decode cL_law 1677 = .ok (.iadd, 1) := by decide +kernel
theorem dL_law_1678 : decode cL_law 1678 = .ok (.iaload, 1) := by decide +kernel
theorem dL_law_1682 : decode cL_law 1682 = .ok (.istore 6, 2) := by decide +kernel
theorem dL_law_1684 : decode cL_law 1684 = .ok (.aload_n 2, 1) := by decide +kernel
theorem dL_law_1688 : decode cL_law 1688 = .ok (.iload 5, 2) := by decide +kernel
theorem dL_law_1690 : decode cL_law 1690 = .ok (.if_icmp .eq 5, 3) := by decide +kernel
theorem dL_law_1695 : decode cL_law 1695 = .ok (.iload 5, 2) := by decide +kernel
theorem dL_law_1697 : decode cL_law 1697 = .ok (.ifCond .ne 15, 3) := by decide +kernel
theorem dL_law_1712 : decode cL_law 1712 = .ok (.goto 321, 3) := by decide +kernel
theorem dL_law_1700 : decode cL_law 1700 = .ok (.aload_n 3, 1) := by decide +kernel
theorem dL_law_1701 : decode cL_law 1701 = .ok (.iconst 0, 1) := by decide +kernel
theorem dL_law_1702 : decode cL_law 1702 = .ok (.laload, 1) := by decide +kernel
theorem dL_law_1703 : decode cL_law 1703 = .ok (.iload 6, 2) := by decide +kernel
theorem dL_law_1705 : decode cL_law 1705 = .ok (.i2l, 1) := by decide +kernel
theorem dL_law_1706 : decode cL_law 1706 = .ok (.lcmp, 1) := by decide +kernel
theorem dL_law_1707 : decode cL_law 1707 = .ok (.ifCond .eq 5, 3) := by decide +kernel
theorem dL_law_1710 : decode cL_law 1710 = .ok (.iconst 0, 1) := by decide +kernel
theorem dL_law_1693 : decode cL_law 1693 = .ok (.iconst 0, 1) := by decide +kernel
theorem dL_law_1685 : decode cL_law 1685 = .ok (.invokevirtual 111, 3) := by decide +kernel
theorem dL_law_1679 : decode cL_law 1679 = .ok (.invokevirtual 183, 3) := by decide +kernel
theorem dL_law_1667 : decode cL_law 1667 = .ok (.invokestatic 181, 3) := by decide +kernel
def vl_21 (x : Nat) (m : Nat) (o : Nat) (b : Nat) (T : zT) (F : zF) : Prop :=
  (∃ n1 : Nat, T b = some (104, n1) ∧ vp_in 1 n1 ∧ ∃ x4 : Int32, F b (1).toNatClampNeg = .int x4 ∧ (v_L_reach x x4 o T F (fun (r6 : Int32) (F7 : zF) => (vp_in 1 n1 ∧ ∃ x9 : Int32, F7 b (1).toNatClampNeg = .int x9 ∧ T m = some (12, 6) ∧ (v_X9_reach m x9 T F7 (fun (r12 : Int32) (T13 : zT) (F14 : zF) => (T13 m = some (12, 6) ∧ (v_X9_thrown m T13 F14 (fun (r16 : Int32) => ((r16 = r6 → ((¬ r6 = 0 → (∃ L9 : Nat, T13 b = some (104, L9) ∧ L9 ≤ 7)) ∧ (r6 = 0 → (∃ n17 : Nat, T13 o = some (103, n17) ∧ vp_in 0 n17 ∧ ∃ x20 : Int64, F14 o (0).toNatClampNeg = .long x20 ∧ (((lg_cmp x20 r12.toInt64) = 0 → (∃ L9 : Nat, T13 b = some (104, L9) ∧ L9 ≤ 7)) ∧ (¬ (lg_cmp x20 r12.toInt64) = 0 → False)))))) ∧ (¬ r16 = r6 → False)))))))))))
set_option maxRecDepth 100000 in
set_option maxHeartbeats 4000000 in
theorem kl_21 {p : Program} {l : Launch} {e : Env} {s : State} {m : MethodId} {below : List Frame} {meth : Method} {c : Code} {D : va_G} {cA : Nat → ClassId} {N0 zE : Nat} {x : Nat} {m : Nat} {o : Nat} {b : Nat} {T : zT} {F : zF} (hr : meth.sig.returnType = ret) (hN0 : N0 = s.heap.size) (C : z_C p l s m #[Value.ref b] meth c RL cL_law 9 ret D cA N0 zE) (h : vl_21 x m o b T F) : z_w p l e room_1 s m #[Value.ref b] below meth c D cA N0 9 20 80 (lw_Z below #[Value.ref b] s) 1659 [(4, .int 0), (3, .ref o), (2, .ref m), (1, .ref x), (0, .ref b)] [] T F := by
  unfold vl_21 at h
  refine zr_aload_n C 3 dL_law_1659 rfl rfl ?_
  refine zr_aload_n C 4 dL_law_1660 rfl rfl ?_
  refine zr_iload C 0 dL_law_1661 rfl ?_
  refine zr_iconst C 1 dL_law_1663 (by decide) ?_
  refine zr_iadd C dL_law_1664 ?_
  refine zr_eqi (y := 1) (by decide) ?_
  obtain ⟨n1, hT2, hi3, x4, hv5, h⟩ := h
  refine zr_iald4 C rfl hT2 hi3 hv5 dL_law_1665 ?_
  refine zr_aload_n C 1 dL_law_1666 rfl rfl ?_
  refine zr_callSH (As := [.ref x, .int x4, .ref o]) C (k_L_reach h) ok_L_181 zq_895 rfl ⟨by decide, (Nat.le_of_ble_eq_true rfl)⟩ ⟨(Nat.le_of_ble_eq_true rfl), (Nat.le_of_ble_eq_true rfl)⟩ (Nat.le_of_ble_eq_true rfl) dL_law_1667 (fun v28 U29 G30 hq => ?_)
  clear h
  · obtain ⟨r6, rfl, rfl, h⟩ := hq
    refine zr_istore C [(5, .int r6), (4, .int 0), (3, .ref o), (2, .ref m), (1, .ref x), (0, .ref b)] dL_law_1670 (by decide) rfl ?_
    refine zr_aload_n C 3 dL_law_1672 rfl rfl ?_
    refine zr_aload_n C 5 dL_law_1673 rfl rfl ?_
    refine zr_iload C 1 dL_law_1674 rfl ?_
    refine zr_iconst C 1 dL_law_1676 (by decide) ?_
    refine zr_iadd C dL_law_1677 ?_
    refine zr_eqi (y := 1) (by decide) ?_
    obtain ⟨hi8, x9, hv10, h⟩ := h
    refine zr_iald4 C rfl hT2 hi8 hv10 dL_law_1678 ?_
    obtain ⟨hT11, h⟩ := h
    refine zr_callV (As := [.int x9]) (r := (RX9, TX9, 6)) C (k_X9_reach h) ok_L_183 zq_1523 zq_1524 hT11 (by decide) rfl rfl ⟨by decide, (Nat.le_of_ble_eq_true rfl)⟩ ⟨(Nat.le_of_ble_eq_true rfl), (Nat.le_of_ble_eq_true rfl)⟩ (Nat.le_of_ble_eq_true rfl) dL_law_1679 (fun v25 U26 G27 hq => ?_)
    clear h
    · obtain ⟨r12, rfl, h⟩ := hq
      skip
      refine zr_istore C [(6, .int r12), (5, .int r6), (4, .int 0), (3, .ref o), (2, .ref m), (1, .ref x), (0, .ref b)] dL_law_1682 (by decide) rfl ?_
      refine zr_aload_n C 4 dL_law_1684 rfl rfl ?_
      obtain ⟨hT15, h⟩ := h
      refine zr_callV (As := []) (r := (RX9, TX9, 6)) C (k_X9_thrown h) ok_L_111 zq_975 zq_976 hT15 (by decide) rfl rfl ⟨by decide, (Nat.le_of_ble_eq_true rfl)⟩ ⟨(Nat.le_of_ble_eq_true rfl), (Nat.le_of_ble_eq_true rfl)⟩ (Nat.le_of_ble_eq_true rfl) dL_law_1685 (fun v22 U23 G24 hq => ?_)
      clear h
      · obtain ⟨r16, rfl, rfl, rfl, h⟩ := hq
        refine zr_iload C 1 dL_law_1688 rfl ?_
        obtain ⟨h1, h2⟩ := h
        refine zr_icmp_eq C 1695 dL_law_1690 (by decide) (fun hc => ?_) (fun hc => ?_)
        · have h := h1 hc
          clear h1 h2
          refine zr_iload C 1 dL_law_1695 rfl ?_
          obtain ⟨h1, h2⟩ := h
          refine zr_if_ne C 1712 dL_law_1697 (by decide) (fun hc => ?_) (fun hc => ?_)
          · have h := h1 hc
            clear h1 h2
            refine zr_goto C 2033 dL_law_1712 (by decide) ?_
            exact zr_sub [2, 6] rfl (kl_end hr hN0 C (Nat.le_of_ble_eq_true rfl) (Nat.le_of_ble_eq_true rfl) h)
          · have h := h2 hc
            clear h1 h2
            refine zr_aload_n C 3 dL_law_1700 rfl rfl ?_
            refine zr_iconst C 0 dL_law_1701 (by decide) ?_
            obtain ⟨n17, hT18, hi19, x20, hv21, h⟩ := h
            refine zr_lald C rfl hT18 hi19 hv21 dL_law_1702 ?_
            refine zr_iload C 0 dL_law_1703 rfl ?_
            refine zr_i2l C dL_law_1705 ?_
            refine zr_lcmp C dL_law_1706 ?_
            obtain ⟨h1, h2⟩ := h
            refine zr_if_eq C 1712 dL_law_1707 (by decide) (fun hc => ?_) (fun hc => ?_)
            · have h := h1 hc
              clear h1 h2
              refine zr_goto C 2033 dL_law_1712 (by decide) ?_
              exact zr_sub [2, 6] rfl (kl_end hr hN0 C (Nat.le_of_ble_eq_true rfl) (Nat.le_of_ble_eq_true rfl) h)
            · have h := h2 hc
              clear h1 h2
              refine zr_iconst C 0 dL_law_1710 (by decide) ?_
              exact h.elim
        · have h := h2 hc
          clear h1 h2
          refine zr_iconst C 0 dL_law_1693 (by decide) ?_
          exact h.elim
theorem dL_law_1715 : decode cL_law 1715 = .ok (.aload_n 1, 1) := by decide +kernel
theorem dL_law_1716 : decode cL_law 1716 = .ok (.aload_n 0, 1) := by decide +kernel
theorem dL_law_1717 : decode cL_law 1717 = .ok (.iload 4, 2) := by decide +kernel
theorem dL_law_1719 : decode cL_law 1719 = .ok (.iconst 1, 1) := by decide +kernel
theorem dL_law_1720 : decode cL_law 1720 = .ok (.iadd, 1) := by decide +kernel
theorem dL_law_1721 : decode cL_law 1721 = .ok (.iaload, 1) := by decide +kernel
theorem dL_law_1722 : decode cL_law 1722 = .ok (.aload_n 0, 1) := by decide +kernel
theorem dL_law_1723 : decode cL_law 1723 = .ok (.iload 4, 2) := by decide +kernel
theorem dL_law_1725 : decode cL_law 1725 = .ok (.iconst 2, 1) := by decide +kernel
theorem dL_law_1726 : decode cL_law 1726 = .ok (.iadd, 1) := by decide +kernel
theorem dL_law_1727 : decode cL_law 1727 = .ok (.iaload, 1) := by decide +kernel
theorem dL_law_1728 : decode cL_law 1728 = .ok (.aload_n 0, 1) := by decide +kernel
theorem dL_law_1729 : decode cL_law 1729 = .ok (.iload 4, 2) := by decide +kernel
theorem dL_law_1731 : decode cL_law 1731 = .ok (.iconst 3, 1) := by decide +kernel
theorem dL_law_1732 : decode cL_law 1732 = .ok (.iadd, 1) := by decide +kernel
theorem dL_law_1733 : decode cL_law 1733 = .ok (.iaload, 1) := by decide +kernel
theorem dL_law_1734 : decode cL_law 1734 = .ok (.aload_n 3, 1) := by decide +kernel
theorem dL_law_1738 : decode cL_law 1738 = .ok (.istore 5, 2) := by decide +kernel
theorem dL_law_1740 : decode cL_law 1740 = .ok (.aload_n 2, 1) := by decide +kernel
theorem dL_law_1741 : decode cL_law 1741 = .ok (.aload_n 0, 1) := by decide +kernel
theorem dL_law_1742 : decode cL_law 1742 = .ok (.iload 4, 2) := by decide +kernel
theorem dL_law_1744 : decode cL_law 1744 = .ok (.iconst 1, 1) := by decide +kernel
theorem dL_law_1745 : decode cL_law 1745 = .ok (.iadd, 1) := by decide +kernel
theorem dL_law_1746 : decode cL_law 1746 = .ok (.iaload, 1) := by decide +kernel
theorem dL_law_1747 : decode cL_law 1747 = .ok (.aload_n 0, 1) := by decide +kernel
theorem dL_law_1748 : decode cL_law 1748 = .ok (.iload 4, 2) := by decide +kernel
theorem dL_law_1750 : decode cL_law 1750 = .ok (.iconst 2, 1) := by decide +kernel
theorem dL_law_1751 : decode cL_law 1751 = .ok (.iadd, 1) := by decide +kernel
theorem dL_law_1752 : decode cL_law 1752 = .ok (.iaload, 1) := by decide +kernel
theorem dL_law_1753 : decode cL_law 1753 = .ok (.aload_n 0, 1) := by decide +kernel
theorem dL_law_1754 : decode cL_law 1754 = .ok (.iload 4, 2) := by decide +kernel
theorem dL_law_1756 : decode cL_law 1756 = .ok (.iconst 3, 1) := by decide +kernel
theorem dL_law_1757 : decode cL_law 1757 = .ok (.iadd, 1) := by decide +kernel
theorem dL_law_1758 : decode cL_law 1758 = .ok (.iaload, 1) := by decide +kernel
theorem dL_law_1762 : decode cL_law 1762 = .ok (.istore 6, 2) := by decide +kernel
theorem dL_law_1764 : decode cL_law 1764 = .ok (.aload_n 2, 1) := by decide +kernel
theorem dL_law_1768 : decode cL_law 1768 = .ok (.iload 5, 2) := by decide +kernel
theorem dL_law_1770 : decode cL_law 1770 = .ok (.if_icmp .eq 5, 3) := by decide +kernel
theorem dL_law_1775 : decode cL_law 1775 = .ok (.iload 5, 2) := by decide +kernel
theorem dL_law_1777 : decode cL_law 1777 = .ok (.ifCond .ne 15, 3) := by decide +kernel
theorem dL_law_1792 : decode cL_law 1792 = .ok (.goto 241, 3) := by decide +kernel
theorem dL_law_1780 : decode cL_law 1780 = .ok (.aload_n 3, 1) := by decide +kernel
theorem dL_law_1781 : decode cL_law 1781 = .ok (.iconst 0, 1) := by decide +kernel
theorem dL_law_1782 : decode cL_law 1782 = .ok (.laload, 1) := by decide +kernel
theorem dL_law_1783 : decode cL_law 1783 = .ok (.iload 6, 2) := by decide +kernel
theorem dL_law_1785 : decode cL_law 1785 = .ok (.i2l, 1) := by decide +kernel
theorem dL_law_1786 : decode cL_law 1786 = .ok (.lcmp, 1) := by decide +kernel
theorem dL_law_1787 : decode cL_law 1787 = .ok (.ifCond .eq 5, 3) := by decide +kernel
theorem dL_law_1790 : decode cL_law 1790 = .ok (.iconst 0, 1) := by decide +kernel
theorem dL_law_1773 : decode cL_law 1773 = .ok (.iconst 0, 1) := by decide +kernel
theorem dL_law_1765 : decode cL_law 1765 = .ok (.invokevirtual 111, 3) := by decide +kernel
theorem dL_law_1759 : decode cL_law 1759 = .ok (.invokevirtual 186, 3) := by decide +kernel
theorem dL_law_1735 : decode cL_law 1735 = .ok (.invokestatic 184, 3) := by decide +kernel
def vl_22 (x : Nat) (m : Nat) (o : Nat) (b : Nat) (T : zT) (F : zF) : Prop :=
  (∃ n1 : Nat, T b = some (104, n1) ∧ vp_in 1 n1 ∧ ∃ x4 : Int32, F b (1).toNatClampNeg = .int x4 ∧ vp_in 2 n1 ∧ ∃ x7 : Int32, F b (2).toNatClampNeg = .int x7 ∧ vp_in 3 n1 ∧ ∃ x10 : Int32, F b (3).toNatClampNeg = .int x10 ∧ (v_L_price x x4 x7 x10 o T F (fun (r12 : Int32) (F13 : zF) => (vp_in 1 n1 ∧ ∃ x15 : Int32, F13 b (1).toNatClampNeg = .int x15 ∧ vp_in 2 n1 ∧ ∃ x18 : Int32, F13 b (2).toNatClampNeg = .int x18 ∧ vp_in 3 n1 ∧ ∃ x21 : Int32, F13 b (3).toNatClampNeg = .int x21 ∧ T m = some (12, 6) ∧ (v_X9_price m x15 x18 x21 T F13 (fun (r24 : Int32) (F25 : zF) => (v_X9_thrown m T F25 (fun (r26 : Int32) => ((r26 = r12 → ((¬ r12 = 0 → (∃ L9 : Nat, T b = some (104, L9) ∧ L9 ≤ 7)) ∧ (r12 = 0 → (∃ n27 : Nat, T o = some (103, n27) ∧ vp_in 0 n27 ∧ ∃ x30 : Int64, F25 o (0).toNatClampNeg = .long x30 ∧ (((lg_cmp x30 r24.toInt64) = 0 → (∃ L9 : Nat, T b = some (104, L9) ∧ L9 ≤ 7)) ∧ (¬ (lg_cmp x30 r24.toInt64) = 0 → False)))))) ∧ (¬ r26 = r12 → False))))))))))
set_option maxRecDepth 100000 in
set_option maxHeartbeats 4000000 in
theorem kl_22 {p : Program} {l : Launch} {e : Env} {s : State} {m : MethodId} {below : List Frame} {meth : Method} {c : Code} {D : va_G} {cA : Nat → ClassId} {N0 zE : Nat} {x : Nat} {m : Nat} {o : Nat} {b : Nat} {T : zT} {F : zF} (hr : meth.sig.returnType = ret) (hN0 : N0 = s.heap.size) (C : z_C p l s m #[Value.ref b] meth c RL cL_law 9 ret D cA N0 zE) (h : vl_22 x m o b T F) : z_w p l e room_1 s m #[Value.ref b] below meth c D cA N0 9 20 80 (lw_Z below #[Value.ref b] s) 1715 [(4, .int 0), (3, .ref o), (2, .ref m), (1, .ref x), (0, .ref b)] [] T F := by
  unfold vl_22 at h
  refine zr_aload_n C 3 dL_law_1715 rfl rfl ?_
  refine zr_aload_n C 4 dL_law_1716 rfl rfl ?_
  refine zr_iload C 0 dL_law_1717 rfl ?_
  refine zr_iconst C 1 dL_law_1719 (by decide) ?_
  refine zr_iadd C dL_law_1720 ?_
  refine zr_eqi (y := 1) (by decide) ?_
  obtain ⟨n1, hT2, hi3, x4, hv5, h⟩ := h
  refine zr_iald4 C rfl hT2 hi3 hv5 dL_law_1721 ?_
  refine zr_aload_n C 4 dL_law_1722 rfl rfl ?_
  refine zr_iload C 0 dL_law_1723 rfl ?_
  refine zr_iconst C 2 dL_law_1725 (by decide) ?_
  refine zr_iadd C dL_law_1726 ?_
  refine zr_eqi (y := 2) (by decide) ?_
  obtain ⟨hi6, x7, hv8, h⟩ := h
  refine zr_iald4 C rfl hT2 hi6 hv8 dL_law_1727 ?_
  refine zr_aload_n C 4 dL_law_1728 rfl rfl ?_
  refine zr_iload C 0 dL_law_1729 rfl ?_
  refine zr_iconst C 3 dL_law_1731 (by decide) ?_
  refine zr_iadd C dL_law_1732 ?_
  refine zr_eqi (y := 3) (by decide) ?_
  obtain ⟨hi9, x10, hv11, h⟩ := h
  refine zr_iald4 C rfl hT2 hi9 hv11 dL_law_1733 ?_
  refine zr_aload_n C 1 dL_law_1734 rfl rfl ?_
  refine zr_callSH (As := [.ref x, .int x4, .int x7, .int x10, .ref o]) C (k_L_price h) ok_L_184 zq_899 rfl ⟨by decide, (Nat.le_of_ble_eq_true rfl)⟩ ⟨(Nat.le_of_ble_eq_true rfl), (Nat.le_of_ble_eq_true rfl)⟩ (Nat.le_of_ble_eq_true rfl) dL_law_1735 (fun v38 U39 G40 hq => ?_)
  clear h
  · obtain ⟨r12, rfl, rfl, h⟩ := hq
    refine zr_istore C [(5, .int r12), (4, .int 0), (3, .ref o), (2, .ref m), (1, .ref x), (0, .ref b)] dL_law_1738 (by decide) rfl ?_
    refine zr_aload_n C 3 dL_law_1740 rfl rfl ?_
    refine zr_aload_n C 5 dL_law_1741 rfl rfl ?_
    refine zr_iload C 1 dL_law_1742 rfl ?_
    refine zr_iconst C 1 dL_law_1744 (by decide) ?_
    refine zr_iadd C dL_law_1745 ?_
    refine zr_eqi (y := 1) (by decide) ?_
    obtain ⟨hi14, x15, hv16, h⟩ := h
    refine zr_iald4 C rfl hT2 hi14 hv16 dL_law_1746 ?_
    refine zr_aload_n C 5 dL_law_1747 rfl rfl ?_
    refine zr_iload C 1 dL_law_1748 rfl ?_
    refine zr_iconst C 2 dL_law_1750 (by decide) ?_
    refine zr_iadd C dL_law_1751 ?_
    refine zr_eqi (y := 2) (by decide) ?_
    obtain ⟨hi17, x18, hv19, h⟩ := h
    refine zr_iald4 C rfl hT2 hi17 hv19 dL_law_1752 ?_
    refine zr_aload_n C 5 dL_law_1753 rfl rfl ?_
    refine zr_iload C 1 dL_law_1754 rfl ?_
    refine zr_iconst C 3 dL_law_1756 (by decide) ?_
    refine zr_iadd C dL_law_1757 ?_
    refine zr_eqi (y := 3) (by decide) ?_
    obtain ⟨hi20, x21, hv22, h⟩ := h
    refine zr_iald4 C rfl hT2 hi20 hv22 dL_law_1758 ?_
    obtain ⟨hT23, h⟩ := h
    refine zr_callV (As := [.int x15, .int x18, .int x21]) (r := (RX9, TX9, 6)) C (k_X9_price h) ok_L_186 zq_1532 zq_1533 hT23 (by decide) rfl rfl ⟨by decide, (Nat.le_of_ble_eq_true rfl)⟩ ⟨(Nat.le_of_ble_eq_true rfl), (Nat.le_of_ble_eq_true rfl)⟩ (Nat.le_of_ble_eq_true rfl) dL_law_1759 (fun v35 U36 G37 hq => ?_)
    clear h
    · obtain ⟨r24, rfl, rfl, h⟩ := hq
      refine zr_istore C [(6, .int r24), (5, .int r12), (4, .int 0), (3, .ref o), (2, .ref m), (1, .ref x), (0, .ref b)] dL_law_1762 (by decide) rfl ?_
      refine zr_aload_n C 4 dL_law_1764 rfl rfl ?_
      refine zr_callV (As := []) (r := (RX9, TX9, 6)) C (k_X9_thrown h) ok_L_111 zq_975 zq_976 hT23 (by decide) rfl rfl ⟨by decide, (Nat.le_of_ble_eq_true rfl)⟩ ⟨(Nat.le_of_ble_eq_true rfl), (Nat.le_of_ble_eq_true rfl)⟩ (Nat.le_of_ble_eq_true rfl) dL_law_1765 (fun v32 U33 G34 hq => ?_)
      clear h
      · obtain ⟨r26, rfl, rfl, rfl, h⟩ := hq
        refine zr_iload C 1 dL_law_1768 rfl ?_
        obtain ⟨h1, h2⟩ := h
        refine zr_icmp_eq C 1775 dL_law_1770 (by decide) (fun hc => ?_) (fun hc => ?_)
        · have h := h1 hc
          clear h1 h2
          refine zr_iload C 1 dL_law_1775 rfl ?_
          obtain ⟨h1, h2⟩ := h
          refine zr_if_ne C 1792 dL_law_1777 (by decide) (fun hc => ?_) (fun hc => ?_)
          · have h := h1 hc
            clear h1 h2
            refine zr_goto C 2033 dL_law_1792 (by decide) ?_
            exact zr_sub [2, 6] rfl (kl_end hr hN0 C (Nat.le_of_ble_eq_true rfl) (Nat.le_of_ble_eq_true rfl) h)
          · have h := h2 hc
            clear h1 h2
            refine zr_aload_n C 3 dL_law_1780 rfl rfl ?_
            refine zr_iconst C 0 dL_law_1781 (by decide) ?_
            obtain ⟨n27, hT28, hi29, x30, hv31, h⟩ := h
            refine zr_lald C rfl hT28 hi29 hv31 dL_law_1782 ?_
            refine zr_iload C 0 dL_law_1783 rfl ?_
            refine zr_i2l C dL_law_1785 ?_
            refine zr_lcmp C dL_law_1786 ?_
            obtain ⟨h1, h2⟩ := h
            refine zr_if_eq C 1792 dL_law_1787 (by decide) (fun hc => ?_) (fun hc => ?_)
            · have h := h1 hc
              clear h1 h2
              refine zr_goto C 2033 dL_law_1792 (by decide) ?_
              exact zr_sub [2, 6] rfl (kl_end hr hN0 C (Nat.le_of_ble_eq_true rfl) (Nat.le_of_ble_eq_true rfl) h)
            · have h := h2 hc
              clear h1 h2
              refine zr_iconst C 0 dL_law_1790 (by decide) ?_
              exact h.elim
        · have h := h2 hc
          clear h1 h2
          refine zr_iconst C 0 dL_law_1773 (by decide) ?_
          exact h.elim
theorem dL_law_1795 : decode cL_law 1795 = .ok (.aload_n 1, 1) := by decide +kernel
theorem dL_law_1796 : decode cL_law 1796 = .ok (.aload_n 0, 1) := by decide +kernel
theorem dL_law_1797 : decode cL_law 1797 = .ok (.iload 4, 2) := by decide +kernel
theorem dL_law_1799 : decode cL_law 1799 = .ok (.iconst 1, 1) := by decide +kernel
theorem dL_law_1800 : decode cL_law 1800 = .ok (.iadd, 1) := by decide +kernel
theorem dL_law_1801 : decode cL_law 1801 = .ok (.iaload, 1) := by decide +kernel
theorem dL_law_1802 : decode cL_law 1802 = .ok (.aload_n 3, 1) := by decide +kernel
theorem dL_law_1806 : decode cL_law 1806 = .ok (.istore 5, 2) := by decide +kernel
theorem dL_law_1808 : decode cL_law 1808 = .ok (.aload_n 2, 1) := by decide +kernel
theorem dL_law_1809 : decode cL_law 1809 = .ok (.aload_n 0, 1) := by decide +kernel
theorem dL_law_1810 : decode cL_law 1810 = .ok (.iload 4, 2) := by decide +kernel
theorem dL_law_1812 : decode cL_law 1812 = .ok (.iconst 1, 1) := by decide +kernel
theorem dL_law_1813 : decode cL_law 1813 = .ok (.iadd, 1) := by decide +kernel
theorem dL_law_1814 : decode cL_law 1814 = .ok (.iaload, 1) := by decide +kernel
theorem dL_law_1818 : decode cL_law 1818 = .ok (.istore 6, 2) := by decide +kernel
theorem dL_law_1820 : decode cL_law 1820 = .ok (.aload_n 2, 1) := by decide +kernel
theorem dL_law_1824 : decode cL_law 1824 = .ok (.iload 5, 2) := by decide +kernel
theorem dL_law_1826 : decode cL_law 1826 = .ok (.if_icmp .eq 5, 3) := by decide +kernel
theorem dL_law_1831 : decode cL_law 1831 = .ok (.iload 5, 2) := by decide +kernel
theorem dL_law_1833 : decode cL_law 1833 = .ok (.ifCond .ne 15, 3) := by decide +kernel
theorem dL_law_1848 : decode cL_law 1848 = .ok (.goto 185, 3) := by decide +kernel
theorem dL_law_1836 : decode cL_law 1836 = .ok (.aload_n 3, 1) := by decide +kernel
theorem dL_law_1837 : decode cL_law 1837 = .ok (.iconst 0, 1) := by decide +kernel
theorem dL_law_1838 : decode cL_law 1838 = .ok (.laload, 1) := by decide +kernel
theorem dL_law_1839 : decode cL_law 1839 = .ok (.iload 6, 2) := by decide +kernel
theorem dL_law_1841 : decode cL_law 1841 = .ok (.i2l, 1) := by decide +kernel
theorem dL_law_1842 : decode cL_law 1842 = .ok (.lcmp, 1) := by decide +kernel
theorem dL_law_1843 : decode cL_law 1843 = .ok (.ifCond .eq 5, 3) := by decide +kernel
theorem dL_law_1846 : decode cL_law 1846 = .ok (.iconst 0, 1) := by decide +kernel
theorem dL_law_1829 : decode cL_law 1829 = .ok (.iconst 0, 1) := by decide +kernel
theorem dL_law_1821 : decode cL_law 1821 = .ok (.invokevirtual 111, 3) := by decide +kernel
theorem dL_law_1815 : decode cL_law 1815 = .ok (.invokevirtual 189, 3) := by decide +kernel
theorem dL_law_1803 : decode cL_law 1803 = .ok (.invokestatic 187, 3) := by decide +kernel
def vl_23 (x : Nat) (m : Nat) (o : Nat) (b : Nat) (T : zT) (F : zF) : Prop :=
  (∃ n1 : Nat, T b = some (104, n1) ∧ vp_in 1 n1 ∧ ∃ x4 : Int32, F b (1).toNatClampNeg = .int x4 ∧ (v_L_swapFor x x4 o T F (fun (r6 : Int32) (F7 : zF) => (vp_in 1 n1 ∧ ∃ x9 : Int32, F7 b (1).toNatClampNeg = .int x9 ∧ T m = some (12, 6) ∧ (v_X9_swapFor m x9 T F7 (fun (r12 : Int32) (F13 : zF) => (v_X9_thrown m T F13 (fun (r14 : Int32) => ((r14 = r6 → ((¬ r6 = 0 → (∃ L9 : Nat, T b = some (104, L9) ∧ L9 ≤ 7)) ∧ (r6 = 0 → (∃ n15 : Nat, T o = some (103, n15) ∧ vp_in 0 n15 ∧ ∃ x18 : Int64, F13 o (0).toNatClampNeg = .long x18 ∧ (((lg_cmp x18 r12.toInt64) = 0 → (∃ L9 : Nat, T b = some (104, L9) ∧ L9 ≤ 7)) ∧ (¬ (lg_cmp x18 r12.toInt64) = 0 → False)))))) ∧ (¬ r14 = r6 → False))))))))))
set_option maxRecDepth 100000 in
set_option maxHeartbeats 4000000 in
theorem kl_23 {p : Program} {l : Launch} {e : Env} {s : State} {m : MethodId} {below : List Frame} {meth : Method} {c : Code} {D : va_G} {cA : Nat → ClassId} {N0 zE : Nat} {x : Nat} {m : Nat} {o : Nat} {b : Nat} {T : zT} {F : zF} (hr : meth.sig.returnType = ret) (hN0 : N0 = s.heap.size) (C : z_C p l s m #[Value.ref b] meth c RL cL_law 9 ret D cA N0 zE) (h : vl_23 x m o b T F) : z_w p l e room_1 s m #[Value.ref b] below meth c D cA N0 9 20 80 (lw_Z below #[Value.ref b] s) 1795 [(4, .int 0), (3, .ref o), (2, .ref m), (1, .ref x), (0, .ref b)] [] T F := by
  unfold vl_23 at h
  refine zr_aload_n C 3 dL_law_1795 rfl rfl ?_
  refine zr_aload_n C 4 dL_law_1796 rfl rfl ?_
  refine zr_iload C 0 dL_law_1797 rfl ?_
  refine zr_iconst C 1 dL_law_1799 (by decide) ?_
  refine zr_iadd C dL_law_1800 ?_
  refine zr_eqi (y := 1) (by decide) ?_
  obtain ⟨n1, hT2, hi3, x4, hv5, h⟩ := h
  refine zr_iald4 C rfl hT2 hi3 hv5 dL_law_1801 ?_
  refine zr_aload_n C 1 dL_law_1802 rfl rfl ?_
  refine zr_callSH (As := [.ref x, .int x4, .ref o]) C (k_L_swapFor h) ok_L_187 zq_906 rfl ⟨by decide, (Nat.le_of_ble_eq_true rfl)⟩ ⟨(Nat.le_of_ble_eq_true rfl), (Nat.le_of_ble_eq_true rfl)⟩ (Nat.le_of_ble_eq_true rfl) dL_law_1803 (fun v26 U27 G28 hq => ?_)
  clear h
  · obtain ⟨r6, rfl, rfl, h⟩ := hq
    refine zr_istore C [(5, .int r6), (4, .int 0), (3, .ref o), (2, .ref m), (1, .ref x), (0, .ref b)] dL_law_1806 (by decide) rfl ?_
    refine zr_aload_n C 3 dL_law_1808 rfl rfl ?_
    refine zr_aload_n C 5 dL_law_1809 rfl rfl ?_
    refine zr_iload C 1 dL_law_1810 rfl ?_
    refine zr_iconst C 1 dL_law_1812 (by decide) ?_
    refine zr_iadd C dL_law_1813 ?_
    refine zr_eqi (y := 1) (by decide) ?_
    obtain ⟨hi8, x9, hv10, h⟩ := h
    refine zr_iald4 C rfl hT2 hi8 hv10 dL_law_1814 ?_
    obtain ⟨hT11, h⟩ := h
    refine zr_callV (As := [.int x9]) (r := (RX9, TX9, 6)) C (k_X9_swapFor h) ok_L_189 zq_1536 zq_1537 hT11 (by decide) rfl rfl ⟨by decide, (Nat.le_of_ble_eq_true rfl)⟩ ⟨(Nat.le_of_ble_eq_true rfl), (Nat.le_of_ble_eq_true rfl)⟩ (Nat.le_of_ble_eq_true rfl) dL_law_1815 (fun v23 U24 G25 hq => ?_)
    clear h
    · obtain ⟨r12, rfl, rfl, h⟩ := hq
      refine zr_istore C [(6, .int r12), (5, .int r6), (4, .int 0), (3, .ref o), (2, .ref m), (1, .ref x), (0, .ref b)] dL_law_1818 (by decide) rfl ?_
      refine zr_aload_n C 4 dL_law_1820 rfl rfl ?_
      refine zr_callV (As := []) (r := (RX9, TX9, 6)) C (k_X9_thrown h) ok_L_111 zq_975 zq_976 hT11 (by decide) rfl rfl ⟨by decide, (Nat.le_of_ble_eq_true rfl)⟩ ⟨(Nat.le_of_ble_eq_true rfl), (Nat.le_of_ble_eq_true rfl)⟩ (Nat.le_of_ble_eq_true rfl) dL_law_1821 (fun v20 U21 G22 hq => ?_)
      clear h
      · obtain ⟨r14, rfl, rfl, rfl, h⟩ := hq
        refine zr_iload C 1 dL_law_1824 rfl ?_
        obtain ⟨h1, h2⟩ := h
        refine zr_icmp_eq C 1831 dL_law_1826 (by decide) (fun hc => ?_) (fun hc => ?_)
        · have h := h1 hc
          clear h1 h2
          refine zr_iload C 1 dL_law_1831 rfl ?_
          obtain ⟨h1, h2⟩ := h
          refine zr_if_ne C 1848 dL_law_1833 (by decide) (fun hc => ?_) (fun hc => ?_)
          · have h := h1 hc
            clear h1 h2
            refine zr_goto C 2033 dL_law_1848 (by decide) ?_
            exact zr_sub [2, 6] rfl (kl_end hr hN0 C (Nat.le_of_ble_eq_true rfl) (Nat.le_of_ble_eq_true rfl) h)
          · have h := h2 hc
            clear h1 h2
            refine zr_aload_n C 3 dL_law_1836 rfl rfl ?_
            refine zr_iconst C 0 dL_law_1837 (by decide) ?_
            obtain ⟨n15, hT16, hi17, x18, hv19, h⟩ := h
            refine zr_lald C rfl hT16 hi17 hv19 dL_law_1838 ?_
            refine zr_iload C 0 dL_law_1839 rfl ?_
            refine zr_i2l C dL_law_1841 ?_
            refine zr_lcmp C dL_law_1842 ?_
            obtain ⟨h1, h2⟩ := h
            refine zr_if_eq C 1848 dL_law_1843 (by decide) (fun hc => ?_) (fun hc => ?_)
            · have h := h1 hc
              clear h1 h2
              refine zr_goto C 2033 dL_law_1848 (by decide) ?_
              exact zr_sub [2, 6] rfl (kl_end hr hN0 C (Nat.le_of_ble_eq_true rfl) (Nat.le_of_ble_eq_true rfl) h)
            · have h := h2 hc
              clear h1 h2
              refine zr_iconst C 0 dL_law_1846 (by decide) ?_
              exact h.elim
        · have h := h2 hc
          clear h1 h2
          refine zr_iconst C 0 dL_law_1829 (by decide) ?_
          exact h.elim
theorem dL_law_1851 : decode cL_law 1851 = .ok (.aload_n 1, 1) := by decide +kernel
theorem dL_law_1852 : decode cL_law 1852 = .ok (.aload_n 0, 1) := by decide +kernel
theorem dL_law_1853 : decode cL_law 1853 = .ok (.iload 4, 2) := by decide +kernel
theorem dL_law_1855 : decode cL_law 1855 = .ok (.iconst 1, 1) := by decide +kernel
theorem dL_law_1856 : decode cL_law 1856 = .ok (.iadd, 1) := by decide +kernel
theorem dL_law_1857 : decode cL_law 1857 = .ok (.iaload, 1) := by decide +kernel
theorem dL_law_1858 : decode cL_law 1858 = .ok (.aload_n 3, 1) := by decide +kernel
theorem dL_law_1862 : decode cL_law 1862 = .ok (.istore 5, 2) := by decide +kernel
theorem dL_law_1864 : decode cL_law 1864 = .ok (.aload_n 2, 1) := by decide +kernel
theorem dL_law_1865 : decode cL_law 1865 = .ok (.aload_n 0, 1) := by decide +kernel
theorem dL_law_1866 : decode cL_law 1866 = .ok (.iload 4, 2) := by decide +kernel
theorem dL_law_1868 : decode cL_law 1868 = .ok (.iconst 1, 1) := by decide +kernel
theorem dL_law_1869 : decode cL_law 1869 = .ok (.iadd, 1) := by decide +kernel
theorem dL_law_1870 : decode cL_law 1870 = .ok (.iaload, 1) := by decide +kernel
theorem dL_law_1874 : decode cL_law 1874 = .ok (.istore 6, 2) := by decide +kernel
theorem dL_law_1876 : decode cL_law 1876 = .ok (.aload_n 2, 1) := by decide +kernel
theorem dL_law_1880 : decode cL_law 1880 = .ok (.iload 5, 2) := by decide +kernel
theorem dL_law_1882 : decode cL_law 1882 = .ok (.if_icmp .eq 5, 3) := by decide +kernel
theorem dL_law_1887 : decode cL_law 1887 = .ok (.iload 5, 2) := by decide +kernel
theorem dL_law_1889 : decode cL_law 1889 = .ok (.ifCond .ne 15, 3) := by decide +kernel
theorem dL_law_1904 : decode cL_law 1904 = .ok (.goto 129, 3) := by decide +kernel
theorem dL_law_1892 : decode cL_law 1892 = .ok (.aload_n 3, 1) := by decide +kernel
theorem dL_law_1893 : decode cL_law 1893 = .ok (.iconst 0, 1) := by decide +kernel
theorem dL_law_1894 : decode cL_law 1894 = .ok (.laload, 1) := by decide +kernel
theorem dL_law_1895 : decode cL_law 1895 = .ok (.iload 6, 2) := by decide +kernel
theorem dL_law_1897 : decode cL_law 1897 = .ok (.i2l, 1) := by decide +kernel
theorem dL_law_1898 : decode cL_law 1898 = .ok (.lcmp, 1) := by decide +kernel
theorem dL_law_1899 : decode cL_law 1899 = .ok (.ifCond .eq 5, 3) := by decide +kernel
theorem dL_law_1902 : decode cL_law 1902 = .ok (.iconst 0, 1) := by decide +kernel
theorem dL_law_1885 : decode cL_law 1885 = .ok (.iconst 0, 1) := by decide +kernel
theorem dL_law_1877 : decode cL_law 1877 = .ok (.invokevirtual 111, 3) := by decide +kernel
theorem dL_law_1871 : decode cL_law 1871 = .ok (.invokevirtual 192, 3) := by decide +kernel
theorem dL_law_1859 : decode cL_law 1859 = .ok (.invokestatic 190, 3) := by decide +kernel
def vl_24 (x : Nat) (m : Nat) (o : Nat) (b : Nat) (T : zT) (F : zF) : Prop :=
  (∃ n1 : Nat, T b = some (104, n1) ∧ vp_in 1 n1 ∧ ∃ x4 : Int32, F b (1).toNatClampNeg = .int x4 ∧ (v_L_offIn x x4 o T F (fun (r6 : Int32) (F7 : zF) => (vp_in 1 n1 ∧ ∃ x9 : Int32, F7 b (1).toNatClampNeg = .int x9 ∧ T m = some (12, 6) ∧ (v_X9_offIn m x9 T F7 (fun (r12 : Int32) (F13 : zF) => (v_X9_thrown m T F13 (fun (r14 : Int32) => ((r14 = r6 → ((¬ r6 = 0 → (∃ L9 : Nat, T b = some (104, L9) ∧ L9 ≤ 7)) ∧ (r6 = 0 → (∃ n15 : Nat, T o = some (103, n15) ∧ vp_in 0 n15 ∧ ∃ x18 : Int64, F13 o (0).toNatClampNeg = .long x18 ∧ (((lg_cmp x18 r12.toInt64) = 0 → (∃ L9 : Nat, T b = some (104, L9) ∧ L9 ≤ 7)) ∧ (¬ (lg_cmp x18 r12.toInt64) = 0 → False)))))) ∧ (¬ r14 = r6 → False))))))))))
set_option maxRecDepth 100000 in
set_option maxHeartbeats 4000000 in
theorem kl_24 {p : Program} {l : Launch} {e : Env} {s : State} {m : MethodId} {below : List Frame} {meth : Method} {c : Code} {D : va_G} {cA : Nat → ClassId} {N0 zE : Nat} {x : Nat} {m : Nat} {o : Nat} {b : Nat} {T : zT} {F : zF} (hr : meth.sig.returnType = ret) (hN0 : N0 = s.heap.size) (C : z_C p l s m #[Value.ref b] meth c RL cL_law 9 ret D cA N0 zE) (h : vl_24 x m o b T F) : z_w p l e room_1 s m #[Value.ref b] below meth c D cA N0 9 20 80 (lw_Z below #[Value.ref b] s) 1851 [(4, .int 0), (3, .ref o), (2, .ref m), (1, .ref x), (0, .ref b)] [] T F := by
  unfold vl_24 at h
  refine zr_aload_n C 3 dL_law_1851 rfl rfl ?_
  refine zr_aload_n C 4 dL_law_1852 rfl rfl ?_
  refine zr_iload C 0 dL_law_1853 rfl ?_
  refine zr_iconst C 1 dL_law_1855 (by decide) ?_
  refine zr_iadd C dL_law_1856 ?_
  refine zr_eqi (y := 1) (by decide) ?_
  obtain ⟨n1, hT2, hi3, x4, hv5, h⟩ := h
  refine zr_iald4 C rfl hT2 hi3 hv5 dL_law_1857 ?_
  refine zr_aload_n C 1 dL_law_1858 rfl rfl ?_
  refine zr_callSH (As := [.ref x, .int x4, .ref o]) C (k_L_offIn h) ok_L_190 zq_910 rfl ⟨by decide, (Nat.le_of_ble_eq_true rfl)⟩ ⟨(Nat.le_of_ble_eq_true rfl), (Nat.le_of_ble_eq_true rfl)⟩ (Nat.le_of_ble_eq_true rfl) dL_law_1859 (fun v26 U27 G28 hq => ?_)
  clear h
  · obtain ⟨r6, rfl, rfl, h⟩ := hq
    refine zr_istore C [(5, .int r6), (4, .int 0), (3, .ref o), (2, .ref m), (1, .ref x), (0, .ref b)] dL_law_1862 (by decide) rfl ?_
    refine zr_aload_n C 3 dL_law_1864 rfl rfl ?_
    refine zr_aload_n C 5 dL_law_1865 rfl rfl ?_
    refine zr_iload C 1 dL_law_1866 rfl ?_
    refine zr_iconst C 1 dL_law_1868 (by decide) ?_
    refine zr_iadd C dL_law_1869 ?_
    refine zr_eqi (y := 1) (by decide) ?_
    obtain ⟨hi8, x9, hv10, h⟩ := h
    refine zr_iald4 C rfl hT2 hi8 hv10 dL_law_1870 ?_
    obtain ⟨hT11, h⟩ := h
    refine zr_callV (As := [.int x9]) (r := (RX9, TX9, 6)) C (k_X9_offIn h) ok_L_192 zq_1541 zq_1542 hT11 (by decide) rfl rfl ⟨by decide, (Nat.le_of_ble_eq_true rfl)⟩ ⟨(Nat.le_of_ble_eq_true rfl), (Nat.le_of_ble_eq_true rfl)⟩ (Nat.le_of_ble_eq_true rfl) dL_law_1871 (fun v23 U24 G25 hq => ?_)
    clear h
    · obtain ⟨r12, rfl, rfl, h⟩ := hq
      refine zr_istore C [(6, .int r12), (5, .int r6), (4, .int 0), (3, .ref o), (2, .ref m), (1, .ref x), (0, .ref b)] dL_law_1874 (by decide) rfl ?_
      refine zr_aload_n C 4 dL_law_1876 rfl rfl ?_
      refine zr_callV (As := []) (r := (RX9, TX9, 6)) C (k_X9_thrown h) ok_L_111 zq_975 zq_976 hT11 (by decide) rfl rfl ⟨by decide, (Nat.le_of_ble_eq_true rfl)⟩ ⟨(Nat.le_of_ble_eq_true rfl), (Nat.le_of_ble_eq_true rfl)⟩ (Nat.le_of_ble_eq_true rfl) dL_law_1877 (fun v20 U21 G22 hq => ?_)
      clear h
      · obtain ⟨r14, rfl, rfl, rfl, h⟩ := hq
        refine zr_iload C 1 dL_law_1880 rfl ?_
        obtain ⟨h1, h2⟩ := h
        refine zr_icmp_eq C 1887 dL_law_1882 (by decide) (fun hc => ?_) (fun hc => ?_)
        · have h := h1 hc
          clear h1 h2
          refine zr_iload C 1 dL_law_1887 rfl ?_
          obtain ⟨h1, h2⟩ := h
          refine zr_if_ne C 1904 dL_law_1889 (by decide) (fun hc => ?_) (fun hc => ?_)
          · have h := h1 hc
            clear h1 h2
            refine zr_goto C 2033 dL_law_1904 (by decide) ?_
            exact zr_sub [2, 6] rfl (kl_end hr hN0 C (Nat.le_of_ble_eq_true rfl) (Nat.le_of_ble_eq_true rfl) h)
          · have h := h2 hc
            clear h1 h2
            refine zr_aload_n C 3 dL_law_1892 rfl rfl ?_
            refine zr_iconst C 0 dL_law_1893 (by decide) ?_
            obtain ⟨n15, hT16, hi17, x18, hv19, h⟩ := h
            refine zr_lald C rfl hT16 hi17 hv19 dL_law_1894 ?_
            refine zr_iload C 0 dL_law_1895 rfl ?_
            refine zr_i2l C dL_law_1897 ?_
            refine zr_lcmp C dL_law_1898 ?_
            obtain ⟨h1, h2⟩ := h
            refine zr_if_eq C 1904 dL_law_1899 (by decide) (fun hc => ?_) (fun hc => ?_)
            · have h := h1 hc
              clear h1 h2
              refine zr_goto C 2033 dL_law_1904 (by decide) ?_
              exact zr_sub [2, 6] rfl (kl_end hr hN0 C (Nat.le_of_ble_eq_true rfl) (Nat.le_of_ble_eq_true rfl) h)
            · have h := h2 hc
              clear h1 h2
              refine zr_iconst C 0 dL_law_1902 (by decide) ?_
              exact h.elim
        · have h := h2 hc
          clear h1 h2
          refine zr_iconst C 0 dL_law_1885 (by decide) ?_
          exact h.elim
theorem dL_law_1907 : decode cL_law 1907 = .ok (.aload_n 1, 1) := by decide +kernel
theorem dL_law_1908 : decode cL_law 1908 = .ok (.aload_n 0, 1) := by decide +kernel
theorem dL_law_1909 : decode cL_law 1909 = .ok (.iload 4, 2) := by decide +kernel
theorem dL_law_1911 : decode cL_law 1911 = .ok (.iconst 1, 1) := by decide +kernel
theorem dL_law_1912 : decode cL_law 1912 = .ok (.iadd, 1) := by decide +kernel
theorem dL_law_1913 : decode cL_law 1913 = .ok (.iaload, 1) := by decide +kernel
theorem dL_law_1914 : decode cL_law 1914 = .ok (.aload_n 3, 1) := by decide +kernel
theorem dL_law_1918 : decode cL_law 1918 = .ok (.istore 5, 2) := by decide +kernel
theorem dL_law_1920 : decode cL_law 1920 = .ok (.aload_n 2, 1) := by decide +kernel
theorem dL_law_1921 : decode cL_law 1921 = .ok (.aload_n 0, 1) := by decide +kernel
theorem dL_law_1922 : decode cL_law 1922 = .ok (.iload 4, 2) := by decide +kernel
theorem dL_law_1924 : decode cL_law 1924 = .ok (.iconst 1, 1) := by decide +kernel
theorem dL_law_1925 : decode cL_law 1925 = .ok (.iadd, 1) := by decide +kernel
theorem dL_law_1926 : decode cL_law 1926 = .ok (.iaload, 1) := by decide +kernel
theorem dL_law_1930 : decode cL_law 1930 = .ok (.istore 6, 2) := by decide +kernel
theorem dL_law_1932 : decode cL_law 1932 = .ok (.aload_n 2, 1) := by decide +kernel
theorem dL_law_1936 : decode cL_law 1936 = .ok (.iload 5, 2) := by decide +kernel
theorem dL_law_1938 : decode cL_law 1938 = .ok (.if_icmp .eq 5, 3) := by decide +kernel
theorem dL_law_1943 : decode cL_law 1943 = .ok (.iload 5, 2) := by decide +kernel
theorem dL_law_1945 : decode cL_law 1945 = .ok (.ifCond .ne 15, 3) := by decide +kernel
theorem dL_law_1960 : decode cL_law 1960 = .ok (.goto 73, 3) := by decide +kernel
theorem dL_law_1948 : decode cL_law 1948 = .ok (.aload_n 3, 1) := by decide +kernel
theorem dL_law_1949 : decode cL_law 1949 = .ok (.iconst 0, 1) := by decide +kernel
theorem dL_law_1950 : decode cL_law 1950 = .ok (.laload, 1) := by decide +kernel
theorem dL_law_1951 : decode cL_law 1951 = .ok (.iload 6, 2) := by decide +kernel
theorem dL_law_1953 : decode cL_law 1953 = .ok (.i2l, 1) := by decide +kernel
theorem dL_law_1954 : decode cL_law 1954 = .ok (.lcmp, 1) := by decide +kernel
theorem dL_law_1955 : decode cL_law 1955 = .ok (.ifCond .eq 5, 3) := by decide +kernel
theorem dL_law_1958 : decode cL_law 1958 = .ok (.iconst 0, 1) := by decide +kernel
theorem dL_law_1941 : decode cL_law 1941 = .ok (.iconst 0, 1) := by decide +kernel
theorem dL_law_1933 : decode cL_law 1933 = .ok (.invokevirtual 111, 3) := by decide +kernel
theorem dL_law_1927 : decode cL_law 1927 = .ok (.invokevirtual 195, 3) := by decide +kernel
theorem dL_law_1915 : decode cL_law 1915 = .ok (.invokestatic 193, 3) := by decide +kernel
def vl_25 (zE : Nat) (x : Nat) (m : Nat) (o : Nat) (b : Nat) (T : zT) (F : zF) : Prop :=
  (∃ n1 : Nat, T b = some (104, n1) ∧ vp_in 1 n1 ∧ ∃ x4 : Int32, F b (1).toNatClampNeg = .int x4 ∧ (v_L_lostIn x x4 o T F (fun (r6 : Int32) (F7 : zF) => (vp_in 1 n1 ∧ ∃ x9 : Int32, F7 b (1).toNatClampNeg = .int x9 ∧ T m = some (12, 6) ∧ (v_X9_lostIn zE m x9 T F7 (fun (r12 : Int32) (T13 : zT) (F14 : zF) => (T13 m = some (12, 6) ∧ (v_X9_thrown m T13 F14 (fun (r16 : Int32) => ((r16 = r6 → ((¬ r6 = 0 → (∃ L9 : Nat, T13 b = some (104, L9) ∧ L9 ≤ 7)) ∧ (r6 = 0 → (∃ n17 : Nat, T13 o = some (103, n17) ∧ vp_in 0 n17 ∧ ∃ x20 : Int64, F14 o (0).toNatClampNeg = .long x20 ∧ (((lg_cmp x20 r12.toInt64) = 0 → (∃ L9 : Nat, T13 b = some (104, L9) ∧ L9 ≤ 7)) ∧ (¬ (lg_cmp x20 r12.toInt64) = 0 → False)))))) ∧ (¬ r16 = r6 → False)))))))))))
set_option maxRecDepth 100000 in
set_option maxHeartbeats 4000000 in
theorem kl_25 {p : Program} {l : Launch} {e : Env} {s : State} {m : MethodId} {below : List Frame} {meth : Method} {c : Code} {D : va_G} {cA : Nat → ClassId} {N0 zE : Nat} {x : Nat} {m : Nat} {o : Nat} {b : Nat} {T : zT} {F : zF} (hr : meth.sig.returnType = ret) (hN0 : N0 = s.heap.size) (C : z_C p l s m #[Value.ref b] meth c RL cL_law 9 ret D cA N0 zE) (h : vl_25 zE x m o b T F) : z_w p l e room_1 s m #[Value.ref b] below meth c D cA N0 9 20 80 (lw_Z below #[Value.ref b] s) 1907 [(4, .int 0), (3, .ref o), (2, .ref m), (1, .ref x), (0, .ref b)] [] T F := by
  unfold vl_25 at h
  refine zr_aload_n C 3 dL_law_1907 rfl rfl ?_
  refine zr_aload_n C 4 dL_law_1908 rfl rfl ?_
  refine zr_iload C 0 dL_law_1909 rfl ?_
  refine zr_iconst C 1 dL_law_1911 (by decide) ?_
  refine zr_iadd C dL_law_1912 ?_
  refine zr_eqi (y := 1) (by decide) ?_
  obtain ⟨n1, hT2, hi3, x4, hv5, h⟩ := h
  refine zr_iald4 C rfl hT2 hi3 hv5 dL_law_1913 ?_
  refine zr_aload_n C 1 dL_law_1914 rfl rfl ?_
  refine zr_callSH (As := [.ref x, .int x4, .ref o]) C (k_L_lostIn h) ok_L_193 zq_914 rfl ⟨by decide, (Nat.le_of_ble_eq_true rfl)⟩ ⟨(Nat.le_of_ble_eq_true rfl), (Nat.le_of_ble_eq_true rfl)⟩ (Nat.le_of_ble_eq_true rfl) dL_law_1915 (fun v28 U29 G30 hq => ?_)
  clear h
  · obtain ⟨r6, rfl, rfl, h⟩ := hq
    refine zr_istore C [(5, .int r6), (4, .int 0), (3, .ref o), (2, .ref m), (1, .ref x), (0, .ref b)] dL_law_1918 (by decide) rfl ?_
    refine zr_aload_n C 3 dL_law_1920 rfl rfl ?_
    refine zr_aload_n C 5 dL_law_1921 rfl rfl ?_
    refine zr_iload C 1 dL_law_1922 rfl ?_
    refine zr_iconst C 1 dL_law_1924 (by decide) ?_
    refine zr_iadd C dL_law_1925 ?_
    refine zr_eqi (y := 1) (by decide) ?_
    obtain ⟨hi8, x9, hv10, h⟩ := h
    refine zr_iald4 C rfl hT2 hi8 hv10 dL_law_1926 ?_
    obtain ⟨hT11, h⟩ := h
    refine zr_callV (As := [.int x9]) (r := (RX9, TX9, 6)) C (k_X9_lostIn h) ok_L_195 zq_1549 zq_1550 hT11 (by decide) rfl rfl ⟨by decide, (Nat.le_of_ble_eq_true rfl)⟩ ⟨(Nat.le_of_ble_eq_true rfl), (Nat.le_of_ble_eq_true rfl)⟩ (Nat.le_of_ble_eq_true rfl) dL_law_1927 (fun v25 U26 G27 hq => ?_)
    clear h
    · obtain ⟨r12, rfl, h⟩ := hq
      skip
      refine zr_istore C [(6, .int r12), (5, .int r6), (4, .int 0), (3, .ref o), (2, .ref m), (1, .ref x), (0, .ref b)] dL_law_1930 (by decide) rfl ?_
      refine zr_aload_n C 4 dL_law_1932 rfl rfl ?_
      obtain ⟨hT15, h⟩ := h
      refine zr_callV (As := []) (r := (RX9, TX9, 6)) C (k_X9_thrown h) ok_L_111 zq_975 zq_976 hT15 (by decide) rfl rfl ⟨by decide, (Nat.le_of_ble_eq_true rfl)⟩ ⟨(Nat.le_of_ble_eq_true rfl), (Nat.le_of_ble_eq_true rfl)⟩ (Nat.le_of_ble_eq_true rfl) dL_law_1933 (fun v22 U23 G24 hq => ?_)
      clear h
      · obtain ⟨r16, rfl, rfl, rfl, h⟩ := hq
        refine zr_iload C 1 dL_law_1936 rfl ?_
        obtain ⟨h1, h2⟩ := h
        refine zr_icmp_eq C 1943 dL_law_1938 (by decide) (fun hc => ?_) (fun hc => ?_)
        · have h := h1 hc
          clear h1 h2
          refine zr_iload C 1 dL_law_1943 rfl ?_
          obtain ⟨h1, h2⟩ := h
          refine zr_if_ne C 1960 dL_law_1945 (by decide) (fun hc => ?_) (fun hc => ?_)
          · have h := h1 hc
            clear h1 h2
            refine zr_goto C 2033 dL_law_1960 (by decide) ?_
            exact zr_sub [2, 6] rfl (kl_end hr hN0 C (Nat.le_of_ble_eq_true rfl) (Nat.le_of_ble_eq_true rfl) h)
          · have h := h2 hc
            clear h1 h2
            refine zr_aload_n C 3 dL_law_1948 rfl rfl ?_
            refine zr_iconst C 0 dL_law_1949 (by decide) ?_
            obtain ⟨n17, hT18, hi19, x20, hv21, h⟩ := h
            refine zr_lald C rfl hT18 hi19 hv21 dL_law_1950 ?_
            refine zr_iload C 0 dL_law_1951 rfl ?_
            refine zr_i2l C dL_law_1953 ?_
            refine zr_lcmp C dL_law_1954 ?_
            obtain ⟨h1, h2⟩ := h
            refine zr_if_eq C 1960 dL_law_1955 (by decide) (fun hc => ?_) (fun hc => ?_)
            · have h := h1 hc
              clear h1 h2
              refine zr_goto C 2033 dL_law_1960 (by decide) ?_
              exact zr_sub [2, 6] rfl (kl_end hr hN0 C (Nat.le_of_ble_eq_true rfl) (Nat.le_of_ble_eq_true rfl) h)
            · have h := h2 hc
              clear h1 h2
              refine zr_iconst C 0 dL_law_1958 (by decide) ?_
              exact h.elim
        · have h := h2 hc
          clear h1 h2
          refine zr_iconst C 0 dL_law_1941 (by decide) ?_
          exact h.elim
theorem dL_law_1963 : decode cL_law 1963 = .ok (.aload_n 1, 1) := by decide +kernel
theorem dL_law_1964 : decode cL_law 1964 = .ok (.aload_n 0, 1) := by decide +kernel
theorem dL_law_1965 : decode cL_law 1965 = .ok (.iload 4, 2) := by decide +kernel
theorem dL_law_1967 : decode cL_law 1967 = .ok (.iconst 1, 1) := by decide +kernel
theorem dL_law_1968 : decode cL_law 1968 = .ok (.iadd, 1) := by decide +kernel
theorem dL_law_1969 : decode cL_law 1969 = .ok (.iaload, 1) := by decide +kernel
theorem dL_law_1970 : decode cL_law 1970 = .ok (.aload_n 3, 1) := by decide +kernel
theorem dL_law_1974 : decode cL_law 1974 = .ok (.istore 5, 2) := by decide +kernel
theorem dL_law_1976 : decode cL_law 1976 = .ok (.aload_n 2, 1) := by decide +kernel
theorem dL_law_1977 : decode cL_law 1977 = .ok (.aload_n 0, 1) := by decide +kernel
theorem dL_law_1978 : decode cL_law 1978 = .ok (.iload 4, 2) := by decide +kernel
theorem dL_law_1980 : decode cL_law 1980 = .ok (.iconst 1, 1) := by decide +kernel
theorem dL_law_1981 : decode cL_law 1981 = .ok (.iadd, 1) := by decide +kernel
theorem dL_law_1982 : decode cL_law 1982 = .ok (.iaload, 1) := by decide +kernel
theorem dL_law_1986 : decode cL_law 1986 = .ok (.istore 6, 2) := by decide +kernel
theorem dL_law_1988 : decode cL_law 1988 = .ok (.aload_n 2, 1) := by decide +kernel
theorem dL_law_1992 : decode cL_law 1992 = .ok (.iload 5, 2) := by decide +kernel
theorem dL_law_1994 : decode cL_law 1994 = .ok (.if_icmp .eq 5, 3) := by decide +kernel
theorem dL_law_1999 : decode cL_law 1999 = .ok (.iload 5, 2) := by decide +kernel
theorem dL_law_2001 : decode cL_law 2001 = .ok (.ifCond .ne 15, 3) := by decide +kernel
theorem dL_law_2016 : decode cL_law 2016 = .ok (.goto 17, 3) := by decide +kernel
theorem dL_law_2004 : decode cL_law 2004 = .ok (.aload_n 3, 1) := by decide +kernel
theorem dL_law_2005 : decode cL_law 2005 = .ok (.iconst 0, 1) := by decide +kernel
theorem dL_law_2006 : decode cL_law 2006 = .ok (.laload, 1) := by decide +kernel
theorem dL_law_2007 : decode cL_law 2007 = .ok (.iload 6, 2) := by decide +kernel
theorem dL_law_2009 : decode cL_law 2009 = .ok (.i2l, 1) := by decide +kernel
theorem dL_law_2010 : decode cL_law 2010 = .ok (.lcmp, 1) := by decide +kernel
theorem dL_law_2011 : decode cL_law 2011 = .ok (.ifCond .eq 5, 3) := by decide +kernel
theorem dL_law_2014 : decode cL_law 2014 = .ok (.iconst 0, 1) := by decide +kernel
theorem dL_law_1997 : decode cL_law 1997 = .ok (.iconst 0, 1) := by decide +kernel
theorem dL_law_1989 : decode cL_law 1989 = .ok (.invokevirtual 111, 3) := by decide +kernel
theorem dL_law_1983 : decode cL_law 1983 = .ok (.invokevirtual 198, 3) := by decide +kernel
theorem dL_law_1971 : decode cL_law 1971 = .ok (.invokestatic 196, 3) := by decide +kernel
def vl_26 (x : Nat) (m : Nat) (o : Nat) (b : Nat) (T : zT) (F : zF) : Prop :=
  (∃ n1 : Nat, T b = some (104, n1) ∧ vp_in 1 n1 ∧ ∃ x4 : Int32, F b (1).toNatClampNeg = .int x4 ∧ (v_L_reachWith x x4 o T F (fun (r6 : Int32) (F7 : zF) => (vp_in 1 n1 ∧ ∃ x9 : Int32, F7 b (1).toNatClampNeg = .int x9 ∧ T m = some (12, 6) ∧ (v_X9_reachWith m x9 T F7 (fun (r12 : Int32) (F13 : zF) => (v_X9_thrown m T F13 (fun (r14 : Int32) => ((r14 = r6 → ((¬ r6 = 0 → (∃ L9 : Nat, T b = some (104, L9) ∧ L9 ≤ 7)) ∧ (r6 = 0 → (∃ n15 : Nat, T o = some (103, n15) ∧ vp_in 0 n15 ∧ ∃ x18 : Int64, F13 o (0).toNatClampNeg = .long x18 ∧ (((lg_cmp x18 r12.toInt64) = 0 → (∃ L9 : Nat, T b = some (104, L9) ∧ L9 ≤ 7)) ∧ (¬ (lg_cmp x18 r12.toInt64) = 0 → False)))))) ∧ (¬ r14 = r6 → False))))))))))
set_option maxRecDepth 100000 in
set_option maxHeartbeats 4000000 in
theorem kl_26 {p : Program} {l : Launch} {e : Env} {s : State} {m : MethodId} {below : List Frame} {meth : Method} {c : Code} {D : va_G} {cA : Nat → ClassId} {N0 zE : Nat} {x : Nat} {m : Nat} {o : Nat} {b : Nat} {T : zT} {F : zF} (hr : meth.sig.returnType = ret) (hN0 : N0 = s.heap.size) (C : z_C p l s m #[Value.ref b] meth c RL cL_law 9 ret D cA N0 zE) (h : vl_26 x m o b T F) : z_w p l e room_1 s m #[Value.ref b] below meth c D cA N0 9 20 80 (lw_Z below #[Value.ref b] s) 1963 [(4, .int 0), (3, .ref o), (2, .ref m), (1, .ref x), (0, .ref b)] [] T F := by
  unfold vl_26 at h
  refine zr_aload_n C 3 dL_law_1963 rfl rfl ?_
  refine zr_aload_n C 4 dL_law_1964 rfl rfl ?_
  refine zr_iload C 0 dL_law_1965 rfl ?_
  refine zr_iconst C 1 dL_law_1967 (by decide) ?_
  refine zr_iadd C dL_law_1968 ?_
  refine zr_eqi (y := 1) (by decide) ?_
  obtain ⟨n1, hT2, hi3, x4, hv5, h⟩ := h
  refine zr_iald4 C rfl hT2 hi3 hv5 dL_law_1969 ?_
  refine zr_aload_n C 1 dL_law_1970 rfl rfl ?_
  refine zr_callSH (As := [.ref x, .int x4, .ref o]) C (k_L_reachWith h) ok_L_196 zq_918 rfl ⟨by decide, (Nat.le_of_ble_eq_true rfl)⟩ ⟨(Nat.le_of_ble_eq_true rfl), (Nat.le_of_ble_eq_true rfl)⟩ (Nat.le_of_ble_eq_true rfl) dL_law_1971 (fun v26 U27 G28 hq => ?_)
  clear h
  · obtain ⟨r6, rfl, rfl, h⟩ := hq
    refine zr_istore C [(5, .int r6), (4, .int 0), (3, .ref o), (2, .ref m), (1, .ref x), (0, .ref b)] dL_law_1974 (by decide) rfl ?_
    refine zr_aload_n C 3 dL_law_1976 rfl rfl ?_
    refine zr_aload_n C 5 dL_law_1977 rfl rfl ?_
    refine zr_iload C 1 dL_law_1978 rfl ?_
    refine zr_iconst C 1 dL_law_1980 (by decide) ?_
    refine zr_iadd C dL_law_1981 ?_
    refine zr_eqi (y := 1) (by decide) ?_
    obtain ⟨hi8, x9, hv10, h⟩ := h
    refine zr_iald4 C rfl hT2 hi8 hv10 dL_law_1982 ?_
    obtain ⟨hT11, h⟩ := h
    refine zr_callV (As := [.int x9]) (r := (RX9, TX9, 6)) C (k_X9_reachWith h) ok_L_198 zq_1570 zq_1571 hT11 (by decide) rfl rfl ⟨by decide, (Nat.le_of_ble_eq_true rfl)⟩ ⟨(Nat.le_of_ble_eq_true rfl), (Nat.le_of_ble_eq_true rfl)⟩ (Nat.le_of_ble_eq_true rfl) dL_law_1983 (fun v23 U24 G25 hq => ?_)
    clear h
    · obtain ⟨r12, rfl, rfl, h⟩ := hq
      refine zr_istore C [(6, .int r12), (5, .int r6), (4, .int 0), (3, .ref o), (2, .ref m), (1, .ref x), (0, .ref b)] dL_law_1986 (by decide) rfl ?_
      refine zr_aload_n C 4 dL_law_1988 rfl rfl ?_
      refine zr_callV (As := []) (r := (RX9, TX9, 6)) C (k_X9_thrown h) ok_L_111 zq_975 zq_976 hT11 (by decide) rfl rfl ⟨by decide, (Nat.le_of_ble_eq_true rfl)⟩ ⟨(Nat.le_of_ble_eq_true rfl), (Nat.le_of_ble_eq_true rfl)⟩ (Nat.le_of_ble_eq_true rfl) dL_law_1989 (fun v20 U21 G22 hq => ?_)
      clear h
      · obtain ⟨r14, rfl, rfl, rfl, h⟩ := hq
        refine zr_iload C 1 dL_law_1992 rfl ?_
        obtain ⟨h1, h2⟩ := h
        refine zr_icmp_eq C 1999 dL_law_1994 (by decide) (fun hc => ?_) (fun hc => ?_)
        · have h := h1 hc
          clear h1 h2
          refine zr_iload C 1 dL_law_1999 rfl ?_
          obtain ⟨h1, h2⟩ := h
          refine zr_if_ne C 2016 dL_law_2001 (by decide) (fun hc => ?_) (fun hc => ?_)
          · have h := h1 hc
            clear h1 h2
            refine zr_goto C 2033 dL_law_2016 (by decide) ?_
            exact zr_sub [2, 6] rfl (kl_end hr hN0 C (Nat.le_of_ble_eq_true rfl) (Nat.le_of_ble_eq_true rfl) h)
          · have h := h2 hc
            clear h1 h2
            refine zr_aload_n C 3 dL_law_2004 rfl rfl ?_
            refine zr_iconst C 0 dL_law_2005 (by decide) ?_
            obtain ⟨n15, hT16, hi17, x18, hv19, h⟩ := h
            refine zr_lald C rfl hT16 hi17 hv19 dL_law_2006 ?_
            refine zr_iload C 0 dL_law_2007 rfl ?_
            refine zr_i2l C dL_law_2009 ?_
            refine zr_lcmp C dL_law_2010 ?_
            obtain ⟨h1, h2⟩ := h
            refine zr_if_eq C 2016 dL_law_2011 (by decide) (fun hc => ?_) (fun hc => ?_)
            · have h := h1 hc
              clear h1 h2
              refine zr_goto C 2033 dL_law_2016 (by decide) ?_
              exact zr_sub [2, 6] rfl (kl_end hr hN0 C (Nat.le_of_ble_eq_true rfl) (Nat.le_of_ble_eq_true rfl) h)
            · have h := h2 hc
              clear h1 h2
              refine zr_iconst C 0 dL_law_2014 (by decide) ?_
              exact h.elim
        · have h := h2 hc
          clear h1 h2
          refine zr_iconst C 0 dL_law_1997 (by decide) ?_
          exact h.elim
theorem dL_law_2019 : decode cL_law 2019 = .ok (.aload_n 1, 1) := by decide +kernel
theorem dL_law_2023 : decode cL_law 2023 = .ok (.aload_n 2, 1) := by decide +kernel
theorem dL_law_2027 : decode cL_law 2027 = .ok (.lcmp, 1) := by decide +kernel
theorem dL_law_2028 : decode cL_law 2028 = .ok (.ifCond .eq 5, 3) := by decide +kernel
theorem dL_law_2031 : decode cL_law 2031 = .ok (.iconst 0, 1) := by decide +kernel
theorem dL_law_2024 : decode cL_law 2024 = .ok (.invokevirtual 203, 3) := by decide +kernel
theorem dL_law_2020 : decode cL_law 2020 = .ok (.invokevirtual 199, 3) := by decide +kernel
def vl_27 (zE : Nat) (x : Nat) (m : Nat) (o : Nat) (b : Nat) (T : zT) (F : zF) : Prop :=
  (T x = some (7, 4) ∧ (v_X4_digest x T F (fun (r2 : Int64) (F3 : zF) => (T m = some (12, 6) ∧ (v_X9_digest zE m T F3 (fun (r5 : Int64) (T6 : zT) (F7 : zF) => (((lg_cmp r2 r5) = 0 → (∃ L9 : Nat, T6 b = some (104, L9) ∧ L9 ≤ 7)) ∧ (¬ (lg_cmp r2 r5) = 0 → False))))))))
set_option maxRecDepth 100000 in
set_option maxHeartbeats 4000000 in
theorem kl_27 {p : Program} {l : Launch} {e : Env} {s : State} {m : MethodId} {below : List Frame} {meth : Method} {c : Code} {D : va_G} {cA : Nat → ClassId} {N0 zE : Nat} {x : Nat} {m : Nat} {o : Nat} {b : Nat} {T : zT} {F : zF} (hr : meth.sig.returnType = ret) (hN0 : N0 = s.heap.size) (C : z_C p l s m #[Value.ref b] meth c RL cL_law 9 ret D cA N0 zE) (h : vl_27 zE x m o b T F) : z_w p l e room_1 s m #[Value.ref b] below meth c D cA N0 9 20 80 (lw_Z below #[Value.ref b] s) 2019 [(4, .int 0), (3, .ref o), (2, .ref m), (1, .ref x), (0, .ref b)] [] T F := by
  unfold vl_27 at h
  refine zr_aload_n C 3 dL_law_2019 rfl rfl ?_
  obtain ⟨hT1, h⟩ := h
  refine zr_callV (As := []) (r := (RX4, TX4, 4)) C (k_X4_digest h) ok_L_199 zq_164 zq_165 hT1 (by decide) rfl rfl ⟨by decide, (Nat.le_of_ble_eq_true rfl)⟩ ⟨(Nat.le_of_ble_eq_true rfl), (Nat.le_of_ble_eq_true rfl)⟩ (Nat.le_of_ble_eq_true rfl) dL_law_2020 (fun v11 U12 G13 hq => ?_)
  clear h
  · obtain ⟨r2, rfl, rfl, h⟩ := hq
    refine zr_aload_n C 2 dL_law_2023 rfl rfl ?_
    obtain ⟨hT4, h⟩ := h
    refine zr_callV (As := []) (r := (RX9, TX9, 6)) C (k_X9_digest h) ok_L_203 zq_1574 zq_1575 hT4 (by decide) rfl rfl ⟨by decide, (Nat.le_of_ble_eq_true rfl)⟩ ⟨(Nat.le_of_ble_eq_true rfl), (Nat.le_of_ble_eq_true rfl)⟩ (Nat.le_of_ble_eq_true rfl) dL_law_2024 (fun v8 U9 G10 hq => ?_)
    clear h
    · obtain ⟨r5, rfl, h⟩ := hq
      skip
      refine zr_lcmp C dL_law_2027 ?_
      obtain ⟨h1, h2⟩ := h
      refine zr_if_eq C 2033 dL_law_2028 (by decide) (fun hc => ?_) (fun hc => ?_)
      · have h := h1 hc
        clear h1 h2
        exact zr_sub [0, 4] rfl (kl_end hr hN0 C (Nat.le_of_ble_eq_true rfl) (Nat.le_of_ble_eq_true rfl) h)
      · have h := h2 hc
        clear h1 h2
        refine zr_iconst C 0 dL_law_2031 (by decide) ?_
        exact h.elim
def vl_pro (zE : Nat) (b : Nat) (T : zT) (F : zF) : Prop :=
  (∀ q1 : Nat, (∀ b, q1 ≤ b → T b = none) → (v_X4_init zE q1 (zn T q1 (7, 4)) (zm F q1 (fun j => defaultValue (tyX4 j))) (fun (T3 : zT) (F4 : zF) => (∀ q5 : Nat, (∀ b, q5 ≤ b → T3 b = none) → (v_X9_init zE q5 (zn T3 q5 (12, 6)) (zm F4 q5 (fun j => defaultValue (tyX9 j))) (fun (T7 : zT) (F8 : zF) => (∀ q9 : Nat, (∀ b, q9 ≤ b → T7 b = none) → (∃ n11 : Nat, zn T7 q9 (103, 1) b = some (104, n11) ∧ ((((nI n11) - 7) < (0 : Int32) → True) ∧ (¬ ((nI n11) - 7) < (0 : Int32) → (vp_in 0 n11 ∧ ∃ x14 : Int32, (zm F8 q9 (fun _ => .long 0)) b (0).toNatClampNeg = .int x14 ∧ ((((x14 &&& 31).toInt < 0 ∨ 27 < (x14 &&& 31).toInt) → (∃ L9 : Nat, (zn T7 q9 (103, 1)) b = some (104, L9) ∧ L9 ≤ 7)) ∧ ((x14 &&& 31) = 0 → vl_0 q1 q5 q9 b (zn T7 q9 (103, 1)) (zm F8 q9 (fun _ => .long 0))) ∧ ((x14 &&& 31) = 1 → vl_1 q1 q5 q9 b (zn T7 q9 (103, 1)) (zm F8 q9 (fun _ => .long 0))) ∧ ((x14 &&& 31) = 2 → vl_2 q1 q5 q9 b (zn T7 q9 (103, 1)) (zm F8 q9 (fun _ => .long 0))) ∧ ((x14 &&& 31) = 3 → vl_3 q1 q5 q9 b (zn T7 q9 (103, 1)) (zm F8 q9 (fun _ => .long 0))) ∧ ((x14 &&& 31) = 4 → vl_4 q1 q5 q9 b (zn T7 q9 (103, 1)) (zm F8 q9 (fun _ => .long 0))) ∧ ((x14 &&& 31) = 5 → vl_5 q1 q5 q9 b (zn T7 q9 (103, 1)) (zm F8 q9 (fun _ => .long 0))) ∧ ((x14 &&& 31) = 6 → vl_6 q1 q5 q9 b (zn T7 q9 (103, 1)) (zm F8 q9 (fun _ => .long 0))) ∧ ((x14 &&& 31) = 7 → vl_7 q1 q5 q9 b (zn T7 q9 (103, 1)) (zm F8 q9 (fun _ => .long 0))) ∧ ((x14 &&& 31) = 8 → vl_8 q1 q5 q9 b (zn T7 q9 (103, 1)) (zm F8 q9 (fun _ => .long 0))) ∧ ((x14 &&& 31) = 9 → vl_9 q1 q5 q9 b (zn T7 q9 (103, 1)) (zm F8 q9 (fun _ => .long 0))) ∧ ((x14 &&& 31) = 10 → vl_10 q1 q5 q9 b (zn T7 q9 (103, 1)) (zm F8 q9 (fun _ => .long 0))) ∧ ((x14 &&& 31) = 11 → vl_11 q1 q5 q9 b (zn T7 q9 (103, 1)) (zm F8 q9 (fun _ => .long 0))) ∧ ((x14 &&& 31) = 12 → vl_12 q1 q5 q9 b (zn T7 q9 (103, 1)) (zm F8 q9 (fun _ => .long 0))) ∧ ((x14 &&& 31) = 13 → vl_13 q1 q5 q9 b (zn T7 q9 (103, 1)) (zm F8 q9 (fun _ => .long 0))) ∧ ((x14 &&& 31) = 14 → vl_14 q1 q5 q9 b (zn T7 q9 (103, 1)) (zm F8 q9 (fun _ => .long 0))) ∧ ((x14 &&& 31) = 15 → vl_15 q1 q5 q9 b (zn T7 q9 (103, 1)) (zm F8 q9 (fun _ => .long 0))) ∧ ((x14 &&& 31) = 16 → vl_16 q1 q5 q9 b (zn T7 q9 (103, 1)) (zm F8 q9 (fun _ => .long 0))) ∧ ((x14 &&& 31) = 17 → vl_17 q1 q5 q9 b (zn T7 q9 (103, 1)) (zm F8 q9 (fun _ => .long 0))) ∧ ((x14 &&& 31) = 18 → vl_18 q1 q5 q9 b (zn T7 q9 (103, 1)) (zm F8 q9 (fun _ => .long 0))) ∧ ((x14 &&& 31) = 19 → vl_19 q1 q5 q9 b (zn T7 q9 (103, 1)) (zm F8 q9 (fun _ => .long 0))) ∧ ((x14 &&& 31) = 20 → vl_20 q1 q5 q9 b (zn T7 q9 (103, 1)) (zm F8 q9 (fun _ => .long 0))) ∧ ((x14 &&& 31) = 21 → vl_21 q1 q5 q9 b (zn T7 q9 (103, 1)) (zm F8 q9 (fun _ => .long 0))) ∧ ((x14 &&& 31) = 22 → vl_22 q1 q5 q9 b (zn T7 q9 (103, 1)) (zm F8 q9 (fun _ => .long 0))) ∧ ((x14 &&& 31) = 23 → vl_23 q1 q5 q9 b (zn T7 q9 (103, 1)) (zm F8 q9 (fun _ => .long 0))) ∧ ((x14 &&& 31) = 24 → vl_24 q1 q5 q9 b (zn T7 q9 (103, 1)) (zm F8 q9 (fun _ => .long 0))) ∧ ((x14 &&& 31) = 25 → vl_25 q1 q5 q9 b (zn T7 q9 (103, 1)) (zm F8 q9 (fun _ => .long 0))) ∧ ((x14 &&& 31) = 26 → vl_26 q1 q5 q9 b (zn T7 q9 (103, 1)) (zm F8 q9 (fun _ => .long 0))) ∧ ((x14 &&& 31) = 27 → vl_27 q1 q5 q9 b (zn T7 q9 (103, 1)) (zm F8 q9 (fun _ => .long 0)))))))))))))))
set_option maxRecDepth 100000 in
set_option maxHeartbeats 4000000 in
theorem kl_pro {p : Program} {l : Launch} {e : Env} {s : State} {m : MethodId} {below : List Frame} {meth : Method} {c : Code} {D : va_G} {cA : Nat → ClassId} {N0 zE : Nat} {b : Nat} {T : zT} {F : zF} (hr : meth.sig.returnType = ret) (hN0 : N0 = s.heap.size) (C : z_C p l s m #[Value.ref b] meth c RL cL_law 9 ret D cA N0 zE) (h : vl_pro zE b T F) : z_w p l e room_1 s m #[Value.ref b] below meth c D cA N0 9 0 0 (lw_Z below #[Value.ref b] s) 0 [(0, .ref b)] [] T F := by
  unfold vl_pro at h
  refine zr_new C nw_L_8 (Nat.le_of_ble_eq_true rfl) (Nat.le_of_ble_eq_true rfl) dL_law_0 (fun q1 hq2 => ?_)
  have h := h q1 hq2
  refine zr_dup C dL_law_3 rfl ?_
  refine zr_callI (As := []) C (k_X4_init h) ok_L_101 zq_66 rfl rfl ⟨by decide, (Nat.le_of_ble_eq_true rfl)⟩ ⟨(Nat.le_of_ble_eq_true rfl), (Nat.le_of_ble_eq_true rfl)⟩ (Nat.le_of_ble_eq_true rfl) dL_law_4 (fun v48 U49 G50 hq => ?_)
  clear h
  · obtain ⟨rfl, h⟩ := hq
    skip
    refine zr_astore_n C [(1, .ref q1), (0, .ref b)] dL_law_7 rfl (by decide) rfl ?_
    refine zr_new C nw_L_102 (Nat.le_of_ble_eq_true rfl) (Nat.le_of_ble_eq_true rfl) dL_law_8 (fun q5 hq6 => ?_)
    have h := h q5 hq6
    refine zr_dup C dL_law_11 rfl ?_
    refine zr_callI (As := []) C (k_X9_init h) ok_L_104 zq_927 rfl rfl ⟨by decide, (Nat.le_of_ble_eq_true rfl)⟩ ⟨(Nat.le_of_ble_eq_true rfl), (Nat.le_of_ble_eq_true rfl)⟩ (Nat.le_of_ble_eq_true rfl) dL_law_12 (fun v45 U46 G47 hq => ?_)
    clear h
    · obtain ⟨rfl, h⟩ := hq
      skip
      refine zr_astore_n C [(2, .ref q5), (1, .ref q1), (0, .ref b)] dL_law_15 rfl (by decide) rfl ?_
      refine zr_iconst C 1 dL_law_16 (by decide) ?_
      refine zr_newarr (n := 1) (atype := .long) C 3 rfl zq_1583 (by decide) (by decide) (Nat.le_of_ble_eq_true rfl) (Nat.le_of_ble_eq_true rfl) dL_law_17 (fun q9 hq10 => ?_)
      have h := h q9 hq10
      refine zr_astore_n C [(3, .ref q9), (2, .ref q5), (1, .ref q1), (0, .ref b)] dL_law_19 rfl (by decide) rfl ?_
      refine zr_iconst C 0 dL_law_20 (by decide) ?_
      refine zr_istore C [(4, .int 0), (3, .ref q9), (2, .ref q5), (1, .ref q1), (0, .ref b)] dL_law_21 (by decide) rfl ?_
      refine zr_iload C 0 dL_law_23 rfl ?_
      refine zr_aload_n C 4 dL_law_25 rfl rfl ?_
      obtain ⟨n11, hT12, h⟩ := h
      refine zr_alen C hT12 (by decide) rfl dL_law_26 ?_
      refine zr_bipush C 7 dL_law_27 (by decide) ?_
      refine zr_isub C dL_law_29 ?_
      obtain ⟨h1, h2⟩ := h
      refine zr_icmp_gt C 2039 dL_law_30 (by decide) (fun hc => ?_) (fun hc => ?_)
      · have h := h1 hc
        clear h1 h2
        refine zr_iconst C 1 dL_law_2039 (by decide) ?_
        exact zr_lawret hr hN0 C (Nat.le_of_ble_eq_true rfl) (Nat.le_of_ble_eq_true rfl) dL_law_2040
      · have h := h2 hc
        clear h1 h2
        refine zr_aload_n C 4 dL_law_33 rfl rfl ?_
        refine zr_iload C 0 dL_law_34 rfl ?_
        obtain ⟨hi13, x14, hv15, h⟩ := h
        refine zr_iald4 C rfl hT12 hi13 hv15 dL_law_36 ?_
        refine zr_bipush C 31 dL_law_37 (by decide) ?_
        refine zr_iand C dL_law_39 ?_
        obtain ⟨hs16, hs17, hs18, hs19, hs20, hs21, hs22, hs23, hs24, hs25, hs26, hs27, hs28, hs29, hs30, hs31, hs32, hs33, hs34, hs35, hs36, hs37, hs38, hs39, hs40, hs41, hs42, hs43, hs44⟩ := h
        by_cases hw : ((x14 &&& 31)).toInt < 0 ∨ 27 < ((x14 &&& 31)).toInt
        · have h := hs16 hw
          refine zr_tableOut C 2033 dL_law_40 hw (by decide) ?_
          exact zr_sub [0, 4] rfl (kl_end hr hN0 C (Nat.le_of_ble_eq_true rfl) (Nat.le_of_ble_eq_true rfl) h)
        by_cases hk0 : (x14 &&& 31) = 0
        · have h := hs17 hk0
          refine zr_tableIn C 168 dL_law_40 (by rw [hk0]; decide) (by rw [hk0]; decide) (by rw [hk0]; rfl) (by decide) ?_
          exact kl_0 hr hN0 C h
        by_cases hk1 : (x14 &&& 31) = 1
        · have h := hs18 hk1
          refine zr_tableIn C 212 dL_law_40 (by rw [hk1]; decide) (by rw [hk1]; decide) (by rw [hk1]; rfl) (by decide) ?_
          exact kl_1 hr hN0 C h
        by_cases hk2 : (x14 &&& 31) = 2
        · have h := hs19 hk2
          refine zr_tableIn C 280 dL_law_40 (by rw [hk2]; decide) (by rw [hk2]; decide) (by rw [hk2]; rfl) (by decide) ?_
          exact kl_2 hr hN0 C h
        by_cases hk3 : (x14 &&& 31) = 3
        · have h := hs20 hk3
          refine zr_tableIn C 348 dL_law_40 (by rw [hk3]; decide) (by rw [hk3]; decide) (by rw [hk3]; rfl) (by decide) ?_
          exact kl_3 hr hN0 C h
        by_cases hk4 : (x14 &&& 31) = 4
        · have h := hs21 hk4
          refine zr_tableIn C 440 dL_law_40 (by rw [hk4]; decide) (by rw [hk4]; decide) (by rw [hk4]; rfl) (by decide) ?_
          exact kl_4 hr hN0 C h
        by_cases hk5 : (x14 &&& 31) = 5
        · have h := hs22 hk5
          refine zr_tableIn C 508 dL_law_40 (by rw [hk5]; decide) (by rw [hk5]; decide) (by rw [hk5]; rfl) (by decide) ?_
          exact kl_5 hr hN0 C h
        by_cases hk6 : (x14 &&& 31) = 6
        · have h := hs23 hk6
          refine zr_tableIn C 595 dL_law_40 (by rw [hk6]; decide) (by rw [hk6]; decide) (by rw [hk6]; rfl) (by decide) ?_
          exact kl_6 hr hN0 C h
        by_cases hk7 : (x14 &&& 31) = 7
        · have h := hs24 hk7
          refine zr_tableIn C 663 dL_law_40 (by rw [hk7]; decide) (by rw [hk7]; decide) (by rw [hk7]; rfl) (by decide) ?_
          exact kl_7 hr hN0 C h
        by_cases hk8 : (x14 &&& 31) = 8
        · have h := hs25 hk8
          refine zr_tableIn C 738 dL_law_40 (by rw [hk8]; decide) (by rw [hk8]; decide) (by rw [hk8]; rfl) (by decide) ?_
          exact kl_8 hr hN0 C h
        by_cases hk9 : (x14 &&& 31) = 9
        · have h := hs26 hk9
          refine zr_tableIn C 813 dL_law_40 (by rw [hk9]; decide) (by rw [hk9]; decide) (by rw [hk9]; rfl) (by decide) ?_
          exact kl_9 hr hN0 C h
        by_cases hk10 : (x14 &&& 31) = 10
        · have h := hs27 hk10
          refine zr_tableIn C 893 dL_law_40 (by rw [hk10]; decide) (by rw [hk10]; decide) (by rw [hk10]; rfl) (by decide) ?_
          exact kl_10 hr hN0 C h
        by_cases hk11 : (x14 &&& 31) = 11
        · have h := hs28 hk11
          refine zr_tableIn C 980 dL_law_40 (by rw [hk11]; decide) (by rw [hk11]; decide) (by rw [hk11]; rfl) (by decide) ?_
          exact kl_11 hr hN0 C h
        by_cases hk12 : (x14 &&& 31) = 12
        · have h := hs29 hk12
          refine zr_tableIn C 1048 dL_law_40 (by rw [hk12]; decide) (by rw [hk12]; decide) (by rw [hk12]; rfl) (by decide) ?_
          exact kl_12 hr hN0 C h
        by_cases hk13 : (x14 &&& 31) = 13
        · have h := hs30 hk13
          refine zr_tableIn C 1166 dL_law_40 (by rw [hk13]; decide) (by rw [hk13]; decide) (by rw [hk13]; rfl) (by decide) ?_
          exact kl_13 hr hN0 C h
        by_cases hk14 : (x14 &&& 31) = 14
        · have h := hs31 hk14
          refine zr_tableIn C 1222 dL_law_40 (by rw [hk14]; decide) (by rw [hk14]; decide) (by rw [hk14]; rfl) (by decide) ?_
          exact kl_14 hr hN0 C h
        by_cases hk15 : (x14 &&& 31) = 15
        · have h := hs32 hk15
          refine zr_tableIn C 1290 dL_law_40 (by rw [hk15]; decide) (by rw [hk15]; decide) (by rw [hk15]; rfl) (by decide) ?_
          exact kl_15 hr hN0 C h
        by_cases hk16 : (x14 &&& 31) = 16
        · have h := hs33 hk16
          refine zr_tableIn C 1358 dL_law_40 (by rw [hk16]; decide) (by rw [hk16]; decide) (by rw [hk16]; rfl) (by decide) ?_
          exact kl_16 hr hN0 C h
        by_cases hk17 : (x14 &&& 31) = 17
        · have h := hs34 hk17
          refine zr_tableIn C 1402 dL_law_40 (by rw [hk17]; decide) (by rw [hk17]; decide) (by rw [hk17]; rfl) (by decide) ?_
          exact kl_17 hr hN0 C h
        by_cases hk18 : (x14 &&& 31) = 18
        · have h := hs35 hk18
          refine zr_tableIn C 1482 dL_law_40 (by rw [hk18]; decide) (by rw [hk18]; decide) (by rw [hk18]; rfl) (by decide) ?_
          exact kl_18 hr hN0 C h
        by_cases hk19 : (x14 &&& 31) = 19
        · have h := hs36 hk19
          refine zr_tableIn C 1538 dL_law_40 (by rw [hk19]; decide) (by rw [hk19]; decide) (by rw [hk19]; rfl) (by decide) ?_
          exact kl_19 hr hN0 C h
        by_cases hk20 : (x14 &&& 31) = 20
        · have h := hs37 hk20
          refine zr_tableIn C 1579 dL_law_40 (by rw [hk20]; decide) (by rw [hk20]; decide) (by rw [hk20]; rfl) (by decide) ?_
          exact kl_20 hr hN0 C h
        by_cases hk21 : (x14 &&& 31) = 21
        · have h := hs38 hk21
          refine zr_tableIn C 1659 dL_law_40 (by rw [hk21]; decide) (by rw [hk21]; decide) (by rw [hk21]; rfl) (by decide) ?_
          exact kl_21 hr hN0 C h
        by_cases hk22 : (x14 &&& 31) = 22
        · have h := hs39 hk22
          refine zr_tableIn C 1715 dL_law_40 (by rw [hk22]; decide) (by rw [hk22]; decide) (by rw [hk22]; rfl) (by decide) ?_
          exact kl_22 hr hN0 C h
        by_cases hk23 : (x14 &&& 31) = 23
        · have h := hs40 hk23
          refine zr_tableIn C 1795 dL_law_40 (by rw [hk23]; decide) (by rw [hk23]; decide) (by rw [hk23]; rfl) (by decide) ?_
          exact kl_23 hr hN0 C h
        by_cases hk24 : (x14 &&& 31) = 24
        · have h := hs41 hk24
          refine zr_tableIn C 1851 dL_law_40 (by rw [hk24]; decide) (by rw [hk24]; decide) (by rw [hk24]; rfl) (by decide) ?_
          exact kl_24 hr hN0 C h
        by_cases hk25 : (x14 &&& 31) = 25
        · have h := hs42 hk25
          refine zr_tableIn C 1907 dL_law_40 (by rw [hk25]; decide) (by rw [hk25]; decide) (by rw [hk25]; rfl) (by decide) ?_
          exact kl_25 hr hN0 C h
        by_cases hk26 : (x14 &&& 31) = 26
        · have h := hs43 hk26
          refine zr_tableIn C 1963 dL_law_40 (by rw [hk26]; decide) (by rw [hk26]; decide) (by rw [hk26]; rfl) (by decide) ?_
          exact kl_26 hr hN0 C h
        by_cases hk27 : (x14 &&& 31) = 27
        · have h := hs44 hk27
          refine zr_tableIn C 2019 dL_law_40 (by rw [hk27]; decide) (by rw [hk27]; decide) (by rw [hk27]; rfl) (by decide) ?_
          exact kl_27 hr hN0 C h
        obtain ⟨j9, hj9, e9⟩ := z_sw 27 hw
        have hc9 : j9 = 0 ∨ j9 = 1 ∨ j9 = 2 ∨ j9 = 3 ∨ j9 = 4 ∨ j9 = 5 ∨ j9 = 6 ∨ j9 = 7 ∨ j9 = 8 ∨ j9 = 9 ∨ j9 = 10 ∨ j9 = 11 ∨ j9 = 12 ∨ j9 = 13 ∨ j9 = 14 ∨ j9 = 15 ∨ j9 = 16 ∨ j9 = 17 ∨ j9 = 18 ∨ j9 = 19 ∨ j9 = 20 ∨ j9 = 21 ∨ j9 = 22 ∨ j9 = 23 ∨ j9 = 24 ∨ j9 = 25 ∨ j9 = 26 ∨ j9 = 27 := by omega
        rcases hc9 with rfl | rfl | rfl | rfl | rfl | rfl | rfl | rfl | rfl | rfl | rfl | rfl | rfl | rfl | rfl | rfl | rfl | rfl | rfl | rfl | rfl | rfl | rfl | rfl | rfl | rfl | rfl | rfl
        · exact absurd (e9.trans (by decide)) hk0
        · exact absurd (e9.trans (by decide)) hk1
        · exact absurd (e9.trans (by decide)) hk2
        · exact absurd (e9.trans (by decide)) hk3
        · exact absurd (e9.trans (by decide)) hk4
        · exact absurd (e9.trans (by decide)) hk5
        · exact absurd (e9.trans (by decide)) hk6
        · exact absurd (e9.trans (by decide)) hk7
        · exact absurd (e9.trans (by decide)) hk8
        · exact absurd (e9.trans (by decide)) hk9
        · exact absurd (e9.trans (by decide)) hk10
        · exact absurd (e9.trans (by decide)) hk11
        · exact absurd (e9.trans (by decide)) hk12
        · exact absurd (e9.trans (by decide)) hk13
        · exact absurd (e9.trans (by decide)) hk14
        · exact absurd (e9.trans (by decide)) hk15
        · exact absurd (e9.trans (by decide)) hk16
        · exact absurd (e9.trans (by decide)) hk17
        · exact absurd (e9.trans (by decide)) hk18
        · exact absurd (e9.trans (by decide)) hk19
        · exact absurd (e9.trans (by decide)) hk20
        · exact absurd (e9.trans (by decide)) hk21
        · exact absurd (e9.trans (by decide)) hk22
        · exact absurd (e9.trans (by decide)) hk23
        · exact absurd (e9.trans (by decide)) hk24
        · exact absurd (e9.trans (by decide)) hk25
        · exact absurd (e9.trans (by decide)) hk26
        · exact absurd (e9.trans (by decide)) hk27
