def vl_0 (zE : Nat) (x : Nat) (md : Nat) (o : Nat) (b : Nat) (T : zT) (F : zF) : Prop :=
  (v_L_asset zE x o T F (fun (r1 : Int32) (T2 : zT) (F3 : zF) => (T2 md = some (12, 6) ∧ (v_X9_asset zE md T2 F3 (fun (r5 : Int32) (T6 : zT) (F7 : zF) => (T6 md = some (12, 6) ∧ (v_X9_thrown md T6 F7 (fun (r9 : Int32) => ((r9 = r1 → ((¬ r1 = 0 → (∃ L9 : Nat, T6 b = some (104, L9) ∧ L9 ≤ 7)) ∧ (r1 = 0 → (∃ n10 : Nat, T6 o = some (103, n10) ∧ vp_in 0 n10 ∧ ∃ x13 : Int64, F7 o (0 : Int32).toNatClampNeg = .long x13 ∧ (((lg_cmp x13 r5.toInt64) = 0 → (∃ L9 : Nat, T6 b = some (104, L9) ∧ L9 ≤ 7)) ∧ (¬ (lg_cmp x13 r5.toInt64) = 0 → False)))))) ∧ (¬ r9 = r1 → False))))))))))
set_option maxRecDepth 100000 in
set_option maxHeartbeats 4000000 in
theorem kl_0 {p : Program} {l : Launch} {e : Env} {s : State} {m : MethodId} {below : List Frame} {meth : Method} {c : Code} {D : va_G} {cA : Nat → ClassId} {N0 zE : Nat} {x : Nat} {md : Nat} {o : Nat} {b : Nat} {T : zT} {F : zF} (hr : meth.sig.returnType = ret) (hN0 : N0 = s.heap.size) (C : z_C p l s m #[Value.ref b] meth c RL cL_law 9 ret D cA N0 zE) (h : vl_0 zE x md o b T F) : z_w p l e room_1 s m #[Value.ref b] below meth c D cA N0 9 20 80 (lw_Z below #[Value.ref b] s) 168 [(4, .int 0), (3, .ref o), (2, .ref md), (1, .ref x), (0, .ref b)] [] T F := by
  unfold vl_0 at h
  refine zr_aload_n C 3 dL_law_168 rfl rfl ?_
  refine zr_aload_n C 1 dL_law_169 rfl rfl ?_
  refine zr_callSH (As := [.ref x, .ref o]) C (k_L_asset h) ok_L_105 zq_616 rfl ⟨by decide, (Nat.le_of_ble_eq_true rfl)⟩ ⟨(Nat.le_of_ble_eq_true rfl), (Nat.le_of_ble_eq_true rfl)⟩ (Nat.le_of_ble_eq_true rfl) dL_law_170 (fun v21 U22 G23 hq => ?_)
  clear h
  · obtain ⟨r1, rfl, h⟩ := hq
    skip
    refine zr_istore C [(5, .int r1), (4, .int 0), (3, .ref o), (2, .ref md), (1, .ref x), (0, .ref b)] dL_law_173 (by decide) rfl ?_
    refine zr_aload_n C 3 dL_law_175 rfl rfl ?_
    obtain ⟨hT4, h⟩ := h
    refine zr_callV (As := []) (r := (RX9, TX9, 6)) C (k_X9_asset h) ok_L_110 zq_979 zq_980 hT4 (by decide) rfl rfl ⟨by decide, (Nat.le_of_ble_eq_true rfl)⟩ ⟨(Nat.le_of_ble_eq_true rfl), (Nat.le_of_ble_eq_true rfl)⟩ (Nat.le_of_ble_eq_true rfl) dL_law_176 (fun v18 U19 G20 hq => ?_)
    clear h
    · obtain ⟨r5, rfl, h⟩ := hq
      skip
      refine zr_istore C [(6, .int r5), (5, .int r1), (4, .int 0), (3, .ref o), (2, .ref md), (1, .ref x), (0, .ref b)] dL_law_179 (by decide) rfl ?_
      refine zr_aload_n C 4 dL_law_181 rfl rfl ?_
      obtain ⟨hT8, h⟩ := h
      refine zr_callV (As := []) (r := (RX9, TX9, 6)) C (k_X9_thrown h) ok_L_111 zq_975 zq_976 hT8 (by decide) rfl rfl ⟨by decide, (Nat.le_of_ble_eq_true rfl)⟩ ⟨(Nat.le_of_ble_eq_true rfl), (Nat.le_of_ble_eq_true rfl)⟩ (Nat.le_of_ble_eq_true rfl) dL_law_182 (fun v15 U16 G17 hq => ?_)
      clear h
      · obtain ⟨r9, rfl, rfl, rfl, h⟩ := hq
        refine zr_iload C 1 dL_law_185 rfl ?_
        obtain ⟨h1, h2⟩ := h
        refine zr_icmp_eq C 192 dL_law_187 (by decide) (fun hc => ?_) (fun hc => ?_)
        · have h := h1 hc
          clear h1 h2
          refine zr_iload C 1 dL_law_192 rfl ?_
          obtain ⟨h1, h2⟩ := h
          refine zr_if_ne C 209 dL_law_194 (by decide) (fun hc => ?_) (fun hc => ?_)
          · have h := h1 hc
            clear h1 h2
            refine zr_goto C 2033 dL_law_209 (by decide) ?_
            exact zr_sub [2, 6] rfl (kl_end hr hN0 C (Nat.le_of_ble_eq_true rfl) (Nat.le_of_ble_eq_true rfl) h)
          · have h := h2 hc
            clear h1 h2
            refine zr_aload_n C 3 dL_law_197 rfl rfl ?_
            refine zr_iconst C 0 dL_law_198 (by decide) ?_
            obtain ⟨n10, hT11, hi12, x13, hv14, h⟩ := h
            refine zr_lald C rfl hT11 hi12 hv14 dL_law_199 ?_
            refine zr_iload C 0 dL_law_200 rfl ?_
            refine zr_i2l C dL_law_202 ?_
            refine zr_lcmp C dL_law_203 ?_
            obtain ⟨h1, h2⟩ := h
            refine zr_if_eq C 209 dL_law_204 (by decide) (fun hc => ?_) (fun hc => ?_)
            · have h := h1 hc
              clear h1 h2
              refine zr_goto C 2033 dL_law_209 (by decide) ?_
              exact zr_sub [2, 6] rfl (kl_end hr hN0 C (Nat.le_of_ble_eq_true rfl) (Nat.le_of_ble_eq_true rfl) h)
            · have h := h2 hc
              clear h1 h2
              refine zr_iconst C 0 dL_law_207 (by decide) ?_
              exact h.elim
        · have h := h2 hc
          clear h1 h2
          refine zr_iconst C 0 dL_law_190 (by decide) ?_
          exact h.elim
def vl_1 (x : Nat) (md : Nat) (o : Nat) (b : Nat) (T : zT) (F : zF) : Prop :=
  (∃ n1 : Nat, T b = some (104, n1) ∧ vp_in 1 n1 ∧ ∃ x4 : Int32, F b (1 : Int32).toNatClampNeg = .int x4 ∧ vp_in 2 n1 ∧ ∃ x7 : Int32, F b (2 : Int32).toNatClampNeg = .int x7 ∧ (v_L_version x x4 x7 o T F (fun (r9 : Int32) (F10 : zF) => (vp_in 1 n1 ∧ ∃ x12 : Int32, F10 b (1 : Int32).toNatClampNeg = .int x12 ∧ vp_in 2 n1 ∧ ∃ x15 : Int32, F10 b (2 : Int32).toNatClampNeg = .int x15 ∧ T md = some (12, 6) ∧ (v_X9_version md x12 x15 T F10 (fun (r18 : Int32) (F19 : zF) => (v_X9_thrown md T F19 (fun (r20 : Int32) => ((r20 = r9 → ((¬ r9 = 0 → (∃ L9 : Nat, T b = some (104, L9) ∧ L9 ≤ 7)) ∧ (r9 = 0 → (∃ n21 : Nat, T o = some (103, n21) ∧ vp_in 0 n21 ∧ ∃ x24 : Int64, F19 o (0 : Int32).toNatClampNeg = .long x24 ∧ (((lg_cmp x24 r18.toInt64) = 0 → (∃ L9 : Nat, T b = some (104, L9) ∧ L9 ≤ 7)) ∧ (¬ (lg_cmp x24 r18.toInt64) = 0 → False)))))) ∧ (¬ r20 = r9 → False))))))))))
set_option maxRecDepth 100000 in
set_option maxHeartbeats 4000000 in
theorem kl_1 {p : Program} {l : Launch} {e : Env} {s : State} {m : MethodId} {below : List Frame} {meth : Method} {c : Code} {D : va_G} {cA : Nat → ClassId} {N0 zE : Nat} {x : Nat} {md : Nat} {o : Nat} {b : Nat} {T : zT} {F : zF} (hr : meth.sig.returnType = ret) (hN0 : N0 = s.heap.size) (C : z_C p l s m #[Value.ref b] meth c RL cL_law 9 ret D cA N0 zE) (h : vl_1 x md o b T F) : z_w p l e room_1 s m #[Value.ref b] below meth c D cA N0 9 20 80 (lw_Z below #[Value.ref b] s) 212 [(4, .int 0), (3, .ref o), (2, .ref md), (1, .ref x), (0, .ref b)] [] T F := by
  unfold vl_1 at h
  refine zr_aload_n C 3 dL_law_212 rfl rfl ?_
  refine zr_aload_n C 4 dL_law_213 rfl rfl ?_
  refine zr_iload C 0 dL_law_214 rfl ?_
  refine zr_iconst C 1 dL_law_216 (by decide) ?_
  refine zr_iadd C dL_law_217 ?_
  refine zr_eqi (y := 1) (by decide) ?_
  obtain ⟨n1, hT2, hi3, x4, hv5, h⟩ := h
  refine zr_iald4 C rfl hT2 hi3 hv5 dL_law_218 ?_
  refine zr_aload_n C 4 dL_law_219 rfl rfl ?_
  refine zr_iload C 0 dL_law_220 rfl ?_
  refine zr_iconst C 2 dL_law_222 (by decide) ?_
  refine zr_iadd C dL_law_223 ?_
  refine zr_eqi (y := 2) (by decide) ?_
  obtain ⟨hi6, x7, hv8, h⟩ := h
  refine zr_iald4 C rfl hT2 hi6 hv8 dL_law_224 ?_
  refine zr_aload_n C 1 dL_law_225 rfl rfl ?_
  refine zr_callSH (As := [.ref x, .int x4, .int x7, .ref o]) C (k_L_version h) ok_L_114 zq_666 rfl ⟨by decide, (Nat.le_of_ble_eq_true rfl)⟩ ⟨(Nat.le_of_ble_eq_true rfl), (Nat.le_of_ble_eq_true rfl)⟩ (Nat.le_of_ble_eq_true rfl) dL_law_226 (fun v32 U33 G34 hq => ?_)
  clear h
  · obtain ⟨r9, rfl, rfl, h⟩ := hq
    refine zr_istore C [(5, .int r9), (4, .int 0), (3, .ref o), (2, .ref md), (1, .ref x), (0, .ref b)] dL_law_229 (by decide) rfl ?_
    refine zr_aload_n C 3 dL_law_231 rfl rfl ?_
    refine zr_aload_n C 5 dL_law_232 rfl rfl ?_
    refine zr_iload C 1 dL_law_233 rfl ?_
    refine zr_iconst C 1 dL_law_235 (by decide) ?_
    refine zr_iadd C dL_law_236 ?_
    refine zr_eqi (y := 1) (by decide) ?_
    obtain ⟨hi11, x12, hv13, h⟩ := h
    refine zr_iald4 C rfl hT2 hi11 hv13 dL_law_237 ?_
    refine zr_aload_n C 5 dL_law_238 rfl rfl ?_
    refine zr_iload C 1 dL_law_239 rfl ?_
    refine zr_iconst C 2 dL_law_241 (by decide) ?_
    refine zr_iadd C dL_law_242 ?_
    refine zr_eqi (y := 2) (by decide) ?_
    obtain ⟨hi14, x15, hv16, h⟩ := h
    refine zr_iald4 C rfl hT2 hi14 hv16 dL_law_243 ?_
    obtain ⟨hT17, h⟩ := h
    refine zr_callV (As := [.int x12, .int x15]) (r := (RX9, TX9, 6)) C (k_X9_version h) ok_L_117 zq_1014 zq_1015 hT17 (by decide) rfl rfl ⟨by decide, (Nat.le_of_ble_eq_true rfl)⟩ ⟨(Nat.le_of_ble_eq_true rfl), (Nat.le_of_ble_eq_true rfl)⟩ (Nat.le_of_ble_eq_true rfl) dL_law_244 (fun v29 U30 G31 hq => ?_)
    clear h
    · obtain ⟨r18, rfl, rfl, h⟩ := hq
      refine zr_istore C [(6, .int r18), (5, .int r9), (4, .int 0), (3, .ref o), (2, .ref md), (1, .ref x), (0, .ref b)] dL_law_247 (by decide) rfl ?_
      refine zr_aload_n C 4 dL_law_249 rfl rfl ?_
      refine zr_callV (As := []) (r := (RX9, TX9, 6)) C (k_X9_thrown h) ok_L_111 zq_975 zq_976 hT17 (by decide) rfl rfl ⟨by decide, (Nat.le_of_ble_eq_true rfl)⟩ ⟨(Nat.le_of_ble_eq_true rfl), (Nat.le_of_ble_eq_true rfl)⟩ (Nat.le_of_ble_eq_true rfl) dL_law_250 (fun v26 U27 G28 hq => ?_)
      clear h
      · obtain ⟨r20, rfl, rfl, rfl, h⟩ := hq
        refine zr_iload C 1 dL_law_253 rfl ?_
        obtain ⟨h1, h2⟩ := h
        refine zr_icmp_eq C 260 dL_law_255 (by decide) (fun hc => ?_) (fun hc => ?_)
        · have h := h1 hc
          clear h1 h2
          refine zr_iload C 1 dL_law_260 rfl ?_
          obtain ⟨h1, h2⟩ := h
          refine zr_if_ne C 277 dL_law_262 (by decide) (fun hc => ?_) (fun hc => ?_)
          · have h := h1 hc
            clear h1 h2
            refine zr_goto C 2033 dL_law_277 (by decide) ?_
            exact zr_sub [2, 6] rfl (kl_end hr hN0 C (Nat.le_of_ble_eq_true rfl) (Nat.le_of_ble_eq_true rfl) h)
          · have h := h2 hc
            clear h1 h2
            refine zr_aload_n C 3 dL_law_265 rfl rfl ?_
            refine zr_iconst C 0 dL_law_266 (by decide) ?_
            obtain ⟨n21, hT22, hi23, x24, hv25, h⟩ := h
            refine zr_lald C rfl hT22 hi23 hv25 dL_law_267 ?_
            refine zr_iload C 0 dL_law_268 rfl ?_
            refine zr_i2l C dL_law_270 ?_
            refine zr_lcmp C dL_law_271 ?_
            obtain ⟨h1, h2⟩ := h
            refine zr_if_eq C 277 dL_law_272 (by decide) (fun hc => ?_) (fun hc => ?_)
            · have h := h1 hc
              clear h1 h2
              refine zr_goto C 2033 dL_law_277 (by decide) ?_
              exact zr_sub [2, 6] rfl (kl_end hr hN0 C (Nat.le_of_ble_eq_true rfl) (Nat.le_of_ble_eq_true rfl) h)
            · have h := h2 hc
              clear h1 h2
              refine zr_iconst C 0 dL_law_275 (by decide) ?_
              exact h.elim
        · have h := h2 hc
          clear h1 h2
          refine zr_iconst C 0 dL_law_258 (by decide) ?_
          exact h.elim
def vl_2 (x : Nat) (md : Nat) (o : Nat) (b : Nat) (T : zT) (F : zF) : Prop :=
  (∃ n1 : Nat, T b = some (104, n1) ∧ vp_in 1 n1 ∧ ∃ x4 : Int32, F b (1 : Int32).toNatClampNeg = .int x4 ∧ vp_in 2 n1 ∧ ∃ x7 : Int32, F b (2 : Int32).toNatClampNeg = .int x7 ∧ (v_L_late x x4 x7 o T F (fun (r9 : Int32) (F10 : zF) => (vp_in 1 n1 ∧ ∃ x12 : Int32, F10 b (1 : Int32).toNatClampNeg = .int x12 ∧ vp_in 2 n1 ∧ ∃ x15 : Int32, F10 b (2 : Int32).toNatClampNeg = .int x15 ∧ T md = some (12, 6) ∧ (v_X9_late md x12 x15 T F10 (fun (r18 : Int32) (F19 : zF) => (v_X9_thrown md T F19 (fun (r20 : Int32) => ((r20 = r9 → ((¬ r9 = 0 → (∃ L9 : Nat, T b = some (104, L9) ∧ L9 ≤ 7)) ∧ (r9 = 0 → (∃ n21 : Nat, T o = some (103, n21) ∧ vp_in 0 n21 ∧ ∃ x24 : Int64, F19 o (0 : Int32).toNatClampNeg = .long x24 ∧ (((lg_cmp x24 r18.toInt64) = 0 → (∃ L9 : Nat, T b = some (104, L9) ∧ L9 ≤ 7)) ∧ (¬ (lg_cmp x24 r18.toInt64) = 0 → False)))))) ∧ (¬ r20 = r9 → False))))))))))
set_option maxRecDepth 100000 in
set_option maxHeartbeats 4000000 in
theorem kl_2 {p : Program} {l : Launch} {e : Env} {s : State} {m : MethodId} {below : List Frame} {meth : Method} {c : Code} {D : va_G} {cA : Nat → ClassId} {N0 zE : Nat} {x : Nat} {md : Nat} {o : Nat} {b : Nat} {T : zT} {F : zF} (hr : meth.sig.returnType = ret) (hN0 : N0 = s.heap.size) (C : z_C p l s m #[Value.ref b] meth c RL cL_law 9 ret D cA N0 zE) (h : vl_2 x md o b T F) : z_w p l e room_1 s m #[Value.ref b] below meth c D cA N0 9 20 80 (lw_Z below #[Value.ref b] s) 280 [(4, .int 0), (3, .ref o), (2, .ref md), (1, .ref x), (0, .ref b)] [] T F := by
  unfold vl_2 at h
  refine zr_aload_n C 3 dL_law_280 rfl rfl ?_
  refine zr_aload_n C 4 dL_law_281 rfl rfl ?_
  refine zr_iload C 0 dL_law_282 rfl ?_
  refine zr_iconst C 1 dL_law_284 (by decide) ?_
  refine zr_iadd C dL_law_285 ?_
  refine zr_eqi (y := 1) (by decide) ?_
  obtain ⟨n1, hT2, hi3, x4, hv5, h⟩ := h
  refine zr_iald4 C rfl hT2 hi3 hv5 dL_law_286 ?_
  refine zr_aload_n C 4 dL_law_287 rfl rfl ?_
  refine zr_iload C 0 dL_law_288 rfl ?_
  refine zr_iconst C 2 dL_law_290 (by decide) ?_
  refine zr_iadd C dL_law_291 ?_
  refine zr_eqi (y := 2) (by decide) ?_
  obtain ⟨hi6, x7, hv8, h⟩ := h
  refine zr_iald4 C rfl hT2 hi6 hv8 dL_law_292 ?_
  refine zr_aload_n C 1 dL_law_293 rfl rfl ?_
  refine zr_callSH (As := [.ref x, .int x4, .int x7, .ref o]) C (k_L_late h) ok_L_118 zq_681 rfl ⟨by decide, (Nat.le_of_ble_eq_true rfl)⟩ ⟨(Nat.le_of_ble_eq_true rfl), (Nat.le_of_ble_eq_true rfl)⟩ (Nat.le_of_ble_eq_true rfl) dL_law_294 (fun v32 U33 G34 hq => ?_)
  clear h
  · obtain ⟨r9, rfl, rfl, h⟩ := hq
    refine zr_istore C [(5, .int r9), (4, .int 0), (3, .ref o), (2, .ref md), (1, .ref x), (0, .ref b)] dL_law_297 (by decide) rfl ?_
    refine zr_aload_n C 3 dL_law_299 rfl rfl ?_
    refine zr_aload_n C 5 dL_law_300 rfl rfl ?_
    refine zr_iload C 1 dL_law_301 rfl ?_
    refine zr_iconst C 1 dL_law_303 (by decide) ?_
    refine zr_iadd C dL_law_304 ?_
    refine zr_eqi (y := 1) (by decide) ?_
    obtain ⟨hi11, x12, hv13, h⟩ := h
    refine zr_iald4 C rfl hT2 hi11 hv13 dL_law_305 ?_
    refine zr_aload_n C 5 dL_law_306 rfl rfl ?_
    refine zr_iload C 1 dL_law_307 rfl ?_
    refine zr_iconst C 2 dL_law_309 (by decide) ?_
    refine zr_iadd C dL_law_310 ?_
    refine zr_eqi (y := 2) (by decide) ?_
    obtain ⟨hi14, x15, hv16, h⟩ := h
    refine zr_iald4 C rfl hT2 hi14 hv16 dL_law_311 ?_
    obtain ⟨hT17, h⟩ := h
    refine zr_callV (As := [.int x12, .int x15]) (r := (RX9, TX9, 6)) C (k_X9_late h) ok_L_120 zq_1046 zq_1047 hT17 (by decide) rfl rfl ⟨by decide, (Nat.le_of_ble_eq_true rfl)⟩ ⟨(Nat.le_of_ble_eq_true rfl), (Nat.le_of_ble_eq_true rfl)⟩ (Nat.le_of_ble_eq_true rfl) dL_law_312 (fun v29 U30 G31 hq => ?_)
    clear h
    · obtain ⟨r18, rfl, rfl, h⟩ := hq
      refine zr_istore C [(6, .int r18), (5, .int r9), (4, .int 0), (3, .ref o), (2, .ref md), (1, .ref x), (0, .ref b)] dL_law_315 (by decide) rfl ?_
      refine zr_aload_n C 4 dL_law_317 rfl rfl ?_
      refine zr_callV (As := []) (r := (RX9, TX9, 6)) C (k_X9_thrown h) ok_L_111 zq_975 zq_976 hT17 (by decide) rfl rfl ⟨by decide, (Nat.le_of_ble_eq_true rfl)⟩ ⟨(Nat.le_of_ble_eq_true rfl), (Nat.le_of_ble_eq_true rfl)⟩ (Nat.le_of_ble_eq_true rfl) dL_law_318 (fun v26 U27 G28 hq => ?_)
      clear h
      · obtain ⟨r20, rfl, rfl, rfl, h⟩ := hq
        refine zr_iload C 1 dL_law_321 rfl ?_
        obtain ⟨h1, h2⟩ := h
        refine zr_icmp_eq C 328 dL_law_323 (by decide) (fun hc => ?_) (fun hc => ?_)
        · have h := h1 hc
          clear h1 h2
          refine zr_iload C 1 dL_law_328 rfl ?_
          obtain ⟨h1, h2⟩ := h
          refine zr_if_ne C 345 dL_law_330 (by decide) (fun hc => ?_) (fun hc => ?_)
          · have h := h1 hc
            clear h1 h2
            refine zr_goto C 2033 dL_law_345 (by decide) ?_
            exact zr_sub [2, 6] rfl (kl_end hr hN0 C (Nat.le_of_ble_eq_true rfl) (Nat.le_of_ble_eq_true rfl) h)
          · have h := h2 hc
            clear h1 h2
            refine zr_aload_n C 3 dL_law_333 rfl rfl ?_
            refine zr_iconst C 0 dL_law_334 (by decide) ?_
            obtain ⟨n21, hT22, hi23, x24, hv25, h⟩ := h
            refine zr_lald C rfl hT22 hi23 hv25 dL_law_335 ?_
            refine zr_iload C 0 dL_law_336 rfl ?_
            refine zr_i2l C dL_law_338 ?_
            refine zr_lcmp C dL_law_339 ?_
            obtain ⟨h1, h2⟩ := h
            refine zr_if_eq C 345 dL_law_340 (by decide) (fun hc => ?_) (fun hc => ?_)
            · have h := h1 hc
              clear h1 h2
              refine zr_goto C 2033 dL_law_345 (by decide) ?_
              exact zr_sub [2, 6] rfl (kl_end hr hN0 C (Nat.le_of_ble_eq_true rfl) (Nat.le_of_ble_eq_true rfl) h)
            · have h := h2 hc
              clear h1 h2
              refine zr_iconst C 0 dL_law_343 (by decide) ?_
              exact h.elim
        · have h := h2 hc
          clear h1 h2
          refine zr_iconst C 0 dL_law_326 (by decide) ?_
          exact h.elim
def vl_3 (x : Nat) (md : Nat) (o : Nat) (b : Nat) (T : zT) (F : zF) : Prop :=
  (∃ n1 : Nat, T b = some (104, n1) ∧ vp_in 1 n1 ∧ ∃ x4 : Int32, F b (1 : Int32).toNatClampNeg = .int x4 ∧ vp_in 2 n1 ∧ ∃ x7 : Int32, F b (2 : Int32).toNatClampNeg = .int x7 ∧ vp_in 3 n1 ∧ ∃ x10 : Int32, F b (3 : Int32).toNatClampNeg = .int x10 ∧ vp_in 4 n1 ∧ ∃ x13 : Int32, F b (4 : Int32).toNatClampNeg = .int x13 ∧ (v_L_rights x x4 x7 x10 x13 o T F (fun (r15 : Int32) (F16 : zF) => (vp_in 1 n1 ∧ ∃ x18 : Int32, F16 b (1 : Int32).toNatClampNeg = .int x18 ∧ vp_in 2 n1 ∧ ∃ x21 : Int32, F16 b (2 : Int32).toNatClampNeg = .int x21 ∧ vp_in 3 n1 ∧ ∃ x24 : Int32, F16 b (3 : Int32).toNatClampNeg = .int x24 ∧ vp_in 4 n1 ∧ ∃ x27 : Int32, F16 b (4 : Int32).toNatClampNeg = .int x27 ∧ T md = some (12, 6) ∧ (v_X9_rights md x18 x21 x24 x27 T F16 (fun (r30 : Int32) (F31 : zF) => (v_X9_thrown md T F31 (fun (r32 : Int32) => ((r32 = r15 → ((¬ r15 = 0 → (∃ L9 : Nat, T b = some (104, L9) ∧ L9 ≤ 7)) ∧ (r15 = 0 → (∃ n33 : Nat, T o = some (103, n33) ∧ vp_in 0 n33 ∧ ∃ x36 : Int64, F31 o (0 : Int32).toNatClampNeg = .long x36 ∧ (((lg_cmp x36 r30.toInt64) = 0 → (∃ L9 : Nat, T b = some (104, L9) ∧ L9 ≤ 7)) ∧ (¬ (lg_cmp x36 r30.toInt64) = 0 → False)))))) ∧ (¬ r32 = r15 → False))))))))))
set_option maxRecDepth 100000 in
set_option maxHeartbeats 4000000 in
theorem kl_3 {p : Program} {l : Launch} {e : Env} {s : State} {m : MethodId} {below : List Frame} {meth : Method} {c : Code} {D : va_G} {cA : Nat → ClassId} {N0 zE : Nat} {x : Nat} {md : Nat} {o : Nat} {b : Nat} {T : zT} {F : zF} (hr : meth.sig.returnType = ret) (hN0 : N0 = s.heap.size) (C : z_C p l s m #[Value.ref b] meth c RL cL_law 9 ret D cA N0 zE) (h : vl_3 x md o b T F) : z_w p l e room_1 s m #[Value.ref b] below meth c D cA N0 9 20 80 (lw_Z below #[Value.ref b] s) 348 [(4, .int 0), (3, .ref o), (2, .ref md), (1, .ref x), (0, .ref b)] [] T F := by
  unfold vl_3 at h
  refine zr_aload_n C 3 dL_law_348 rfl rfl ?_
  refine zr_aload_n C 4 dL_law_349 rfl rfl ?_
  refine zr_iload C 0 dL_law_350 rfl ?_
  refine zr_iconst C 1 dL_law_352 (by decide) ?_
  refine zr_iadd C dL_law_353 ?_
  refine zr_eqi (y := 1) (by decide) ?_
  obtain ⟨n1, hT2, hi3, x4, hv5, h⟩ := h
  refine zr_iald4 C rfl hT2 hi3 hv5 dL_law_354 ?_
  refine zr_aload_n C 4 dL_law_355 rfl rfl ?_
  refine zr_iload C 0 dL_law_356 rfl ?_
  refine zr_iconst C 2 dL_law_358 (by decide) ?_
  refine zr_iadd C dL_law_359 ?_
  refine zr_eqi (y := 2) (by decide) ?_
  obtain ⟨hi6, x7, hv8, h⟩ := h
  refine zr_iald4 C rfl hT2 hi6 hv8 dL_law_360 ?_
  refine zr_aload_n C 4 dL_law_361 rfl rfl ?_
  refine zr_iload C 0 dL_law_362 rfl ?_
  refine zr_iconst C 3 dL_law_364 (by decide) ?_
  refine zr_iadd C dL_law_365 ?_
  refine zr_eqi (y := 3) (by decide) ?_
  obtain ⟨hi9, x10, hv11, h⟩ := h
  refine zr_iald4 C rfl hT2 hi9 hv11 dL_law_366 ?_
  refine zr_aload_n C 4 dL_law_367 rfl rfl ?_
  refine zr_iload C 0 dL_law_368 rfl ?_
  refine zr_iconst C 4 dL_law_370 (by decide) ?_
  refine zr_iadd C dL_law_371 ?_
  refine zr_eqi (y := 4) (by decide) ?_
  obtain ⟨hi12, x13, hv14, h⟩ := h
  refine zr_iald4 C rfl hT2 hi12 hv14 dL_law_372 ?_
  refine zr_aload_n C 1 dL_law_373 rfl rfl ?_
  refine zr_callSH (As := [.ref x, .int x4, .int x7, .int x10, .int x13, .ref o]) C (k_L_rights h) ok_L_121 zq_702 rfl ⟨by decide, (Nat.le_of_ble_eq_true rfl)⟩ ⟨(Nat.le_of_ble_eq_true rfl), (Nat.le_of_ble_eq_true rfl)⟩ (Nat.le_of_ble_eq_true rfl) dL_law_374 (fun v44 U45 G46 hq => ?_)
  clear h
  · obtain ⟨r15, rfl, rfl, h⟩ := hq
    refine zr_istore C [(5, .int r15), (4, .int 0), (3, .ref o), (2, .ref md), (1, .ref x), (0, .ref b)] dL_law_377 (by decide) rfl ?_
    refine zr_aload_n C 3 dL_law_379 rfl rfl ?_
    refine zr_aload_n C 5 dL_law_380 rfl rfl ?_
    refine zr_iload C 1 dL_law_381 rfl ?_
    refine zr_iconst C 1 dL_law_383 (by decide) ?_
    refine zr_iadd C dL_law_384 ?_
    refine zr_eqi (y := 1) (by decide) ?_
    obtain ⟨hi17, x18, hv19, h⟩ := h
    refine zr_iald4 C rfl hT2 hi17 hv19 dL_law_385 ?_
    refine zr_aload_n C 5 dL_law_386 rfl rfl ?_
    refine zr_iload C 1 dL_law_387 rfl ?_
    refine zr_iconst C 2 dL_law_389 (by decide) ?_
    refine zr_iadd C dL_law_390 ?_
    refine zr_eqi (y := 2) (by decide) ?_
    obtain ⟨hi20, x21, hv22, h⟩ := h
    refine zr_iald4 C rfl hT2 hi20 hv22 dL_law_391 ?_
    refine zr_aload_n C 5 dL_law_392 rfl rfl ?_
    refine zr_iload C 1 dL_law_393 rfl ?_
    refine zr_iconst C 3 dL_law_395 (by decide) ?_
    refine zr_iadd C dL_law_396 ?_
    refine zr_eqi (y := 3) (by decide) ?_
    obtain ⟨hi23, x24, hv25, h⟩ := h
    refine zr_iald4 C rfl hT2 hi23 hv25 dL_law_397 ?_
    refine zr_aload_n C 5 dL_law_398 rfl rfl ?_
    refine zr_iload C 1 dL_law_399 rfl ?_
    refine zr_iconst C 4 dL_law_401 (by decide) ?_
    refine zr_iadd C dL_law_402 ?_
    refine zr_eqi (y := 4) (by decide) ?_
    obtain ⟨hi26, x27, hv28, h⟩ := h
    refine zr_iald4 C rfl hT2 hi26 hv28 dL_law_403 ?_
    obtain ⟨hT29, h⟩ := h
    refine zr_callV (As := [.int x18, .int x21, .int x24, .int x27]) (r := (RX9, TX9, 6)) C (k_X9_rights h) ok_L_124 zq_1060 zq_1061 hT29 (by decide) rfl rfl ⟨by decide, (Nat.le_of_ble_eq_true rfl)⟩ ⟨(Nat.le_of_ble_eq_true rfl), (Nat.le_of_ble_eq_true rfl)⟩ (Nat.le_of_ble_eq_true rfl) dL_law_404 (fun v41 U42 G43 hq => ?_)
    clear h
    · obtain ⟨r30, rfl, rfl, h⟩ := hq
      refine zr_istore C [(6, .int r30), (5, .int r15), (4, .int 0), (3, .ref o), (2, .ref md), (1, .ref x), (0, .ref b)] dL_law_407 (by decide) rfl ?_
      refine zr_aload_n C 4 dL_law_409 rfl rfl ?_
      refine zr_callV (As := []) (r := (RX9, TX9, 6)) C (k_X9_thrown h) ok_L_111 zq_975 zq_976 hT29 (by decide) rfl rfl ⟨by decide, (Nat.le_of_ble_eq_true rfl)⟩ ⟨(Nat.le_of_ble_eq_true rfl), (Nat.le_of_ble_eq_true rfl)⟩ (Nat.le_of_ble_eq_true rfl) dL_law_410 (fun v38 U39 G40 hq => ?_)
      clear h
      · obtain ⟨r32, rfl, rfl, rfl, h⟩ := hq
        refine zr_iload C 1 dL_law_413 rfl ?_
        obtain ⟨h1, h2⟩ := h
        refine zr_icmp_eq C 420 dL_law_415 (by decide) (fun hc => ?_) (fun hc => ?_)
        · have h := h1 hc
          clear h1 h2
          refine zr_iload C 1 dL_law_420 rfl ?_
          obtain ⟨h1, h2⟩ := h
          refine zr_if_ne C 437 dL_law_422 (by decide) (fun hc => ?_) (fun hc => ?_)
          · have h := h1 hc
            clear h1 h2
            refine zr_goto C 2033 dL_law_437 (by decide) ?_
            exact zr_sub [2, 6] rfl (kl_end hr hN0 C (Nat.le_of_ble_eq_true rfl) (Nat.le_of_ble_eq_true rfl) h)
          · have h := h2 hc
            clear h1 h2
            refine zr_aload_n C 3 dL_law_425 rfl rfl ?_
            refine zr_iconst C 0 dL_law_426 (by decide) ?_
            obtain ⟨n33, hT34, hi35, x36, hv37, h⟩ := h
            refine zr_lald C rfl hT34 hi35 hv37 dL_law_427 ?_
            refine zr_iload C 0 dL_law_428 rfl ?_
            refine zr_i2l C dL_law_430 ?_
            refine zr_lcmp C dL_law_431 ?_
            obtain ⟨h1, h2⟩ := h
            refine zr_if_eq C 437 dL_law_432 (by decide) (fun hc => ?_) (fun hc => ?_)
            · have h := h1 hc
              clear h1 h2
              refine zr_goto C 2033 dL_law_437 (by decide) ?_
              exact zr_sub [2, 6] rfl (kl_end hr hN0 C (Nat.le_of_ble_eq_true rfl) (Nat.le_of_ble_eq_true rfl) h)
            · have h := h2 hc
              clear h1 h2
              refine zr_iconst C 0 dL_law_435 (by decide) ?_
              exact h.elim
        · have h := h2 hc
          clear h1 h2
          refine zr_iconst C 0 dL_law_418 (by decide) ?_
          exact h.elim
def vl_4 (x : Nat) (md : Nat) (o : Nat) (b : Nat) (T : zT) (F : zF) : Prop :=
  (∃ n1 : Nat, T b = some (104, n1) ∧ vp_in 1 n1 ∧ ∃ x4 : Int32, F b (1 : Int32).toNatClampNeg = .int x4 ∧ vp_in 2 n1 ∧ ∃ x7 : Int32, F b (2 : Int32).toNatClampNeg = .int x7 ∧ (v_L_versionOn x x4 x7 o T F (fun (r9 : Int32) (F10 : zF) => (vp_in 1 n1 ∧ ∃ x12 : Int32, F10 b (1 : Int32).toNatClampNeg = .int x12 ∧ vp_in 2 n1 ∧ ∃ x15 : Int32, F10 b (2 : Int32).toNatClampNeg = .int x15 ∧ T md = some (12, 6) ∧ (v_X9_versionOn md x12 x15 T F10 (fun (r18 : Int32) (F19 : zF) => (v_X9_thrown md T F19 (fun (r20 : Int32) => ((r20 = r9 → ((¬ r9 = 0 → (∃ L9 : Nat, T b = some (104, L9) ∧ L9 ≤ 7)) ∧ (r9 = 0 → (∃ n21 : Nat, T o = some (103, n21) ∧ vp_in 0 n21 ∧ ∃ x24 : Int64, F19 o (0 : Int32).toNatClampNeg = .long x24 ∧ (((lg_cmp x24 r18.toInt64) = 0 → (∃ L9 : Nat, T b = some (104, L9) ∧ L9 ≤ 7)) ∧ (¬ (lg_cmp x24 r18.toInt64) = 0 → False)))))) ∧ (¬ r20 = r9 → False))))))))))
set_option maxRecDepth 100000 in
set_option maxHeartbeats 4000000 in
theorem kl_4 {p : Program} {l : Launch} {e : Env} {s : State} {m : MethodId} {below : List Frame} {meth : Method} {c : Code} {D : va_G} {cA : Nat → ClassId} {N0 zE : Nat} {x : Nat} {md : Nat} {o : Nat} {b : Nat} {T : zT} {F : zF} (hr : meth.sig.returnType = ret) (hN0 : N0 = s.heap.size) (C : z_C p l s m #[Value.ref b] meth c RL cL_law 9 ret D cA N0 zE) (h : vl_4 x md o b T F) : z_w p l e room_1 s m #[Value.ref b] below meth c D cA N0 9 20 80 (lw_Z below #[Value.ref b] s) 440 [(4, .int 0), (3, .ref o), (2, .ref md), (1, .ref x), (0, .ref b)] [] T F := by
  unfold vl_4 at h
  refine zr_aload_n C 3 dL_law_440 rfl rfl ?_
  refine zr_aload_n C 4 dL_law_441 rfl rfl ?_
  refine zr_iload C 0 dL_law_442 rfl ?_
  refine zr_iconst C 1 dL_law_444 (by decide) ?_
  refine zr_iadd C dL_law_445 ?_
  refine zr_eqi (y := 1) (by decide) ?_
  obtain ⟨n1, hT2, hi3, x4, hv5, h⟩ := h
  refine zr_iald4 C rfl hT2 hi3 hv5 dL_law_446 ?_
  refine zr_aload_n C 4 dL_law_447 rfl rfl ?_
  refine zr_iload C 0 dL_law_448 rfl ?_
  refine zr_iconst C 2 dL_law_450 (by decide) ?_
  refine zr_iadd C dL_law_451 ?_
  refine zr_eqi (y := 2) (by decide) ?_
  obtain ⟨hi6, x7, hv8, h⟩ := h
  refine zr_iald4 C rfl hT2 hi6 hv8 dL_law_452 ?_
  refine zr_aload_n C 1 dL_law_453 rfl rfl ?_
  refine zr_callSH (As := [.ref x, .int x4, .int x7, .ref o]) C (k_L_versionOn h) ok_L_125 zq_715 rfl ⟨by decide, (Nat.le_of_ble_eq_true rfl)⟩ ⟨(Nat.le_of_ble_eq_true rfl), (Nat.le_of_ble_eq_true rfl)⟩ (Nat.le_of_ble_eq_true rfl) dL_law_454 (fun v32 U33 G34 hq => ?_)
  clear h
  · obtain ⟨r9, rfl, rfl, h⟩ := hq
    refine zr_istore C [(5, .int r9), (4, .int 0), (3, .ref o), (2, .ref md), (1, .ref x), (0, .ref b)] dL_law_457 (by decide) rfl ?_
    refine zr_aload_n C 3 dL_law_459 rfl rfl ?_
    refine zr_aload_n C 5 dL_law_460 rfl rfl ?_
    refine zr_iload C 1 dL_law_461 rfl ?_
    refine zr_iconst C 1 dL_law_463 (by decide) ?_
    refine zr_iadd C dL_law_464 ?_
    refine zr_eqi (y := 1) (by decide) ?_
    obtain ⟨hi11, x12, hv13, h⟩ := h
    refine zr_iald4 C rfl hT2 hi11 hv13 dL_law_465 ?_
    refine zr_aload_n C 5 dL_law_466 rfl rfl ?_
    refine zr_iload C 1 dL_law_467 rfl ?_
    refine zr_iconst C 2 dL_law_469 (by decide) ?_
    refine zr_iadd C dL_law_470 ?_
    refine zr_eqi (y := 2) (by decide) ?_
    obtain ⟨hi14, x15, hv16, h⟩ := h
    refine zr_iald4 C rfl hT2 hi14 hv16 dL_law_471 ?_
    obtain ⟨hT17, h⟩ := h
    refine zr_callV (As := [.int x12, .int x15]) (r := (RX9, TX9, 6)) C (k_X9_versionOn h) ok_L_127 zq_1067 zq_1068 hT17 (by decide) rfl rfl ⟨by decide, (Nat.le_of_ble_eq_true rfl)⟩ ⟨(Nat.le_of_ble_eq_true rfl), (Nat.le_of_ble_eq_true rfl)⟩ (Nat.le_of_ble_eq_true rfl) dL_law_472 (fun v29 U30 G31 hq => ?_)
    clear h
    · obtain ⟨r18, rfl, rfl, h⟩ := hq
      refine zr_istore C [(6, .int r18), (5, .int r9), (4, .int 0), (3, .ref o), (2, .ref md), (1, .ref x), (0, .ref b)] dL_law_475 (by decide) rfl ?_
      refine zr_aload_n C 4 dL_law_477 rfl rfl ?_
      refine zr_callV (As := []) (r := (RX9, TX9, 6)) C (k_X9_thrown h) ok_L_111 zq_975 zq_976 hT17 (by decide) rfl rfl ⟨by decide, (Nat.le_of_ble_eq_true rfl)⟩ ⟨(Nat.le_of_ble_eq_true rfl), (Nat.le_of_ble_eq_true rfl)⟩ (Nat.le_of_ble_eq_true rfl) dL_law_478 (fun v26 U27 G28 hq => ?_)
      clear h
      · obtain ⟨r20, rfl, rfl, rfl, h⟩ := hq
        refine zr_iload C 1 dL_law_481 rfl ?_
        obtain ⟨h1, h2⟩ := h
        refine zr_icmp_eq C 488 dL_law_483 (by decide) (fun hc => ?_) (fun hc => ?_)
        · have h := h1 hc
          clear h1 h2
          refine zr_iload C 1 dL_law_488 rfl ?_
          obtain ⟨h1, h2⟩ := h
          refine zr_if_ne C 505 dL_law_490 (by decide) (fun hc => ?_) (fun hc => ?_)
          · have h := h1 hc
            clear h1 h2
            refine zr_goto C 2033 dL_law_505 (by decide) ?_
            exact zr_sub [2, 6] rfl (kl_end hr hN0 C (Nat.le_of_ble_eq_true rfl) (Nat.le_of_ble_eq_true rfl) h)
          · have h := h2 hc
            clear h1 h2
            refine zr_aload_n C 3 dL_law_493 rfl rfl ?_
            refine zr_iconst C 0 dL_law_494 (by decide) ?_
            obtain ⟨n21, hT22, hi23, x24, hv25, h⟩ := h
            refine zr_lald C rfl hT22 hi23 hv25 dL_law_495 ?_
            refine zr_iload C 0 dL_law_496 rfl ?_
            refine zr_i2l C dL_law_498 ?_
            refine zr_lcmp C dL_law_499 ?_
            obtain ⟨h1, h2⟩ := h
            refine zr_if_eq C 505 dL_law_500 (by decide) (fun hc => ?_) (fun hc => ?_)
            · have h := h1 hc
              clear h1 h2
              refine zr_goto C 2033 dL_law_505 (by decide) ?_
              exact zr_sub [2, 6] rfl (kl_end hr hN0 C (Nat.le_of_ble_eq_true rfl) (Nat.le_of_ble_eq_true rfl) h)
            · have h := h2 hc
              clear h1 h2
              refine zr_iconst C 0 dL_law_503 (by decide) ?_
              exact h.elim
        · have h := h2 hc
          clear h1 h2
          refine zr_iconst C 0 dL_law_486 (by decide) ?_
          exact h.elim
def vl_5 (x : Nat) (md : Nat) (o : Nat) (b : Nat) (T : zT) (F : zF) : Prop :=
  (∃ n1 : Nat, T b = some (104, n1) ∧ vp_in 1 n1 ∧ ∃ x4 : Int32, F b (1 : Int32).toNatClampNeg = .int x4 ∧ vp_in 2 n1 ∧ ∃ x7 : Int32, F b (2 : Int32).toNatClampNeg = .int x7 ∧ vp_in 3 n1 ∧ ∃ x10 : Int32, F b (3 : Int32).toNatClampNeg = .int x10 ∧ (v_L_hasRights x x4 x7 x10 o T F (fun (r12 : Int32) (F13 : zF) => (vp_in 1 n1 ∧ ∃ x15 : Int32, F13 b (1 : Int32).toNatClampNeg = .int x15 ∧ vp_in 2 n1 ∧ ∃ x18 : Int32, F13 b (2 : Int32).toNatClampNeg = .int x18 ∧ vp_in 3 n1 ∧ ∃ x21 : Int32, F13 b (3 : Int32).toNatClampNeg = .int x21 ∧ T md = some (12, 6) ∧ (v_X9_hasRights md x15 x18 x21 T F13 (fun (r24 : Int32) (F25 : zF) => (v_X9_thrown md T F25 (fun (r26 : Int32) => ((r26 = r12 → ((¬ r12 = 0 → (∃ L9 : Nat, T b = some (104, L9) ∧ L9 ≤ 7)) ∧ (r12 = 0 → (∃ n27 : Nat, T o = some (103, n27) ∧ vp_in 0 n27 ∧ ∃ x30 : Int64, F25 o (0 : Int32).toNatClampNeg = .long x30 ∧ ((r24 = 0 → (((lg_cmp x30 0) = 0 → (∃ L9 : Nat, T b = some (104, L9) ∧ L9 ≤ 7)) ∧ (¬ (lg_cmp x30 0) = 0 → False))) ∧ (¬ r24 = 0 → (((lg_cmp x30 1) = 0 → (∃ L9 : Nat, T b = some (104, L9) ∧ L9 ≤ 7)) ∧ (¬ (lg_cmp x30 1) = 0 → False)))))))) ∧ (¬ r26 = r12 → False))))))))))
set_option maxRecDepth 100000 in
set_option maxHeartbeats 4000000 in
theorem kl_5 {p : Program} {l : Launch} {e : Env} {s : State} {m : MethodId} {below : List Frame} {meth : Method} {c : Code} {D : va_G} {cA : Nat → ClassId} {N0 zE : Nat} {x : Nat} {md : Nat} {o : Nat} {b : Nat} {T : zT} {F : zF} (hr : meth.sig.returnType = ret) (hN0 : N0 = s.heap.size) (C : z_C p l s m #[Value.ref b] meth c RL cL_law 9 ret D cA N0 zE) (h : vl_5 x md o b T F) : z_w p l e room_1 s m #[Value.ref b] below meth c D cA N0 9 20 80 (lw_Z below #[Value.ref b] s) 508 [(4, .int 0), (3, .ref o), (2, .ref md), (1, .ref x), (0, .ref b)] [] T F := by
  unfold vl_5 at h
  refine zr_aload_n C 3 dL_law_508 rfl rfl ?_
  refine zr_aload_n C 4 dL_law_509 rfl rfl ?_
  refine zr_iload C 0 dL_law_510 rfl ?_
  refine zr_iconst C 1 dL_law_512 (by decide) ?_
  refine zr_iadd C dL_law_513 ?_
  refine zr_eqi (y := 1) (by decide) ?_
  obtain ⟨n1, hT2, hi3, x4, hv5, h⟩ := h
  refine zr_iald4 C rfl hT2 hi3 hv5 dL_law_514 ?_
  refine zr_aload_n C 4 dL_law_515 rfl rfl ?_
  refine zr_iload C 0 dL_law_516 rfl ?_
  refine zr_iconst C 2 dL_law_518 (by decide) ?_
  refine zr_iadd C dL_law_519 ?_
  refine zr_eqi (y := 2) (by decide) ?_
  obtain ⟨hi6, x7, hv8, h⟩ := h
  refine zr_iald4 C rfl hT2 hi6 hv8 dL_law_520 ?_
  refine zr_aload_n C 4 dL_law_521 rfl rfl ?_
  refine zr_iload C 0 dL_law_522 rfl ?_
  refine zr_iconst C 3 dL_law_524 (by decide) ?_
  refine zr_iadd C dL_law_525 ?_
  refine zr_eqi (y := 3) (by decide) ?_
  obtain ⟨hi9, x10, hv11, h⟩ := h
  refine zr_iald4 C rfl hT2 hi9 hv11 dL_law_526 ?_
  refine zr_aload_n C 1 dL_law_527 rfl rfl ?_
  refine zr_callSH (As := [.ref x, .int x4, .int x7, .int x10, .ref o]) C (k_L_hasRights h) ok_L_128 zq_719 rfl ⟨by decide, (Nat.le_of_ble_eq_true rfl)⟩ ⟨(Nat.le_of_ble_eq_true rfl), (Nat.le_of_ble_eq_true rfl)⟩ (Nat.le_of_ble_eq_true rfl) dL_law_528 (fun v38 U39 G40 hq => ?_)
  clear h
  · obtain ⟨r12, rfl, rfl, h⟩ := hq
    refine zr_istore C [(5, .int r12), (4, .int 0), (3, .ref o), (2, .ref md), (1, .ref x), (0, .ref b)] dL_law_531 (by decide) rfl ?_
    refine zr_aload_n C 3 dL_law_533 rfl rfl ?_
    refine zr_aload_n C 5 dL_law_534 rfl rfl ?_
    refine zr_iload C 1 dL_law_535 rfl ?_
    refine zr_iconst C 1 dL_law_537 (by decide) ?_
    refine zr_iadd C dL_law_538 ?_
    refine zr_eqi (y := 1) (by decide) ?_
    obtain ⟨hi14, x15, hv16, h⟩ := h
    refine zr_iald4 C rfl hT2 hi14 hv16 dL_law_539 ?_
    refine zr_aload_n C 5 dL_law_540 rfl rfl ?_
    refine zr_iload C 1 dL_law_541 rfl ?_
    refine zr_iconst C 2 dL_law_543 (by decide) ?_
    refine zr_iadd C dL_law_544 ?_
    refine zr_eqi (y := 2) (by decide) ?_
    obtain ⟨hi17, x18, hv19, h⟩ := h
    refine zr_iald4 C rfl hT2 hi17 hv19 dL_law_545 ?_
    refine zr_aload_n C 5 dL_law_546 rfl rfl ?_
    refine zr_iload C 1 dL_law_547 rfl ?_
    refine zr_iconst C 3 dL_law_549 (by decide) ?_
    refine zr_iadd C dL_law_550 ?_
    refine zr_eqi (y := 3) (by decide) ?_
    obtain ⟨hi20, x21, hv22, h⟩ := h
    refine zr_iald4 C rfl hT2 hi20 hv22 dL_law_551 ?_
    obtain ⟨hT23, h⟩ := h
    refine zr_callV (As := [.int x15, .int x18, .int x21]) (r := (RX9, TX9, 6)) C (k_X9_hasRights h) ok_L_131 zq_1079 zq_1080 hT23 (by decide) rfl rfl ⟨by decide, (Nat.le_of_ble_eq_true rfl)⟩ ⟨(Nat.le_of_ble_eq_true rfl), (Nat.le_of_ble_eq_true rfl)⟩ (Nat.le_of_ble_eq_true rfl) dL_law_552 (fun v35 U36 G37 hq => ?_)
    clear h
    · obtain ⟨r24, rfl, rfl, h⟩ := hq
      refine zr_istore C [(6, .int r24), (5, .int r12), (4, .int 0), (3, .ref o), (2, .ref md), (1, .ref x), (0, .ref b)] dL_law_555 (by decide) rfl ?_
      refine zr_aload_n C 4 dL_law_557 rfl rfl ?_
      refine zr_callV (As := []) (r := (RX9, TX9, 6)) C (k_X9_thrown h) ok_L_111 zq_975 zq_976 hT23 (by decide) rfl rfl ⟨by decide, (Nat.le_of_ble_eq_true rfl)⟩ ⟨(Nat.le_of_ble_eq_true rfl), (Nat.le_of_ble_eq_true rfl)⟩ (Nat.le_of_ble_eq_true rfl) dL_law_558 (fun v32 U33 G34 hq => ?_)
      clear h
      · obtain ⟨r26, rfl, rfl, rfl, h⟩ := hq
        refine zr_iload C 1 dL_law_561 rfl ?_
        obtain ⟨h1, h2⟩ := h
        refine zr_icmp_eq C 568 dL_law_563 (by decide) (fun hc => ?_) (fun hc => ?_)
        · have h := h1 hc
          clear h1 h2
          refine zr_iload C 1 dL_law_568 rfl ?_
          obtain ⟨h1, h2⟩ := h
          refine zr_if_ne C 592 dL_law_570 (by decide) (fun hc => ?_) (fun hc => ?_)
          · have h := h1 hc
            clear h1 h2
            refine zr_goto C 2033 dL_law_592 (by decide) ?_
            exact zr_sub [2, 6] rfl (kl_end hr hN0 C (Nat.le_of_ble_eq_true rfl) (Nat.le_of_ble_eq_true rfl) h)
          · have h := h2 hc
            clear h1 h2
            refine zr_aload_n C 3 dL_law_573 rfl rfl ?_
            refine zr_iconst C 0 dL_law_574 (by decide) ?_
            obtain ⟨n27, hT28, hi29, x30, hv31, h⟩ := h
            refine zr_lald C rfl hT28 hi29 hv31 dL_law_575 ?_
            refine zr_iload C 0 dL_law_576 rfl ?_
            obtain ⟨h1, h2⟩ := h
            refine zr_if_eq C 585 dL_law_578 (by decide) (fun hc => ?_) (fun hc => ?_)
            · have h := h1 hc
              clear h1 h2
              refine zr_lconst C 0 dL_law_585 (by decide) ?_
              refine zr_lcmp C dL_law_586 ?_
              obtain ⟨h1, h2⟩ := h
              refine zr_if_eq C 592 dL_law_587 (by decide) (fun hc => ?_) (fun hc => ?_)
              · have h := h1 hc
                clear h1 h2
                refine zr_goto C 2033 dL_law_592 (by decide) ?_
                exact zr_sub [2, 6] rfl (kl_end hr hN0 C (Nat.le_of_ble_eq_true rfl) (Nat.le_of_ble_eq_true rfl) h)
              · have h := h2 hc
                clear h1 h2
                refine zr_iconst C 0 dL_law_590 (by decide) ?_
                exact h.elim
            · have h := h2 hc
              clear h1 h2
              refine zr_lconst C 1 dL_law_581 (by decide) ?_
              refine zr_goto C 586 dL_law_582 (by decide) ?_
              refine zr_lcmp C dL_law_586 ?_
              obtain ⟨h1, h2⟩ := h
              refine zr_if_eq C 592 dL_law_587 (by decide) (fun hc => ?_) (fun hc => ?_)
              · have h := h1 hc
                clear h1 h2
                refine zr_goto C 2033 dL_law_592 (by decide) ?_
                exact zr_sub [2, 6] rfl (kl_end hr hN0 C (Nat.le_of_ble_eq_true rfl) (Nat.le_of_ble_eq_true rfl) h)
              · have h := h2 hc
                clear h1 h2
                refine zr_iconst C 0 dL_law_590 (by decide) ?_
                exact h.elim
        · have h := h2 hc
          clear h1 h2
          refine zr_iconst C 0 dL_law_566 (by decide) ?_
          exact h.elim
def vl_6 (x : Nat) (md : Nat) (o : Nat) (b : Nat) (T : zT) (F : zF) : Prop :=
  (∃ n1 : Nat, T b = some (104, n1) ∧ vp_in 1 n1 ∧ ∃ x4 : Int32, F b (1 : Int32).toNatClampNeg = .int x4 ∧ vp_in 2 n1 ∧ ∃ x7 : Int32, F b (2 : Int32).toNatClampNeg = .int x7 ∧ (v_L_piece x x4 x7 o T F (fun (r9 : Int32) (T10 : zT) (F11 : zF) => (∃ n12 : Nat, T10 b = some (104, n12) ∧ vp_in 1 n12 ∧ ∃ x15 : Int32, F11 b (1 : Int32).toNatClampNeg = .int x15 ∧ vp_in 2 n12 ∧ ∃ x18 : Int32, F11 b (2 : Int32).toNatClampNeg = .int x18 ∧ T10 md = some (12, 6) ∧ (v_X9_piece md x15 x18 T10 F11 (fun (r21 : Int32) (T22 : zT) (F23 : zF) => (T22 md = some (12, 6) ∧ (v_X9_thrown md T22 F23 (fun (r25 : Int32) => ((r25 = r9 → ((¬ r9 = 0 → (∃ L9 : Nat, T22 b = some (104, L9) ∧ L9 ≤ 7)) ∧ (r9 = 0 → (∃ n26 : Nat, T22 o = some (103, n26) ∧ vp_in 0 n26 ∧ ∃ x29 : Int64, F23 o (0 : Int32).toNatClampNeg = .long x29 ∧ (((lg_cmp x29 r21.toInt64) = 0 → (∃ L9 : Nat, T22 b = some (104, L9) ∧ L9 ≤ 7)) ∧ (¬ (lg_cmp x29 r21.toInt64) = 0 → False)))))) ∧ (¬ r25 = r9 → False)))))))))))
set_option maxRecDepth 100000 in
set_option maxHeartbeats 4000000 in
theorem kl_6 {p : Program} {l : Launch} {e : Env} {s : State} {m : MethodId} {below : List Frame} {meth : Method} {c : Code} {D : va_G} {cA : Nat → ClassId} {N0 zE : Nat} {x : Nat} {md : Nat} {o : Nat} {b : Nat} {T : zT} {F : zF} (hr : meth.sig.returnType = ret) (hN0 : N0 = s.heap.size) (C : z_C p l s m #[Value.ref b] meth c RL cL_law 9 ret D cA N0 zE) (h : vl_6 x md o b T F) : z_w p l e room_1 s m #[Value.ref b] below meth c D cA N0 9 20 80 (lw_Z below #[Value.ref b] s) 595 [(4, .int 0), (3, .ref o), (2, .ref md), (1, .ref x), (0, .ref b)] [] T F := by
  unfold vl_6 at h
  refine zr_aload_n C 3 dL_law_595 rfl rfl ?_
  refine zr_aload_n C 4 dL_law_596 rfl rfl ?_
  refine zr_iload C 0 dL_law_597 rfl ?_
  refine zr_iconst C 1 dL_law_599 (by decide) ?_
  refine zr_iadd C dL_law_600 ?_
  refine zr_eqi (y := 1) (by decide) ?_
  obtain ⟨n1, hT2, hi3, x4, hv5, h⟩ := h
  refine zr_iald4 C rfl hT2 hi3 hv5 dL_law_601 ?_
  refine zr_aload_n C 4 dL_law_602 rfl rfl ?_
  refine zr_iload C 0 dL_law_603 rfl ?_
  refine zr_iconst C 2 dL_law_605 (by decide) ?_
  refine zr_iadd C dL_law_606 ?_
  refine zr_eqi (y := 2) (by decide) ?_
  obtain ⟨hi6, x7, hv8, h⟩ := h
  refine zr_iald4 C rfl hT2 hi6 hv8 dL_law_607 ?_
  refine zr_aload_n C 1 dL_law_608 rfl rfl ?_
  refine zr_callSH (As := [.ref x, .int x4, .int x7, .ref o]) C (k_L_piece h) ok_L_132 zq_727 rfl ⟨by decide, (Nat.le_of_ble_eq_true rfl)⟩ ⟨(Nat.le_of_ble_eq_true rfl), (Nat.le_of_ble_eq_true rfl)⟩ (Nat.le_of_ble_eq_true rfl) dL_law_609 (fun v37 U38 G39 hq => ?_)
  clear h
  · obtain ⟨r9, rfl, h⟩ := hq
    skip
    refine zr_istore C [(5, .int r9), (4, .int 0), (3, .ref o), (2, .ref md), (1, .ref x), (0, .ref b)] dL_law_612 (by decide) rfl ?_
    refine zr_aload_n C 3 dL_law_614 rfl rfl ?_
    refine zr_aload_n C 5 dL_law_615 rfl rfl ?_
    refine zr_iload C 1 dL_law_616 rfl ?_
    refine zr_iconst C 1 dL_law_618 (by decide) ?_
    refine zr_iadd C dL_law_619 ?_
    refine zr_eqi (y := 1) (by decide) ?_
    obtain ⟨n12, hT13, hi14, x15, hv16, h⟩ := h
    refine zr_iald4 C rfl hT13 hi14 hv16 dL_law_620 ?_
    refine zr_aload_n C 5 dL_law_621 rfl rfl ?_
    refine zr_iload C 1 dL_law_622 rfl ?_
    refine zr_iconst C 2 dL_law_624 (by decide) ?_
    refine zr_iadd C dL_law_625 ?_
    refine zr_eqi (y := 2) (by decide) ?_
    obtain ⟨hi17, x18, hv19, h⟩ := h
    refine zr_iald4 C rfl hT13 hi17 hv19 dL_law_626 ?_
    obtain ⟨hT20, h⟩ := h
    refine zr_callV (As := [.int x15, .int x18]) (r := (RX9, TX9, 6)) C (k_X9_piece h) ok_L_134 zq_1094 zq_1095 hT20 (by decide) rfl rfl ⟨by decide, (Nat.le_of_ble_eq_true rfl)⟩ ⟨(Nat.le_of_ble_eq_true rfl), (Nat.le_of_ble_eq_true rfl)⟩ (Nat.le_of_ble_eq_true rfl) dL_law_627 (fun v34 U35 G36 hq => ?_)
    clear h
    · obtain ⟨r21, rfl, h⟩ := hq
      skip
      refine zr_istore C [(6, .int r21), (5, .int r9), (4, .int 0), (3, .ref o), (2, .ref md), (1, .ref x), (0, .ref b)] dL_law_630 (by decide) rfl ?_
      refine zr_aload_n C 4 dL_law_632 rfl rfl ?_
      obtain ⟨hT24, h⟩ := h
      refine zr_callV (As := []) (r := (RX9, TX9, 6)) C (k_X9_thrown h) ok_L_111 zq_975 zq_976 hT24 (by decide) rfl rfl ⟨by decide, (Nat.le_of_ble_eq_true rfl)⟩ ⟨(Nat.le_of_ble_eq_true rfl), (Nat.le_of_ble_eq_true rfl)⟩ (Nat.le_of_ble_eq_true rfl) dL_law_633 (fun v31 U32 G33 hq => ?_)
      clear h
      · obtain ⟨r25, rfl, rfl, rfl, h⟩ := hq
        refine zr_iload C 1 dL_law_636 rfl ?_
        obtain ⟨h1, h2⟩ := h
        refine zr_icmp_eq C 643 dL_law_638 (by decide) (fun hc => ?_) (fun hc => ?_)
        · have h := h1 hc
          clear h1 h2
          refine zr_iload C 1 dL_law_643 rfl ?_
          obtain ⟨h1, h2⟩ := h
          refine zr_if_ne C 660 dL_law_645 (by decide) (fun hc => ?_) (fun hc => ?_)
          · have h := h1 hc
            clear h1 h2
            refine zr_goto C 2033 dL_law_660 (by decide) ?_
            exact zr_sub [2, 6] rfl (kl_end hr hN0 C (Nat.le_of_ble_eq_true rfl) (Nat.le_of_ble_eq_true rfl) h)
          · have h := h2 hc
            clear h1 h2
            refine zr_aload_n C 3 dL_law_648 rfl rfl ?_
            refine zr_iconst C 0 dL_law_649 (by decide) ?_
            obtain ⟨n26, hT27, hi28, x29, hv30, h⟩ := h
            refine zr_lald C rfl hT27 hi28 hv30 dL_law_650 ?_
            refine zr_iload C 0 dL_law_651 rfl ?_
            refine zr_i2l C dL_law_653 ?_
            refine zr_lcmp C dL_law_654 ?_
            obtain ⟨h1, h2⟩ := h
            refine zr_if_eq C 660 dL_law_655 (by decide) (fun hc => ?_) (fun hc => ?_)
            · have h := h1 hc
              clear h1 h2
              refine zr_goto C 2033 dL_law_660 (by decide) ?_
              exact zr_sub [2, 6] rfl (kl_end hr hN0 C (Nat.le_of_ble_eq_true rfl) (Nat.le_of_ble_eq_true rfl) h)
            · have h := h2 hc
              clear h1 h2
              refine zr_iconst C 0 dL_law_658 (by decide) ?_
              exact h.elim
        · have h := h2 hc
          clear h1 h2
          refine zr_iconst C 0 dL_law_641 (by decide) ?_
          exact h.elim
def vl_7 (x : Nat) (md : Nat) (o : Nat) (b : Nat) (T : zT) (F : zF) : Prop :=
  (∃ n1 : Nat, T b = some (104, n1) ∧ vp_in 1 n1 ∧ ∃ x4 : Int32, F b (1 : Int32).toNatClampNeg = .int x4 ∧ vp_in 2 n1 ∧ ∃ x7 : Int32, F b (2 : Int32).toNatClampNeg = .int x7 ∧ (v_L_approve x x4 x7 o T F (fun (r9 : Int32) (F10 : zF) => (vp_in 1 n1 ∧ ∃ x12 : Int32, F10 b (1 : Int32).toNatClampNeg = .int x12 ∧ vp_in 2 n1 ∧ ∃ x15 : Int32, F10 b (2 : Int32).toNatClampNeg = .int x15 ∧ T md = some (12, 6) ∧ (v_X9_approve md x12 x15 T F10 (fun (r18 : Int32) (F19 : zF) => (v_X9_thrown md T F19 (fun (r20 : Int32) => ((r20 = r9 → ((¬ r9 = 0 → (∃ L9 : Nat, T b = some (104, L9) ∧ L9 ≤ 7)) ∧ (r9 = 0 → (∃ n21 : Nat, T o = some (103, n21) ∧ vp_in 0 n21 ∧ ∃ x24 : Int64, F19 o (0 : Int32).toNatClampNeg = .long x24 ∧ ((r18 = 0 → (((lg_cmp x24 0) = 0 → (∃ L9 : Nat, T b = some (104, L9) ∧ L9 ≤ 7)) ∧ (¬ (lg_cmp x24 0) = 0 → False))) ∧ (¬ r18 = 0 → (((lg_cmp x24 1) = 0 → (∃ L9 : Nat, T b = some (104, L9) ∧ L9 ≤ 7)) ∧ (¬ (lg_cmp x24 1) = 0 → False)))))))) ∧ (¬ r20 = r9 → False))))))))))
set_option maxRecDepth 100000 in
set_option maxHeartbeats 4000000 in
theorem kl_7 {p : Program} {l : Launch} {e : Env} {s : State} {m : MethodId} {below : List Frame} {meth : Method} {c : Code} {D : va_G} {cA : Nat → ClassId} {N0 zE : Nat} {x : Nat} {md : Nat} {o : Nat} {b : Nat} {T : zT} {F : zF} (hr : meth.sig.returnType = ret) (hN0 : N0 = s.heap.size) (C : z_C p l s m #[Value.ref b] meth c RL cL_law 9 ret D cA N0 zE) (h : vl_7 x md o b T F) : z_w p l e room_1 s m #[Value.ref b] below meth c D cA N0 9 20 80 (lw_Z below #[Value.ref b] s) 663 [(4, .int 0), (3, .ref o), (2, .ref md), (1, .ref x), (0, .ref b)] [] T F := by
  unfold vl_7 at h
  refine zr_aload_n C 3 dL_law_663 rfl rfl ?_
  refine zr_aload_n C 4 dL_law_664 rfl rfl ?_
  refine zr_iload C 0 dL_law_665 rfl ?_
  refine zr_iconst C 1 dL_law_667 (by decide) ?_
  refine zr_iadd C dL_law_668 ?_
  refine zr_eqi (y := 1) (by decide) ?_
  obtain ⟨n1, hT2, hi3, x4, hv5, h⟩ := h
  refine zr_iald4 C rfl hT2 hi3 hv5 dL_law_669 ?_
  refine zr_aload_n C 4 dL_law_670 rfl rfl ?_
  refine zr_iload C 0 dL_law_671 rfl ?_
  refine zr_iconst C 2 dL_law_673 (by decide) ?_
  refine zr_iadd C dL_law_674 ?_
  refine zr_eqi (y := 2) (by decide) ?_
  obtain ⟨hi6, x7, hv8, h⟩ := h
  refine zr_iald4 C rfl hT2 hi6 hv8 dL_law_675 ?_
  refine zr_aload_n C 1 dL_law_676 rfl rfl ?_
  refine zr_callSH (As := [.ref x, .int x4, .int x7, .ref o]) C (k_L_approve h) ok_L_135 zq_768 rfl ⟨by decide, (Nat.le_of_ble_eq_true rfl)⟩ ⟨(Nat.le_of_ble_eq_true rfl), (Nat.le_of_ble_eq_true rfl)⟩ (Nat.le_of_ble_eq_true rfl) dL_law_677 (fun v32 U33 G34 hq => ?_)
  clear h
  · obtain ⟨r9, rfl, rfl, h⟩ := hq
    refine zr_istore C [(5, .int r9), (4, .int 0), (3, .ref o), (2, .ref md), (1, .ref x), (0, .ref b)] dL_law_680 (by decide) rfl ?_
    refine zr_aload_n C 3 dL_law_682 rfl rfl ?_
    refine zr_aload_n C 5 dL_law_683 rfl rfl ?_
    refine zr_iload C 1 dL_law_684 rfl ?_
    refine zr_iconst C 1 dL_law_686 (by decide) ?_
    refine zr_iadd C dL_law_687 ?_
    refine zr_eqi (y := 1) (by decide) ?_
    obtain ⟨hi11, x12, hv13, h⟩ := h
    refine zr_iald4 C rfl hT2 hi11 hv13 dL_law_688 ?_
    refine zr_aload_n C 5 dL_law_689 rfl rfl ?_
    refine zr_iload C 1 dL_law_690 rfl ?_
    refine zr_iconst C 2 dL_law_692 (by decide) ?_
    refine zr_iadd C dL_law_693 ?_
    refine zr_eqi (y := 2) (by decide) ?_
    obtain ⟨hi14, x15, hv16, h⟩ := h
    refine zr_iald4 C rfl hT2 hi14 hv16 dL_law_694 ?_
    obtain ⟨hT17, h⟩ := h
    refine zr_callV (As := [.int x12, .int x15]) (r := (RX9, TX9, 6)) C (k_X9_approve h) ok_L_137 zq_1122 zq_1123 hT17 (by decide) rfl rfl ⟨by decide, (Nat.le_of_ble_eq_true rfl)⟩ ⟨(Nat.le_of_ble_eq_true rfl), (Nat.le_of_ble_eq_true rfl)⟩ (Nat.le_of_ble_eq_true rfl) dL_law_695 (fun v29 U30 G31 hq => ?_)
    clear h
    · obtain ⟨r18, rfl, rfl, h⟩ := hq
      refine zr_istore C [(6, .int r18), (5, .int r9), (4, .int 0), (3, .ref o), (2, .ref md), (1, .ref x), (0, .ref b)] dL_law_698 (by decide) rfl ?_
      refine zr_aload_n C 4 dL_law_700 rfl rfl ?_
      refine zr_callV (As := []) (r := (RX9, TX9, 6)) C (k_X9_thrown h) ok_L_111 zq_975 zq_976 hT17 (by decide) rfl rfl ⟨by decide, (Nat.le_of_ble_eq_true rfl)⟩ ⟨(Nat.le_of_ble_eq_true rfl), (Nat.le_of_ble_eq_true rfl)⟩ (Nat.le_of_ble_eq_true rfl) dL_law_701 (fun v26 U27 G28 hq => ?_)
      clear h
      · obtain ⟨r20, rfl, rfl, rfl, h⟩ := hq
        refine zr_iload C 1 dL_law_704 rfl ?_
        obtain ⟨h1, h2⟩ := h
        refine zr_icmp_eq C 711 dL_law_706 (by decide) (fun hc => ?_) (fun hc => ?_)
        · have h := h1 hc
          clear h1 h2
          refine zr_iload C 1 dL_law_711 rfl ?_
          obtain ⟨h1, h2⟩ := h
          refine zr_if_ne C 735 dL_law_713 (by decide) (fun hc => ?_) (fun hc => ?_)
          · have h := h1 hc
            clear h1 h2
            refine zr_goto C 2033 dL_law_735 (by decide) ?_
            exact zr_sub [2, 6] rfl (kl_end hr hN0 C (Nat.le_of_ble_eq_true rfl) (Nat.le_of_ble_eq_true rfl) h)
          · have h := h2 hc
            clear h1 h2
            refine zr_aload_n C 3 dL_law_716 rfl rfl ?_
            refine zr_iconst C 0 dL_law_717 (by decide) ?_
            obtain ⟨n21, hT22, hi23, x24, hv25, h⟩ := h
            refine zr_lald C rfl hT22 hi23 hv25 dL_law_718 ?_
            refine zr_iload C 0 dL_law_719 rfl ?_
            obtain ⟨h1, h2⟩ := h
            refine zr_if_eq C 728 dL_law_721 (by decide) (fun hc => ?_) (fun hc => ?_)
            · have h := h1 hc
              clear h1 h2
              refine zr_lconst C 0 dL_law_728 (by decide) ?_
              refine zr_lcmp C dL_law_729 ?_
              obtain ⟨h1, h2⟩ := h
              refine zr_if_eq C 735 dL_law_730 (by decide) (fun hc => ?_) (fun hc => ?_)
              · have h := h1 hc
                clear h1 h2
                refine zr_goto C 2033 dL_law_735 (by decide) ?_
                exact zr_sub [2, 6] rfl (kl_end hr hN0 C (Nat.le_of_ble_eq_true rfl) (Nat.le_of_ble_eq_true rfl) h)
              · have h := h2 hc
                clear h1 h2
                refine zr_iconst C 0 dL_law_733 (by decide) ?_
                exact h.elim
            · have h := h2 hc
              clear h1 h2
              refine zr_lconst C 1 dL_law_724 (by decide) ?_
              refine zr_goto C 729 dL_law_725 (by decide) ?_
              refine zr_lcmp C dL_law_729 ?_
              obtain ⟨h1, h2⟩ := h
              refine zr_if_eq C 735 dL_law_730 (by decide) (fun hc => ?_) (fun hc => ?_)
              · have h := h1 hc
                clear h1 h2
                refine zr_goto C 2033 dL_law_735 (by decide) ?_
                exact zr_sub [2, 6] rfl (kl_end hr hN0 C (Nat.le_of_ble_eq_true rfl) (Nat.le_of_ble_eq_true rfl) h)
              · have h := h2 hc
                clear h1 h2
                refine zr_iconst C 0 dL_law_733 (by decide) ?_
                exact h.elim
        · have h := h2 hc
          clear h1 h2
          refine zr_iconst C 0 dL_law_709 (by decide) ?_
          exact h.elim
def vl_8 (x : Nat) (md : Nat) (o : Nat) (b : Nat) (T : zT) (F : zF) : Prop :=
  (∃ n1 : Nat, T b = some (104, n1) ∧ vp_in 1 n1 ∧ ∃ x4 : Int32, F b (1 : Int32).toNatClampNeg = .int x4 ∧ vp_in 2 n1 ∧ ∃ x7 : Int32, F b (2 : Int32).toNatClampNeg = .int x7 ∧ (v_L_hold x x4 x7 o T F (fun (r9 : Int32) (F10 : zF) => (vp_in 1 n1 ∧ ∃ x12 : Int32, F10 b (1 : Int32).toNatClampNeg = .int x12 ∧ vp_in 2 n1 ∧ ∃ x15 : Int32, F10 b (2 : Int32).toNatClampNeg = .int x15 ∧ T md = some (12, 6) ∧ (v_X9_hold md x12 x15 T F10 (fun (r18 : Int32) (F19 : zF) => (v_X9_thrown md T F19 (fun (r20 : Int32) => ((r20 = r9 → ((¬ r9 = 0 → (∃ L9 : Nat, T b = some (104, L9) ∧ L9 ≤ 7)) ∧ (r9 = 0 → (∃ n21 : Nat, T o = some (103, n21) ∧ vp_in 0 n21 ∧ ∃ x24 : Int64, F19 o (0 : Int32).toNatClampNeg = .long x24 ∧ ((r18 = 0 → (((lg_cmp x24 0) = 0 → (∃ L9 : Nat, T b = some (104, L9) ∧ L9 ≤ 7)) ∧ (¬ (lg_cmp x24 0) = 0 → False))) ∧ (¬ r18 = 0 → (((lg_cmp x24 1) = 0 → (∃ L9 : Nat, T b = some (104, L9) ∧ L9 ≤ 7)) ∧ (¬ (lg_cmp x24 1) = 0 → False)))))))) ∧ (¬ r20 = r9 → False))))))))))
set_option maxRecDepth 100000 in
set_option maxHeartbeats 4000000 in
theorem kl_8 {p : Program} {l : Launch} {e : Env} {s : State} {m : MethodId} {below : List Frame} {meth : Method} {c : Code} {D : va_G} {cA : Nat → ClassId} {N0 zE : Nat} {x : Nat} {md : Nat} {o : Nat} {b : Nat} {T : zT} {F : zF} (hr : meth.sig.returnType = ret) (hN0 : N0 = s.heap.size) (C : z_C p l s m #[Value.ref b] meth c RL cL_law 9 ret D cA N0 zE) (h : vl_8 x md o b T F) : z_w p l e room_1 s m #[Value.ref b] below meth c D cA N0 9 20 80 (lw_Z below #[Value.ref b] s) 738 [(4, .int 0), (3, .ref o), (2, .ref md), (1, .ref x), (0, .ref b)] [] T F := by
  unfold vl_8 at h
  refine zr_aload_n C 3 dL_law_738 rfl rfl ?_
  refine zr_aload_n C 4 dL_law_739 rfl rfl ?_
  refine zr_iload C 0 dL_law_740 rfl ?_
  refine zr_iconst C 1 dL_law_742 (by decide) ?_
  refine zr_iadd C dL_law_743 ?_
  refine zr_eqi (y := 1) (by decide) ?_
  obtain ⟨n1, hT2, hi3, x4, hv5, h⟩ := h
  refine zr_iald4 C rfl hT2 hi3 hv5 dL_law_744 ?_
  refine zr_aload_n C 4 dL_law_745 rfl rfl ?_
  refine zr_iload C 0 dL_law_746 rfl ?_
  refine zr_iconst C 2 dL_law_748 (by decide) ?_
  refine zr_iadd C dL_law_749 ?_
  refine zr_eqi (y := 2) (by decide) ?_
  obtain ⟨hi6, x7, hv8, h⟩ := h
  refine zr_iald4 C rfl hT2 hi6 hv8 dL_law_750 ?_
  refine zr_aload_n C 1 dL_law_751 rfl rfl ?_
  refine zr_callSH (As := [.ref x, .int x4, .int x7, .ref o]) C (k_L_hold h) ok_L_138 zq_782 rfl ⟨by decide, (Nat.le_of_ble_eq_true rfl)⟩ ⟨(Nat.le_of_ble_eq_true rfl), (Nat.le_of_ble_eq_true rfl)⟩ (Nat.le_of_ble_eq_true rfl) dL_law_752 (fun v32 U33 G34 hq => ?_)
  clear h
  · obtain ⟨r9, rfl, rfl, h⟩ := hq
    refine zr_istore C [(5, .int r9), (4, .int 0), (3, .ref o), (2, .ref md), (1, .ref x), (0, .ref b)] dL_law_755 (by decide) rfl ?_
    refine zr_aload_n C 3 dL_law_757 rfl rfl ?_
    refine zr_aload_n C 5 dL_law_758 rfl rfl ?_
    refine zr_iload C 1 dL_law_759 rfl ?_
    refine zr_iconst C 1 dL_law_761 (by decide) ?_
    refine zr_iadd C dL_law_762 ?_
    refine zr_eqi (y := 1) (by decide) ?_
    obtain ⟨hi11, x12, hv13, h⟩ := h
    refine zr_iald4 C rfl hT2 hi11 hv13 dL_law_763 ?_
    refine zr_aload_n C 5 dL_law_764 rfl rfl ?_
    refine zr_iload C 1 dL_law_765 rfl ?_
    refine zr_iconst C 2 dL_law_767 (by decide) ?_
    refine zr_iadd C dL_law_768 ?_
    refine zr_eqi (y := 2) (by decide) ?_
    obtain ⟨hi14, x15, hv16, h⟩ := h
    refine zr_iald4 C rfl hT2 hi14 hv16 dL_law_769 ?_
    obtain ⟨hT17, h⟩ := h
    refine zr_callV (As := [.int x12, .int x15]) (r := (RX9, TX9, 6)) C (k_X9_hold h) ok_L_140 zq_1249 zq_1250 hT17 (by decide) rfl rfl ⟨by decide, (Nat.le_of_ble_eq_true rfl)⟩ ⟨(Nat.le_of_ble_eq_true rfl), (Nat.le_of_ble_eq_true rfl)⟩ (Nat.le_of_ble_eq_true rfl) dL_law_770 (fun v29 U30 G31 hq => ?_)
    clear h
    · obtain ⟨r18, rfl, rfl, h⟩ := hq
      refine zr_istore C [(6, .int r18), (5, .int r9), (4, .int 0), (3, .ref o), (2, .ref md), (1, .ref x), (0, .ref b)] dL_law_773 (by decide) rfl ?_
      refine zr_aload_n C 4 dL_law_775 rfl rfl ?_
      refine zr_callV (As := []) (r := (RX9, TX9, 6)) C (k_X9_thrown h) ok_L_111 zq_975 zq_976 hT17 (by decide) rfl rfl ⟨by decide, (Nat.le_of_ble_eq_true rfl)⟩ ⟨(Nat.le_of_ble_eq_true rfl), (Nat.le_of_ble_eq_true rfl)⟩ (Nat.le_of_ble_eq_true rfl) dL_law_776 (fun v26 U27 G28 hq => ?_)
      clear h
      · obtain ⟨r20, rfl, rfl, rfl, h⟩ := hq
        refine zr_iload C 1 dL_law_779 rfl ?_
        obtain ⟨h1, h2⟩ := h
        refine zr_icmp_eq C 786 dL_law_781 (by decide) (fun hc => ?_) (fun hc => ?_)
        · have h := h1 hc
          clear h1 h2
          refine zr_iload C 1 dL_law_786 rfl ?_
          obtain ⟨h1, h2⟩ := h
          refine zr_if_ne C 810 dL_law_788 (by decide) (fun hc => ?_) (fun hc => ?_)
          · have h := h1 hc
            clear h1 h2
            refine zr_goto C 2033 dL_law_810 (by decide) ?_
            exact zr_sub [2, 6] rfl (kl_end hr hN0 C (Nat.le_of_ble_eq_true rfl) (Nat.le_of_ble_eq_true rfl) h)
          · have h := h2 hc
            clear h1 h2
            refine zr_aload_n C 3 dL_law_791 rfl rfl ?_
            refine zr_iconst C 0 dL_law_792 (by decide) ?_
            obtain ⟨n21, hT22, hi23, x24, hv25, h⟩ := h
            refine zr_lald C rfl hT22 hi23 hv25 dL_law_793 ?_
            refine zr_iload C 0 dL_law_794 rfl ?_
            obtain ⟨h1, h2⟩ := h
            refine zr_if_eq C 803 dL_law_796 (by decide) (fun hc => ?_) (fun hc => ?_)
            · have h := h1 hc
              clear h1 h2
              refine zr_lconst C 0 dL_law_803 (by decide) ?_
              refine zr_lcmp C dL_law_804 ?_
              obtain ⟨h1, h2⟩ := h
              refine zr_if_eq C 810 dL_law_805 (by decide) (fun hc => ?_) (fun hc => ?_)
              · have h := h1 hc
                clear h1 h2
                refine zr_goto C 2033 dL_law_810 (by decide) ?_
                exact zr_sub [2, 6] rfl (kl_end hr hN0 C (Nat.le_of_ble_eq_true rfl) (Nat.le_of_ble_eq_true rfl) h)
              · have h := h2 hc
                clear h1 h2
                refine zr_iconst C 0 dL_law_808 (by decide) ?_
                exact h.elim
            · have h := h2 hc
              clear h1 h2
              refine zr_lconst C 1 dL_law_799 (by decide) ?_
              refine zr_goto C 804 dL_law_800 (by decide) ?_
              refine zr_lcmp C dL_law_804 ?_
              obtain ⟨h1, h2⟩ := h
              refine zr_if_eq C 810 dL_law_805 (by decide) (fun hc => ?_) (fun hc => ?_)
              · have h := h1 hc
                clear h1 h2
                refine zr_goto C 2033 dL_law_810 (by decide) ?_
                exact zr_sub [2, 6] rfl (kl_end hr hN0 C (Nat.le_of_ble_eq_true rfl) (Nat.le_of_ble_eq_true rfl) h)
              · have h := h2 hc
                clear h1 h2
                refine zr_iconst C 0 dL_law_808 (by decide) ?_
                exact h.elim
        · have h := h2 hc
          clear h1 h2
          refine zr_iconst C 0 dL_law_784 (by decide) ?_
          exact h.elim
def vl_9 (x : Nat) (md : Nat) (o : Nat) (b : Nat) (T : zT) (F : zF) : Prop :=
  (∃ n1 : Nat, T b = some (104, n1) ∧ vp_in 1 n1 ∧ ∃ x4 : Int32, F b (1 : Int32).toNatClampNeg = .int x4 ∧ vp_in 2 n1 ∧ ∃ x7 : Int32, F b (2 : Int32).toNatClampNeg = .int x7 ∧ vp_in 3 n1 ∧ ∃ x10 : Int32, F b (3 : Int32).toNatClampNeg = .int x10 ∧ (v_L_reason x x4 x7 x10 o T F (fun (r12 : Int32) (F13 : zF) => (vp_in 1 n1 ∧ ∃ x15 : Int32, F13 b (1 : Int32).toNatClampNeg = .int x15 ∧ vp_in 2 n1 ∧ ∃ x18 : Int32, F13 b (2 : Int32).toNatClampNeg = .int x18 ∧ vp_in 3 n1 ∧ ∃ x21 : Int32, F13 b (3 : Int32).toNatClampNeg = .int x21 ∧ T md = some (12, 6) ∧ (v_X9_reason md x15 x18 x21 T F13 (fun (r24 : Int32) (F25 : zF) => (v_X9_thrown md T F25 (fun (r26 : Int32) => ((r26 = r12 → ((¬ r12 = 0 → (∃ L9 : Nat, T b = some (104, L9) ∧ L9 ≤ 7)) ∧ (r12 = 0 → (∃ n27 : Nat, T o = some (103, n27) ∧ vp_in 0 n27 ∧ ∃ x30 : Int64, F25 o (0 : Int32).toNatClampNeg = .long x30 ∧ (((lg_cmp x30 r24.toInt64) = 0 → (∃ L9 : Nat, T b = some (104, L9) ∧ L9 ≤ 7)) ∧ (¬ (lg_cmp x30 r24.toInt64) = 0 → False)))))) ∧ (¬ r26 = r12 → False))))))))))
set_option maxRecDepth 100000 in
set_option maxHeartbeats 4000000 in
theorem kl_9 {p : Program} {l : Launch} {e : Env} {s : State} {m : MethodId} {below : List Frame} {meth : Method} {c : Code} {D : va_G} {cA : Nat → ClassId} {N0 zE : Nat} {x : Nat} {md : Nat} {o : Nat} {b : Nat} {T : zT} {F : zF} (hr : meth.sig.returnType = ret) (hN0 : N0 = s.heap.size) (C : z_C p l s m #[Value.ref b] meth c RL cL_law 9 ret D cA N0 zE) (h : vl_9 x md o b T F) : z_w p l e room_1 s m #[Value.ref b] below meth c D cA N0 9 20 80 (lw_Z below #[Value.ref b] s) 813 [(4, .int 0), (3, .ref o), (2, .ref md), (1, .ref x), (0, .ref b)] [] T F := by
  unfold vl_9 at h
  refine zr_aload_n C 3 dL_law_813 rfl rfl ?_
  refine zr_aload_n C 4 dL_law_814 rfl rfl ?_
  refine zr_iload C 0 dL_law_815 rfl ?_
  refine zr_iconst C 1 dL_law_817 (by decide) ?_
  refine zr_iadd C dL_law_818 ?_
  refine zr_eqi (y := 1) (by decide) ?_
  obtain ⟨n1, hT2, hi3, x4, hv5, h⟩ := h
  refine zr_iald4 C rfl hT2 hi3 hv5 dL_law_819 ?_
  refine zr_aload_n C 4 dL_law_820 rfl rfl ?_
  refine zr_iload C 0 dL_law_821 rfl ?_
  refine zr_iconst C 2 dL_law_823 (by decide) ?_
  refine zr_iadd C dL_law_824 ?_
  refine zr_eqi (y := 2) (by decide) ?_
  obtain ⟨hi6, x7, hv8, h⟩ := h
  refine zr_iald4 C rfl hT2 hi6 hv8 dL_law_825 ?_
  refine zr_aload_n C 4 dL_law_826 rfl rfl ?_
  refine zr_iload C 0 dL_law_827 rfl ?_
  refine zr_iconst C 3 dL_law_829 (by decide) ?_
  refine zr_iadd C dL_law_830 ?_
  refine zr_eqi (y := 3) (by decide) ?_
  obtain ⟨hi9, x10, hv11, h⟩ := h
  refine zr_iald4 C rfl hT2 hi9 hv11 dL_law_831 ?_
  refine zr_aload_n C 1 dL_law_832 rfl rfl ?_
  refine zr_callSH (As := [.ref x, .int x4, .int x7, .int x10, .ref o]) C (k_L_reason h) ok_L_141 zq_793 rfl ⟨by decide, (Nat.le_of_ble_eq_true rfl)⟩ ⟨(Nat.le_of_ble_eq_true rfl), (Nat.le_of_ble_eq_true rfl)⟩ (Nat.le_of_ble_eq_true rfl) dL_law_833 (fun v38 U39 G40 hq => ?_)
  clear h
  · obtain ⟨r12, rfl, rfl, h⟩ := hq
    refine zr_istore C [(5, .int r12), (4, .int 0), (3, .ref o), (2, .ref md), (1, .ref x), (0, .ref b)] dL_law_836 (by decide) rfl ?_
    refine zr_aload_n C 3 dL_law_838 rfl rfl ?_
    refine zr_aload_n C 5 dL_law_839 rfl rfl ?_
    refine zr_iload C 1 dL_law_840 rfl ?_
    refine zr_iconst C 1 dL_law_842 (by decide) ?_
    refine zr_iadd C dL_law_843 ?_
    refine zr_eqi (y := 1) (by decide) ?_
    obtain ⟨hi14, x15, hv16, h⟩ := h
    refine zr_iald4 C rfl hT2 hi14 hv16 dL_law_844 ?_
    refine zr_aload_n C 5 dL_law_845 rfl rfl ?_
    refine zr_iload C 1 dL_law_846 rfl ?_
    refine zr_iconst C 2 dL_law_848 (by decide) ?_
    refine zr_iadd C dL_law_849 ?_
    refine zr_eqi (y := 2) (by decide) ?_
    obtain ⟨hi17, x18, hv19, h⟩ := h
    refine zr_iald4 C rfl hT2 hi17 hv19 dL_law_850 ?_
    refine zr_aload_n C 5 dL_law_851 rfl rfl ?_
    refine zr_iload C 1 dL_law_852 rfl ?_
    refine zr_iconst C 3 dL_law_854 (by decide) ?_
    refine zr_iadd C dL_law_855 ?_
    refine zr_eqi (y := 3) (by decide) ?_
    obtain ⟨hi20, x21, hv22, h⟩ := h
    refine zr_iald4 C rfl hT2 hi20 hv22 dL_law_856 ?_
    obtain ⟨hT23, h⟩ := h
    refine zr_callV (As := [.int x15, .int x18, .int x21]) (r := (RX9, TX9, 6)) C (k_X9_reason h) ok_L_143 zq_1253 zq_1254 hT23 (by decide) rfl rfl ⟨by decide, (Nat.le_of_ble_eq_true rfl)⟩ ⟨(Nat.le_of_ble_eq_true rfl), (Nat.le_of_ble_eq_true rfl)⟩ (Nat.le_of_ble_eq_true rfl) dL_law_857 (fun v35 U36 G37 hq => ?_)
    clear h
    · obtain ⟨r24, rfl, rfl, h⟩ := hq
      refine zr_istore C [(6, .int r24), (5, .int r12), (4, .int 0), (3, .ref o), (2, .ref md), (1, .ref x), (0, .ref b)] dL_law_860 (by decide) rfl ?_
      refine zr_aload_n C 4 dL_law_862 rfl rfl ?_
      refine zr_callV (As := []) (r := (RX9, TX9, 6)) C (k_X9_thrown h) ok_L_111 zq_975 zq_976 hT23 (by decide) rfl rfl ⟨by decide, (Nat.le_of_ble_eq_true rfl)⟩ ⟨(Nat.le_of_ble_eq_true rfl), (Nat.le_of_ble_eq_true rfl)⟩ (Nat.le_of_ble_eq_true rfl) dL_law_863 (fun v32 U33 G34 hq => ?_)
      clear h
      · obtain ⟨r26, rfl, rfl, rfl, h⟩ := hq
        refine zr_iload C 1 dL_law_866 rfl ?_
        obtain ⟨h1, h2⟩ := h
        refine zr_icmp_eq C 873 dL_law_868 (by decide) (fun hc => ?_) (fun hc => ?_)
        · have h := h1 hc
          clear h1 h2
          refine zr_iload C 1 dL_law_873 rfl ?_
          obtain ⟨h1, h2⟩ := h
          refine zr_if_ne C 890 dL_law_875 (by decide) (fun hc => ?_) (fun hc => ?_)
          · have h := h1 hc
            clear h1 h2
            refine zr_goto C 2033 dL_law_890 (by decide) ?_
            exact zr_sub [2, 6] rfl (kl_end hr hN0 C (Nat.le_of_ble_eq_true rfl) (Nat.le_of_ble_eq_true rfl) h)
          · have h := h2 hc
            clear h1 h2
            refine zr_aload_n C 3 dL_law_878 rfl rfl ?_
            refine zr_iconst C 0 dL_law_879 (by decide) ?_
            obtain ⟨n27, hT28, hi29, x30, hv31, h⟩ := h
            refine zr_lald C rfl hT28 hi29 hv31 dL_law_880 ?_
            refine zr_iload C 0 dL_law_881 rfl ?_
            refine zr_i2l C dL_law_883 ?_
            refine zr_lcmp C dL_law_884 ?_
            obtain ⟨h1, h2⟩ := h
            refine zr_if_eq C 890 dL_law_885 (by decide) (fun hc => ?_) (fun hc => ?_)
            · have h := h1 hc
              clear h1 h2
              refine zr_goto C 2033 dL_law_890 (by decide) ?_
              exact zr_sub [2, 6] rfl (kl_end hr hN0 C (Nat.le_of_ble_eq_true rfl) (Nat.le_of_ble_eq_true rfl) h)
            · have h := h2 hc
              clear h1 h2
              refine zr_iconst C 0 dL_law_888 (by decide) ?_
              exact h.elim
        · have h := h2 hc
          clear h1 h2
          refine zr_iconst C 0 dL_law_871 (by decide) ?_
          exact h.elim
def vl_10 (x : Nat) (md : Nat) (o : Nat) (b : Nat) (T : zT) (F : zF) : Prop :=
  (∃ n1 : Nat, T b = some (104, n1) ∧ vp_in 1 n1 ∧ ∃ x4 : Int32, F b (1 : Int32).toNatClampNeg = .int x4 ∧ vp_in 2 n1 ∧ ∃ x7 : Int32, F b (2 : Int32).toNatClampNeg = .int x7 ∧ vp_in 3 n1 ∧ ∃ x10 : Int32, F b (3 : Int32).toNatClampNeg = .int x10 ∧ (v_L_isFit x x4 x7 x10 o T F (fun (r12 : Int32) (F13 : zF) => (vp_in 1 n1 ∧ ∃ x15 : Int32, F13 b (1 : Int32).toNatClampNeg = .int x15 ∧ vp_in 2 n1 ∧ ∃ x18 : Int32, F13 b (2 : Int32).toNatClampNeg = .int x18 ∧ vp_in 3 n1 ∧ ∃ x21 : Int32, F13 b (3 : Int32).toNatClampNeg = .int x21 ∧ T md = some (12, 6) ∧ (v_X9_isFit md x15 x18 x21 T F13 (fun (r24 : Int32) (F25 : zF) => (v_X9_thrown md T F25 (fun (r26 : Int32) => ((r26 = r12 → ((¬ r12 = 0 → (∃ L9 : Nat, T b = some (104, L9) ∧ L9 ≤ 7)) ∧ (r12 = 0 → (∃ n27 : Nat, T o = some (103, n27) ∧ vp_in 0 n27 ∧ ∃ x30 : Int64, F25 o (0 : Int32).toNatClampNeg = .long x30 ∧ ((r24 = 0 → (((lg_cmp x30 0) = 0 → (∃ L9 : Nat, T b = some (104, L9) ∧ L9 ≤ 7)) ∧ (¬ (lg_cmp x30 0) = 0 → False))) ∧ (¬ r24 = 0 → (((lg_cmp x30 1) = 0 → (∃ L9 : Nat, T b = some (104, L9) ∧ L9 ≤ 7)) ∧ (¬ (lg_cmp x30 1) = 0 → False)))))))) ∧ (¬ r26 = r12 → False))))))))))
set_option maxRecDepth 100000 in
set_option maxHeartbeats 4000000 in
theorem kl_10 {p : Program} {l : Launch} {e : Env} {s : State} {m : MethodId} {below : List Frame} {meth : Method} {c : Code} {D : va_G} {cA : Nat → ClassId} {N0 zE : Nat} {x : Nat} {md : Nat} {o : Nat} {b : Nat} {T : zT} {F : zF} (hr : meth.sig.returnType = ret) (hN0 : N0 = s.heap.size) (C : z_C p l s m #[Value.ref b] meth c RL cL_law 9 ret D cA N0 zE) (h : vl_10 x md o b T F) : z_w p l e room_1 s m #[Value.ref b] below meth c D cA N0 9 20 80 (lw_Z below #[Value.ref b] s) 893 [(4, .int 0), (3, .ref o), (2, .ref md), (1, .ref x), (0, .ref b)] [] T F := by
  unfold vl_10 at h
  refine zr_aload_n C 3 dL_law_893 rfl rfl ?_
  refine zr_aload_n C 4 dL_law_894 rfl rfl ?_
  refine zr_iload C 0 dL_law_895 rfl ?_
  refine zr_iconst C 1 dL_law_897 (by decide) ?_
  refine zr_iadd C dL_law_898 ?_
  refine zr_eqi (y := 1) (by decide) ?_
  obtain ⟨n1, hT2, hi3, x4, hv5, h⟩ := h
  refine zr_iald4 C rfl hT2 hi3 hv5 dL_law_899 ?_
  refine zr_aload_n C 4 dL_law_900 rfl rfl ?_
  refine zr_iload C 0 dL_law_901 rfl ?_
  refine zr_iconst C 2 dL_law_903 (by decide) ?_
  refine zr_iadd C dL_law_904 ?_
  refine zr_eqi (y := 2) (by decide) ?_
  obtain ⟨hi6, x7, hv8, h⟩ := h
  refine zr_iald4 C rfl hT2 hi6 hv8 dL_law_905 ?_
  refine zr_aload_n C 4 dL_law_906 rfl rfl ?_
  refine zr_iload C 0 dL_law_907 rfl ?_
  refine zr_iconst C 3 dL_law_909 (by decide) ?_
  refine zr_iadd C dL_law_910 ?_
  refine zr_eqi (y := 3) (by decide) ?_
  obtain ⟨hi9, x10, hv11, h⟩ := h
  refine zr_iald4 C rfl hT2 hi9 hv11 dL_law_911 ?_
  refine zr_aload_n C 1 dL_law_912 rfl rfl ?_
  refine zr_callSH (As := [.ref x, .int x4, .int x7, .int x10, .ref o]) C (k_L_isFit h) ok_L_144 zq_797 rfl ⟨by decide, (Nat.le_of_ble_eq_true rfl)⟩ ⟨(Nat.le_of_ble_eq_true rfl), (Nat.le_of_ble_eq_true rfl)⟩ (Nat.le_of_ble_eq_true rfl) dL_law_913 (fun v38 U39 G40 hq => ?_)
  clear h
  · obtain ⟨r12, rfl, rfl, h⟩ := hq
    refine zr_istore C [(5, .int r12), (4, .int 0), (3, .ref o), (2, .ref md), (1, .ref x), (0, .ref b)] dL_law_916 (by decide) rfl ?_
    refine zr_aload_n C 3 dL_law_918 rfl rfl ?_
    refine zr_aload_n C 5 dL_law_919 rfl rfl ?_
    refine zr_iload C 1 dL_law_920 rfl ?_
    refine zr_iconst C 1 dL_law_922 (by decide) ?_
    refine zr_iadd C dL_law_923 ?_
    refine zr_eqi (y := 1) (by decide) ?_
    obtain ⟨hi14, x15, hv16, h⟩ := h
    refine zr_iald4 C rfl hT2 hi14 hv16 dL_law_924 ?_
    refine zr_aload_n C 5 dL_law_925 rfl rfl ?_
    refine zr_iload C 1 dL_law_926 rfl ?_
    refine zr_iconst C 2 dL_law_928 (by decide) ?_
    refine zr_iadd C dL_law_929 ?_
    refine zr_eqi (y := 2) (by decide) ?_
    obtain ⟨hi17, x18, hv19, h⟩ := h
    refine zr_iald4 C rfl hT2 hi17 hv19 dL_law_930 ?_
    refine zr_aload_n C 5 dL_law_931 rfl rfl ?_
    refine zr_iload C 1 dL_law_932 rfl ?_
    refine zr_iconst C 3 dL_law_934 (by decide) ?_
    refine zr_iadd C dL_law_935 ?_
    refine zr_eqi (y := 3) (by decide) ?_
    obtain ⟨hi20, x21, hv22, h⟩ := h
    refine zr_iald4 C rfl hT2 hi20 hv22 dL_law_936 ?_
    obtain ⟨hT23, h⟩ := h
    refine zr_callV (As := [.int x15, .int x18, .int x21]) (r := (RX9, TX9, 6)) C (k_X9_isFit h) ok_L_146 zq_1268 zq_1269 hT23 (by decide) rfl rfl ⟨by decide, (Nat.le_of_ble_eq_true rfl)⟩ ⟨(Nat.le_of_ble_eq_true rfl), (Nat.le_of_ble_eq_true rfl)⟩ (Nat.le_of_ble_eq_true rfl) dL_law_937 (fun v35 U36 G37 hq => ?_)
    clear h
    · obtain ⟨r24, rfl, rfl, h⟩ := hq
      refine zr_istore C [(6, .int r24), (5, .int r12), (4, .int 0), (3, .ref o), (2, .ref md), (1, .ref x), (0, .ref b)] dL_law_940 (by decide) rfl ?_
      refine zr_aload_n C 4 dL_law_942 rfl rfl ?_
      refine zr_callV (As := []) (r := (RX9, TX9, 6)) C (k_X9_thrown h) ok_L_111 zq_975 zq_976 hT23 (by decide) rfl rfl ⟨by decide, (Nat.le_of_ble_eq_true rfl)⟩ ⟨(Nat.le_of_ble_eq_true rfl), (Nat.le_of_ble_eq_true rfl)⟩ (Nat.le_of_ble_eq_true rfl) dL_law_943 (fun v32 U33 G34 hq => ?_)
      clear h
      · obtain ⟨r26, rfl, rfl, rfl, h⟩ := hq
        refine zr_iload C 1 dL_law_946 rfl ?_
        obtain ⟨h1, h2⟩ := h
        refine zr_icmp_eq C 953 dL_law_948 (by decide) (fun hc => ?_) (fun hc => ?_)
        · have h := h1 hc
          clear h1 h2
          refine zr_iload C 1 dL_law_953 rfl ?_
          obtain ⟨h1, h2⟩ := h
          refine zr_if_ne C 977 dL_law_955 (by decide) (fun hc => ?_) (fun hc => ?_)
          · have h := h1 hc
            clear h1 h2
            refine zr_goto C 2033 dL_law_977 (by decide) ?_
            exact zr_sub [2, 6] rfl (kl_end hr hN0 C (Nat.le_of_ble_eq_true rfl) (Nat.le_of_ble_eq_true rfl) h)
          · have h := h2 hc
            clear h1 h2
            refine zr_aload_n C 3 dL_law_958 rfl rfl ?_
            refine zr_iconst C 0 dL_law_959 (by decide) ?_
            obtain ⟨n27, hT28, hi29, x30, hv31, h⟩ := h
            refine zr_lald C rfl hT28 hi29 hv31 dL_law_960 ?_
            refine zr_iload C 0 dL_law_961 rfl ?_
            obtain ⟨h1, h2⟩ := h
            refine zr_if_eq C 970 dL_law_963 (by decide) (fun hc => ?_) (fun hc => ?_)
            · have h := h1 hc
              clear h1 h2
              refine zr_lconst C 0 dL_law_970 (by decide) ?_
              refine zr_lcmp C dL_law_971 ?_
              obtain ⟨h1, h2⟩ := h
              refine zr_if_eq C 977 dL_law_972 (by decide) (fun hc => ?_) (fun hc => ?_)
              · have h := h1 hc
                clear h1 h2
                refine zr_goto C 2033 dL_law_977 (by decide) ?_
                exact zr_sub [2, 6] rfl (kl_end hr hN0 C (Nat.le_of_ble_eq_true rfl) (Nat.le_of_ble_eq_true rfl) h)
              · have h := h2 hc
                clear h1 h2
                refine zr_iconst C 0 dL_law_975 (by decide) ?_
                exact h.elim
            · have h := h2 hc
              clear h1 h2
              refine zr_lconst C 1 dL_law_966 (by decide) ?_
              refine zr_goto C 971 dL_law_967 (by decide) ?_
              refine zr_lcmp C dL_law_971 ?_
              obtain ⟨h1, h2⟩ := h
              refine zr_if_eq C 977 dL_law_972 (by decide) (fun hc => ?_) (fun hc => ?_)
              · have h := h1 hc
                clear h1 h2
                refine zr_goto C 2033 dL_law_977 (by decide) ?_
                exact zr_sub [2, 6] rfl (kl_end hr hN0 C (Nat.le_of_ble_eq_true rfl) (Nat.le_of_ble_eq_true rfl) h)
              · have h := h2 hc
                clear h1 h2
                refine zr_iconst C 0 dL_law_975 (by decide) ?_
                exact h.elim
        · have h := h2 hc
          clear h1 h2
          refine zr_iconst C 0 dL_law_951 (by decide) ?_
          exact h.elim
def vl_11 (x : Nat) (md : Nat) (o : Nat) (b : Nat) (T : zT) (F : zF) : Prop :=
  (∃ n1 : Nat, T b = some (104, n1) ∧ vp_in 1 n1 ∧ ∃ x4 : Int32, F b (1 : Int32).toNatClampNeg = .int x4 ∧ vp_in 2 n1 ∧ ∃ x7 : Int32, F b (2 : Int32).toNatClampNeg = .int x7 ∧ (v_L_ofPiece x x4 x7 o T F (fun (r9 : Int32) (F10 : zF) => (vp_in 1 n1 ∧ ∃ x12 : Int32, F10 b (1 : Int32).toNatClampNeg = .int x12 ∧ vp_in 2 n1 ∧ ∃ x15 : Int32, F10 b (2 : Int32).toNatClampNeg = .int x15 ∧ T md = some (12, 6) ∧ (v_X9_ofPiece md x12 x15 T F10 (fun (r18 : Int32) (F19 : zF) => (v_X9_thrown md T F19 (fun (r20 : Int32) => ((r20 = r9 → ((¬ r9 = 0 → (∃ L9 : Nat, T b = some (104, L9) ∧ L9 ≤ 7)) ∧ (r9 = 0 → (∃ n21 : Nat, T o = some (103, n21) ∧ vp_in 0 n21 ∧ ∃ x24 : Int64, F19 o (0 : Int32).toNatClampNeg = .long x24 ∧ (((lg_cmp x24 r18.toInt64) = 0 → (∃ L9 : Nat, T b = some (104, L9) ∧ L9 ≤ 7)) ∧ (¬ (lg_cmp x24 r18.toInt64) = 0 → False)))))) ∧ (¬ r20 = r9 → False))))))))))
set_option maxRecDepth 100000 in
set_option maxHeartbeats 4000000 in
theorem kl_11 {p : Program} {l : Launch} {e : Env} {s : State} {m : MethodId} {below : List Frame} {meth : Method} {c : Code} {D : va_G} {cA : Nat → ClassId} {N0 zE : Nat} {x : Nat} {md : Nat} {o : Nat} {b : Nat} {T : zT} {F : zF} (hr : meth.sig.returnType = ret) (hN0 : N0 = s.heap.size) (C : z_C p l s m #[Value.ref b] meth c RL cL_law 9 ret D cA N0 zE) (h : vl_11 x md o b T F) : z_w p l e room_1 s m #[Value.ref b] below meth c D cA N0 9 20 80 (lw_Z below #[Value.ref b] s) 980 [(4, .int 0), (3, .ref o), (2, .ref md), (1, .ref x), (0, .ref b)] [] T F := by
  unfold vl_11 at h
  refine zr_aload_n C 3 dL_law_980 rfl rfl ?_
  refine zr_aload_n C 4 dL_law_981 rfl rfl ?_
  refine zr_iload C 0 dL_law_982 rfl ?_
  refine zr_iconst C 1 dL_law_984 (by decide) ?_
  refine zr_iadd C dL_law_985 ?_
  refine zr_eqi (y := 1) (by decide) ?_
  obtain ⟨n1, hT2, hi3, x4, hv5, h⟩ := h
  refine zr_iald4 C rfl hT2 hi3 hv5 dL_law_986 ?_
  refine zr_aload_n C 4 dL_law_987 rfl rfl ?_
  refine zr_iload C 0 dL_law_988 rfl ?_
  refine zr_iconst C 2 dL_law_990 (by decide) ?_
  refine zr_iadd C dL_law_991 ?_
  refine zr_eqi (y := 2) (by decide) ?_
  obtain ⟨hi6, x7, hv8, h⟩ := h
  refine zr_iald4 C rfl hT2 hi6 hv8 dL_law_992 ?_
  refine zr_aload_n C 1 dL_law_993 rfl rfl ?_
  refine zr_callSH (As := [.ref x, .int x4, .int x7, .ref o]) C (k_L_ofPiece h) ok_L_147 zq_804 rfl ⟨by decide, (Nat.le_of_ble_eq_true rfl)⟩ ⟨(Nat.le_of_ble_eq_true rfl), (Nat.le_of_ble_eq_true rfl)⟩ (Nat.le_of_ble_eq_true rfl) dL_law_994 (fun v32 U33 G34 hq => ?_)
  clear h
  · obtain ⟨r9, rfl, rfl, h⟩ := hq
    refine zr_istore C [(5, .int r9), (4, .int 0), (3, .ref o), (2, .ref md), (1, .ref x), (0, .ref b)] dL_law_997 (by decide) rfl ?_
    refine zr_aload_n C 3 dL_law_999 rfl rfl ?_
    refine zr_aload_n C 5 dL_law_1000 rfl rfl ?_
    refine zr_iload C 1 dL_law_1001 rfl ?_
    refine zr_iconst C 1 dL_law_1003 (by decide) ?_
    refine zr_iadd C dL_law_1004 ?_
    refine zr_eqi (y := 1) (by decide) ?_
    obtain ⟨hi11, x12, hv13, h⟩ := h
    refine zr_iald4 C rfl hT2 hi11 hv13 dL_law_1005 ?_
    refine zr_aload_n C 5 dL_law_1006 rfl rfl ?_
    refine zr_iload C 1 dL_law_1007 rfl ?_
    refine zr_iconst C 2 dL_law_1009 (by decide) ?_
    refine zr_iadd C dL_law_1010 ?_
    refine zr_eqi (y := 2) (by decide) ?_
    obtain ⟨hi14, x15, hv16, h⟩ := h
    refine zr_iald4 C rfl hT2 hi14 hv16 dL_law_1011 ?_
    obtain ⟨hT17, h⟩ := h
    refine zr_callV (As := [.int x12, .int x15]) (r := (RX9, TX9, 6)) C (k_X9_ofPiece h) ok_L_149 zq_1272 zq_1273 hT17 (by decide) rfl rfl ⟨by decide, (Nat.le_of_ble_eq_true rfl)⟩ ⟨(Nat.le_of_ble_eq_true rfl), (Nat.le_of_ble_eq_true rfl)⟩ (Nat.le_of_ble_eq_true rfl) dL_law_1012 (fun v29 U30 G31 hq => ?_)
    clear h
    · obtain ⟨r18, rfl, rfl, h⟩ := hq
      refine zr_istore C [(6, .int r18), (5, .int r9), (4, .int 0), (3, .ref o), (2, .ref md), (1, .ref x), (0, .ref b)] dL_law_1015 (by decide) rfl ?_
      refine zr_aload_n C 4 dL_law_1017 rfl rfl ?_
      refine zr_callV (As := []) (r := (RX9, TX9, 6)) C (k_X9_thrown h) ok_L_111 zq_975 zq_976 hT17 (by decide) rfl rfl ⟨by decide, (Nat.le_of_ble_eq_true rfl)⟩ ⟨(Nat.le_of_ble_eq_true rfl), (Nat.le_of_ble_eq_true rfl)⟩ (Nat.le_of_ble_eq_true rfl) dL_law_1018 (fun v26 U27 G28 hq => ?_)
      clear h
      · obtain ⟨r20, rfl, rfl, rfl, h⟩ := hq
        refine zr_iload C 1 dL_law_1021 rfl ?_
        obtain ⟨h1, h2⟩ := h
        refine zr_icmp_eq C 1028 dL_law_1023 (by decide) (fun hc => ?_) (fun hc => ?_)
        · have h := h1 hc
          clear h1 h2
          refine zr_iload C 1 dL_law_1028 rfl ?_
          obtain ⟨h1, h2⟩ := h
          refine zr_if_ne C 1045 dL_law_1030 (by decide) (fun hc => ?_) (fun hc => ?_)
          · have h := h1 hc
            clear h1 h2
            refine zr_goto C 2033 dL_law_1045 (by decide) ?_
            exact zr_sub [2, 6] rfl (kl_end hr hN0 C (Nat.le_of_ble_eq_true rfl) (Nat.le_of_ble_eq_true rfl) h)
          · have h := h2 hc
            clear h1 h2
            refine zr_aload_n C 3 dL_law_1033 rfl rfl ?_
            refine zr_iconst C 0 dL_law_1034 (by decide) ?_
            obtain ⟨n21, hT22, hi23, x24, hv25, h⟩ := h
            refine zr_lald C rfl hT22 hi23 hv25 dL_law_1035 ?_
            refine zr_iload C 0 dL_law_1036 rfl ?_
            refine zr_i2l C dL_law_1038 ?_
            refine zr_lcmp C dL_law_1039 ?_
            obtain ⟨h1, h2⟩ := h
            refine zr_if_eq C 1045 dL_law_1040 (by decide) (fun hc => ?_) (fun hc => ?_)
            · have h := h1 hc
              clear h1 h2
              refine zr_goto C 2033 dL_law_1045 (by decide) ?_
              exact zr_sub [2, 6] rfl (kl_end hr hN0 C (Nat.le_of_ble_eq_true rfl) (Nat.le_of_ble_eq_true rfl) h)
            · have h := h2 hc
              clear h1 h2
              refine zr_iconst C 0 dL_law_1043 (by decide) ?_
              exact h.elim
        · have h := h2 hc
          clear h1 h2
          refine zr_iconst C 0 dL_law_1026 (by decide) ?_
          exact h.elim
def vl_12 (x : Nat) (md : Nat) (o : Nat) (b : Nat) (T : zT) (F : zF) : Prop :=
  (∃ n1 : Nat, T b = some (104, n1) ∧ vp_in 1 n1 ∧ ∃ x4 : Int32, F b (1 : Int32).toNatClampNeg = .int x4 ∧ vp_in 2 n1 ∧ ∃ x7 : Int32, F b (2 : Int32).toNatClampNeg = .int x7 ∧ vp_in 3 n1 ∧ ∃ x10 : Int32, F b (3 : Int32).toNatClampNeg = .int x10 ∧ vp_in 4 n1 ∧ ∃ x13 : Int32, F b (4 : Int32).toNatClampNeg = .int x13 ∧ vp_in 5 n1 ∧ ∃ x16 : Int32, F b (5 : Int32).toNatClampNeg = .int x16 ∧ vp_in 6 n1 ∧ ∃ x19 : Int32, F b (6 : Int32).toNatClampNeg = .int x19 ∧ (v_L_book x x4 x7 x10 x13 x16 x19 o T F (fun (r21 : Int32) (F22 : zF) => (vp_in 1 n1 ∧ ∃ x24 : Int32, F22 b (1 : Int32).toNatClampNeg = .int x24 ∧ vp_in 2 n1 ∧ ∃ x27 : Int32, F22 b (2 : Int32).toNatClampNeg = .int x27 ∧ vp_in 3 n1 ∧ ∃ x30 : Int32, F22 b (3 : Int32).toNatClampNeg = .int x30 ∧ vp_in 4 n1 ∧ ∃ x33 : Int32, F22 b (4 : Int32).toNatClampNeg = .int x33 ∧ vp_in 5 n1 ∧ ∃ x36 : Int32, F22 b (5 : Int32).toNatClampNeg = .int x36 ∧ vp_in 6 n1 ∧ ∃ x39 : Int32, F22 b (6 : Int32).toNatClampNeg = .int x39 ∧ T md = some (12, 6) ∧ (v_X9_book md x24 x27 x30 x33 x36 x39 T F22 (fun (r42 : Int32) (T43 : zT) (F44 : zF) => (T43 md = some (12, 6) ∧ (v_X9_thrown md T43 F44 (fun (r46 : Int32) => ((r46 = r21 → ((¬ r21 = 0 → (∃ L9 : Nat, T43 b = some (104, L9) ∧ L9 ≤ 7)) ∧ (r21 = 0 → (∃ n47 : Nat, T43 o = some (103, n47) ∧ vp_in 0 n47 ∧ ∃ x50 : Int64, F44 o (0 : Int32).toNatClampNeg = .long x50 ∧ (((lg_cmp x50 r42.toInt64) = 0 → (∃ L9 : Nat, T43 b = some (104, L9) ∧ L9 ≤ 7)) ∧ (¬ (lg_cmp x50 r42.toInt64) = 0 → False)))))) ∧ (¬ r46 = r21 → False)))))))))))
set_option maxRecDepth 100000 in
set_option maxHeartbeats 4000000 in
theorem kl_12 {p : Program} {l : Launch} {e : Env} {s : State} {m : MethodId} {below : List Frame} {meth : Method} {c : Code} {D : va_G} {cA : Nat → ClassId} {N0 zE : Nat} {x : Nat} {md : Nat} {o : Nat} {b : Nat} {T : zT} {F : zF} (hr : meth.sig.returnType = ret) (hN0 : N0 = s.heap.size) (C : z_C p l s m #[Value.ref b] meth c RL cL_law 9 ret D cA N0 zE) (h : vl_12 x md o b T F) : z_w p l e room_1 s m #[Value.ref b] below meth c D cA N0 9 20 80 (lw_Z below #[Value.ref b] s) 1048 [(4, .int 0), (3, .ref o), (2, .ref md), (1, .ref x), (0, .ref b)] [] T F := by
  unfold vl_12 at h
  refine zr_aload_n C 3 dL_law_1048 rfl rfl ?_
  refine zr_aload_n C 4 dL_law_1049 rfl rfl ?_
  refine zr_iload C 0 dL_law_1050 rfl ?_
  refine zr_iconst C 1 dL_law_1052 (by decide) ?_
  refine zr_iadd C dL_law_1053 ?_
  refine zr_eqi (y := 1) (by decide) ?_
  obtain ⟨n1, hT2, hi3, x4, hv5, h⟩ := h
  refine zr_iald4 C rfl hT2 hi3 hv5 dL_law_1054 ?_
  refine zr_aload_n C 4 dL_law_1055 rfl rfl ?_
  refine zr_iload C 0 dL_law_1056 rfl ?_
  refine zr_iconst C 2 dL_law_1058 (by decide) ?_
  refine zr_iadd C dL_law_1059 ?_
  refine zr_eqi (y := 2) (by decide) ?_
  obtain ⟨hi6, x7, hv8, h⟩ := h
  refine zr_iald4 C rfl hT2 hi6 hv8 dL_law_1060 ?_
  refine zr_aload_n C 4 dL_law_1061 rfl rfl ?_
  refine zr_iload C 0 dL_law_1062 rfl ?_
  refine zr_iconst C 3 dL_law_1064 (by decide) ?_
  refine zr_iadd C dL_law_1065 ?_
  refine zr_eqi (y := 3) (by decide) ?_
  obtain ⟨hi9, x10, hv11, h⟩ := h
  refine zr_iald4 C rfl hT2 hi9 hv11 dL_law_1066 ?_
  refine zr_aload_n C 4 dL_law_1067 rfl rfl ?_
  refine zr_iload C 0 dL_law_1068 rfl ?_
  refine zr_iconst C 4 dL_law_1070 (by decide) ?_
  refine zr_iadd C dL_law_1071 ?_
  refine zr_eqi (y := 4) (by decide) ?_
  obtain ⟨hi12, x13, hv14, h⟩ := h
  refine zr_iald4 C rfl hT2 hi12 hv14 dL_law_1072 ?_
  refine zr_aload_n C 4 dL_law_1073 rfl rfl ?_
  refine zr_iload C 0 dL_law_1074 rfl ?_
  refine zr_iconst C 5 dL_law_1076 (by decide) ?_
  refine zr_iadd C dL_law_1077 ?_
  refine zr_eqi (y := 5) (by decide) ?_
  obtain ⟨hi15, x16, hv17, h⟩ := h
  refine zr_iald4 C rfl hT2 hi15 hv17 dL_law_1078 ?_
  refine zr_aload_n C 4 dL_law_1079 rfl rfl ?_
  refine zr_iload C 0 dL_law_1080 rfl ?_
  refine zr_bipush C 6 dL_law_1082 (by decide) ?_
  refine zr_iadd C dL_law_1084 ?_
  refine zr_eqi (y := 6) (by decide) ?_
  obtain ⟨hi18, x19, hv20, h⟩ := h
  refine zr_iald4 C rfl hT2 hi18 hv20 dL_law_1085 ?_
  refine zr_aload_n C 1 dL_law_1086 rfl rfl ?_
  refine zr_callSH (As := [.ref x, .int x4, .int x7, .int x10, .int x13, .int x16, .int x19, .ref o]) C (k_L_book h) ok_L_150 zq_808 rfl ⟨by decide, (Nat.le_of_ble_eq_true rfl)⟩ ⟨(Nat.le_of_ble_eq_true rfl), (Nat.le_of_ble_eq_true rfl)⟩ (Nat.le_of_ble_eq_true rfl) dL_law_1087 (fun v58 U59 G60 hq => ?_)
  clear h
  · obtain ⟨r21, rfl, rfl, h⟩ := hq
    refine zr_istore C [(5, .int r21), (4, .int 0), (3, .ref o), (2, .ref md), (1, .ref x), (0, .ref b)] dL_law_1090 (by decide) rfl ?_
    refine zr_aload_n C 3 dL_law_1092 rfl rfl ?_
    refine zr_aload_n C 5 dL_law_1093 rfl rfl ?_
    refine zr_iload C 1 dL_law_1094 rfl ?_
    refine zr_iconst C 1 dL_law_1096 (by decide) ?_
    refine zr_iadd C dL_law_1097 ?_
    refine zr_eqi (y := 1) (by decide) ?_
    obtain ⟨hi23, x24, hv25, h⟩ := h
    refine zr_iald4 C rfl hT2 hi23 hv25 dL_law_1098 ?_
    refine zr_aload_n C 5 dL_law_1099 rfl rfl ?_
    refine zr_iload C 1 dL_law_1100 rfl ?_
    refine zr_iconst C 2 dL_law_1102 (by decide) ?_
    refine zr_iadd C dL_law_1103 ?_
    refine zr_eqi (y := 2) (by decide) ?_
    obtain ⟨hi26, x27, hv28, h⟩ := h
    refine zr_iald4 C rfl hT2 hi26 hv28 dL_law_1104 ?_
    refine zr_aload_n C 5 dL_law_1105 rfl rfl ?_
    refine zr_iload C 1 dL_law_1106 rfl ?_
    refine zr_iconst C 3 dL_law_1108 (by decide) ?_
    refine zr_iadd C dL_law_1109 ?_
    refine zr_eqi (y := 3) (by decide) ?_
    obtain ⟨hi29, x30, hv31, h⟩ := h
    refine zr_iald4 C rfl hT2 hi29 hv31 dL_law_1110 ?_
    refine zr_aload_n C 5 dL_law_1111 rfl rfl ?_
    refine zr_iload C 1 dL_law_1112 rfl ?_
    refine zr_iconst C 4 dL_law_1114 (by decide) ?_
    refine zr_iadd C dL_law_1115 ?_
    refine zr_eqi (y := 4) (by decide) ?_
    obtain ⟨hi32, x33, hv34, h⟩ := h
    refine zr_iald4 C rfl hT2 hi32 hv34 dL_law_1116 ?_
    refine zr_aload_n C 5 dL_law_1117 rfl rfl ?_
    refine zr_iload C 1 dL_law_1118 rfl ?_
    refine zr_iconst C 5 dL_law_1120 (by decide) ?_
    refine zr_iadd C dL_law_1121 ?_
    refine zr_eqi (y := 5) (by decide) ?_
    obtain ⟨hi35, x36, hv37, h⟩ := h
    refine zr_iald4 C rfl hT2 hi35 hv37 dL_law_1122 ?_
    refine zr_aload_n C 5 dL_law_1123 rfl rfl ?_
    refine zr_iload C 1 dL_law_1124 rfl ?_
    refine zr_bipush C 6 dL_law_1126 (by decide) ?_
    refine zr_iadd C dL_law_1128 ?_
    refine zr_eqi (y := 6) (by decide) ?_
    obtain ⟨hi38, x39, hv40, h⟩ := h
    refine zr_iald4 C rfl hT2 hi38 hv40 dL_law_1129 ?_
    obtain ⟨hT41, h⟩ := h
    refine zr_callV (As := [.int x24, .int x27, .int x30, .int x33, .int x36, .int x39]) (r := (RX9, TX9, 6)) C (k_X9_book h) ok_L_153 zq_1335 zq_1336 hT41 (by decide) rfl rfl ⟨by decide, (Nat.le_of_ble_eq_true rfl)⟩ ⟨(Nat.le_of_ble_eq_true rfl), (Nat.le_of_ble_eq_true rfl)⟩ (Nat.le_of_ble_eq_true rfl) dL_law_1130 (fun v55 U56 G57 hq => ?_)
    clear h
    · obtain ⟨r42, rfl, h⟩ := hq
      skip
      refine zr_istore C [(6, .int r42), (5, .int r21), (4, .int 0), (3, .ref o), (2, .ref md), (1, .ref x), (0, .ref b)] dL_law_1133 (by decide) rfl ?_
      refine zr_aload_n C 4 dL_law_1135 rfl rfl ?_
      obtain ⟨hT45, h⟩ := h
      refine zr_callV (As := []) (r := (RX9, TX9, 6)) C (k_X9_thrown h) ok_L_111 zq_975 zq_976 hT45 (by decide) rfl rfl ⟨by decide, (Nat.le_of_ble_eq_true rfl)⟩ ⟨(Nat.le_of_ble_eq_true rfl), (Nat.le_of_ble_eq_true rfl)⟩ (Nat.le_of_ble_eq_true rfl) dL_law_1136 (fun v52 U53 G54 hq => ?_)
      clear h
      · obtain ⟨r46, rfl, rfl, rfl, h⟩ := hq
        refine zr_iload C 1 dL_law_1139 rfl ?_
        obtain ⟨h1, h2⟩ := h
        refine zr_icmp_eq C 1146 dL_law_1141 (by decide) (fun hc => ?_) (fun hc => ?_)
        · have h := h1 hc
          clear h1 h2
          refine zr_iload C 1 dL_law_1146 rfl ?_
          obtain ⟨h1, h2⟩ := h
          refine zr_if_ne C 1163 dL_law_1148 (by decide) (fun hc => ?_) (fun hc => ?_)
          · have h := h1 hc
            clear h1 h2
            refine zr_goto C 2033 dL_law_1163 (by decide) ?_
            exact zr_sub [2, 6] rfl (kl_end hr hN0 C (Nat.le_of_ble_eq_true rfl) (Nat.le_of_ble_eq_true rfl) h)
          · have h := h2 hc
            clear h1 h2
            refine zr_aload_n C 3 dL_law_1151 rfl rfl ?_
            refine zr_iconst C 0 dL_law_1152 (by decide) ?_
            obtain ⟨n47, hT48, hi49, x50, hv51, h⟩ := h
            refine zr_lald C rfl hT48 hi49 hv51 dL_law_1153 ?_
            refine zr_iload C 0 dL_law_1154 rfl ?_
            refine zr_i2l C dL_law_1156 ?_
            refine zr_lcmp C dL_law_1157 ?_
            obtain ⟨h1, h2⟩ := h
            refine zr_if_eq C 1163 dL_law_1158 (by decide) (fun hc => ?_) (fun hc => ?_)
            · have h := h1 hc
              clear h1 h2
              refine zr_goto C 2033 dL_law_1163 (by decide) ?_
              exact zr_sub [2, 6] rfl (kl_end hr hN0 C (Nat.le_of_ble_eq_true rfl) (Nat.le_of_ble_eq_true rfl) h)
            · have h := h2 hc
              clear h1 h2
              refine zr_iconst C 0 dL_law_1161 (by decide) ?_
              exact h.elim
        · have h := h2 hc
          clear h1 h2
          refine zr_iconst C 0 dL_law_1144 (by decide) ?_
          exact h.elim
def vl_13 (x : Nat) (md : Nat) (o : Nat) (b : Nat) (T : zT) (F : zF) : Prop :=
  (∃ n1 : Nat, T b = some (104, n1) ∧ vp_in 1 n1 ∧ ∃ x4 : Int32, F b (1 : Int32).toNatClampNeg = .int x4 ∧ (v_L_cancel x x4 o T F (fun (r6 : Int32) (F7 : zF) => (vp_in 1 n1 ∧ ∃ x9 : Int32, F7 b (1 : Int32).toNatClampNeg = .int x9 ∧ T md = some (12, 6) ∧ (v_X9_cancel md x9 T F7 (fun (r12 : Int32) (F13 : zF) => (v_X9_thrown md T F13 (fun (r14 : Int32) => ((r14 = r6 → ((¬ r6 = 0 → (∃ L9 : Nat, T b = some (104, L9) ∧ L9 ≤ 7)) ∧ (r6 = 0 → (∃ n15 : Nat, T o = some (103, n15) ∧ vp_in 0 n15 ∧ ∃ x18 : Int64, F13 o (0 : Int32).toNatClampNeg = .long x18 ∧ (((lg_cmp x18 r12.toInt64) = 0 → (∃ L9 : Nat, T b = some (104, L9) ∧ L9 ≤ 7)) ∧ (¬ (lg_cmp x18 r12.toInt64) = 0 → False)))))) ∧ (¬ r14 = r6 → False))))))))))
set_option maxRecDepth 100000 in
set_option maxHeartbeats 4000000 in
theorem kl_13 {p : Program} {l : Launch} {e : Env} {s : State} {m : MethodId} {below : List Frame} {meth : Method} {c : Code} {D : va_G} {cA : Nat → ClassId} {N0 zE : Nat} {x : Nat} {md : Nat} {o : Nat} {b : Nat} {T : zT} {F : zF} (hr : meth.sig.returnType = ret) (hN0 : N0 = s.heap.size) (C : z_C p l s m #[Value.ref b] meth c RL cL_law 9 ret D cA N0 zE) (h : vl_13 x md o b T F) : z_w p l e room_1 s m #[Value.ref b] below meth c D cA N0 9 20 80 (lw_Z below #[Value.ref b] s) 1166 [(4, .int 0), (3, .ref o), (2, .ref md), (1, .ref x), (0, .ref b)] [] T F := by
  unfold vl_13 at h
  refine zr_aload_n C 3 dL_law_1166 rfl rfl ?_
  refine zr_aload_n C 4 dL_law_1167 rfl rfl ?_
  refine zr_iload C 0 dL_law_1168 rfl ?_
  refine zr_iconst C 1 dL_law_1170 (by decide) ?_
  refine zr_iadd C dL_law_1171 ?_
  refine zr_eqi (y := 1) (by decide) ?_
  obtain ⟨n1, hT2, hi3, x4, hv5, h⟩ := h
  refine zr_iald4 C rfl hT2 hi3 hv5 dL_law_1172 ?_
  refine zr_aload_n C 1 dL_law_1173 rfl rfl ?_
  refine zr_callSH (As := [.ref x, .int x4, .ref o]) C (k_L_cancel h) ok_L_154 zq_837 rfl ⟨by decide, (Nat.le_of_ble_eq_true rfl)⟩ ⟨(Nat.le_of_ble_eq_true rfl), (Nat.le_of_ble_eq_true rfl)⟩ (Nat.le_of_ble_eq_true rfl) dL_law_1174 (fun v26 U27 G28 hq => ?_)
  clear h
  · obtain ⟨r6, rfl, rfl, h⟩ := hq
    refine zr_istore C [(5, .int r6), (4, .int 0), (3, .ref o), (2, .ref md), (1, .ref x), (0, .ref b)] dL_law_1177 (by decide) rfl ?_
    refine zr_aload_n C 3 dL_law_1179 rfl rfl ?_
    refine zr_aload_n C 5 dL_law_1180 rfl rfl ?_
    refine zr_iload C 1 dL_law_1181 rfl ?_
    refine zr_iconst C 1 dL_law_1183 (by decide) ?_
    refine zr_iadd C dL_law_1184 ?_
    refine zr_eqi (y := 1) (by decide) ?_
    obtain ⟨hi8, x9, hv10, h⟩ := h
    refine zr_iald4 C rfl hT2 hi8 hv10 dL_law_1185 ?_
    obtain ⟨hT11, h⟩ := h
    refine zr_callV (As := [.int x9]) (r := (RX9, TX9, 6)) C (k_X9_cancel h) ok_L_157 zq_1430 zq_1431 hT11 (by decide) rfl rfl ⟨by decide, (Nat.le_of_ble_eq_true rfl)⟩ ⟨(Nat.le_of_ble_eq_true rfl), (Nat.le_of_ble_eq_true rfl)⟩ (Nat.le_of_ble_eq_true rfl) dL_law_1186 (fun v23 U24 G25 hq => ?_)
    clear h
    · obtain ⟨r12, rfl, rfl, h⟩ := hq
      refine zr_istore C [(6, .int r12), (5, .int r6), (4, .int 0), (3, .ref o), (2, .ref md), (1, .ref x), (0, .ref b)] dL_law_1189 (by decide) rfl ?_
      refine zr_aload_n C 4 dL_law_1191 rfl rfl ?_
      refine zr_callV (As := []) (r := (RX9, TX9, 6)) C (k_X9_thrown h) ok_L_111 zq_975 zq_976 hT11 (by decide) rfl rfl ⟨by decide, (Nat.le_of_ble_eq_true rfl)⟩ ⟨(Nat.le_of_ble_eq_true rfl), (Nat.le_of_ble_eq_true rfl)⟩ (Nat.le_of_ble_eq_true rfl) dL_law_1192 (fun v20 U21 G22 hq => ?_)
      clear h
      · obtain ⟨r14, rfl, rfl, rfl, h⟩ := hq
        refine zr_iload C 1 dL_law_1195 rfl ?_
        obtain ⟨h1, h2⟩ := h
        refine zr_icmp_eq C 1202 dL_law_1197 (by decide) (fun hc => ?_) (fun hc => ?_)
        · have h := h1 hc
          clear h1 h2
          refine zr_iload C 1 dL_law_1202 rfl ?_
          obtain ⟨h1, h2⟩ := h
          refine zr_if_ne C 1219 dL_law_1204 (by decide) (fun hc => ?_) (fun hc => ?_)
          · have h := h1 hc
            clear h1 h2
            refine zr_goto C 2033 dL_law_1219 (by decide) ?_
            exact zr_sub [2, 6] rfl (kl_end hr hN0 C (Nat.le_of_ble_eq_true rfl) (Nat.le_of_ble_eq_true rfl) h)
          · have h := h2 hc
            clear h1 h2
            refine zr_aload_n C 3 dL_law_1207 rfl rfl ?_
            refine zr_iconst C 0 dL_law_1208 (by decide) ?_
            obtain ⟨n15, hT16, hi17, x18, hv19, h⟩ := h
            refine zr_lald C rfl hT16 hi17 hv19 dL_law_1209 ?_
            refine zr_iload C 0 dL_law_1210 rfl ?_
            refine zr_i2l C dL_law_1212 ?_
            refine zr_lcmp C dL_law_1213 ?_
            obtain ⟨h1, h2⟩ := h
            refine zr_if_eq C 1219 dL_law_1214 (by decide) (fun hc => ?_) (fun hc => ?_)
            · have h := h1 hc
              clear h1 h2
              refine zr_goto C 2033 dL_law_1219 (by decide) ?_
              exact zr_sub [2, 6] rfl (kl_end hr hN0 C (Nat.le_of_ble_eq_true rfl) (Nat.le_of_ble_eq_true rfl) h)
            · have h := h2 hc
              clear h1 h2
              refine zr_iconst C 0 dL_law_1217 (by decide) ?_
              exact h.elim
        · have h := h2 hc
          clear h1 h2
          refine zr_iconst C 0 dL_law_1200 (by decide) ?_
          exact h.elim
