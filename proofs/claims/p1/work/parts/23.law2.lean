def vl_14 (x : Nat) (md : Nat) (o : Nat) (b : Nat) (T : zT) (F : zF) : Prop :=
  (∃ n1 : Nat, T b = some (104, n1) ∧ vp_in 1 n1 ∧ ∃ x4 : Int32, F b (1 : Int32).toNatClampNeg = .int x4 ∧ vp_in 2 n1 ∧ ∃ x7 : Int32, F b (2 : Int32).toNatClampNeg = .int x7 ∧ (v_L_swap x x4 x7 o T F (fun (r9 : Int32) (F10 : zF) => (vp_in 1 n1 ∧ ∃ x12 : Int32, F10 b (1 : Int32).toNatClampNeg = .int x12 ∧ vp_in 2 n1 ∧ ∃ x15 : Int32, F10 b (2 : Int32).toNatClampNeg = .int x15 ∧ T md = some (12, 6) ∧ (v_X9_swap md x12 x15 T F10 (fun (r18 : Int32) (F19 : zF) => (v_X9_thrown md T F19 (fun (r20 : Int32) => ((r20 = r9 → ((¬ r9 = 0 → (∃ L9 : Nat, T b = some (104, L9) ∧ L9 ≤ 7)) ∧ (r9 = 0 → (∃ n21 : Nat, T o = some (103, n21) ∧ vp_in 0 n21 ∧ ∃ x24 : Int64, F19 o (0 : Int32).toNatClampNeg = .long x24 ∧ (((lg_cmp x24 r18.toInt64) = 0 → (∃ L9 : Nat, T b = some (104, L9) ∧ L9 ≤ 7)) ∧ (¬ (lg_cmp x24 r18.toInt64) = 0 → False)))))) ∧ (¬ r20 = r9 → False))))))))))
set_option maxRecDepth 100000 in
set_option maxHeartbeats 4000000 in
theorem kl_14 {p : Program} {l : Launch} {e : Env} {s : State} {m : MethodId} {below : List Frame} {meth : Method} {c : Code} {D : va_G} {cA : Nat → ClassId} {N0 zE : Nat} {x : Nat} {md : Nat} {o : Nat} {b : Nat} {T : zT} {F : zF} (hr : meth.sig.returnType = ret) (hN0 : N0 = s.heap.size) (C : z_C p l s m #[Value.ref b] meth c RL cL_law 9 ret D cA N0 zE) (h : vl_14 x md o b T F) : z_w p l e room_1 s m #[Value.ref b] below meth c D cA N0 9 20 80 (lw_Z below #[Value.ref b] s) 1222 [(4, .int 0), (3, .ref o), (2, .ref md), (1, .ref x), (0, .ref b)] [] T F := by
  unfold vl_14 at h
  refine zr_aload_n C 3 dL_law_1222 rfl rfl ?_
  refine zr_aload_n C 4 dL_law_1223 rfl rfl ?_
  refine zr_iload C 0 dL_law_1224 rfl ?_
  refine zr_iconst C 1 dL_law_1226 (by decide) ?_
  refine zr_iadd C dL_law_1227 ?_
  refine zr_eqi (y := 1) (by decide) ?_
  obtain ⟨n1, hT2, hi3, x4, hv5, h⟩ := h
  refine zr_iald4 C rfl hT2 hi3 hv5 dL_law_1228 ?_
  refine zr_aload_n C 4 dL_law_1229 rfl rfl ?_
  refine zr_iload C 0 dL_law_1230 rfl ?_
  refine zr_iconst C 2 dL_law_1232 (by decide) ?_
  refine zr_iadd C dL_law_1233 ?_
  refine zr_eqi (y := 2) (by decide) ?_
  obtain ⟨hi6, x7, hv8, h⟩ := h
  refine zr_iald4 C rfl hT2 hi6 hv8 dL_law_1234 ?_
  refine zr_aload_n C 1 dL_law_1235 rfl rfl ?_
  refine zr_callSH (As := [.ref x, .int x4, .int x7, .ref o]) C (k_L_swap h) ok_L_158 zq_850 rfl ⟨by decide, (Nat.le_of_ble_eq_true rfl)⟩ ⟨(Nat.le_of_ble_eq_true rfl), (Nat.le_of_ble_eq_true rfl)⟩ (Nat.le_of_ble_eq_true rfl) dL_law_1236 (fun v32 U33 G34 hq => ?_)
  clear h
  · obtain ⟨r9, rfl, rfl, h⟩ := hq
    refine zr_istore C [(5, .int r9), (4, .int 0), (3, .ref o), (2, .ref md), (1, .ref x), (0, .ref b)] dL_law_1239 (by decide) rfl ?_
    refine zr_aload_n C 3 dL_law_1241 rfl rfl ?_
    refine zr_aload_n C 5 dL_law_1242 rfl rfl ?_
    refine zr_iload C 1 dL_law_1243 rfl ?_
    refine zr_iconst C 1 dL_law_1245 (by decide) ?_
    refine zr_iadd C dL_law_1246 ?_
    refine zr_eqi (y := 1) (by decide) ?_
    obtain ⟨hi11, x12, hv13, h⟩ := h
    refine zr_iald4 C rfl hT2 hi11 hv13 dL_law_1247 ?_
    refine zr_aload_n C 5 dL_law_1248 rfl rfl ?_
    refine zr_iload C 1 dL_law_1249 rfl ?_
    refine zr_iconst C 2 dL_law_1251 (by decide) ?_
    refine zr_iadd C dL_law_1252 ?_
    refine zr_eqi (y := 2) (by decide) ?_
    obtain ⟨hi14, x15, hv16, h⟩ := h
    refine zr_iald4 C rfl hT2 hi14 hv16 dL_law_1253 ?_
    obtain ⟨hT17, h⟩ := h
    refine zr_callV (As := [.int x12, .int x15]) (r := (RX9, TX9, 6)) C (k_X9_swap h) ok_L_160 zq_1446 zq_1447 hT17 (by decide) rfl rfl ⟨by decide, (Nat.le_of_ble_eq_true rfl)⟩ ⟨(Nat.le_of_ble_eq_true rfl), (Nat.le_of_ble_eq_true rfl)⟩ (Nat.le_of_ble_eq_true rfl) dL_law_1254 (fun v29 U30 G31 hq => ?_)
    clear h
    · obtain ⟨r18, rfl, rfl, h⟩ := hq
      refine zr_istore C [(6, .int r18), (5, .int r9), (4, .int 0), (3, .ref o), (2, .ref md), (1, .ref x), (0, .ref b)] dL_law_1257 (by decide) rfl ?_
      refine zr_aload_n C 4 dL_law_1259 rfl rfl ?_
      refine zr_callV (As := []) (r := (RX9, TX9, 6)) C (k_X9_thrown h) ok_L_111 zq_975 zq_976 hT17 (by decide) rfl rfl ⟨by decide, (Nat.le_of_ble_eq_true rfl)⟩ ⟨(Nat.le_of_ble_eq_true rfl), (Nat.le_of_ble_eq_true rfl)⟩ (Nat.le_of_ble_eq_true rfl) dL_law_1260 (fun v26 U27 G28 hq => ?_)
      clear h
      · obtain ⟨r20, rfl, rfl, rfl, h⟩ := hq
        refine zr_iload C 1 dL_law_1263 rfl ?_
        obtain ⟨h1, h2⟩ := h
        refine zr_icmp_eq C 1270 dL_law_1265 (by decide) (fun hc => ?_) (fun hc => ?_)
        · have h := h1 hc
          clear h1 h2
          refine zr_iload C 1 dL_law_1270 rfl ?_
          obtain ⟨h1, h2⟩ := h
          refine zr_if_ne C 1287 dL_law_1272 (by decide) (fun hc => ?_) (fun hc => ?_)
          · have h := h1 hc
            clear h1 h2
            refine zr_goto C 2033 dL_law_1287 (by decide) ?_
            exact zr_sub [2, 6] rfl (kl_end hr hN0 C (Nat.le_of_ble_eq_true rfl) (Nat.le_of_ble_eq_true rfl) h)
          · have h := h2 hc
            clear h1 h2
            refine zr_aload_n C 3 dL_law_1275 rfl rfl ?_
            refine zr_iconst C 0 dL_law_1276 (by decide) ?_
            obtain ⟨n21, hT22, hi23, x24, hv25, h⟩ := h
            refine zr_lald C rfl hT22 hi23 hv25 dL_law_1277 ?_
            refine zr_iload C 0 dL_law_1278 rfl ?_
            refine zr_i2l C dL_law_1280 ?_
            refine zr_lcmp C dL_law_1281 ?_
            obtain ⟨h1, h2⟩ := h
            refine zr_if_eq C 1287 dL_law_1282 (by decide) (fun hc => ?_) (fun hc => ?_)
            · have h := h1 hc
              clear h1 h2
              refine zr_goto C 2033 dL_law_1287 (by decide) ?_
              exact zr_sub [2, 6] rfl (kl_end hr hN0 C (Nat.le_of_ble_eq_true rfl) (Nat.le_of_ble_eq_true rfl) h)
            · have h := h2 hc
              clear h1 h2
              refine zr_iconst C 0 dL_law_1285 (by decide) ?_
              exact h.elim
        · have h := h2 hc
          clear h1 h2
          refine zr_iconst C 0 dL_law_1268 (by decide) ?_
          exact h.elim
def vl_15 (x : Nat) (md : Nat) (o : Nat) (b : Nat) (T : zT) (F : zF) : Prop :=
  (∃ n1 : Nat, T b = some (104, n1) ∧ vp_in 1 n1 ∧ ∃ x4 : Int32, F b (1 : Int32).toNatClampNeg = .int x4 ∧ vp_in 2 n1 ∧ ∃ x7 : Int32, F b (2 : Int32).toNatClampNeg = .int x7 ∧ (v_L_ofBooking x x4 x7 o T F (fun (r9 : Int32) (F10 : zF) => (vp_in 1 n1 ∧ ∃ x12 : Int32, F10 b (1 : Int32).toNatClampNeg = .int x12 ∧ vp_in 2 n1 ∧ ∃ x15 : Int32, F10 b (2 : Int32).toNatClampNeg = .int x15 ∧ T md = some (12, 6) ∧ (v_X9_ofBooking md x12 x15 T F10 (fun (r18 : Int32) (F19 : zF) => (v_X9_thrown md T F19 (fun (r20 : Int32) => ((r20 = r9 → ((¬ r9 = 0 → (∃ L9 : Nat, T b = some (104, L9) ∧ L9 ≤ 7)) ∧ (r9 = 0 → (∃ n21 : Nat, T o = some (103, n21) ∧ vp_in 0 n21 ∧ ∃ x24 : Int64, F19 o (0 : Int32).toNatClampNeg = .long x24 ∧ (((lg_cmp x24 r18.toInt64) = 0 → (∃ L9 : Nat, T b = some (104, L9) ∧ L9 ≤ 7)) ∧ (¬ (lg_cmp x24 r18.toInt64) = 0 → False)))))) ∧ (¬ r20 = r9 → False))))))))))
set_option maxRecDepth 100000 in
set_option maxHeartbeats 4000000 in
theorem kl_15 {p : Program} {l : Launch} {e : Env} {s : State} {m : MethodId} {below : List Frame} {meth : Method} {c : Code} {D : va_G} {cA : Nat → ClassId} {N0 zE : Nat} {x : Nat} {md : Nat} {o : Nat} {b : Nat} {T : zT} {F : zF} (hr : meth.sig.returnType = ret) (hN0 : N0 = s.heap.size) (C : z_C p l s m #[Value.ref b] meth c RL cL_law 9 ret D cA N0 zE) (h : vl_15 x md o b T F) : z_w p l e room_1 s m #[Value.ref b] below meth c D cA N0 9 20 80 (lw_Z below #[Value.ref b] s) 1290 [(4, .int 0), (3, .ref o), (2, .ref md), (1, .ref x), (0, .ref b)] [] T F := by
  unfold vl_15 at h
  refine zr_aload_n C 3 dL_law_1290 rfl rfl ?_
  refine zr_aload_n C 4 dL_law_1291 rfl rfl ?_
  refine zr_iload C 0 dL_law_1292 rfl ?_
  refine zr_iconst C 1 dL_law_1294 (by decide) ?_
  refine zr_iadd C dL_law_1295 ?_
  refine zr_eqi (y := 1) (by decide) ?_
  obtain ⟨n1, hT2, hi3, x4, hv5, h⟩ := h
  refine zr_iald4 C rfl hT2 hi3 hv5 dL_law_1296 ?_
  refine zr_aload_n C 4 dL_law_1297 rfl rfl ?_
  refine zr_iload C 0 dL_law_1298 rfl ?_
  refine zr_iconst C 2 dL_law_1300 (by decide) ?_
  refine zr_iadd C dL_law_1301 ?_
  refine zr_eqi (y := 2) (by decide) ?_
  obtain ⟨hi6, x7, hv8, h⟩ := h
  refine zr_iald4 C rfl hT2 hi6 hv8 dL_law_1302 ?_
  refine zr_aload_n C 1 dL_law_1303 rfl rfl ?_
  refine zr_callSH (As := [.ref x, .int x4, .int x7, .ref o]) C (k_L_ofBooking h) ok_L_161 zq_860 rfl ⟨by decide, (Nat.le_of_ble_eq_true rfl)⟩ ⟨(Nat.le_of_ble_eq_true rfl), (Nat.le_of_ble_eq_true rfl)⟩ (Nat.le_of_ble_eq_true rfl) dL_law_1304 (fun v32 U33 G34 hq => ?_)
  clear h
  · obtain ⟨r9, rfl, rfl, h⟩ := hq
    refine zr_istore C [(5, .int r9), (4, .int 0), (3, .ref o), (2, .ref md), (1, .ref x), (0, .ref b)] dL_law_1307 (by decide) rfl ?_
    refine zr_aload_n C 3 dL_law_1309 rfl rfl ?_
    refine zr_aload_n C 5 dL_law_1310 rfl rfl ?_
    refine zr_iload C 1 dL_law_1311 rfl ?_
    refine zr_iconst C 1 dL_law_1313 (by decide) ?_
    refine zr_iadd C dL_law_1314 ?_
    refine zr_eqi (y := 1) (by decide) ?_
    obtain ⟨hi11, x12, hv13, h⟩ := h
    refine zr_iald4 C rfl hT2 hi11 hv13 dL_law_1315 ?_
    refine zr_aload_n C 5 dL_law_1316 rfl rfl ?_
    refine zr_iload C 1 dL_law_1317 rfl ?_
    refine zr_iconst C 2 dL_law_1319 (by decide) ?_
    refine zr_iadd C dL_law_1320 ?_
    refine zr_eqi (y := 2) (by decide) ?_
    obtain ⟨hi14, x15, hv16, h⟩ := h
    refine zr_iald4 C rfl hT2 hi14 hv16 dL_law_1321 ?_
    obtain ⟨hT17, h⟩ := h
    refine zr_callV (As := [.int x12, .int x15]) (r := (RX9, TX9, 6)) C (k_X9_ofBooking h) ok_L_163 zq_1463 zq_1464 hT17 (by decide) rfl rfl ⟨by decide, (Nat.le_of_ble_eq_true rfl)⟩ ⟨(Nat.le_of_ble_eq_true rfl), (Nat.le_of_ble_eq_true rfl)⟩ (Nat.le_of_ble_eq_true rfl) dL_law_1322 (fun v29 U30 G31 hq => ?_)
    clear h
    · obtain ⟨r18, rfl, rfl, h⟩ := hq
      refine zr_istore C [(6, .int r18), (5, .int r9), (4, .int 0), (3, .ref o), (2, .ref md), (1, .ref x), (0, .ref b)] dL_law_1325 (by decide) rfl ?_
      refine zr_aload_n C 4 dL_law_1327 rfl rfl ?_
      refine zr_callV (As := []) (r := (RX9, TX9, 6)) C (k_X9_thrown h) ok_L_111 zq_975 zq_976 hT17 (by decide) rfl rfl ⟨by decide, (Nat.le_of_ble_eq_true rfl)⟩ ⟨(Nat.le_of_ble_eq_true rfl), (Nat.le_of_ble_eq_true rfl)⟩ (Nat.le_of_ble_eq_true rfl) dL_law_1328 (fun v26 U27 G28 hq => ?_)
      clear h
      · obtain ⟨r20, rfl, rfl, rfl, h⟩ := hq
        refine zr_iload C 1 dL_law_1331 rfl ?_
        obtain ⟨h1, h2⟩ := h
        refine zr_icmp_eq C 1338 dL_law_1333 (by decide) (fun hc => ?_) (fun hc => ?_)
        · have h := h1 hc
          clear h1 h2
          refine zr_iload C 1 dL_law_1338 rfl ?_
          obtain ⟨h1, h2⟩ := h
          refine zr_if_ne C 1355 dL_law_1340 (by decide) (fun hc => ?_) (fun hc => ?_)
          · have h := h1 hc
            clear h1 h2
            refine zr_goto C 2033 dL_law_1355 (by decide) ?_
            exact zr_sub [2, 6] rfl (kl_end hr hN0 C (Nat.le_of_ble_eq_true rfl) (Nat.le_of_ble_eq_true rfl) h)
          · have h := h2 hc
            clear h1 h2
            refine zr_aload_n C 3 dL_law_1343 rfl rfl ?_
            refine zr_iconst C 0 dL_law_1344 (by decide) ?_
            obtain ⟨n21, hT22, hi23, x24, hv25, h⟩ := h
            refine zr_lald C rfl hT22 hi23 hv25 dL_law_1345 ?_
            refine zr_iload C 0 dL_law_1346 rfl ?_
            refine zr_i2l C dL_law_1348 ?_
            refine zr_lcmp C dL_law_1349 ?_
            obtain ⟨h1, h2⟩ := h
            refine zr_if_eq C 1355 dL_law_1350 (by decide) (fun hc => ?_) (fun hc => ?_)
            · have h := h1 hc
              clear h1 h2
              refine zr_goto C 2033 dL_law_1355 (by decide) ?_
              exact zr_sub [2, 6] rfl (kl_end hr hN0 C (Nat.le_of_ble_eq_true rfl) (Nat.le_of_ble_eq_true rfl) h)
            · have h := h2 hc
              clear h1 h2
              refine zr_iconst C 0 dL_law_1353 (by decide) ?_
              exact h.elim
        · have h := h2 hc
          clear h1 h2
          refine zr_iconst C 0 dL_law_1336 (by decide) ?_
          exact h.elim
def vl_16 (x : Nat) (md : Nat) (o : Nat) (b : Nat) (T : zT) (F : zF) : Prop :=
  (v_L_day x o T F (fun (r1 : Int32) (F2 : zF) => (T md = some (12, 6) ∧ (v_X9_day md T F2 (fun (r4 : Int32) (T5 : zT) (F6 : zF) => (T5 md = some (12, 6) ∧ (v_X9_thrown md T5 F6 (fun (r8 : Int32) => ((r8 = r1 → ((¬ r1 = 0 → (∃ L9 : Nat, T5 b = some (104, L9) ∧ L9 ≤ 7)) ∧ (r1 = 0 → (∃ n9 : Nat, T5 o = some (103, n9) ∧ vp_in 0 n9 ∧ ∃ x12 : Int64, F6 o (0 : Int32).toNatClampNeg = .long x12 ∧ (((lg_cmp x12 r4.toInt64) = 0 → (∃ L9 : Nat, T5 b = some (104, L9) ∧ L9 ≤ 7)) ∧ (¬ (lg_cmp x12 r4.toInt64) = 0 → False)))))) ∧ (¬ r8 = r1 → False))))))))))
set_option maxRecDepth 100000 in
set_option maxHeartbeats 4000000 in
theorem kl_16 {p : Program} {l : Launch} {e : Env} {s : State} {m : MethodId} {below : List Frame} {meth : Method} {c : Code} {D : va_G} {cA : Nat → ClassId} {N0 zE : Nat} {x : Nat} {md : Nat} {o : Nat} {b : Nat} {T : zT} {F : zF} (hr : meth.sig.returnType = ret) (hN0 : N0 = s.heap.size) (C : z_C p l s m #[Value.ref b] meth c RL cL_law 9 ret D cA N0 zE) (h : vl_16 x md o b T F) : z_w p l e room_1 s m #[Value.ref b] below meth c D cA N0 9 20 80 (lw_Z below #[Value.ref b] s) 1358 [(4, .int 0), (3, .ref o), (2, .ref md), (1, .ref x), (0, .ref b)] [] T F := by
  unfold vl_16 at h
  refine zr_aload_n C 3 dL_law_1358 rfl rfl ?_
  refine zr_aload_n C 1 dL_law_1359 rfl rfl ?_
  refine zr_callSH (As := [.ref x, .ref o]) C (k_L_day h) ok_L_164 zq_864 rfl ⟨by decide, (Nat.le_of_ble_eq_true rfl)⟩ ⟨(Nat.le_of_ble_eq_true rfl), (Nat.le_of_ble_eq_true rfl)⟩ (Nat.le_of_ble_eq_true rfl) dL_law_1360 (fun v20 U21 G22 hq => ?_)
  clear h
  · obtain ⟨r1, rfl, rfl, h⟩ := hq
    refine zr_istore C [(5, .int r1), (4, .int 0), (3, .ref o), (2, .ref md), (1, .ref x), (0, .ref b)] dL_law_1363 (by decide) rfl ?_
    refine zr_aload_n C 3 dL_law_1365 rfl rfl ?_
    obtain ⟨hT3, h⟩ := h
    refine zr_callV (As := []) (r := (RX9, TX9, 6)) C (k_X9_day h) ok_L_166 zq_1470 zq_1471 hT3 (by decide) rfl rfl ⟨by decide, (Nat.le_of_ble_eq_true rfl)⟩ ⟨(Nat.le_of_ble_eq_true rfl), (Nat.le_of_ble_eq_true rfl)⟩ (Nat.le_of_ble_eq_true rfl) dL_law_1366 (fun v17 U18 G19 hq => ?_)
    clear h
    · obtain ⟨r4, rfl, h⟩ := hq
      skip
      refine zr_istore C [(6, .int r4), (5, .int r1), (4, .int 0), (3, .ref o), (2, .ref md), (1, .ref x), (0, .ref b)] dL_law_1369 (by decide) rfl ?_
      refine zr_aload_n C 4 dL_law_1371 rfl rfl ?_
      obtain ⟨hT7, h⟩ := h
      refine zr_callV (As := []) (r := (RX9, TX9, 6)) C (k_X9_thrown h) ok_L_111 zq_975 zq_976 hT7 (by decide) rfl rfl ⟨by decide, (Nat.le_of_ble_eq_true rfl)⟩ ⟨(Nat.le_of_ble_eq_true rfl), (Nat.le_of_ble_eq_true rfl)⟩ (Nat.le_of_ble_eq_true rfl) dL_law_1372 (fun v14 U15 G16 hq => ?_)
      clear h
      · obtain ⟨r8, rfl, rfl, rfl, h⟩ := hq
        refine zr_iload C 1 dL_law_1375 rfl ?_
        obtain ⟨h1, h2⟩ := h
        refine zr_icmp_eq C 1382 dL_law_1377 (by decide) (fun hc => ?_) (fun hc => ?_)
        · have h := h1 hc
          clear h1 h2
          refine zr_iload C 1 dL_law_1382 rfl ?_
          obtain ⟨h1, h2⟩ := h
          refine zr_if_ne C 1399 dL_law_1384 (by decide) (fun hc => ?_) (fun hc => ?_)
          · have h := h1 hc
            clear h1 h2
            refine zr_goto C 2033 dL_law_1399 (by decide) ?_
            exact zr_sub [2, 6] rfl (kl_end hr hN0 C (Nat.le_of_ble_eq_true rfl) (Nat.le_of_ble_eq_true rfl) h)
          · have h := h2 hc
            clear h1 h2
            refine zr_aload_n C 3 dL_law_1387 rfl rfl ?_
            refine zr_iconst C 0 dL_law_1388 (by decide) ?_
            obtain ⟨n9, hT10, hi11, x12, hv13, h⟩ := h
            refine zr_lald C rfl hT10 hi11 hv13 dL_law_1389 ?_
            refine zr_iload C 0 dL_law_1390 rfl ?_
            refine zr_i2l C dL_law_1392 ?_
            refine zr_lcmp C dL_law_1393 ?_
            obtain ⟨h1, h2⟩ := h
            refine zr_if_eq C 1399 dL_law_1394 (by decide) (fun hc => ?_) (fun hc => ?_)
            · have h := h1 hc
              clear h1 h2
              refine zr_goto C 2033 dL_law_1399 (by decide) ?_
              exact zr_sub [2, 6] rfl (kl_end hr hN0 C (Nat.le_of_ble_eq_true rfl) (Nat.le_of_ble_eq_true rfl) h)
            · have h := h2 hc
              clear h1 h2
              refine zr_iconst C 0 dL_law_1397 (by decide) ?_
              exact h.elim
        · have h := h2 hc
          clear h1 h2
          refine zr_iconst C 0 dL_law_1380 (by decide) ?_
          exact h.elim
def vl_17 (x : Nat) (md : Nat) (o : Nat) (b : Nat) (T : zT) (F : zF) : Prop :=
  (∃ n1 : Nat, T b = some (104, n1) ∧ vp_in 1 n1 ∧ ∃ x4 : Int32, F b (1 : Int32).toNatClampNeg = .int x4 ∧ vp_in 2 n1 ∧ ∃ x7 : Int32, F b (2 : Int32).toNatClampNeg = .int x7 ∧ vp_in 3 n1 ∧ ∃ x10 : Int32, F b (3 : Int32).toNatClampNeg = .int x10 ∧ (v_L_at x x4 x7 x10 o T F (fun (r12 : Int32) (F13 : zF) => (vp_in 1 n1 ∧ ∃ x15 : Int32, F13 b (1 : Int32).toNatClampNeg = .int x15 ∧ vp_in 2 n1 ∧ ∃ x18 : Int32, F13 b (2 : Int32).toNatClampNeg = .int x18 ∧ vp_in 3 n1 ∧ ∃ x21 : Int32, F13 b (3 : Int32).toNatClampNeg = .int x21 ∧ T md = some (12, 6) ∧ (v_X9_at md x15 x18 x21 T F13 (fun (r24 : Int32) (F25 : zF) => (v_X9_thrown md T F25 (fun (r26 : Int32) => ((r26 = r12 → ((¬ r12 = 0 → (∃ L9 : Nat, T b = some (104, L9) ∧ L9 ≤ 7)) ∧ (r12 = 0 → (∃ n27 : Nat, T o = some (103, n27) ∧ vp_in 0 n27 ∧ ∃ x30 : Int64, F25 o (0 : Int32).toNatClampNeg = .long x30 ∧ (((lg_cmp x30 r24.toInt64) = 0 → (∃ L9 : Nat, T b = some (104, L9) ∧ L9 ≤ 7)) ∧ (¬ (lg_cmp x30 r24.toInt64) = 0 → False)))))) ∧ (¬ r26 = r12 → False))))))))))
set_option maxRecDepth 100000 in
set_option maxHeartbeats 4000000 in
theorem kl_17 {p : Program} {l : Launch} {e : Env} {s : State} {m : MethodId} {below : List Frame} {meth : Method} {c : Code} {D : va_G} {cA : Nat → ClassId} {N0 zE : Nat} {x : Nat} {md : Nat} {o : Nat} {b : Nat} {T : zT} {F : zF} (hr : meth.sig.returnType = ret) (hN0 : N0 = s.heap.size) (C : z_C p l s m #[Value.ref b] meth c RL cL_law 9 ret D cA N0 zE) (h : vl_17 x md o b T F) : z_w p l e room_1 s m #[Value.ref b] below meth c D cA N0 9 20 80 (lw_Z below #[Value.ref b] s) 1402 [(4, .int 0), (3, .ref o), (2, .ref md), (1, .ref x), (0, .ref b)] [] T F := by
  unfold vl_17 at h
  refine zr_aload_n C 3 dL_law_1402 rfl rfl ?_
  refine zr_aload_n C 4 dL_law_1403 rfl rfl ?_
  refine zr_iload C 0 dL_law_1404 rfl ?_
  refine zr_iconst C 1 dL_law_1406 (by decide) ?_
  refine zr_iadd C dL_law_1407 ?_
  refine zr_eqi (y := 1) (by decide) ?_
  obtain ⟨n1, hT2, hi3, x4, hv5, h⟩ := h
  refine zr_iald4 C rfl hT2 hi3 hv5 dL_law_1408 ?_
  refine zr_aload_n C 4 dL_law_1409 rfl rfl ?_
  refine zr_iload C 0 dL_law_1410 rfl ?_
  refine zr_iconst C 2 dL_law_1412 (by decide) ?_
  refine zr_iadd C dL_law_1413 ?_
  refine zr_eqi (y := 2) (by decide) ?_
  obtain ⟨hi6, x7, hv8, h⟩ := h
  refine zr_iald4 C rfl hT2 hi6 hv8 dL_law_1414 ?_
  refine zr_aload_n C 4 dL_law_1415 rfl rfl ?_
  refine zr_iload C 0 dL_law_1416 rfl ?_
  refine zr_iconst C 3 dL_law_1418 (by decide) ?_
  refine zr_iadd C dL_law_1419 ?_
  refine zr_eqi (y := 3) (by decide) ?_
  obtain ⟨hi9, x10, hv11, h⟩ := h
  refine zr_iald4 C rfl hT2 hi9 hv11 dL_law_1420 ?_
  refine zr_aload_n C 1 dL_law_1421 rfl rfl ?_
  refine zr_callSH (As := [.ref x, .int x4, .int x7, .int x10, .ref o]) C (k_L_at h) ok_L_167 zq_872 rfl ⟨by decide, (Nat.le_of_ble_eq_true rfl)⟩ ⟨(Nat.le_of_ble_eq_true rfl), (Nat.le_of_ble_eq_true rfl)⟩ (Nat.le_of_ble_eq_true rfl) dL_law_1422 (fun v38 U39 G40 hq => ?_)
  clear h
  · obtain ⟨r12, rfl, rfl, h⟩ := hq
    refine zr_istore C [(5, .int r12), (4, .int 0), (3, .ref o), (2, .ref md), (1, .ref x), (0, .ref b)] dL_law_1425 (by decide) rfl ?_
    refine zr_aload_n C 3 dL_law_1427 rfl rfl ?_
    refine zr_aload_n C 5 dL_law_1428 rfl rfl ?_
    refine zr_iload C 1 dL_law_1429 rfl ?_
    refine zr_iconst C 1 dL_law_1431 (by decide) ?_
    refine zr_iadd C dL_law_1432 ?_
    refine zr_eqi (y := 1) (by decide) ?_
    obtain ⟨hi14, x15, hv16, h⟩ := h
    refine zr_iald4 C rfl hT2 hi14 hv16 dL_law_1433 ?_
    refine zr_aload_n C 5 dL_law_1434 rfl rfl ?_
    refine zr_iload C 1 dL_law_1435 rfl ?_
    refine zr_iconst C 2 dL_law_1437 (by decide) ?_
    refine zr_iadd C dL_law_1438 ?_
    refine zr_eqi (y := 2) (by decide) ?_
    obtain ⟨hi17, x18, hv19, h⟩ := h
    refine zr_iald4 C rfl hT2 hi17 hv19 dL_law_1439 ?_
    refine zr_aload_n C 5 dL_law_1440 rfl rfl ?_
    refine zr_iload C 1 dL_law_1441 rfl ?_
    refine zr_iconst C 3 dL_law_1443 (by decide) ?_
    refine zr_iadd C dL_law_1444 ?_
    refine zr_eqi (y := 3) (by decide) ?_
    obtain ⟨hi20, x21, hv22, h⟩ := h
    refine zr_iald4 C rfl hT2 hi20 hv22 dL_law_1445 ?_
    obtain ⟨hT23, h⟩ := h
    refine zr_callV (As := [.int x15, .int x18, .int x21]) (r := (RX9, TX9, 6)) C (k_X9_at h) ok_L_169 zq_1491 zq_1492 hT23 (by decide) rfl rfl ⟨by decide, (Nat.le_of_ble_eq_true rfl)⟩ ⟨(Nat.le_of_ble_eq_true rfl), (Nat.le_of_ble_eq_true rfl)⟩ (Nat.le_of_ble_eq_true rfl) dL_law_1446 (fun v35 U36 G37 hq => ?_)
    clear h
    · obtain ⟨r24, rfl, rfl, h⟩ := hq
      refine zr_istore C [(6, .int r24), (5, .int r12), (4, .int 0), (3, .ref o), (2, .ref md), (1, .ref x), (0, .ref b)] dL_law_1449 (by decide) rfl ?_
      refine zr_aload_n C 4 dL_law_1451 rfl rfl ?_
      refine zr_callV (As := []) (r := (RX9, TX9, 6)) C (k_X9_thrown h) ok_L_111 zq_975 zq_976 hT23 (by decide) rfl rfl ⟨by decide, (Nat.le_of_ble_eq_true rfl)⟩ ⟨(Nat.le_of_ble_eq_true rfl), (Nat.le_of_ble_eq_true rfl)⟩ (Nat.le_of_ble_eq_true rfl) dL_law_1452 (fun v32 U33 G34 hq => ?_)
      clear h
      · obtain ⟨r26, rfl, rfl, rfl, h⟩ := hq
        refine zr_iload C 1 dL_law_1455 rfl ?_
        obtain ⟨h1, h2⟩ := h
        refine zr_icmp_eq C 1462 dL_law_1457 (by decide) (fun hc => ?_) (fun hc => ?_)
        · have h := h1 hc
          clear h1 h2
          refine zr_iload C 1 dL_law_1462 rfl ?_
          obtain ⟨h1, h2⟩ := h
          refine zr_if_ne C 1479 dL_law_1464 (by decide) (fun hc => ?_) (fun hc => ?_)
          · have h := h1 hc
            clear h1 h2
            refine zr_goto C 2033 dL_law_1479 (by decide) ?_
            exact zr_sub [2, 6] rfl (kl_end hr hN0 C (Nat.le_of_ble_eq_true rfl) (Nat.le_of_ble_eq_true rfl) h)
          · have h := h2 hc
            clear h1 h2
            refine zr_aload_n C 3 dL_law_1467 rfl rfl ?_
            refine zr_iconst C 0 dL_law_1468 (by decide) ?_
            obtain ⟨n27, hT28, hi29, x30, hv31, h⟩ := h
            refine zr_lald C rfl hT28 hi29 hv31 dL_law_1469 ?_
            refine zr_iload C 0 dL_law_1470 rfl ?_
            refine zr_i2l C dL_law_1472 ?_
            refine zr_lcmp C dL_law_1473 ?_
            obtain ⟨h1, h2⟩ := h
            refine zr_if_eq C 1479 dL_law_1474 (by decide) (fun hc => ?_) (fun hc => ?_)
            · have h := h1 hc
              clear h1 h2
              refine zr_goto C 2033 dL_law_1479 (by decide) ?_
              exact zr_sub [2, 6] rfl (kl_end hr hN0 C (Nat.le_of_ble_eq_true rfl) (Nat.le_of_ble_eq_true rfl) h)
            · have h := h2 hc
              clear h1 h2
              refine zr_iconst C 0 dL_law_1477 (by decide) ?_
              exact h.elim
        · have h := h2 hc
          clear h1 h2
          refine zr_iconst C 0 dL_law_1460 (by decide) ?_
          exact h.elim
def vl_18 (x : Nat) (md : Nat) (o : Nat) (b : Nat) (T : zT) (F : zF) : Prop :=
  (∃ n1 : Nat, T b = some (104, n1) ∧ vp_in 1 n1 ∧ ∃ x4 : Int32, F b (1 : Int32).toNatClampNeg = .int x4 ∧ (v_L_many x x4 o T F (fun (r6 : Int32) (F7 : zF) => (vp_in 1 n1 ∧ ∃ x9 : Int32, F7 b (1 : Int32).toNatClampNeg = .int x9 ∧ T md = some (12, 6) ∧ (v_X9_many md x9 T F7 (fun (r12 : Int32) (T13 : zT) (F14 : zF) => (T13 md = some (12, 6) ∧ (v_X9_thrown md T13 F14 (fun (r16 : Int32) => ((r16 = r6 → ((¬ r6 = 0 → (∃ L9 : Nat, T13 b = some (104, L9) ∧ L9 ≤ 7)) ∧ (r6 = 0 → (∃ n17 : Nat, T13 o = some (103, n17) ∧ vp_in 0 n17 ∧ ∃ x20 : Int64, F14 o (0 : Int32).toNatClampNeg = .long x20 ∧ (((lg_cmp x20 r12.toInt64) = 0 → (∃ L9 : Nat, T13 b = some (104, L9) ∧ L9 ≤ 7)) ∧ (¬ (lg_cmp x20 r12.toInt64) = 0 → False)))))) ∧ (¬ r16 = r6 → False)))))))))))
set_option maxRecDepth 100000 in
set_option maxHeartbeats 4000000 in
theorem kl_18 {p : Program} {l : Launch} {e : Env} {s : State} {m : MethodId} {below : List Frame} {meth : Method} {c : Code} {D : va_G} {cA : Nat → ClassId} {N0 zE : Nat} {x : Nat} {md : Nat} {o : Nat} {b : Nat} {T : zT} {F : zF} (hr : meth.sig.returnType = ret) (hN0 : N0 = s.heap.size) (C : z_C p l s m #[Value.ref b] meth c RL cL_law 9 ret D cA N0 zE) (h : vl_18 x md o b T F) : z_w p l e room_1 s m #[Value.ref b] below meth c D cA N0 9 20 80 (lw_Z below #[Value.ref b] s) 1482 [(4, .int 0), (3, .ref o), (2, .ref md), (1, .ref x), (0, .ref b)] [] T F := by
  unfold vl_18 at h
  refine zr_aload_n C 3 dL_law_1482 rfl rfl ?_
  refine zr_aload_n C 4 dL_law_1483 rfl rfl ?_
  refine zr_iload C 0 dL_law_1484 rfl ?_
  refine zr_iconst C 1 dL_law_1486 (by decide) ?_
  refine zr_iadd C dL_law_1487 ?_
  refine zr_eqi (y := 1) (by decide) ?_
  obtain ⟨n1, hT2, hi3, x4, hv5, h⟩ := h
  refine zr_iald4 C rfl hT2 hi3 hv5 dL_law_1488 ?_
  refine zr_aload_n C 1 dL_law_1489 rfl rfl ?_
  refine zr_callSH (As := [.ref x, .int x4, .ref o]) C (k_L_many h) ok_L_170 zq_883 rfl ⟨by decide, (Nat.le_of_ble_eq_true rfl)⟩ ⟨(Nat.le_of_ble_eq_true rfl), (Nat.le_of_ble_eq_true rfl)⟩ (Nat.le_of_ble_eq_true rfl) dL_law_1490 (fun v28 U29 G30 hq => ?_)
  clear h
  · obtain ⟨r6, rfl, rfl, h⟩ := hq
    refine zr_istore C [(5, .int r6), (4, .int 0), (3, .ref o), (2, .ref md), (1, .ref x), (0, .ref b)] dL_law_1493 (by decide) rfl ?_
    refine zr_aload_n C 3 dL_law_1495 rfl rfl ?_
    refine zr_aload_n C 5 dL_law_1496 rfl rfl ?_
    refine zr_iload C 1 dL_law_1497 rfl ?_
    refine zr_iconst C 1 dL_law_1499 (by decide) ?_
    refine zr_iadd C dL_law_1500 ?_
    refine zr_eqi (y := 1) (by decide) ?_
    obtain ⟨hi8, x9, hv10, h⟩ := h
    refine zr_iald4 C rfl hT2 hi8 hv10 dL_law_1501 ?_
    obtain ⟨hT11, h⟩ := h
    refine zr_callV (As := [.int x9]) (r := (RX9, TX9, 6)) C (k_X9_many h) ok_L_172 zq_1499 zq_1500 hT11 (by decide) rfl rfl ⟨by decide, (Nat.le_of_ble_eq_true rfl)⟩ ⟨(Nat.le_of_ble_eq_true rfl), (Nat.le_of_ble_eq_true rfl)⟩ (Nat.le_of_ble_eq_true rfl) dL_law_1502 (fun v25 U26 G27 hq => ?_)
    clear h
    · obtain ⟨r12, rfl, h⟩ := hq
      skip
      refine zr_istore C [(6, .int r12), (5, .int r6), (4, .int 0), (3, .ref o), (2, .ref md), (1, .ref x), (0, .ref b)] dL_law_1505 (by decide) rfl ?_
      refine zr_aload_n C 4 dL_law_1507 rfl rfl ?_
      obtain ⟨hT15, h⟩ := h
      refine zr_callV (As := []) (r := (RX9, TX9, 6)) C (k_X9_thrown h) ok_L_111 zq_975 zq_976 hT15 (by decide) rfl rfl ⟨by decide, (Nat.le_of_ble_eq_true rfl)⟩ ⟨(Nat.le_of_ble_eq_true rfl), (Nat.le_of_ble_eq_true rfl)⟩ (Nat.le_of_ble_eq_true rfl) dL_law_1508 (fun v22 U23 G24 hq => ?_)
      clear h
      · obtain ⟨r16, rfl, rfl, rfl, h⟩ := hq
        refine zr_iload C 1 dL_law_1511 rfl ?_
        obtain ⟨h1, h2⟩ := h
        refine zr_icmp_eq C 1518 dL_law_1513 (by decide) (fun hc => ?_) (fun hc => ?_)
        · have h := h1 hc
          clear h1 h2
          refine zr_iload C 1 dL_law_1518 rfl ?_
          obtain ⟨h1, h2⟩ := h
          refine zr_if_ne C 1535 dL_law_1520 (by decide) (fun hc => ?_) (fun hc => ?_)
          · have h := h1 hc
            clear h1 h2
            refine zr_goto C 2033 dL_law_1535 (by decide) ?_
            exact zr_sub [2, 6] rfl (kl_end hr hN0 C (Nat.le_of_ble_eq_true rfl) (Nat.le_of_ble_eq_true rfl) h)
          · have h := h2 hc
            clear h1 h2
            refine zr_aload_n C 3 dL_law_1523 rfl rfl ?_
            refine zr_iconst C 0 dL_law_1524 (by decide) ?_
            obtain ⟨n17, hT18, hi19, x20, hv21, h⟩ := h
            refine zr_lald C rfl hT18 hi19 hv21 dL_law_1525 ?_
            refine zr_iload C 0 dL_law_1526 rfl ?_
            refine zr_i2l C dL_law_1528 ?_
            refine zr_lcmp C dL_law_1529 ?_
            obtain ⟨h1, h2⟩ := h
            refine zr_if_eq C 1535 dL_law_1530 (by decide) (fun hc => ?_) (fun hc => ?_)
            · have h := h1 hc
              clear h1 h2
              refine zr_goto C 2033 dL_law_1535 (by decide) ?_
              exact zr_sub [2, 6] rfl (kl_end hr hN0 C (Nat.le_of_ble_eq_true rfl) (Nat.le_of_ble_eq_true rfl) h)
            · have h := h2 hc
              clear h1 h2
              refine zr_iconst C 0 dL_law_1533 (by decide) ?_
              exact h.elim
        · have h := h2 hc
          clear h1 h2
          refine zr_iconst C 0 dL_law_1516 (by decide) ?_
          exact h.elim
def vl_19 (x : Nat) (md : Nat) (o : Nat) (b : Nat) (T : zT) (F : zF) : Prop :=
  (T x = some (7, 4) ∧ (v_X4_meanPrice x T F (fun (r2 : UInt64) => (T md = some (12, 6) ∧ (v_X9_meanPrice md T F (fun (r4 : UInt64) (T5 : zT) (F6 : zF) => (((Op.cmpValue (FP.dcmp r2 r4) .l) = 0 → (∃ L9 : Nat, T5 b = some (104, L9) ∧ L9 ≤ 7)) ∧ (¬ (Op.cmpValue (FP.dcmp r2 r4) .l) = 0 → (((Op.cmpValue (FP.dcmp r2 r2) .l) = 0 → False) ∧ (¬ (Op.cmpValue (FP.dcmp r2 r2) .l) = 0 → ((¬ (Op.cmpValue (FP.dcmp r4 r4) .l) = 0 → (∃ L9 : Nat, T5 b = some (104, L9) ∧ L9 ≤ 7)) ∧ ((Op.cmpValue (FP.dcmp r4 r4) .l) = 0 → False))))))))))))
set_option maxRecDepth 100000 in
set_option maxHeartbeats 4000000 in
theorem kl_19 {p : Program} {l : Launch} {e : Env} {s : State} {m : MethodId} {below : List Frame} {meth : Method} {c : Code} {D : va_G} {cA : Nat → ClassId} {N0 zE : Nat} {x : Nat} {md : Nat} {o : Nat} {b : Nat} {T : zT} {F : zF} (hr : meth.sig.returnType = ret) (hN0 : N0 = s.heap.size) (C : z_C p l s m #[Value.ref b] meth c RL cL_law 9 ret D cA N0 zE) (h : vl_19 x md o b T F) : z_w p l e room_1 s m #[Value.ref b] below meth c D cA N0 9 20 80 (lw_Z below #[Value.ref b] s) 1538 [(4, .int 0), (3, .ref o), (2, .ref md), (1, .ref x), (0, .ref b)] [] T F := by
  unfold vl_19 at h
  refine zr_aload_n C 3 dL_law_1538 rfl rfl ?_
  obtain ⟨hT1, h⟩ := h
  refine zr_callV (As := []) (r := (RX4, TX4, 4)) C (k_X4_meanPrice h) ok_L_173 zq_136 zq_137 hT1 (by decide) rfl rfl ⟨by decide, (Nat.le_of_ble_eq_true rfl)⟩ ⟨(Nat.le_of_ble_eq_true rfl), (Nat.le_of_ble_eq_true rfl)⟩ (Nat.le_of_ble_eq_true rfl) dL_law_1539 (fun v10 U11 G12 hq => ?_)
  clear h
  · obtain ⟨r2, rfl, rfl, rfl, h⟩ := hq
    refine zr_dstore C [(5, .double r2), (4, .int 0), (3, .ref o), (2, .ref md), (1, .ref x), (0, .ref b)] dL_law_1542 (by decide) rfl ?_
    refine zr_aload_n C 3 dL_law_1544 rfl rfl ?_
    obtain ⟨hT3, h⟩ := h
    refine zr_callV (As := []) (r := (RX9, TX9, 6)) C (k_X9_meanPrice h) ok_L_177 zq_1511 zq_1512 hT3 (by decide) rfl rfl ⟨by decide, (Nat.le_of_ble_eq_true rfl)⟩ ⟨(Nat.le_of_ble_eq_true rfl), (Nat.le_of_ble_eq_true rfl)⟩ (Nat.le_of_ble_eq_true rfl) dL_law_1545 (fun v7 U8 G9 hq => ?_)
    clear h
    · obtain ⟨r4, rfl, h⟩ := hq
      skip
      refine zr_dstore C [(7, .double r4), (5, .double r2), (4, .int 0), (3, .ref o), (2, .ref md), (1, .ref x), (0, .ref b)] dL_law_1548 (by decide) rfl ?_
      refine zr_dload C 1 dL_law_1550 rfl ?_
      refine zr_dload C 0 dL_law_1552 rfl ?_
      refine zr_dcmp C dL_law_1554 ?_
      obtain ⟨h1, h2⟩ := h
      refine zr_if_eq C 1576 dL_law_1555 (by decide) (fun hc => ?_) (fun hc => ?_)
      · have h := h1 hc
        clear h1 h2
        refine zr_goto C 2033 dL_law_1576 (by decide) ?_
        exact zr_sub [2, 6] rfl (kl_end hr hN0 C (Nat.le_of_ble_eq_true rfl) (Nat.le_of_ble_eq_true rfl) h)
      · have h := h2 hc
        clear h1 h2
        refine zr_dload C 1 dL_law_1558 rfl ?_
        refine zr_dload C 1 dL_law_1560 rfl ?_
        refine zr_dcmp C dL_law_1562 ?_
        obtain ⟨h1, h2⟩ := h
        refine zr_if_eq C 1574 dL_law_1563 (by decide) (fun hc => ?_) (fun hc => ?_)
        · have h := h1 hc
          clear h1 h2
          refine zr_iconst C 0 dL_law_1574 (by decide) ?_
          exact h.elim
        · have h := h2 hc
          clear h1 h2
          refine zr_dload C 0 dL_law_1566 rfl ?_
          refine zr_dload C 0 dL_law_1568 rfl ?_
          refine zr_dcmp C dL_law_1570 ?_
          obtain ⟨h1, h2⟩ := h
          refine zr_if_ne C 1576 dL_law_1571 (by decide) (fun hc => ?_) (fun hc => ?_)
          · have h := h1 hc
            clear h1 h2
            refine zr_goto C 2033 dL_law_1576 (by decide) ?_
            exact zr_sub [2, 6] rfl (kl_end hr hN0 C (Nat.le_of_ble_eq_true rfl) (Nat.le_of_ble_eq_true rfl) h)
          · have h := h2 hc
            clear h1 h2
            refine zr_iconst C 0 dL_law_1574 (by decide) ?_
            exact h.elim
def vl_20 (x : Nat) (md : Nat) (o : Nat) (b : Nat) (T : zT) (F : zF) : Prop :=
  (∃ n1 : Nat, T b = some (104, n1) ∧ vp_in 1 n1 ∧ ∃ x4 : Int32, F b (1 : Int32).toNatClampNeg = .int x4 ∧ vp_in 2 n1 ∧ ∃ x7 : Int32, F b (2 : Int32).toNatClampNeg = .int x7 ∧ vp_in 3 n1 ∧ ∃ x10 : Int32, F b (3 : Int32).toNatClampNeg = .int x10 ∧ (v_L_groups x x4 x7 x10 o T F (fun (r12 : Int32) (F13 : zF) => (vp_in 1 n1 ∧ ∃ x15 : Int32, F13 b (1 : Int32).toNatClampNeg = .int x15 ∧ vp_in 2 n1 ∧ ∃ x18 : Int32, F13 b (2 : Int32).toNatClampNeg = .int x18 ∧ vp_in 3 n1 ∧ ∃ x21 : Int32, F13 b (3 : Int32).toNatClampNeg = .int x21 ∧ T md = some (12, 6) ∧ (v_X9_groups md x15 x18 x21 T F13 (fun (r24 : Int32) (F25 : zF) => (v_X9_thrown md T F25 (fun (r26 : Int32) => ((r26 = r12 → ((¬ r12 = 0 → (∃ L9 : Nat, T b = some (104, L9) ∧ L9 ≤ 7)) ∧ (r12 = 0 → (∃ n27 : Nat, T o = some (103, n27) ∧ vp_in 0 n27 ∧ ∃ x30 : Int64, F25 o (0 : Int32).toNatClampNeg = .long x30 ∧ (((lg_cmp x30 r24.toInt64) = 0 → (∃ L9 : Nat, T b = some (104, L9) ∧ L9 ≤ 7)) ∧ (¬ (lg_cmp x30 r24.toInt64) = 0 → False)))))) ∧ (¬ r26 = r12 → False))))))))))
set_option maxRecDepth 100000 in
set_option maxHeartbeats 4000000 in
theorem kl_20 {p : Program} {l : Launch} {e : Env} {s : State} {m : MethodId} {below : List Frame} {meth : Method} {c : Code} {D : va_G} {cA : Nat → ClassId} {N0 zE : Nat} {x : Nat} {md : Nat} {o : Nat} {b : Nat} {T : zT} {F : zF} (hr : meth.sig.returnType = ret) (hN0 : N0 = s.heap.size) (C : z_C p l s m #[Value.ref b] meth c RL cL_law 9 ret D cA N0 zE) (h : vl_20 x md o b T F) : z_w p l e room_1 s m #[Value.ref b] below meth c D cA N0 9 20 80 (lw_Z below #[Value.ref b] s) 1579 [(4, .int 0), (3, .ref o), (2, .ref md), (1, .ref x), (0, .ref b)] [] T F := by
  unfold vl_20 at h
  refine zr_aload_n C 3 dL_law_1579 rfl rfl ?_
  refine zr_aload_n C 4 dL_law_1580 rfl rfl ?_
  refine zr_iload C 0 dL_law_1581 rfl ?_
  refine zr_iconst C 1 dL_law_1583 (by decide) ?_
  refine zr_iadd C dL_law_1584 ?_
  refine zr_eqi (y := 1) (by decide) ?_
  obtain ⟨n1, hT2, hi3, x4, hv5, h⟩ := h
  refine zr_iald4 C rfl hT2 hi3 hv5 dL_law_1585 ?_
  refine zr_aload_n C 4 dL_law_1586 rfl rfl ?_
  refine zr_iload C 0 dL_law_1587 rfl ?_
  refine zr_iconst C 2 dL_law_1589 (by decide) ?_
  refine zr_iadd C dL_law_1590 ?_
  refine zr_eqi (y := 2) (by decide) ?_
  obtain ⟨hi6, x7, hv8, h⟩ := h
  refine zr_iald4 C rfl hT2 hi6 hv8 dL_law_1591 ?_
  refine zr_aload_n C 4 dL_law_1592 rfl rfl ?_
  refine zr_iload C 0 dL_law_1593 rfl ?_
  refine zr_iconst C 3 dL_law_1595 (by decide) ?_
  refine zr_iadd C dL_law_1596 ?_
  refine zr_eqi (y := 3) (by decide) ?_
  obtain ⟨hi9, x10, hv11, h⟩ := h
  refine zr_iald4 C rfl hT2 hi9 hv11 dL_law_1597 ?_
  refine zr_aload_n C 1 dL_law_1598 rfl rfl ?_
  refine zr_callSH (As := [.ref x, .int x4, .int x7, .int x10, .ref o]) C (k_L_groups h) ok_L_178 zq_887 rfl ⟨by decide, (Nat.le_of_ble_eq_true rfl)⟩ ⟨(Nat.le_of_ble_eq_true rfl), (Nat.le_of_ble_eq_true rfl)⟩ (Nat.le_of_ble_eq_true rfl) dL_law_1599 (fun v38 U39 G40 hq => ?_)
  clear h
  · obtain ⟨r12, rfl, rfl, h⟩ := hq
    refine zr_istore C [(5, .int r12), (4, .int 0), (3, .ref o), (2, .ref md), (1, .ref x), (0, .ref b)] dL_law_1602 (by decide) rfl ?_
    refine zr_aload_n C 3 dL_law_1604 rfl rfl ?_
    refine zr_aload_n C 5 dL_law_1605 rfl rfl ?_
    refine zr_iload C 1 dL_law_1606 rfl ?_
    refine zr_iconst C 1 dL_law_1608 (by decide) ?_
    refine zr_iadd C dL_law_1609 ?_
    refine zr_eqi (y := 1) (by decide) ?_
    obtain ⟨hi14, x15, hv16, h⟩ := h
    refine zr_iald4 C rfl hT2 hi14 hv16 dL_law_1610 ?_
    refine zr_aload_n C 5 dL_law_1611 rfl rfl ?_
    refine zr_iload C 1 dL_law_1612 rfl ?_
    refine zr_iconst C 2 dL_law_1614 (by decide) ?_
    refine zr_iadd C dL_law_1615 ?_
    refine zr_eqi (y := 2) (by decide) ?_
    obtain ⟨hi17, x18, hv19, h⟩ := h
    refine zr_iald4 C rfl hT2 hi17 hv19 dL_law_1616 ?_
    refine zr_aload_n C 5 dL_law_1617 rfl rfl ?_
    refine zr_iload C 1 dL_law_1618 rfl ?_
    refine zr_iconst C 3 dL_law_1620 (by decide) ?_
    refine zr_iadd C dL_law_1621 ?_
    refine zr_eqi (y := 3) (by decide) ?_
    obtain ⟨hi20, x21, hv22, h⟩ := h
    refine zr_iald4 C rfl hT2 hi20 hv22 dL_law_1622 ?_
    obtain ⟨hT23, h⟩ := h
    refine zr_callV (As := [.int x15, .int x18, .int x21]) (r := (RX9, TX9, 6)) C (k_X9_groups h) ok_L_180 zq_1519 zq_1520 hT23 (by decide) rfl rfl ⟨by decide, (Nat.le_of_ble_eq_true rfl)⟩ ⟨(Nat.le_of_ble_eq_true rfl), (Nat.le_of_ble_eq_true rfl)⟩ (Nat.le_of_ble_eq_true rfl) dL_law_1623 (fun v35 U36 G37 hq => ?_)
    clear h
    · obtain ⟨r24, rfl, rfl, h⟩ := hq
      refine zr_istore C [(6, .int r24), (5, .int r12), (4, .int 0), (3, .ref o), (2, .ref md), (1, .ref x), (0, .ref b)] dL_law_1626 (by decide) rfl ?_
      refine zr_aload_n C 4 dL_law_1628 rfl rfl ?_
      refine zr_callV (As := []) (r := (RX9, TX9, 6)) C (k_X9_thrown h) ok_L_111 zq_975 zq_976 hT23 (by decide) rfl rfl ⟨by decide, (Nat.le_of_ble_eq_true rfl)⟩ ⟨(Nat.le_of_ble_eq_true rfl), (Nat.le_of_ble_eq_true rfl)⟩ (Nat.le_of_ble_eq_true rfl) dL_law_1629 (fun v32 U33 G34 hq => ?_)
      clear h
      · obtain ⟨r26, rfl, rfl, rfl, h⟩ := hq
        refine zr_iload C 1 dL_law_1632 rfl ?_
        obtain ⟨h1, h2⟩ := h
        refine zr_icmp_eq C 1639 dL_law_1634 (by decide) (fun hc => ?_) (fun hc => ?_)
        · have h := h1 hc
          clear h1 h2
          refine zr_iload C 1 dL_law_1639 rfl ?_
          obtain ⟨h1, h2⟩ := h
          refine zr_if_ne C 1656 dL_law_1641 (by decide) (fun hc => ?_) (fun hc => ?_)
          · have h := h1 hc
            clear h1 h2
            refine zr_goto C 2033 dL_law_1656 (by decide) ?_
            exact zr_sub [2, 6] rfl (kl_end hr hN0 C (Nat.le_of_ble_eq_true rfl) (Nat.le_of_ble_eq_true rfl) h)
          · have h := h2 hc
            clear h1 h2
            refine zr_aload_n C 3 dL_law_1644 rfl rfl ?_
            refine zr_iconst C 0 dL_law_1645 (by decide) ?_
            obtain ⟨n27, hT28, hi29, x30, hv31, h⟩ := h
            refine zr_lald C rfl hT28 hi29 hv31 dL_law_1646 ?_
            refine zr_iload C 0 dL_law_1647 rfl ?_
            refine zr_i2l C dL_law_1649 ?_
            refine zr_lcmp C dL_law_1650 ?_
            obtain ⟨h1, h2⟩ := h
            refine zr_if_eq C 1656 dL_law_1651 (by decide) (fun hc => ?_) (fun hc => ?_)
            · have h := h1 hc
              clear h1 h2
              refine zr_goto C 2033 dL_law_1656 (by decide) ?_
              exact zr_sub [2, 6] rfl (kl_end hr hN0 C (Nat.le_of_ble_eq_true rfl) (Nat.le_of_ble_eq_true rfl) h)
            · have h := h2 hc
              clear h1 h2
              refine zr_iconst C 0 dL_law_1654 (by decide) ?_
              exact h.elim
        · have h := h2 hc
          clear h1 h2
          refine zr_iconst C 0 dL_law_1637 (by decide) ?_
          exact h.elim
def vl_21 (x : Nat) (md : Nat) (o : Nat) (b : Nat) (T : zT) (F : zF) : Prop :=
  (∃ n1 : Nat, T b = some (104, n1) ∧ vp_in 1 n1 ∧ ∃ x4 : Int32, F b (1 : Int32).toNatClampNeg = .int x4 ∧ (v_L_reach x x4 o T F (fun (r6 : Int32) (F7 : zF) => (vp_in 1 n1 ∧ ∃ x9 : Int32, F7 b (1 : Int32).toNatClampNeg = .int x9 ∧ T md = some (12, 6) ∧ (v_X9_reach md x9 T F7 (fun (r12 : Int32) (T13 : zT) (F14 : zF) => (T13 md = some (12, 6) ∧ (v_X9_thrown md T13 F14 (fun (r16 : Int32) => ((r16 = r6 → ((¬ r6 = 0 → (∃ L9 : Nat, T13 b = some (104, L9) ∧ L9 ≤ 7)) ∧ (r6 = 0 → (∃ n17 : Nat, T13 o = some (103, n17) ∧ vp_in 0 n17 ∧ ∃ x20 : Int64, F14 o (0 : Int32).toNatClampNeg = .long x20 ∧ (((lg_cmp x20 r12.toInt64) = 0 → (∃ L9 : Nat, T13 b = some (104, L9) ∧ L9 ≤ 7)) ∧ (¬ (lg_cmp x20 r12.toInt64) = 0 → False)))))) ∧ (¬ r16 = r6 → False)))))))))))
set_option maxRecDepth 100000 in
set_option maxHeartbeats 4000000 in
theorem kl_21 {p : Program} {l : Launch} {e : Env} {s : State} {m : MethodId} {below : List Frame} {meth : Method} {c : Code} {D : va_G} {cA : Nat → ClassId} {N0 zE : Nat} {x : Nat} {md : Nat} {o : Nat} {b : Nat} {T : zT} {F : zF} (hr : meth.sig.returnType = ret) (hN0 : N0 = s.heap.size) (C : z_C p l s m #[Value.ref b] meth c RL cL_law 9 ret D cA N0 zE) (h : vl_21 x md o b T F) : z_w p l e room_1 s m #[Value.ref b] below meth c D cA N0 9 20 80 (lw_Z below #[Value.ref b] s) 1659 [(4, .int 0), (3, .ref o), (2, .ref md), (1, .ref x), (0, .ref b)] [] T F := by
  unfold vl_21 at h
  refine zr_aload_n C 3 dL_law_1659 rfl rfl ?_
  refine zr_aload_n C 4 dL_law_1660 rfl rfl ?_
  refine zr_iload C 0 dL_law_1661 rfl ?_
  refine zr_iconst C 1 dL_law_1663 (by decide) ?_
  refine zr_iadd C dL_law_1664 ?_
  refine zr_eqi (y := 1) (by decide) ?_
  obtain ⟨n1, hT2, hi3, x4, hv5, h⟩ := h
  refine zr_iald4 C rfl hT2 hi3 hv5 dL_law_1665 ?_
  refine zr_aload_n C 1 dL_law_1666 rfl rfl ?_
  refine zr_callSH (As := [.ref x, .int x4, .ref o]) C (k_L_reach h) ok_L_181 zq_895 rfl ⟨by decide, (Nat.le_of_ble_eq_true rfl)⟩ ⟨(Nat.le_of_ble_eq_true rfl), (Nat.le_of_ble_eq_true rfl)⟩ (Nat.le_of_ble_eq_true rfl) dL_law_1667 (fun v28 U29 G30 hq => ?_)
  clear h
  · obtain ⟨r6, rfl, rfl, h⟩ := hq
    refine zr_istore C [(5, .int r6), (4, .int 0), (3, .ref o), (2, .ref md), (1, .ref x), (0, .ref b)] dL_law_1670 (by decide) rfl ?_
    refine zr_aload_n C 3 dL_law_1672 rfl rfl ?_
    refine zr_aload_n C 5 dL_law_1673 rfl rfl ?_
    refine zr_iload C 1 dL_law_1674 rfl ?_
    refine zr_iconst C 1 dL_law_1676 (by decide) ?_
    refine zr_iadd C dL_law_1677 ?_
    refine zr_eqi (y := 1) (by decide) ?_
    obtain ⟨hi8, x9, hv10, h⟩ := h
    refine zr_iald4 C rfl hT2 hi8 hv10 dL_law_1678 ?_
    obtain ⟨hT11, h⟩ := h
    refine zr_callV (As := [.int x9]) (r := (RX9, TX9, 6)) C (k_X9_reach h) ok_L_183 zq_1523 zq_1524 hT11 (by decide) rfl rfl ⟨by decide, (Nat.le_of_ble_eq_true rfl)⟩ ⟨(Nat.le_of_ble_eq_true rfl), (Nat.le_of_ble_eq_true rfl)⟩ (Nat.le_of_ble_eq_true rfl) dL_law_1679 (fun v25 U26 G27 hq => ?_)
    clear h
    · obtain ⟨r12, rfl, h⟩ := hq
      skip
      refine zr_istore C [(6, .int r12), (5, .int r6), (4, .int 0), (3, .ref o), (2, .ref md), (1, .ref x), (0, .ref b)] dL_law_1682 (by decide) rfl ?_
      refine zr_aload_n C 4 dL_law_1684 rfl rfl ?_
      obtain ⟨hT15, h⟩ := h
      refine zr_callV (As := []) (r := (RX9, TX9, 6)) C (k_X9_thrown h) ok_L_111 zq_975 zq_976 hT15 (by decide) rfl rfl ⟨by decide, (Nat.le_of_ble_eq_true rfl)⟩ ⟨(Nat.le_of_ble_eq_true rfl), (Nat.le_of_ble_eq_true rfl)⟩ (Nat.le_of_ble_eq_true rfl) dL_law_1685 (fun v22 U23 G24 hq => ?_)
      clear h
      · obtain ⟨r16, rfl, rfl, rfl, h⟩ := hq
        refine zr_iload C 1 dL_law_1688 rfl ?_
        obtain ⟨h1, h2⟩ := h
        refine zr_icmp_eq C 1695 dL_law_1690 (by decide) (fun hc => ?_) (fun hc => ?_)
        · have h := h1 hc
          clear h1 h2
          refine zr_iload C 1 dL_law_1695 rfl ?_
          obtain ⟨h1, h2⟩ := h
          refine zr_if_ne C 1712 dL_law_1697 (by decide) (fun hc => ?_) (fun hc => ?_)
          · have h := h1 hc
            clear h1 h2
            refine zr_goto C 2033 dL_law_1712 (by decide) ?_
            exact zr_sub [2, 6] rfl (kl_end hr hN0 C (Nat.le_of_ble_eq_true rfl) (Nat.le_of_ble_eq_true rfl) h)
          · have h := h2 hc
            clear h1 h2
            refine zr_aload_n C 3 dL_law_1700 rfl rfl ?_
            refine zr_iconst C 0 dL_law_1701 (by decide) ?_
            obtain ⟨n17, hT18, hi19, x20, hv21, h⟩ := h
            refine zr_lald C rfl hT18 hi19 hv21 dL_law_1702 ?_
            refine zr_iload C 0 dL_law_1703 rfl ?_
            refine zr_i2l C dL_law_1705 ?_
            refine zr_lcmp C dL_law_1706 ?_
            obtain ⟨h1, h2⟩ := h
            refine zr_if_eq C 1712 dL_law_1707 (by decide) (fun hc => ?_) (fun hc => ?_)
            · have h := h1 hc
              clear h1 h2
              refine zr_goto C 2033 dL_law_1712 (by decide) ?_
              exact zr_sub [2, 6] rfl (kl_end hr hN0 C (Nat.le_of_ble_eq_true rfl) (Nat.le_of_ble_eq_true rfl) h)
            · have h := h2 hc
              clear h1 h2
              refine zr_iconst C 0 dL_law_1710 (by decide) ?_
              exact h.elim
        · have h := h2 hc
          clear h1 h2
          refine zr_iconst C 0 dL_law_1693 (by decide) ?_
          exact h.elim
def vl_22 (x : Nat) (md : Nat) (o : Nat) (b : Nat) (T : zT) (F : zF) : Prop :=
  (∃ n1 : Nat, T b = some (104, n1) ∧ vp_in 1 n1 ∧ ∃ x4 : Int32, F b (1 : Int32).toNatClampNeg = .int x4 ∧ vp_in 2 n1 ∧ ∃ x7 : Int32, F b (2 : Int32).toNatClampNeg = .int x7 ∧ vp_in 3 n1 ∧ ∃ x10 : Int32, F b (3 : Int32).toNatClampNeg = .int x10 ∧ (v_L_price x x4 x7 x10 o T F (fun (r12 : Int32) (F13 : zF) => (vp_in 1 n1 ∧ ∃ x15 : Int32, F13 b (1 : Int32).toNatClampNeg = .int x15 ∧ vp_in 2 n1 ∧ ∃ x18 : Int32, F13 b (2 : Int32).toNatClampNeg = .int x18 ∧ vp_in 3 n1 ∧ ∃ x21 : Int32, F13 b (3 : Int32).toNatClampNeg = .int x21 ∧ T md = some (12, 6) ∧ (v_X9_price md x15 x18 x21 T F13 (fun (r24 : Int32) (F25 : zF) => (v_X9_thrown md T F25 (fun (r26 : Int32) => ((r26 = r12 → ((¬ r12 = 0 → (∃ L9 : Nat, T b = some (104, L9) ∧ L9 ≤ 7)) ∧ (r12 = 0 → (∃ n27 : Nat, T o = some (103, n27) ∧ vp_in 0 n27 ∧ ∃ x30 : Int64, F25 o (0 : Int32).toNatClampNeg = .long x30 ∧ (((lg_cmp x30 r24.toInt64) = 0 → (∃ L9 : Nat, T b = some (104, L9) ∧ L9 ≤ 7)) ∧ (¬ (lg_cmp x30 r24.toInt64) = 0 → False)))))) ∧ (¬ r26 = r12 → False))))))))))
set_option maxRecDepth 100000 in
set_option maxHeartbeats 4000000 in
theorem kl_22 {p : Program} {l : Launch} {e : Env} {s : State} {m : MethodId} {below : List Frame} {meth : Method} {c : Code} {D : va_G} {cA : Nat → ClassId} {N0 zE : Nat} {x : Nat} {md : Nat} {o : Nat} {b : Nat} {T : zT} {F : zF} (hr : meth.sig.returnType = ret) (hN0 : N0 = s.heap.size) (C : z_C p l s m #[Value.ref b] meth c RL cL_law 9 ret D cA N0 zE) (h : vl_22 x md o b T F) : z_w p l e room_1 s m #[Value.ref b] below meth c D cA N0 9 20 80 (lw_Z below #[Value.ref b] s) 1715 [(4, .int 0), (3, .ref o), (2, .ref md), (1, .ref x), (0, .ref b)] [] T F := by
  unfold vl_22 at h
  refine zr_aload_n C 3 dL_law_1715 rfl rfl ?_
  refine zr_aload_n C 4 dL_law_1716 rfl rfl ?_
  refine zr_iload C 0 dL_law_1717 rfl ?_
  refine zr_iconst C 1 dL_law_1719 (by decide) ?_
  refine zr_iadd C dL_law_1720 ?_
  refine zr_eqi (y := 1) (by decide) ?_
  obtain ⟨n1, hT2, hi3, x4, hv5, h⟩ := h
  refine zr_iald4 C rfl hT2 hi3 hv5 dL_law_1721 ?_
  refine zr_aload_n C 4 dL_law_1722 rfl rfl ?_
  refine zr_iload C 0 dL_law_1723 rfl ?_
  refine zr_iconst C 2 dL_law_1725 (by decide) ?_
  refine zr_iadd C dL_law_1726 ?_
  refine zr_eqi (y := 2) (by decide) ?_
  obtain ⟨hi6, x7, hv8, h⟩ := h
  refine zr_iald4 C rfl hT2 hi6 hv8 dL_law_1727 ?_
  refine zr_aload_n C 4 dL_law_1728 rfl rfl ?_
  refine zr_iload C 0 dL_law_1729 rfl ?_
  refine zr_iconst C 3 dL_law_1731 (by decide) ?_
  refine zr_iadd C dL_law_1732 ?_
  refine zr_eqi (y := 3) (by decide) ?_
  obtain ⟨hi9, x10, hv11, h⟩ := h
  refine zr_iald4 C rfl hT2 hi9 hv11 dL_law_1733 ?_
  refine zr_aload_n C 1 dL_law_1734 rfl rfl ?_
  refine zr_callSH (As := [.ref x, .int x4, .int x7, .int x10, .ref o]) C (k_L_price h) ok_L_184 zq_899 rfl ⟨by decide, (Nat.le_of_ble_eq_true rfl)⟩ ⟨(Nat.le_of_ble_eq_true rfl), (Nat.le_of_ble_eq_true rfl)⟩ (Nat.le_of_ble_eq_true rfl) dL_law_1735 (fun v38 U39 G40 hq => ?_)
  clear h
  · obtain ⟨r12, rfl, rfl, h⟩ := hq
    refine zr_istore C [(5, .int r12), (4, .int 0), (3, .ref o), (2, .ref md), (1, .ref x), (0, .ref b)] dL_law_1738 (by decide) rfl ?_
    refine zr_aload_n C 3 dL_law_1740 rfl rfl ?_
    refine zr_aload_n C 5 dL_law_1741 rfl rfl ?_
    refine zr_iload C 1 dL_law_1742 rfl ?_
    refine zr_iconst C 1 dL_law_1744 (by decide) ?_
    refine zr_iadd C dL_law_1745 ?_
    refine zr_eqi (y := 1) (by decide) ?_
    obtain ⟨hi14, x15, hv16, h⟩ := h
    refine zr_iald4 C rfl hT2 hi14 hv16 dL_law_1746 ?_
    refine zr_aload_n C 5 dL_law_1747 rfl rfl ?_
    refine zr_iload C 1 dL_law_1748 rfl ?_
    refine zr_iconst C 2 dL_law_1750 (by decide) ?_
    refine zr_iadd C dL_law_1751 ?_
    refine zr_eqi (y := 2) (by decide) ?_
    obtain ⟨hi17, x18, hv19, h⟩ := h
    refine zr_iald4 C rfl hT2 hi17 hv19 dL_law_1752 ?_
    refine zr_aload_n C 5 dL_law_1753 rfl rfl ?_
    refine zr_iload C 1 dL_law_1754 rfl ?_
    refine zr_iconst C 3 dL_law_1756 (by decide) ?_
    refine zr_iadd C dL_law_1757 ?_
    refine zr_eqi (y := 3) (by decide) ?_
    obtain ⟨hi20, x21, hv22, h⟩ := h
    refine zr_iald4 C rfl hT2 hi20 hv22 dL_law_1758 ?_
    obtain ⟨hT23, h⟩ := h
    refine zr_callV (As := [.int x15, .int x18, .int x21]) (r := (RX9, TX9, 6)) C (k_X9_price h) ok_L_186 zq_1532 zq_1533 hT23 (by decide) rfl rfl ⟨by decide, (Nat.le_of_ble_eq_true rfl)⟩ ⟨(Nat.le_of_ble_eq_true rfl), (Nat.le_of_ble_eq_true rfl)⟩ (Nat.le_of_ble_eq_true rfl) dL_law_1759 (fun v35 U36 G37 hq => ?_)
    clear h
    · obtain ⟨r24, rfl, rfl, h⟩ := hq
      refine zr_istore C [(6, .int r24), (5, .int r12), (4, .int 0), (3, .ref o), (2, .ref md), (1, .ref x), (0, .ref b)] dL_law_1762 (by decide) rfl ?_
      refine zr_aload_n C 4 dL_law_1764 rfl rfl ?_
      refine zr_callV (As := []) (r := (RX9, TX9, 6)) C (k_X9_thrown h) ok_L_111 zq_975 zq_976 hT23 (by decide) rfl rfl ⟨by decide, (Nat.le_of_ble_eq_true rfl)⟩ ⟨(Nat.le_of_ble_eq_true rfl), (Nat.le_of_ble_eq_true rfl)⟩ (Nat.le_of_ble_eq_true rfl) dL_law_1765 (fun v32 U33 G34 hq => ?_)
      clear h
      · obtain ⟨r26, rfl, rfl, rfl, h⟩ := hq
        refine zr_iload C 1 dL_law_1768 rfl ?_
        obtain ⟨h1, h2⟩ := h
        refine zr_icmp_eq C 1775 dL_law_1770 (by decide) (fun hc => ?_) (fun hc => ?_)
        · have h := h1 hc
          clear h1 h2
          refine zr_iload C 1 dL_law_1775 rfl ?_
          obtain ⟨h1, h2⟩ := h
          refine zr_if_ne C 1792 dL_law_1777 (by decide) (fun hc => ?_) (fun hc => ?_)
          · have h := h1 hc
            clear h1 h2
            refine zr_goto C 2033 dL_law_1792 (by decide) ?_
            exact zr_sub [2, 6] rfl (kl_end hr hN0 C (Nat.le_of_ble_eq_true rfl) (Nat.le_of_ble_eq_true rfl) h)
          · have h := h2 hc
            clear h1 h2
            refine zr_aload_n C 3 dL_law_1780 rfl rfl ?_
            refine zr_iconst C 0 dL_law_1781 (by decide) ?_
            obtain ⟨n27, hT28, hi29, x30, hv31, h⟩ := h
            refine zr_lald C rfl hT28 hi29 hv31 dL_law_1782 ?_
            refine zr_iload C 0 dL_law_1783 rfl ?_
            refine zr_i2l C dL_law_1785 ?_
            refine zr_lcmp C dL_law_1786 ?_
            obtain ⟨h1, h2⟩ := h
            refine zr_if_eq C 1792 dL_law_1787 (by decide) (fun hc => ?_) (fun hc => ?_)
            · have h := h1 hc
              clear h1 h2
              refine zr_goto C 2033 dL_law_1792 (by decide) ?_
              exact zr_sub [2, 6] rfl (kl_end hr hN0 C (Nat.le_of_ble_eq_true rfl) (Nat.le_of_ble_eq_true rfl) h)
            · have h := h2 hc
              clear h1 h2
              refine zr_iconst C 0 dL_law_1790 (by decide) ?_
              exact h.elim
        · have h := h2 hc
          clear h1 h2
          refine zr_iconst C 0 dL_law_1773 (by decide) ?_
          exact h.elim
def vl_23 (x : Nat) (md : Nat) (o : Nat) (b : Nat) (T : zT) (F : zF) : Prop :=
  (∃ n1 : Nat, T b = some (104, n1) ∧ vp_in 1 n1 ∧ ∃ x4 : Int32, F b (1 : Int32).toNatClampNeg = .int x4 ∧ (v_L_swapFor x x4 o T F (fun (r6 : Int32) (F7 : zF) => (vp_in 1 n1 ∧ ∃ x9 : Int32, F7 b (1 : Int32).toNatClampNeg = .int x9 ∧ T md = some (12, 6) ∧ (v_X9_swapFor md x9 T F7 (fun (r12 : Int32) (F13 : zF) => (v_X9_thrown md T F13 (fun (r14 : Int32) => ((r14 = r6 → ((¬ r6 = 0 → (∃ L9 : Nat, T b = some (104, L9) ∧ L9 ≤ 7)) ∧ (r6 = 0 → (∃ n15 : Nat, T o = some (103, n15) ∧ vp_in 0 n15 ∧ ∃ x18 : Int64, F13 o (0 : Int32).toNatClampNeg = .long x18 ∧ (((lg_cmp x18 r12.toInt64) = 0 → (∃ L9 : Nat, T b = some (104, L9) ∧ L9 ≤ 7)) ∧ (¬ (lg_cmp x18 r12.toInt64) = 0 → False)))))) ∧ (¬ r14 = r6 → False))))))))))
set_option maxRecDepth 100000 in
set_option maxHeartbeats 4000000 in
theorem kl_23 {p : Program} {l : Launch} {e : Env} {s : State} {m : MethodId} {below : List Frame} {meth : Method} {c : Code} {D : va_G} {cA : Nat → ClassId} {N0 zE : Nat} {x : Nat} {md : Nat} {o : Nat} {b : Nat} {T : zT} {F : zF} (hr : meth.sig.returnType = ret) (hN0 : N0 = s.heap.size) (C : z_C p l s m #[Value.ref b] meth c RL cL_law 9 ret D cA N0 zE) (h : vl_23 x md o b T F) : z_w p l e room_1 s m #[Value.ref b] below meth c D cA N0 9 20 80 (lw_Z below #[Value.ref b] s) 1795 [(4, .int 0), (3, .ref o), (2, .ref md), (1, .ref x), (0, .ref b)] [] T F := by
  unfold vl_23 at h
  refine zr_aload_n C 3 dL_law_1795 rfl rfl ?_
  refine zr_aload_n C 4 dL_law_1796 rfl rfl ?_
  refine zr_iload C 0 dL_law_1797 rfl ?_
  refine zr_iconst C 1 dL_law_1799 (by decide) ?_
  refine zr_iadd C dL_law_1800 ?_
  refine zr_eqi (y := 1) (by decide) ?_
  obtain ⟨n1, hT2, hi3, x4, hv5, h⟩ := h
  refine zr_iald4 C rfl hT2 hi3 hv5 dL_law_1801 ?_
  refine zr_aload_n C 1 dL_law_1802 rfl rfl ?_
  refine zr_callSH (As := [.ref x, .int x4, .ref o]) C (k_L_swapFor h) ok_L_187 zq_906 rfl ⟨by decide, (Nat.le_of_ble_eq_true rfl)⟩ ⟨(Nat.le_of_ble_eq_true rfl), (Nat.le_of_ble_eq_true rfl)⟩ (Nat.le_of_ble_eq_true rfl) dL_law_1803 (fun v26 U27 G28 hq => ?_)
  clear h
  · obtain ⟨r6, rfl, rfl, h⟩ := hq
    refine zr_istore C [(5, .int r6), (4, .int 0), (3, .ref o), (2, .ref md), (1, .ref x), (0, .ref b)] dL_law_1806 (by decide) rfl ?_
    refine zr_aload_n C 3 dL_law_1808 rfl rfl ?_
    refine zr_aload_n C 5 dL_law_1809 rfl rfl ?_
    refine zr_iload C 1 dL_law_1810 rfl ?_
    refine zr_iconst C 1 dL_law_1812 (by decide) ?_
    refine zr_iadd C dL_law_1813 ?_
    refine zr_eqi (y := 1) (by decide) ?_
    obtain ⟨hi8, x9, hv10, h⟩ := h
    refine zr_iald4 C rfl hT2 hi8 hv10 dL_law_1814 ?_
    obtain ⟨hT11, h⟩ := h
    refine zr_callV (As := [.int x9]) (r := (RX9, TX9, 6)) C (k_X9_swapFor h) ok_L_189 zq_1536 zq_1537 hT11 (by decide) rfl rfl ⟨by decide, (Nat.le_of_ble_eq_true rfl)⟩ ⟨(Nat.le_of_ble_eq_true rfl), (Nat.le_of_ble_eq_true rfl)⟩ (Nat.le_of_ble_eq_true rfl) dL_law_1815 (fun v23 U24 G25 hq => ?_)
    clear h
    · obtain ⟨r12, rfl, rfl, h⟩ := hq
      refine zr_istore C [(6, .int r12), (5, .int r6), (4, .int 0), (3, .ref o), (2, .ref md), (1, .ref x), (0, .ref b)] dL_law_1818 (by decide) rfl ?_
      refine zr_aload_n C 4 dL_law_1820 rfl rfl ?_
      refine zr_callV (As := []) (r := (RX9, TX9, 6)) C (k_X9_thrown h) ok_L_111 zq_975 zq_976 hT11 (by decide) rfl rfl ⟨by decide, (Nat.le_of_ble_eq_true rfl)⟩ ⟨(Nat.le_of_ble_eq_true rfl), (Nat.le_of_ble_eq_true rfl)⟩ (Nat.le_of_ble_eq_true rfl) dL_law_1821 (fun v20 U21 G22 hq => ?_)
      clear h
      · obtain ⟨r14, rfl, rfl, rfl, h⟩ := hq
        refine zr_iload C 1 dL_law_1824 rfl ?_
        obtain ⟨h1, h2⟩ := h
        refine zr_icmp_eq C 1831 dL_law_1826 (by decide) (fun hc => ?_) (fun hc => ?_)
        · have h := h1 hc
          clear h1 h2
          refine zr_iload C 1 dL_law_1831 rfl ?_
          obtain ⟨h1, h2⟩ := h
          refine zr_if_ne C 1848 dL_law_1833 (by decide) (fun hc => ?_) (fun hc => ?_)
          · have h := h1 hc
            clear h1 h2
            refine zr_goto C 2033 dL_law_1848 (by decide) ?_
            exact zr_sub [2, 6] rfl (kl_end hr hN0 C (Nat.le_of_ble_eq_true rfl) (Nat.le_of_ble_eq_true rfl) h)
          · have h := h2 hc
            clear h1 h2
            refine zr_aload_n C 3 dL_law_1836 rfl rfl ?_
            refine zr_iconst C 0 dL_law_1837 (by decide) ?_
            obtain ⟨n15, hT16, hi17, x18, hv19, h⟩ := h
            refine zr_lald C rfl hT16 hi17 hv19 dL_law_1838 ?_
            refine zr_iload C 0 dL_law_1839 rfl ?_
            refine zr_i2l C dL_law_1841 ?_
            refine zr_lcmp C dL_law_1842 ?_
            obtain ⟨h1, h2⟩ := h
            refine zr_if_eq C 1848 dL_law_1843 (by decide) (fun hc => ?_) (fun hc => ?_)
            · have h := h1 hc
              clear h1 h2
              refine zr_goto C 2033 dL_law_1848 (by decide) ?_
              exact zr_sub [2, 6] rfl (kl_end hr hN0 C (Nat.le_of_ble_eq_true rfl) (Nat.le_of_ble_eq_true rfl) h)
            · have h := h2 hc
              clear h1 h2
              refine zr_iconst C 0 dL_law_1846 (by decide) ?_
              exact h.elim
        · have h := h2 hc
          clear h1 h2
          refine zr_iconst C 0 dL_law_1829 (by decide) ?_
          exact h.elim
def vl_24 (x : Nat) (md : Nat) (o : Nat) (b : Nat) (T : zT) (F : zF) : Prop :=
  (∃ n1 : Nat, T b = some (104, n1) ∧ vp_in 1 n1 ∧ ∃ x4 : Int32, F b (1 : Int32).toNatClampNeg = .int x4 ∧ (v_L_offIn x x4 o T F (fun (r6 : Int32) (F7 : zF) => (vp_in 1 n1 ∧ ∃ x9 : Int32, F7 b (1 : Int32).toNatClampNeg = .int x9 ∧ T md = some (12, 6) ∧ (v_X9_offIn md x9 T F7 (fun (r12 : Int32) (F13 : zF) => (v_X9_thrown md T F13 (fun (r14 : Int32) => ((r14 = r6 → ((¬ r6 = 0 → (∃ L9 : Nat, T b = some (104, L9) ∧ L9 ≤ 7)) ∧ (r6 = 0 → (∃ n15 : Nat, T o = some (103, n15) ∧ vp_in 0 n15 ∧ ∃ x18 : Int64, F13 o (0 : Int32).toNatClampNeg = .long x18 ∧ (((lg_cmp x18 r12.toInt64) = 0 → (∃ L9 : Nat, T b = some (104, L9) ∧ L9 ≤ 7)) ∧ (¬ (lg_cmp x18 r12.toInt64) = 0 → False)))))) ∧ (¬ r14 = r6 → False))))))))))
set_option maxRecDepth 100000 in
set_option maxHeartbeats 4000000 in
theorem kl_24 {p : Program} {l : Launch} {e : Env} {s : State} {m : MethodId} {below : List Frame} {meth : Method} {c : Code} {D : va_G} {cA : Nat → ClassId} {N0 zE : Nat} {x : Nat} {md : Nat} {o : Nat} {b : Nat} {T : zT} {F : zF} (hr : meth.sig.returnType = ret) (hN0 : N0 = s.heap.size) (C : z_C p l s m #[Value.ref b] meth c RL cL_law 9 ret D cA N0 zE) (h : vl_24 x md o b T F) : z_w p l e room_1 s m #[Value.ref b] below meth c D cA N0 9 20 80 (lw_Z below #[Value.ref b] s) 1851 [(4, .int 0), (3, .ref o), (2, .ref md), (1, .ref x), (0, .ref b)] [] T F := by
  unfold vl_24 at h
  refine zr_aload_n C 3 dL_law_1851 rfl rfl ?_
  refine zr_aload_n C 4 dL_law_1852 rfl rfl ?_
  refine zr_iload C 0 dL_law_1853 rfl ?_
  refine zr_iconst C 1 dL_law_1855 (by decide) ?_
  refine zr_iadd C dL_law_1856 ?_
  refine zr_eqi (y := 1) (by decide) ?_
  obtain ⟨n1, hT2, hi3, x4, hv5, h⟩ := h
  refine zr_iald4 C rfl hT2 hi3 hv5 dL_law_1857 ?_
  refine zr_aload_n C 1 dL_law_1858 rfl rfl ?_
  refine zr_callSH (As := [.ref x, .int x4, .ref o]) C (k_L_offIn h) ok_L_190 zq_910 rfl ⟨by decide, (Nat.le_of_ble_eq_true rfl)⟩ ⟨(Nat.le_of_ble_eq_true rfl), (Nat.le_of_ble_eq_true rfl)⟩ (Nat.le_of_ble_eq_true rfl) dL_law_1859 (fun v26 U27 G28 hq => ?_)
  clear h
  · obtain ⟨r6, rfl, rfl, h⟩ := hq
    refine zr_istore C [(5, .int r6), (4, .int 0), (3, .ref o), (2, .ref md), (1, .ref x), (0, .ref b)] dL_law_1862 (by decide) rfl ?_
    refine zr_aload_n C 3 dL_law_1864 rfl rfl ?_
    refine zr_aload_n C 5 dL_law_1865 rfl rfl ?_
    refine zr_iload C 1 dL_law_1866 rfl ?_
    refine zr_iconst C 1 dL_law_1868 (by decide) ?_
    refine zr_iadd C dL_law_1869 ?_
    refine zr_eqi (y := 1) (by decide) ?_
    obtain ⟨hi8, x9, hv10, h⟩ := h
    refine zr_iald4 C rfl hT2 hi8 hv10 dL_law_1870 ?_
    obtain ⟨hT11, h⟩ := h
    refine zr_callV (As := [.int x9]) (r := (RX9, TX9, 6)) C (k_X9_offIn h) ok_L_192 zq_1541 zq_1542 hT11 (by decide) rfl rfl ⟨by decide, (Nat.le_of_ble_eq_true rfl)⟩ ⟨(Nat.le_of_ble_eq_true rfl), (Nat.le_of_ble_eq_true rfl)⟩ (Nat.le_of_ble_eq_true rfl) dL_law_1871 (fun v23 U24 G25 hq => ?_)
    clear h
    · obtain ⟨r12, rfl, rfl, h⟩ := hq
      refine zr_istore C [(6, .int r12), (5, .int r6), (4, .int 0), (3, .ref o), (2, .ref md), (1, .ref x), (0, .ref b)] dL_law_1874 (by decide) rfl ?_
      refine zr_aload_n C 4 dL_law_1876 rfl rfl ?_
      refine zr_callV (As := []) (r := (RX9, TX9, 6)) C (k_X9_thrown h) ok_L_111 zq_975 zq_976 hT11 (by decide) rfl rfl ⟨by decide, (Nat.le_of_ble_eq_true rfl)⟩ ⟨(Nat.le_of_ble_eq_true rfl), (Nat.le_of_ble_eq_true rfl)⟩ (Nat.le_of_ble_eq_true rfl) dL_law_1877 (fun v20 U21 G22 hq => ?_)
      clear h
      · obtain ⟨r14, rfl, rfl, rfl, h⟩ := hq
        refine zr_iload C 1 dL_law_1880 rfl ?_
        obtain ⟨h1, h2⟩ := h
        refine zr_icmp_eq C 1887 dL_law_1882 (by decide) (fun hc => ?_) (fun hc => ?_)
        · have h := h1 hc
          clear h1 h2
          refine zr_iload C 1 dL_law_1887 rfl ?_
          obtain ⟨h1, h2⟩ := h
          refine zr_if_ne C 1904 dL_law_1889 (by decide) (fun hc => ?_) (fun hc => ?_)
          · have h := h1 hc
            clear h1 h2
            refine zr_goto C 2033 dL_law_1904 (by decide) ?_
            exact zr_sub [2, 6] rfl (kl_end hr hN0 C (Nat.le_of_ble_eq_true rfl) (Nat.le_of_ble_eq_true rfl) h)
          · have h := h2 hc
            clear h1 h2
            refine zr_aload_n C 3 dL_law_1892 rfl rfl ?_
            refine zr_iconst C 0 dL_law_1893 (by decide) ?_
            obtain ⟨n15, hT16, hi17, x18, hv19, h⟩ := h
            refine zr_lald C rfl hT16 hi17 hv19 dL_law_1894 ?_
            refine zr_iload C 0 dL_law_1895 rfl ?_
            refine zr_i2l C dL_law_1897 ?_
            refine zr_lcmp C dL_law_1898 ?_
            obtain ⟨h1, h2⟩ := h
            refine zr_if_eq C 1904 dL_law_1899 (by decide) (fun hc => ?_) (fun hc => ?_)
            · have h := h1 hc
              clear h1 h2
              refine zr_goto C 2033 dL_law_1904 (by decide) ?_
              exact zr_sub [2, 6] rfl (kl_end hr hN0 C (Nat.le_of_ble_eq_true rfl) (Nat.le_of_ble_eq_true rfl) h)
            · have h := h2 hc
              clear h1 h2
              refine zr_iconst C 0 dL_law_1902 (by decide) ?_
              exact h.elim
        · have h := h2 hc
          clear h1 h2
          refine zr_iconst C 0 dL_law_1885 (by decide) ?_
          exact h.elim
def vl_25 (zE : Nat) (x : Nat) (md : Nat) (o : Nat) (b : Nat) (T : zT) (F : zF) : Prop :=
  (∃ n1 : Nat, T b = some (104, n1) ∧ vp_in 1 n1 ∧ ∃ x4 : Int32, F b (1 : Int32).toNatClampNeg = .int x4 ∧ (v_L_lostIn x x4 o T F (fun (r6 : Int32) (F7 : zF) => (vp_in 1 n1 ∧ ∃ x9 : Int32, F7 b (1 : Int32).toNatClampNeg = .int x9 ∧ T md = some (12, 6) ∧ (v_X9_lostIn zE md x9 T F7 (fun (r12 : Int32) (T13 : zT) (F14 : zF) => (T13 md = some (12, 6) ∧ (v_X9_thrown md T13 F14 (fun (r16 : Int32) => ((r16 = r6 → ((¬ r6 = 0 → (∃ L9 : Nat, T13 b = some (104, L9) ∧ L9 ≤ 7)) ∧ (r6 = 0 → (∃ n17 : Nat, T13 o = some (103, n17) ∧ vp_in 0 n17 ∧ ∃ x20 : Int64, F14 o (0 : Int32).toNatClampNeg = .long x20 ∧ (((lg_cmp x20 r12.toInt64) = 0 → (∃ L9 : Nat, T13 b = some (104, L9) ∧ L9 ≤ 7)) ∧ (¬ (lg_cmp x20 r12.toInt64) = 0 → False)))))) ∧ (¬ r16 = r6 → False)))))))))))
set_option maxRecDepth 100000 in
set_option maxHeartbeats 4000000 in
theorem kl_25 {p : Program} {l : Launch} {e : Env} {s : State} {m : MethodId} {below : List Frame} {meth : Method} {c : Code} {D : va_G} {cA : Nat → ClassId} {N0 zE : Nat} {x : Nat} {md : Nat} {o : Nat} {b : Nat} {T : zT} {F : zF} (hr : meth.sig.returnType = ret) (hN0 : N0 = s.heap.size) (C : z_C p l s m #[Value.ref b] meth c RL cL_law 9 ret D cA N0 zE) (h : vl_25 zE x md o b T F) : z_w p l e room_1 s m #[Value.ref b] below meth c D cA N0 9 20 80 (lw_Z below #[Value.ref b] s) 1907 [(4, .int 0), (3, .ref o), (2, .ref md), (1, .ref x), (0, .ref b)] [] T F := by
  unfold vl_25 at h
  refine zr_aload_n C 3 dL_law_1907 rfl rfl ?_
  refine zr_aload_n C 4 dL_law_1908 rfl rfl ?_
  refine zr_iload C 0 dL_law_1909 rfl ?_
  refine zr_iconst C 1 dL_law_1911 (by decide) ?_
  refine zr_iadd C dL_law_1912 ?_
  refine zr_eqi (y := 1) (by decide) ?_
  obtain ⟨n1, hT2, hi3, x4, hv5, h⟩ := h
  refine zr_iald4 C rfl hT2 hi3 hv5 dL_law_1913 ?_
  refine zr_aload_n C 1 dL_law_1914 rfl rfl ?_
  refine zr_callSH (As := [.ref x, .int x4, .ref o]) C (k_L_lostIn h) ok_L_193 zq_914 rfl ⟨by decide, (Nat.le_of_ble_eq_true rfl)⟩ ⟨(Nat.le_of_ble_eq_true rfl), (Nat.le_of_ble_eq_true rfl)⟩ (Nat.le_of_ble_eq_true rfl) dL_law_1915 (fun v28 U29 G30 hq => ?_)
  clear h
  · obtain ⟨r6, rfl, rfl, h⟩ := hq
    refine zr_istore C [(5, .int r6), (4, .int 0), (3, .ref o), (2, .ref md), (1, .ref x), (0, .ref b)] dL_law_1918 (by decide) rfl ?_
    refine zr_aload_n C 3 dL_law_1920 rfl rfl ?_
    refine zr_aload_n C 5 dL_law_1921 rfl rfl ?_
    refine zr_iload C 1 dL_law_1922 rfl ?_
    refine zr_iconst C 1 dL_law_1924 (by decide) ?_
    refine zr_iadd C dL_law_1925 ?_
    refine zr_eqi (y := 1) (by decide) ?_
    obtain ⟨hi8, x9, hv10, h⟩ := h
    refine zr_iald4 C rfl hT2 hi8 hv10 dL_law_1926 ?_
    obtain ⟨hT11, h⟩ := h
    refine zr_callV (As := [.int x9]) (r := (RX9, TX9, 6)) C (k_X9_lostIn h) ok_L_195 zq_1549 zq_1550 hT11 (by decide) rfl rfl ⟨by decide, (Nat.le_of_ble_eq_true rfl)⟩ ⟨(Nat.le_of_ble_eq_true rfl), (Nat.le_of_ble_eq_true rfl)⟩ (Nat.le_of_ble_eq_true rfl) dL_law_1927 (fun v25 U26 G27 hq => ?_)
    clear h
    · obtain ⟨r12, rfl, h⟩ := hq
      skip
      refine zr_istore C [(6, .int r12), (5, .int r6), (4, .int 0), (3, .ref o), (2, .ref md), (1, .ref x), (0, .ref b)] dL_law_1930 (by decide) rfl ?_
      refine zr_aload_n C 4 dL_law_1932 rfl rfl ?_
      obtain ⟨hT15, h⟩ := h
      refine zr_callV (As := []) (r := (RX9, TX9, 6)) C (k_X9_thrown h) ok_L_111 zq_975 zq_976 hT15 (by decide) rfl rfl ⟨by decide, (Nat.le_of_ble_eq_true rfl)⟩ ⟨(Nat.le_of_ble_eq_true rfl), (Nat.le_of_ble_eq_true rfl)⟩ (Nat.le_of_ble_eq_true rfl) dL_law_1933 (fun v22 U23 G24 hq => ?_)
      clear h
      · obtain ⟨r16, rfl, rfl, rfl, h⟩ := hq
        refine zr_iload C 1 dL_law_1936 rfl ?_
        obtain ⟨h1, h2⟩ := h
        refine zr_icmp_eq C 1943 dL_law_1938 (by decide) (fun hc => ?_) (fun hc => ?_)
        · have h := h1 hc
          clear h1 h2
          refine zr_iload C 1 dL_law_1943 rfl ?_
          obtain ⟨h1, h2⟩ := h
          refine zr_if_ne C 1960 dL_law_1945 (by decide) (fun hc => ?_) (fun hc => ?_)
          · have h := h1 hc
            clear h1 h2
            refine zr_goto C 2033 dL_law_1960 (by decide) ?_
            exact zr_sub [2, 6] rfl (kl_end hr hN0 C (Nat.le_of_ble_eq_true rfl) (Nat.le_of_ble_eq_true rfl) h)
          · have h := h2 hc
            clear h1 h2
            refine zr_aload_n C 3 dL_law_1948 rfl rfl ?_
            refine zr_iconst C 0 dL_law_1949 (by decide) ?_
            obtain ⟨n17, hT18, hi19, x20, hv21, h⟩ := h
            refine zr_lald C rfl hT18 hi19 hv21 dL_law_1950 ?_
            refine zr_iload C 0 dL_law_1951 rfl ?_
            refine zr_i2l C dL_law_1953 ?_
            refine zr_lcmp C dL_law_1954 ?_
            obtain ⟨h1, h2⟩ := h
            refine zr_if_eq C 1960 dL_law_1955 (by decide) (fun hc => ?_) (fun hc => ?_)
            · have h := h1 hc
              clear h1 h2
              refine zr_goto C 2033 dL_law_1960 (by decide) ?_
              exact zr_sub [2, 6] rfl (kl_end hr hN0 C (Nat.le_of_ble_eq_true rfl) (Nat.le_of_ble_eq_true rfl) h)
            · have h := h2 hc
              clear h1 h2
              refine zr_iconst C 0 dL_law_1958 (by decide) ?_
              exact h.elim
        · have h := h2 hc
          clear h1 h2
          refine zr_iconst C 0 dL_law_1941 (by decide) ?_
          exact h.elim
def vl_26 (x : Nat) (md : Nat) (o : Nat) (b : Nat) (T : zT) (F : zF) : Prop :=
  (∃ n1 : Nat, T b = some (104, n1) ∧ vp_in 1 n1 ∧ ∃ x4 : Int32, F b (1 : Int32).toNatClampNeg = .int x4 ∧ (v_L_reachWith x x4 o T F (fun (r6 : Int32) (F7 : zF) => (vp_in 1 n1 ∧ ∃ x9 : Int32, F7 b (1 : Int32).toNatClampNeg = .int x9 ∧ T md = some (12, 6) ∧ (v_X9_reachWith md x9 T F7 (fun (r12 : Int32) (F13 : zF) => (v_X9_thrown md T F13 (fun (r14 : Int32) => ((r14 = r6 → ((¬ r6 = 0 → (∃ L9 : Nat, T b = some (104, L9) ∧ L9 ≤ 7)) ∧ (r6 = 0 → (∃ n15 : Nat, T o = some (103, n15) ∧ vp_in 0 n15 ∧ ∃ x18 : Int64, F13 o (0 : Int32).toNatClampNeg = .long x18 ∧ (((lg_cmp x18 r12.toInt64) = 0 → (∃ L9 : Nat, T b = some (104, L9) ∧ L9 ≤ 7)) ∧ (¬ (lg_cmp x18 r12.toInt64) = 0 → False)))))) ∧ (¬ r14 = r6 → False))))))))))
set_option maxRecDepth 100000 in
set_option maxHeartbeats 4000000 in
theorem kl_26 {p : Program} {l : Launch} {e : Env} {s : State} {m : MethodId} {below : List Frame} {meth : Method} {c : Code} {D : va_G} {cA : Nat → ClassId} {N0 zE : Nat} {x : Nat} {md : Nat} {o : Nat} {b : Nat} {T : zT} {F : zF} (hr : meth.sig.returnType = ret) (hN0 : N0 = s.heap.size) (C : z_C p l s m #[Value.ref b] meth c RL cL_law 9 ret D cA N0 zE) (h : vl_26 x md o b T F) : z_w p l e room_1 s m #[Value.ref b] below meth c D cA N0 9 20 80 (lw_Z below #[Value.ref b] s) 1963 [(4, .int 0), (3, .ref o), (2, .ref md), (1, .ref x), (0, .ref b)] [] T F := by
  unfold vl_26 at h
  refine zr_aload_n C 3 dL_law_1963 rfl rfl ?_
  refine zr_aload_n C 4 dL_law_1964 rfl rfl ?_
  refine zr_iload C 0 dL_law_1965 rfl ?_
  refine zr_iconst C 1 dL_law_1967 (by decide) ?_
  refine zr_iadd C dL_law_1968 ?_
  refine zr_eqi (y := 1) (by decide) ?_
  obtain ⟨n1, hT2, hi3, x4, hv5, h⟩ := h
  refine zr_iald4 C rfl hT2 hi3 hv5 dL_law_1969 ?_
  refine zr_aload_n C 1 dL_law_1970 rfl rfl ?_
  refine zr_callSH (As := [.ref x, .int x4, .ref o]) C (k_L_reachWith h) ok_L_196 zq_918 rfl ⟨by decide, (Nat.le_of_ble_eq_true rfl)⟩ ⟨(Nat.le_of_ble_eq_true rfl), (Nat.le_of_ble_eq_true rfl)⟩ (Nat.le_of_ble_eq_true rfl) dL_law_1971 (fun v26 U27 G28 hq => ?_)
  clear h
  · obtain ⟨r6, rfl, rfl, h⟩ := hq
    refine zr_istore C [(5, .int r6), (4, .int 0), (3, .ref o), (2, .ref md), (1, .ref x), (0, .ref b)] dL_law_1974 (by decide) rfl ?_
    refine zr_aload_n C 3 dL_law_1976 rfl rfl ?_
    refine zr_aload_n C 5 dL_law_1977 rfl rfl ?_
    refine zr_iload C 1 dL_law_1978 rfl ?_
    refine zr_iconst C 1 dL_law_1980 (by decide) ?_
    refine zr_iadd C dL_law_1981 ?_
    refine zr_eqi (y := 1) (by decide) ?_
    obtain ⟨hi8, x9, hv10, h⟩ := h
    refine zr_iald4 C rfl hT2 hi8 hv10 dL_law_1982 ?_
    obtain ⟨hT11, h⟩ := h
    refine zr_callV (As := [.int x9]) (r := (RX9, TX9, 6)) C (k_X9_reachWith h) ok_L_198 zq_1570 zq_1571 hT11 (by decide) rfl rfl ⟨by decide, (Nat.le_of_ble_eq_true rfl)⟩ ⟨(Nat.le_of_ble_eq_true rfl), (Nat.le_of_ble_eq_true rfl)⟩ (Nat.le_of_ble_eq_true rfl) dL_law_1983 (fun v23 U24 G25 hq => ?_)
    clear h
    · obtain ⟨r12, rfl, rfl, h⟩ := hq
      refine zr_istore C [(6, .int r12), (5, .int r6), (4, .int 0), (3, .ref o), (2, .ref md), (1, .ref x), (0, .ref b)] dL_law_1986 (by decide) rfl ?_
      refine zr_aload_n C 4 dL_law_1988 rfl rfl ?_
      refine zr_callV (As := []) (r := (RX9, TX9, 6)) C (k_X9_thrown h) ok_L_111 zq_975 zq_976 hT11 (by decide) rfl rfl ⟨by decide, (Nat.le_of_ble_eq_true rfl)⟩ ⟨(Nat.le_of_ble_eq_true rfl), (Nat.le_of_ble_eq_true rfl)⟩ (Nat.le_of_ble_eq_true rfl) dL_law_1989 (fun v20 U21 G22 hq => ?_)
      clear h
      · obtain ⟨r14, rfl, rfl, rfl, h⟩ := hq
        refine zr_iload C 1 dL_law_1992 rfl ?_
        obtain ⟨h1, h2⟩ := h
        refine zr_icmp_eq C 1999 dL_law_1994 (by decide) (fun hc => ?_) (fun hc => ?_)
        · have h := h1 hc
          clear h1 h2
          refine zr_iload C 1 dL_law_1999 rfl ?_
          obtain ⟨h1, h2⟩ := h
          refine zr_if_ne C 2016 dL_law_2001 (by decide) (fun hc => ?_) (fun hc => ?_)
          · have h := h1 hc
            clear h1 h2
            refine zr_goto C 2033 dL_law_2016 (by decide) ?_
            exact zr_sub [2, 6] rfl (kl_end hr hN0 C (Nat.le_of_ble_eq_true rfl) (Nat.le_of_ble_eq_true rfl) h)
          · have h := h2 hc
            clear h1 h2
            refine zr_aload_n C 3 dL_law_2004 rfl rfl ?_
            refine zr_iconst C 0 dL_law_2005 (by decide) ?_
            obtain ⟨n15, hT16, hi17, x18, hv19, h⟩ := h
            refine zr_lald C rfl hT16 hi17 hv19 dL_law_2006 ?_
            refine zr_iload C 0 dL_law_2007 rfl ?_
            refine zr_i2l C dL_law_2009 ?_
            refine zr_lcmp C dL_law_2010 ?_
            obtain ⟨h1, h2⟩ := h
            refine zr_if_eq C 2016 dL_law_2011 (by decide) (fun hc => ?_) (fun hc => ?_)
            · have h := h1 hc
              clear h1 h2
              refine zr_goto C 2033 dL_law_2016 (by decide) ?_
              exact zr_sub [2, 6] rfl (kl_end hr hN0 C (Nat.le_of_ble_eq_true rfl) (Nat.le_of_ble_eq_true rfl) h)
            · have h := h2 hc
              clear h1 h2
              refine zr_iconst C 0 dL_law_2014 (by decide) ?_
              exact h.elim
        · have h := h2 hc
          clear h1 h2
          refine zr_iconst C 0 dL_law_1997 (by decide) ?_
          exact h.elim
def vl_27 (zE : Nat) (x : Nat) (md : Nat) (o : Nat) (b : Nat) (T : zT) (F : zF) : Prop :=
  (T x = some (7, 4) ∧ (v_X4_digest x T F (fun (r2 : Int64) (F3 : zF) => (T md = some (12, 6) ∧ (v_X9_digest zE md T F3 (fun (r5 : Int64) (T6 : zT) (F7 : zF) => (((lg_cmp r2 r5) = 0 → (∃ L9 : Nat, T6 b = some (104, L9) ∧ L9 ≤ 7)) ∧ (¬ (lg_cmp r2 r5) = 0 → False))))))))
set_option maxRecDepth 100000 in
set_option maxHeartbeats 4000000 in
theorem kl_27 {p : Program} {l : Launch} {e : Env} {s : State} {m : MethodId} {below : List Frame} {meth : Method} {c : Code} {D : va_G} {cA : Nat → ClassId} {N0 zE : Nat} {x : Nat} {md : Nat} {o : Nat} {b : Nat} {T : zT} {F : zF} (hr : meth.sig.returnType = ret) (hN0 : N0 = s.heap.size) (C : z_C p l s m #[Value.ref b] meth c RL cL_law 9 ret D cA N0 zE) (h : vl_27 zE x md o b T F) : z_w p l e room_1 s m #[Value.ref b] below meth c D cA N0 9 20 80 (lw_Z below #[Value.ref b] s) 2019 [(4, .int 0), (3, .ref o), (2, .ref md), (1, .ref x), (0, .ref b)] [] T F := by
  unfold vl_27 at h
  refine zr_aload_n C 3 dL_law_2019 rfl rfl ?_
  obtain ⟨hT1, h⟩ := h
  refine zr_callV (As := []) (r := (RX4, TX4, 4)) C (k_X4_digest h) ok_L_199 zq_164 zq_165 hT1 (by decide) rfl rfl ⟨by decide, (Nat.le_of_ble_eq_true rfl)⟩ ⟨(Nat.le_of_ble_eq_true rfl), (Nat.le_of_ble_eq_true rfl)⟩ (Nat.le_of_ble_eq_true rfl) dL_law_2020 (fun v11 U12 G13 hq => ?_)
  clear h
  · obtain ⟨r2, rfl, rfl, h⟩ := hq
    refine zr_aload_n C 2 dL_law_2023 rfl rfl ?_
    obtain ⟨hT4, h⟩ := h
    refine zr_callV (As := []) (r := (RX9, TX9, 6)) C (k_X9_digest h) ok_L_203 zq_1574 zq_1575 hT4 (by decide) rfl rfl ⟨by decide, (Nat.le_of_ble_eq_true rfl)⟩ ⟨(Nat.le_of_ble_eq_true rfl), (Nat.le_of_ble_eq_true rfl)⟩ (Nat.le_of_ble_eq_true rfl) dL_law_2024 (fun v8 U9 G10 hq => ?_)
    clear h
    · obtain ⟨r5, rfl, h⟩ := hq
      skip
      refine zr_lcmp C dL_law_2027 ?_
      obtain ⟨h1, h2⟩ := h
      refine zr_if_eq C 2033 dL_law_2028 (by decide) (fun hc => ?_) (fun hc => ?_)
      · have h := h1 hc
        clear h1 h2
        exact zr_sub [0, 4] rfl (kl_end hr hN0 C (Nat.le_of_ble_eq_true rfl) (Nat.le_of_ble_eq_true rfl) h)
      · have h := h2 hc
        clear h1 h2
        refine zr_iconst C 0 dL_law_2031 (by decide) ?_
        exact h.elim
def vl_pro (zE : Nat) (b : Nat) (T : zT) (F : zF) : Prop :=
  (∀ q1 : Nat, (∀ b, q1 ≤ b → T b = none) → (v_X4_init zE q1 (zn T q1 (7, 4)) (zm F q1 (fun j => defaultValue (tyX4 j))) (fun (T3 : zT) (F4 : zF) => (∀ q5 : Nat, (∀ b, q5 ≤ b → T3 b = none) → (v_X9_init zE q5 (zn T3 q5 (12, 6)) (zm F4 q5 (fun j => defaultValue (tyX9 j))) (fun (T7 : zT) (F8 : zF) => (∀ q9 : Nat, (∀ b, q9 ≤ b → T7 b = none) → (∃ n11 : Nat, zn T7 q9 (103, 1) b = some (104, n11) ∧ ((((nI n11) - 7) < (0 : Int32) → True) ∧ (¬ ((nI n11) - 7) < (0 : Int32) → (vp_in 0 n11 ∧ ∃ x14 : Int32, (zm F8 q9 (fun _ => .long 0)) b (0 : Int32).toNatClampNeg = .int x14 ∧ ((((x14 &&& 31).toInt < 0 ∨ 27 < (x14 &&& 31).toInt) → (∃ L9 : Nat, (zn T7 q9 (103, 1)) b = some (104, L9) ∧ L9 ≤ 7)) ∧ ((x14 &&& 31) = 0 → vl_0 zE q1 q5 q9 b (zn T7 q9 (103, 1)) (zm F8 q9 (fun _ => .long 0))) ∧ ((x14 &&& 31) = 1 → vl_1 q1 q5 q9 b (zn T7 q9 (103, 1)) (zm F8 q9 (fun _ => .long 0))) ∧ ((x14 &&& 31) = 2 → vl_2 q1 q5 q9 b (zn T7 q9 (103, 1)) (zm F8 q9 (fun _ => .long 0))) ∧ ((x14 &&& 31) = 3 → vl_3 q1 q5 q9 b (zn T7 q9 (103, 1)) (zm F8 q9 (fun _ => .long 0))) ∧ ((x14 &&& 31) = 4 → vl_4 q1 q5 q9 b (zn T7 q9 (103, 1)) (zm F8 q9 (fun _ => .long 0))) ∧ ((x14 &&& 31) = 5 → vl_5 q1 q5 q9 b (zn T7 q9 (103, 1)) (zm F8 q9 (fun _ => .long 0))) ∧ ((x14 &&& 31) = 6 → vl_6 q1 q5 q9 b (zn T7 q9 (103, 1)) (zm F8 q9 (fun _ => .long 0))) ∧ ((x14 &&& 31) = 7 → vl_7 q1 q5 q9 b (zn T7 q9 (103, 1)) (zm F8 q9 (fun _ => .long 0))) ∧ ((x14 &&& 31) = 8 → vl_8 q1 q5 q9 b (zn T7 q9 (103, 1)) (zm F8 q9 (fun _ => .long 0))) ∧ ((x14 &&& 31) = 9 → vl_9 q1 q5 q9 b (zn T7 q9 (103, 1)) (zm F8 q9 (fun _ => .long 0))) ∧ ((x14 &&& 31) = 10 → vl_10 q1 q5 q9 b (zn T7 q9 (103, 1)) (zm F8 q9 (fun _ => .long 0))) ∧ ((x14 &&& 31) = 11 → vl_11 q1 q5 q9 b (zn T7 q9 (103, 1)) (zm F8 q9 (fun _ => .long 0))) ∧ ((x14 &&& 31) = 12 → vl_12 q1 q5 q9 b (zn T7 q9 (103, 1)) (zm F8 q9 (fun _ => .long 0))) ∧ ((x14 &&& 31) = 13 → vl_13 q1 q5 q9 b (zn T7 q9 (103, 1)) (zm F8 q9 (fun _ => .long 0))) ∧ ((x14 &&& 31) = 14 → vl_14 q1 q5 q9 b (zn T7 q9 (103, 1)) (zm F8 q9 (fun _ => .long 0))) ∧ ((x14 &&& 31) = 15 → vl_15 q1 q5 q9 b (zn T7 q9 (103, 1)) (zm F8 q9 (fun _ => .long 0))) ∧ ((x14 &&& 31) = 16 → vl_16 q1 q5 q9 b (zn T7 q9 (103, 1)) (zm F8 q9 (fun _ => .long 0))) ∧ ((x14 &&& 31) = 17 → vl_17 q1 q5 q9 b (zn T7 q9 (103, 1)) (zm F8 q9 (fun _ => .long 0))) ∧ ((x14 &&& 31) = 18 → vl_18 q1 q5 q9 b (zn T7 q9 (103, 1)) (zm F8 q9 (fun _ => .long 0))) ∧ ((x14 &&& 31) = 19 → vl_19 q1 q5 q9 b (zn T7 q9 (103, 1)) (zm F8 q9 (fun _ => .long 0))) ∧ ((x14 &&& 31) = 20 → vl_20 q1 q5 q9 b (zn T7 q9 (103, 1)) (zm F8 q9 (fun _ => .long 0))) ∧ ((x14 &&& 31) = 21 → vl_21 q1 q5 q9 b (zn T7 q9 (103, 1)) (zm F8 q9 (fun _ => .long 0))) ∧ ((x14 &&& 31) = 22 → vl_22 q1 q5 q9 b (zn T7 q9 (103, 1)) (zm F8 q9 (fun _ => .long 0))) ∧ ((x14 &&& 31) = 23 → vl_23 q1 q5 q9 b (zn T7 q9 (103, 1)) (zm F8 q9 (fun _ => .long 0))) ∧ ((x14 &&& 31) = 24 → vl_24 q1 q5 q9 b (zn T7 q9 (103, 1)) (zm F8 q9 (fun _ => .long 0))) ∧ ((x14 &&& 31) = 25 → vl_25 zE q1 q5 q9 b (zn T7 q9 (103, 1)) (zm F8 q9 (fun _ => .long 0))) ∧ ((x14 &&& 31) = 26 → vl_26 q1 q5 q9 b (zn T7 q9 (103, 1)) (zm F8 q9 (fun _ => .long 0))) ∧ ((x14 &&& 31) = 27 → vl_27 zE q1 q5 q9 b (zn T7 q9 (103, 1)) (zm F8 q9 (fun _ => .long 0)))))))))))))))
set_option maxRecDepth 100000 in
set_option maxHeartbeats 4000000 in
theorem kl_pro {p : Program} {l : Launch} {e : Env} {s : State} {m : MethodId} {below : List Frame} {meth : Method} {c : Code} {D : va_G} {cA : Nat → ClassId} {N0 zE : Nat} {b : Nat} {T : zT} {F : zF} (hr : meth.sig.returnType = ret) (hN0 : N0 = s.heap.size) (C : z_C p l s m #[Value.ref b] meth c RL cL_law 9 ret D cA N0 zE) (h : vl_pro zE b T F) : z_w p l e room_1 s m #[Value.ref b] below meth c D cA N0 9 0 0 (lw_Z below #[Value.ref b] s) 0 [(0, .ref b)] [] T F := by
  unfold vl_pro at h
  refine zr_new C nw_L_8 (Nat.le_of_ble_eq_true rfl) (Nat.le_of_ble_eq_true rfl) dL_law_0 (fun q1 hq2 => ?_)
  have h := h q1 hq2
  refine zr_dup C dL_law_3 rfl ?_
  refine zr_callI (As := []) C (k_X4_init h) ok_L_101 zq_66 rfl rfl ⟨by decide, (Nat.le_of_ble_eq_true rfl)⟩ ⟨(Nat.le_of_ble_eq_true rfl), (Nat.le_of_ble_eq_true rfl)⟩ (Nat.le_of_ble_eq_true rfl) dL_law_4 (fun v48 U49 G50 hq => ?_)
  clear h
  · obtain ⟨rfl, h⟩ := hq
    skip
    refine zr_astore_n C [(1, .ref q1), (0, .ref b)] dL_law_7 rfl (by decide) rfl ?_
    refine zr_new C nw_L_102 (Nat.le_of_ble_eq_true rfl) (Nat.le_of_ble_eq_true rfl) dL_law_8 (fun q5 hq6 => ?_)
    have h := h q5 hq6
    refine zr_dup C dL_law_11 rfl ?_
    refine zr_callI (As := []) C (k_X9_init h) ok_L_104 zq_927 rfl rfl ⟨by decide, (Nat.le_of_ble_eq_true rfl)⟩ ⟨(Nat.le_of_ble_eq_true rfl), (Nat.le_of_ble_eq_true rfl)⟩ (Nat.le_of_ble_eq_true rfl) dL_law_12 (fun v45 U46 G47 hq => ?_)
    clear h
    · obtain ⟨rfl, h⟩ := hq
      skip
      refine zr_astore_n C [(2, .ref q5), (1, .ref q1), (0, .ref b)] dL_law_15 rfl (by decide) rfl ?_
      refine zr_iconst C 1 dL_law_16 (by decide) ?_
      refine zr_newarr (n := 1) (atype := .long) C 3 rfl zq_1583 (by decide) (by decide) (Nat.le_of_ble_eq_true rfl) (Nat.le_of_ble_eq_true rfl) dL_law_17 (fun q9 hq10 => ?_)
      have h := h q9 hq10
      refine zr_astore_n C [(3, .ref q9), (2, .ref q5), (1, .ref q1), (0, .ref b)] dL_law_19 rfl (by decide) rfl ?_
      refine zr_iconst C 0 dL_law_20 (by decide) ?_
      refine zr_istore C [(4, .int 0), (3, .ref q9), (2, .ref q5), (1, .ref q1), (0, .ref b)] dL_law_21 (by decide) rfl ?_
      refine zr_iload C 0 dL_law_23 rfl ?_
      refine zr_aload_n C 4 dL_law_25 rfl rfl ?_
      obtain ⟨n11, hT12, h⟩ := h
      refine zr_alen C hT12 (by decide) rfl dL_law_26 ?_
      refine zr_bipush C 7 dL_law_27 (by decide) ?_
      refine zr_isub C dL_law_29 ?_
      obtain ⟨h1, h2⟩ := h
      refine zr_icmp_gt C 2039 dL_law_30 (by decide) (fun hc => ?_) (fun hc => ?_)
      · have h := h1 hc
        clear h1 h2
        refine zr_iconst C 1 dL_law_2039 (by decide) ?_
        exact zr_lawret hr hN0 C (Nat.le_of_ble_eq_true rfl) (Nat.le_of_ble_eq_true rfl) dL_law_2040
      · have h := h2 hc
        clear h1 h2
        refine zr_aload_n C 4 dL_law_33 rfl rfl ?_
        refine zr_iload C 0 dL_law_34 rfl ?_
        obtain ⟨hi13, x14, hv15, h⟩ := h
        refine zr_iald4 C rfl hT12 hi13 hv15 dL_law_36 ?_
        refine zr_bipush C 31 dL_law_37 (by decide) ?_
        refine zr_iand C dL_law_39 ?_
        obtain ⟨hs16, hs17, hs18, hs19, hs20, hs21, hs22, hs23, hs24, hs25, hs26, hs27, hs28, hs29, hs30, hs31, hs32, hs33, hs34, hs35, hs36, hs37, hs38, hs39, hs40, hs41, hs42, hs43, hs44⟩ := h
        by_cases hw : ((x14 &&& 31)).toInt < 0 ∨ 27 < ((x14 &&& 31)).toInt
        · have h := hs16 hw
          refine zr_tableOut C 2033 dL_law_40 hw (by decide) ?_
          exact zr_sub [0, 4] rfl (kl_end hr hN0 C (Nat.le_of_ble_eq_true rfl) (Nat.le_of_ble_eq_true rfl) h)
        by_cases hk0 : (x14 &&& 31) = 0
        · have h := hs17 hk0
          refine zr_tableIn C 168 dL_law_40 (by rw [hk0]; decide) (by rw [hk0]; decide) (by rw [hk0]; rfl) (by decide) ?_
          exact kl_0 hr hN0 C h
        by_cases hk1 : (x14 &&& 31) = 1
        · have h := hs18 hk1
          refine zr_tableIn C 212 dL_law_40 (by rw [hk1]; decide) (by rw [hk1]; decide) (by rw [hk1]; rfl) (by decide) ?_
          exact kl_1 hr hN0 C h
        by_cases hk2 : (x14 &&& 31) = 2
        · have h := hs19 hk2
          refine zr_tableIn C 280 dL_law_40 (by rw [hk2]; decide) (by rw [hk2]; decide) (by rw [hk2]; rfl) (by decide) ?_
          exact kl_2 hr hN0 C h
        by_cases hk3 : (x14 &&& 31) = 3
        · have h := hs20 hk3
          refine zr_tableIn C 348 dL_law_40 (by rw [hk3]; decide) (by rw [hk3]; decide) (by rw [hk3]; rfl) (by decide) ?_
          exact kl_3 hr hN0 C h
        by_cases hk4 : (x14 &&& 31) = 4
        · have h := hs21 hk4
          refine zr_tableIn C 440 dL_law_40 (by rw [hk4]; decide) (by rw [hk4]; decide) (by rw [hk4]; rfl) (by decide) ?_
          exact kl_4 hr hN0 C h
        by_cases hk5 : (x14 &&& 31) = 5
        · have h := hs22 hk5
          refine zr_tableIn C 508 dL_law_40 (by rw [hk5]; decide) (by rw [hk5]; decide) (by rw [hk5]; rfl) (by decide) ?_
          exact kl_5 hr hN0 C h
        by_cases hk6 : (x14 &&& 31) = 6
        · have h := hs23 hk6
          refine zr_tableIn C 595 dL_law_40 (by rw [hk6]; decide) (by rw [hk6]; decide) (by rw [hk6]; rfl) (by decide) ?_
          exact kl_6 hr hN0 C h
        by_cases hk7 : (x14 &&& 31) = 7
        · have h := hs24 hk7
          refine zr_tableIn C 663 dL_law_40 (by rw [hk7]; decide) (by rw [hk7]; decide) (by rw [hk7]; rfl) (by decide) ?_
          exact kl_7 hr hN0 C h
        by_cases hk8 : (x14 &&& 31) = 8
        · have h := hs25 hk8
          refine zr_tableIn C 738 dL_law_40 (by rw [hk8]; decide) (by rw [hk8]; decide) (by rw [hk8]; rfl) (by decide) ?_
          exact kl_8 hr hN0 C h
        by_cases hk9 : (x14 &&& 31) = 9
        · have h := hs26 hk9
          refine zr_tableIn C 813 dL_law_40 (by rw [hk9]; decide) (by rw [hk9]; decide) (by rw [hk9]; rfl) (by decide) ?_
          exact kl_9 hr hN0 C h
        by_cases hk10 : (x14 &&& 31) = 10
        · have h := hs27 hk10
          refine zr_tableIn C 893 dL_law_40 (by rw [hk10]; decide) (by rw [hk10]; decide) (by rw [hk10]; rfl) (by decide) ?_
          exact kl_10 hr hN0 C h
        by_cases hk11 : (x14 &&& 31) = 11
        · have h := hs28 hk11
          refine zr_tableIn C 980 dL_law_40 (by rw [hk11]; decide) (by rw [hk11]; decide) (by rw [hk11]; rfl) (by decide) ?_
          exact kl_11 hr hN0 C h
        by_cases hk12 : (x14 &&& 31) = 12
        · have h := hs29 hk12
          refine zr_tableIn C 1048 dL_law_40 (by rw [hk12]; decide) (by rw [hk12]; decide) (by rw [hk12]; rfl) (by decide) ?_
          exact kl_12 hr hN0 C h
        by_cases hk13 : (x14 &&& 31) = 13
        · have h := hs30 hk13
          refine zr_tableIn C 1166 dL_law_40 (by rw [hk13]; decide) (by rw [hk13]; decide) (by rw [hk13]; rfl) (by decide) ?_
          exact kl_13 hr hN0 C h
        by_cases hk14 : (x14 &&& 31) = 14
        · have h := hs31 hk14
          refine zr_tableIn C 1222 dL_law_40 (by rw [hk14]; decide) (by rw [hk14]; decide) (by rw [hk14]; rfl) (by decide) ?_
          exact kl_14 hr hN0 C h
        by_cases hk15 : (x14 &&& 31) = 15
        · have h := hs32 hk15
          refine zr_tableIn C 1290 dL_law_40 (by rw [hk15]; decide) (by rw [hk15]; decide) (by rw [hk15]; rfl) (by decide) ?_
          exact kl_15 hr hN0 C h
        by_cases hk16 : (x14 &&& 31) = 16
        · have h := hs33 hk16
          refine zr_tableIn C 1358 dL_law_40 (by rw [hk16]; decide) (by rw [hk16]; decide) (by rw [hk16]; rfl) (by decide) ?_
          exact kl_16 hr hN0 C h
        by_cases hk17 : (x14 &&& 31) = 17
        · have h := hs34 hk17
          refine zr_tableIn C 1402 dL_law_40 (by rw [hk17]; decide) (by rw [hk17]; decide) (by rw [hk17]; rfl) (by decide) ?_
          exact kl_17 hr hN0 C h
        by_cases hk18 : (x14 &&& 31) = 18
        · have h := hs35 hk18
          refine zr_tableIn C 1482 dL_law_40 (by rw [hk18]; decide) (by rw [hk18]; decide) (by rw [hk18]; rfl) (by decide) ?_
          exact kl_18 hr hN0 C h
        by_cases hk19 : (x14 &&& 31) = 19
        · have h := hs36 hk19
          refine zr_tableIn C 1538 dL_law_40 (by rw [hk19]; decide) (by rw [hk19]; decide) (by rw [hk19]; rfl) (by decide) ?_
          exact kl_19 hr hN0 C h
        by_cases hk20 : (x14 &&& 31) = 20
        · have h := hs37 hk20
          refine zr_tableIn C 1579 dL_law_40 (by rw [hk20]; decide) (by rw [hk20]; decide) (by rw [hk20]; rfl) (by decide) ?_
          exact kl_20 hr hN0 C h
        by_cases hk21 : (x14 &&& 31) = 21
        · have h := hs38 hk21
          refine zr_tableIn C 1659 dL_law_40 (by rw [hk21]; decide) (by rw [hk21]; decide) (by rw [hk21]; rfl) (by decide) ?_
          exact kl_21 hr hN0 C h
        by_cases hk22 : (x14 &&& 31) = 22
        · have h := hs39 hk22
          refine zr_tableIn C 1715 dL_law_40 (by rw [hk22]; decide) (by rw [hk22]; decide) (by rw [hk22]; rfl) (by decide) ?_
          exact kl_22 hr hN0 C h
        by_cases hk23 : (x14 &&& 31) = 23
        · have h := hs40 hk23
          refine zr_tableIn C 1795 dL_law_40 (by rw [hk23]; decide) (by rw [hk23]; decide) (by rw [hk23]; rfl) (by decide) ?_
          exact kl_23 hr hN0 C h
        by_cases hk24 : (x14 &&& 31) = 24
        · have h := hs41 hk24
          refine zr_tableIn C 1851 dL_law_40 (by rw [hk24]; decide) (by rw [hk24]; decide) (by rw [hk24]; rfl) (by decide) ?_
          exact kl_24 hr hN0 C h
        by_cases hk25 : (x14 &&& 31) = 25
        · have h := hs42 hk25
          refine zr_tableIn C 1907 dL_law_40 (by rw [hk25]; decide) (by rw [hk25]; decide) (by rw [hk25]; rfl) (by decide) ?_
          exact kl_25 hr hN0 C h
        by_cases hk26 : (x14 &&& 31) = 26
        · have h := hs43 hk26
          refine zr_tableIn C 1963 dL_law_40 (by rw [hk26]; decide) (by rw [hk26]; decide) (by rw [hk26]; rfl) (by decide) ?_
          exact kl_26 hr hN0 C h
        by_cases hk27 : (x14 &&& 31) = 27
        · have h := hs44 hk27
          refine zr_tableIn C 2019 dL_law_40 (by rw [hk27]; decide) (by rw [hk27]; decide) (by rw [hk27]; rfl) (by decide) ?_
          exact kl_27 hr hN0 C h
        obtain ⟨j9, hj9, e9⟩ := z_sw 27 hw
        have hc9 : j9 = 0 ∨ j9 = 1 ∨ j9 = 2 ∨ j9 = 3 ∨ j9 = 4 ∨ j9 = 5 ∨ j9 = 6 ∨ j9 = 7 ∨ j9 = 8 ∨ j9 = 9 ∨ j9 = 10 ∨ j9 = 11 ∨ j9 = 12 ∨ j9 = 13 ∨ j9 = 14 ∨ j9 = 15 ∨ j9 = 16 ∨ j9 = 17 ∨ j9 = 18 ∨ j9 = 19 ∨ j9 = 20 ∨ j9 = 21 ∨ j9 = 22 ∨ j9 = 23 ∨ j9 = 24 ∨ j9 = 25 ∨ j9 = 26 ∨ j9 = 27 := by omega
        rcases hc9 with rfl | rfl | rfl | rfl | rfl | rfl | rfl | rfl | rfl | rfl | rfl | rfl | rfl | rfl | rfl | rfl | rfl | rfl | rfl | rfl | rfl | rfl | rfl | rfl | rfl | rfl | rfl | rfl
        · exact absurd (e9.trans (by decide)) hk0
        · exact absurd (e9.trans (by decide)) hk1
        · exact absurd (e9.trans (by decide)) hk2
        · exact absurd (e9.trans (by decide)) hk3
        · exact absurd (e9.trans (by decide)) hk4
        · exact absurd (e9.trans (by decide)) hk5
        · exact absurd (e9.trans (by decide)) hk6
        · exact absurd (e9.trans (by decide)) hk7
        · exact absurd (e9.trans (by decide)) hk8
        · exact absurd (e9.trans (by decide)) hk9
        · exact absurd (e9.trans (by decide)) hk10
        · exact absurd (e9.trans (by decide)) hk11
        · exact absurd (e9.trans (by decide)) hk12
        · exact absurd (e9.trans (by decide)) hk13
        · exact absurd (e9.trans (by decide)) hk14
        · exact absurd (e9.trans (by decide)) hk15
        · exact absurd (e9.trans (by decide)) hk16
        · exact absurd (e9.trans (by decide)) hk17
        · exact absurd (e9.trans (by decide)) hk18
        · exact absurd (e9.trans (by decide)) hk19
        · exact absurd (e9.trans (by decide)) hk20
        · exact absurd (e9.trans (by decide)) hk21
        · exact absurd (e9.trans (by decide)) hk22
        · exact absurd (e9.trans (by decide)) hk23
        · exact absurd (e9.trans (by decide)) hk24
        · exact absurd (e9.trans (by decide)) hk25
        · exact absurd (e9.trans (by decide)) hk26
        · exact absurd (e9.trans (by decide)) hk27
