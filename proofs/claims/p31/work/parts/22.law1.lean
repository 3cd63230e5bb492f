def vl_law (zE : Nat) (b : Nat) (T : zT) (F : zF) : Prop :=
  (∀ q1 : Nat, (∀ b, q1 ≤ b → T b = none) → (v_X4_init zE q1 (zn T q1 (5, 4)) (zm F q1 (fun j => defaultValue (tyX4 j))) (fun (T3 : zT) (F4 : zF) => (∃ I5 : Nat → Int32 → zT → zF → Prop, (∃ n7 : Nat, n7 ≤ 3 ∧ I5 n7 0 T3 F4) ∧ (∀ (n6 : Nat) (y8 : Int32) (T9 : zT) (F10 : zF), n6 ≤ 3 → I5 n6 y8 T9 F10 → ((3 ≤ y8 → (∃ I13 : Nat → Int32 → zT → zF → Prop, (∃ n15 : Nat, n15 ≤ 5 ∧ I13 n15 0 T9 F10) ∧ (∀ (n14 : Nat) (y16 : Int32) (T17 : zT) (F18 : zF), n14 ≤ 5 → I13 n14 y16 T17 F18 → ((5 ≤ y16 → (∃ I21 : Nat → Int32 → zT → zF → Prop, (∃ n23 : Nat, n23 ≤ 60 ∧ I21 n23 0 T17 F18) ∧ (∀ (n22 : Nat) (y24 : Int32) (T25 : zT) (F26 : zF), n22 ≤ 60 → I21 n22 y24 T25 F26 → ((60 ≤ y24 → True) ∧ (¬ 60 ≤ y24 → (v_L_cell b ((9 : Int32) + (y24 - y24 / 20 * 20)) T25 F26 (fun (r29 : Int32) => (T25 q1 = some (5, 4) ∧ (v_X4_many q1 2 T25 F26 (fun (r31 : Int32) => (∀ q32 : Nat, (∀ b, q32 ≤ b → T25 b = none) → (∀ q34 : Nat, (∀ b, q34 ≤ b → (zn T25 q32 (100, 16)) b = none) → (∃ I36 : Nat → Int32 → zF → Prop, (∃ n38 : Nat, I36 n38 0 (zm (zm F26 q32 (fun _ => .int 0)) q34 (fun _ => .int 0))) ∧ (∀ (n37 : Nat) (y39 : Int32) (F40 : zF), I36 n37 y39 F40 → ((r31 ≤ y39 → (v_L_act zE q1 (r29 >>> (((y24 / 20) * 7) &&& 31)) (zn (zn T25 q32 (100, 16)) q34 (100, 16)) F40 (fun (r43 : Int32) (T44 : zT) (F45 : zF) => ((¬ r43 = 0 → (∃ I46 : Nat → Int32 → Prop, (∃ n48 : Nat, I46 n48 0) ∧ (∀ (n47 : Nat) (y49 : Int32), I46 n47 y49 → ((r31 ≤ y49 → (((y24 - y24 / 7 * 7) = 6 → (T44 q1 = some (5, 4) ∧ (v_X4_digest zE q1 T44 F45 (fun (r53 : Int64) (T54 : zT) (F55 : zF) => (v_L_areBookingsRight q1 T54 F55 (fun (r56 : Int32) (T57 : zT) (F58 : zF) => ((r56 = 0 → False) ∧ (¬ r56 = 0 → (v_L_arePiecesRight q1 (r29 >>> (((y24 / 20) * 7) &&& 31)) T57 F58 (fun (r59 : Int32) => ((r59 = 0 → False) ∧ (¬ r59 = 0 → (v_L_below ((r29 >>> (((y24 / 20) * 7) &&& 31)) >>> (3 &&& 31)) 9 T57 F58 (fun (r60 : Int32) => (v_L_arePlacesRight q1 r60 T57 F58 (fun (r61 : Int32) (T62 : zT) (F63 : zF) => ((r61 = 0 → False) ∧ (¬ r61 = 0 → (T62 q1 = some (5, 4) ∧ (v_X4_digest zE q1 T62 F63 (fun (r65 : Int64) (T66 : zT) (F67 : zF) => (((lg_cmp r65 r53) = 0 → (∃ n68 : Nat, n68 < n22 ∧ I21 n68 (y24 + 1) T66 F67)) ∧ (¬ (lg_cmp r65 r53) = 0 → False))))))))))))))))))))))) ∧ (¬ (y24 - y24 / 7 * 7) = 6 → (∃ n87 : Nat, n87 < n22 ∧ I21 n87 (y24 + 1) T44 F45)))) ∧ (¬ r31 ≤ y49 → (T44 q1 = some (5, 4) ∧ (v_X4_ofBooking q1 y49 6 T44 F45 (fun (r89 : Int32) => (v_X4_ofBooking q1 y49 8 T44 F45 (fun (r90 : Int32) => (∃ n91 : Nat, T44 q34 = some (100, n91) ∧ vp_in y49 n91 ∧ ∃ x94 : Int32, F45 q34 (y49).toNatClampNeg = .int x94 ∧ ((r90 ≤ x94 → (∃ n96 : Nat, T44 q32 = some (100, n96) ∧ vp_in y49 n96 ∧ ∃ x99 : Int32, F45 q32 (y49).toNatClampNeg = .int x99 ∧ ((¬ r89 = x99 → False) ∧ (r89 = x99 → (v_X4_ofBooking q1 y49 8 T44 F45 (fun (r101 : Int32) => (vp_in y49 n91 ∧ ∃ x103 : Int32, F45 q34 (y49).toNatClampNeg = .int x103 ∧ ((r101 < x103 → False) ∧ (¬ r101 < x103 → (v_X4_ofBooking q1 y49 8 T44 F45 (fun (r105 : Int32) => (vp_in y49 n91 ∧ ∃ x107 : Int32, F45 q34 (y49).toNatClampNeg = .int x107 ∧ ((r105 ≤ (x107 + 1) → (∃ n109 : Nat, n109 < n47 ∧ I46 n109 (y49 + 1))) ∧ (¬ r105 ≤ (x107 + 1) → False)))) (fun _ => False)))))) (fun _ => False)))))) ∧ (¬ r90 ≤ x94 → (∃ n116 : Nat, T44 q32 = some (100, n116) ∧ vp_in y49 n116 ∧ ∃ x119 : Int32, F45 q32 (y49).toNatClampNeg = .int x119 ∧ vp_in y49 n116 ∧ ∃ x122 : Int32, F45 q32 (y49).toNatClampNeg = .int x122 ∧ ((¬ r89 = (x119 + (x122 / 5)) → False) ∧ (r89 = (x119 + (x122 / 5)) → (v_X4_ofBooking q1 y49 8 T44 F45 (fun (r124 : Int32) => (vp_in y49 n91 ∧ ∃ x126 : Int32, F45 q34 (y49).toNatClampNeg = .int x126 ∧ ((r124 < x126 → False) ∧ (¬ r124 < x126 → (v_X4_ofBooking q1 y49 8 T44 F45 (fun (r128 : Int32) => (vp_in y49 n91 ∧ ∃ x130 : Int32, F45 q34 (y49).toNatClampNeg = .int x130 ∧ ((r128 ≤ (x130 + 1) → (∃ n132 : Nat, n132 < n47 ∧ I46 n132 (y49 + 1))) ∧ (¬ r128 ≤ (x130 + 1) → False)))) (fun _ => False)))))) (fun _ => False))))))))) (fun _ => False))) (fun _ => False)))))))) ∧ (r43 = 0 → False))))) ∧ (¬ r31 ≤ y39 → (zn (zn T25 q32 (100, 16)) q34 (100, 16) q1 = some (5, 4) ∧ (v_X4_ofBooking q1 y39 6 (zn (zn T25 q32 (100, 16)) q34 (100, 16)) F40 (fun (r152 : Int32) => (∃ n153 : Nat, zn (zn T25 q32 (100, 16)) q34 (100, 16) q32 = some (100, n153) ∧ vp_in y39 n153 ∧ (v_X4_ofBooking q1 y39 8 (zn (zn T25 q32 (100, 16)) q34 (100, 16)) (zu F40 q32 (y39).toNatClampNeg (.int r152)) (fun (r156 : Int32) => (vp_in y39 16 ∧ (∃ n158 : Nat, n158 < n37 ∧ I36 n158 (y39 + 1) (zu (zu F40 q32 (y39).toNatClampNeg (.int r152)) q34 (y39).toNatClampNeg (.int r156))))) (fun _ => False)))) (fun _ => False)))))))))) (fun _ => False)))))))))) ∧ (¬ 5 ≤ y16 → (v_L_cell b 3 T17 F18 (fun (r177 : Int32) => (v_L_below r177 2 T17 F18 (fun (r178 : Int32) => (v_L_cell b ((4 : Int32) + y16) T17 F18 (fun (r179 : Int32) => (v_L_below r179 7 T17 F18 (fun (r180 : Int32) => (T17 q1 = some (5, 4) ∧ (v_X4_piece zE q1 (r178 * (y16 - y16 / 2 * 2)) ((1 : Int32) + r180) T17 F18 (fun (r182 : Int32) (T183 : zT) (F184 : zF) => (∃ n185 : Nat, n185 < n14 ∧ I13 n185 (y16 + 1) T183 F184)) (fun _ _ _ => False)))))))))))))))) ∧ (¬ 3 ≤ y8 → (v_L_cell b y8 T9 F10 (fun (r204 : Int32) => (T9 q1 = some (5, 4) ∧ (v_X4_asset zE q1 T9 F10 (fun (r206 : Int32) (T207 : zT) (F208 : zF) => (v_L_below r204 3 T207 F208 (fun (r209 : Int32) => ((¬ r209 = 0 → (T207 q1 = some (5, 4) ∧ (v_X4_version q1 y8 0 T207 F208 (fun (r211 : Int32) (F212 : zF) => (v_L_below (r204 >>> (5 &&& 31)) 2 T207 F212 (fun (r213 : Int32) => ((¬ r213 = 0 → (v_L_below (r204 >>> (6 &&& 31)) 60 T207 F212 (fun (r214 : Int32) => (v_X4_rights q1 y8 15 0 r214 T207 F212 (fun (r215 : Int32) (F216 : zF) => (∃ n217 : Nat, n217 < n6 ∧ I5 n217 (y8 + 1) T207 F216)) (fun _ _ => False))))) ∧ (r213 = 0 → (v_X4_rights q1 y8 15 0 99 T207 F212 (fun (r224 : Int32) (F225 : zF) => (∃ n226 : Nat, n226 < n6 ∧ I5 n226 (y8 + 1) T207 F225)) (fun _ _ => False))))))) (fun _ _ => False)))) ∧ (r209 = 0 → (v_L_below (r204 >>> (2 &&& 31)) 9 T207 F208 (fun (r236 : Int32) => (T207 q1 = some (5, 4) ∧ (v_X4_version q1 y8 r236 T207 F208 (fun (r238 : Int32) (F239 : zF) => (v_L_below (r204 >>> (5 &&& 31)) 2 T207 F239 (fun (r240 : Int32) => ((¬ r240 = 0 → (v_L_below (r204 >>> (6 &&& 31)) 60 T207 F239 (fun (r241 : Int32) => (v_X4_rights q1 y8 15 0 r241 T207 F239 (fun (r242 : Int32) (F243 : zF) => (∃ n244 : Nat, n244 < n6 ∧ I5 n244 (y8 + 1) T207 F243)) (fun _ _ => False))))) ∧ (r240 = 0 → (v_X4_rights q1 y8 15 0 99 T207 F239 (fun (r251 : Int32) (F252 : zF) => (∃ n253 : Nat, n253 < n6 ∧ I5 n253 (y8 + 1) T207 F252)) (fun _ _ => False))))))) (fun _ _ => False)))))))))) (fun _ _ _ => False))))))))))))
set_option maxRecDepth 100000 in
set_option maxHeartbeats 4000000 in
theorem kl_law {p : Program} {l : Launch} {e : Env} {s : State} {m : MethodId} {below : List Frame} {meth : Method} {c : Code} {D : va_G} {cA : Nat → ClassId} {N0 zE : Nat} {b : Nat} {T : zT} {F : zF} (hr : meth.sig.returnType = ret) (hN0 : N0 = s.heap.size) (C : z_C p l s m #[Value.ref b] meth c RL cL_law 9 ret D cA N0 zE) (h : vl_law zE b T F) : z_w p l e room_1 s m #[Value.ref b] below meth c D cA N0 9 0 0 (lw_Z below #[Value.ref b] s) 0 [(0, .ref b)] [] T F := by
  unfold vl_law at h
  refine zr_new C nw_L_9 (Nat.le_of_ble_eq_true rfl) (Nat.le_of_ble_eq_true rfl) dL_law_0 (fun q1 hq2 => ?_)
  have h := h q1 hq2
  refine zr_dup C dL_law_3 rfl ?_
  refine zr_callI (As := []) C (k_X4_init h) ok_L_11 zq_41 rfl rfl ⟨by decide, (Nat.le_of_ble_eq_true rfl)⟩ ⟨(Nat.le_of_ble_eq_true rfl), (Nat.le_of_ble_eq_true rfl)⟩ (Nat.le_of_ble_eq_true rfl) dL_law_4 (fun v278 U279 G280 hq => ?_)
  clear h
  · obtain ⟨rfl, h⟩ := hq
    skip
    refine zr_astore_n C [(1, .ref q1), (0, .ref b)] dL_law_7 rfl (by decide) rfl ?_
    refine zr_iconst C 0 dL_law_8 (by decide) ?_
    refine zr_istore_n C [(2, .int 0), (1, .ref q1), (0, .ref b)] dL_law_9 rfl (by decide) rfl ?_
    obtain ⟨I5, ⟨n7, hb12, h0276⟩, hI275⟩ := h
    have ky277 : ∀ (n6 : Nat) (y8 : Int32) (T9 : zT) (F10 : zF), n6 ≤ 3 → I5 n6 y8 T9 F10 → z_w p l e room_1 s m #[Value.ref b] below meth c D cA N0 9 (9 + (3 - n6) * 4) (41 + (3 - n6) * 60) (lw_Z below #[Value.ref b] s) 10 [(0, .ref b), (1, .ref q1), (2, .int y8)] [] T9 F10 := by
      intro n6
      induction n6 using Nat.strongRecOn with
      | _ n6 ih11 =>
        intro y8 T9 F10 hb12 hin
        have h := hI275 n6 y8 T9 F10 hb12 hin
        refine zr_iload_n C 2 dL_law_10 rfl rfl ?_
        refine zr_iconst C 3 dL_law_11 (by decide) ?_
        obtain ⟨h1, h2⟩ := h
        refine zr_icmp_ge C 91 dL_law_12 (by decide) (fun hc => ?_) (fun hc => ?_)
        · have h := h1 hc
          clear h1 h2
          refine zr_iconst C 0 dL_law_91 (by decide) ?_
          refine zr_istore_n C [(2, .int 0), (0, .ref b), (1, .ref q1)] dL_law_92 rfl (by decide) rfl ?_
          obtain ⟨I13, ⟨n15, hb20, h0202⟩, hI201⟩ := h
          refine zr_widen (cells2 := 21) (slots2 := 221) (by show 9 + (3 - n6) * 4 ≤ 21; omega) (by show 41 + (3 - n6) * 60 ≤ 221; omega) ?_
          have ky203 : ∀ (n14 : Nat) (y16 : Int32) (T17 : zT) (F18 : zF), n14 ≤ 5 → I13 n14 y16 T17 F18 → z_w p l e room_1 s m #[Value.ref b] below meth c D cA N0 9 (21 + (5 - n14) * 43) (221 + (5 - n14) * 976) (lw_Z below #[Value.ref b] s) 93 [(0, .ref b), (1, .ref q1), (2, .int y16)] [] T17 F18 := by
            intro n14
            induction n14 using Nat.strongRecOn with
            | _ n14 ih19 =>
              intro y16 T17 F18 hb20 hin
              have h := hI201 n14 y16 T17 F18 hb20 hin
              refine zr_iload_n C 2 dL_law_93 rfl rfl ?_
              refine zr_iconst C 5 dL_law_94 (by decide) ?_
              obtain ⟨h1, h2⟩ := h
              refine zr_icmp_ge C 136 dL_law_95 (by decide) (fun hc => ?_) (fun hc => ?_)
              · have h := h1 hc
                clear h1 h2
                refine zr_iconst C 0 dL_law_136 (by decide) ?_
                refine zr_istore_n C [(2, .int 0), (0, .ref b), (1, .ref q1)] dL_law_137 rfl (by decide) rfl ?_
                obtain ⟨I21, ⟨n23, hb28, h0175⟩, hI174⟩ := h
                refine zr_widen (cells2 := 236) (slots2 := 5101) (by show 21 + (5 - n14) * 43 ≤ 236; omega) (by show 221 + (5 - n14) * 976 ≤ 5101; omega) ?_
                have ky176 : ∀ (n22 : Nat) (y24 : Int32) (T25 : zT) (F26 : zF), n22 ≤ 60 → I21 n22 y24 T25 F26 → z_w p l e room_1 s m #[Value.ref b] below meth c D cA N0 9 (236 + (60 - n22) * 227) (5101 + (60 - n22) * 3679) (lw_Z below #[Value.ref b] s) 138 [(0, .ref b), (1, .ref q1), (2, .int y24)] [] T25 F26 := by
                  intro n22
                  induction n22 using Nat.strongRecOn with
                  | _ n22 ih27 =>
                    intro y24 T25 F26 hb28 hin
                    have h := hI174 n22 y24 T25 F26 hb28 hin
                    refine zr_iload_n C 2 dL_law_138 rfl rfl ?_
                    refine zr_bipush C 60 dL_law_139 (by decide) ?_
                    obtain ⟨h1, h2⟩ := h
                    refine zr_icmp_ge C 401 dL_law_141 (by decide) (fun hc => ?_) (fun hc => ?_)
                    · have h := h1 hc
                      clear h1 h2
                      refine zr_iconst C 1 dL_law_401 (by decide) ?_
                      exact zr_lawret hr hN0 C (by show 236 + (60 - n22) * 227 ≤ 600074; omega) (by show 5101 + (60 - n22) * 3679 ≤ 7301550; omega) dL_law_402
                    · have h := h2 hc
                      clear h1 h2
                      refine zr_aload_n C 0 dL_law_144 rfl rfl ?_
                      refine zr_bipush C 9 dL_law_145 (by decide) ?_
                      refine zr_iload_n C 2 dL_law_147 rfl rfl ?_
                      refine zr_bipush C 20 dL_law_148 (by decide) ?_
                      refine zr_irem C dL_law_150 (by decide) ?_
                      refine zr_iadd C dL_law_151 ?_
                      refine zr_callS (As := [.ref b, .int ((9 : Int32) + (y24 - y24 / 20 * 20))]) C (k_L_cell h) ok_L_12 zq_681 rfl ⟨by decide, (Nat.le_of_ble_eq_true rfl)⟩ ⟨(by show 236 + (60 - n22) * 227 + 0 ≤ 600074; omega), (by show 5101 + (60 - n22) * 3679 + 0 ≤ 7301550; omega)⟩ (Nat.le_of_ble_eq_true rfl) dL_law_152 (fun v171 U172 G173 hq => ?_)
                      clear h
                      · obtain ⟨r29, rfl, rfl, rfl, h⟩ := hq
                        refine zr_iload_n C 2 dL_law_155 rfl rfl ?_
                        refine zr_bipush C 20 dL_law_156 (by decide) ?_
                        refine zr_idiv C dL_law_158 (by decide) ?_
                        refine zr_bipush C 7 dL_law_159 (by decide) ?_
                        refine zr_imul C dL_law_161 ?_
                        refine zr_ishr C dL_law_162 ?_
                        refine zr_istore_n C [(3, .int (r29 >>> (((y24 / 20) * 7) &&& 31))), (0, .ref b), (1, .ref q1), (2, .int y24)] dL_law_163 rfl (by decide) rfl ?_
                        refine zr_aload_n C 2 dL_law_164 rfl rfl ?_
                        refine zr_iconst C 2 dL_law_165 (by decide) ?_
                        obtain ⟨hT30, h⟩ := h
                        refine zr_callV (As := [.int 2]) (r := (RX4, TX4, 4)) C (k_X4_many0 h) ok_L_36 zq_393 zq_394 hT30 (by decide) rfl rfl ⟨by decide, (Nat.le_of_ble_eq_true rfl)⟩ ⟨(by show 236 + (60 - n22) * 227 + 0 + 0 ≤ 600074; omega), (by show 5101 + (60 - n22) * 3679 + 0 + 0 ≤ 7301550; omega)⟩ (Nat.le_of_ble_eq_true rfl) dL_law_166 (fun v168 U169 G170 hq => ?_)
                        clear h
                        · obtain ⟨r31, rfl, rfl, rfl, h⟩ := hq
                          refine zr_istore C [(4, .int r31), (3, .int (r29 >>> (((y24 / 20) * 7) &&& 31))), (0, .ref b), (1, .ref q1), (2, .int y24)] dL_law_169 (by decide) rfl ?_
                          refine zr_bipush C 16 dL_law_171 (by decide) ?_
                          refine zr_newarr (n := 16) (atype := .int) C 0 rfl zq_93 (by decide) (by decide) (by show 236 + (60 - n22) * 227 + 0 + 0 + 1 ≤ 600074; omega) (by show 5101 + (60 - n22) * 3679 + 0 + 0 + 16 ≤ 7301550; omega) dL_law_173 (fun q32 hq33 => ?_)
                          have h := h q32 hq33
                          refine zr_astore C [(5, .ref q32), (4, .int r31), (3, .int (r29 >>> (((y24 / 20) * 7) &&& 31))), (0, .ref b), (1, .ref q1), (2, .int y24)] dL_law_175 (by decide) rfl ?_
                          refine zr_bipush C 16 dL_law_177 (by decide) ?_
                          refine zr_newarr (n := 16) (atype := .int) C 0 rfl zq_93 (by decide) (by decide) (by show 236 + (60 - n22) * 227 + 0 + 0 + 1 + 1 ≤ 600074; omega) (by show 5101 + (60 - n22) * 3679 + 0 + 0 + 16 + 16 ≤ 7301550; omega) dL_law_179 (fun q34 hq35 => ?_)
                          have h := h q34 hq35
                          refine zr_astore C [(6, .ref q34), (5, .ref q32), (4, .int r31), (3, .int (r29 >>> (((y24 / 20) * 7) &&& 31))), (0, .ref b), (1, .ref q1), (2, .int y24)] dL_law_181 (by decide) rfl ?_
                          refine zr_iconst C 0 dL_law_183 (by decide) ?_
                          refine zr_istore C [(7, .int 0), (6, .ref q34), (5, .ref q32), (4, .int r31), (3, .int (r29 >>> (((y24 / 20) * 7) &&& 31))), (0, .ref b), (1, .ref q1), (2, .int y24)] dL_law_184 (by decide) rfl ?_
                          obtain ⟨I36, ⟨n38, h0166⟩, hI165⟩ := h
                          have ky167 : ∀ (n37 : Nat) (y39 : Int32) (F40 : zF), I36 n37 y39 F40 → z_w p l e room_1 s m #[Value.ref b] below meth c D cA N0 9 (236 + (60 - n22) * 227 + 0 + 0 + 1 + 1) (5101 + (60 - n22) * 3679 + 0 + 0 + 16 + 16) (lw_Z below #[Value.ref b] s) 186 [(0, .ref b), (1, .ref q1), (2, .int y24), (3, .int (r29 >>> (((y24 / 20) * 7) &&& 31))), (4, .int r31), (5, .ref q32), (6, .ref q34), (7, .int y39)] [] (zn (zn T25 q32 (100, 16)) q34 (100, 16)) F40 := by
                            intro n37
                            induction n37 using Nat.strongRecOn with
                            | _ n37 ih41 =>
                              intro y39 F40 hin
                              have h := hI165 n37 y39 F40 hin
                              refine zr_iload C 7 dL_law_186 rfl ?_
                              refine zr_iload C 4 dL_law_188 rfl ?_
                              obtain ⟨h1, h2⟩ := h
                              refine zr_icmp_ge C 225 dL_law_190 (by decide) (fun hc => ?_) (fun hc => ?_)
                              · have h := h1 hc
                                clear h1 h2
                                refine zr_aload_n C 1 dL_law_225 rfl rfl ?_
                                refine zr_iload_n C 3 dL_law_226 rfl rfl ?_
                                refine zr_callSH (As := [.ref q1, .int (r29 >>> (((y24 / 20) * 7) &&& 31))]) C (k_L_act h) ok_L_43 zq_685 rfl ⟨by decide, (Nat.le_of_ble_eq_true rfl)⟩ ⟨(by show 236 + (60 - n22) * 227 + 0 + 0 + 1 + 1 + 105 ≤ 600074; omega), (by show 5101 + (60 - n22) * 3679 + 0 + 0 + 16 + 16 + 1422 ≤ 7301550; omega)⟩ (Nat.le_of_ble_eq_true rfl) dL_law_227 (fun v148 U149 G150 hq => ?_)
                                clear h
                                · obtain ⟨r43, rfl, h⟩ := hq
                                  skip
                                  obtain ⟨h1, h2⟩ := h
                                  refine zr_if_ne C 235 dL_law_230 (by decide) (fun hc => ?_) (fun hc => ?_)
                                  · have h := h1 hc
                                    clear h1 h2
                                    refine zr_iconst C 0 dL_law_235 (by decide) ?_
                                    refine zr_istore C [(7, .int 0), (0, .ref b), (1, .ref q1), (2, .int y24), (3, .int (r29 >>> (((y24 / 20) * 7) &&& 31))), (4, .int r31), (5, .ref q32), (6, .ref q34)] dL_law_236 (by decide) rfl ?_
                                    obtain ⟨I46, ⟨n48, h0146⟩, hI145⟩ := h
                                    have ky147 : ∀ (n47 : Nat) (y49 : Int32), I46 n47 y49 → z_w p l e room_1 s m #[Value.ref b] below meth c D cA N0 9 (236 + (60 - n22) * 227 + 0 + 0 + 1 + 1 + 105) (5101 + (60 - n22) * 3679 + 0 + 0 + 16 + 16 + 1422) (lw_Z below #[Value.ref b] s) 238 [(0, .ref b), (1, .ref q1), (2, .int y24), (3, .int (r29 >>> (((y24 / 20) * 7) &&& 31))), (4, .int r31), (5, .ref q32), (6, .ref q34), (7, .int y49)] [] U149 G150 := by
                                      intro n47
                                      induction n47 using Nat.strongRecOn with
                                      | _ n47 ih50 =>
                                        intro y49 hin
                                        have h := hI145 n47 y49 hin
                                        refine zr_iload C 7 dL_law_238 rfl ?_
                                        refine zr_iload C 4 dL_law_240 rfl ?_
                                        obtain ⟨h1, h2⟩ := h
                                        refine zr_icmp_ge C 335 dL_law_242 (by decide) (fun hc => ?_) (fun hc => ?_)
                                        · have h := h1 hc
                                          clear h1 h2
                                          refine zr_iload_n C 2 dL_law_335 rfl rfl ?_
                                          refine zr_bipush C 7 dL_law_336 (by decide) ?_
                                          refine zr_irem C dL_law_338 (by decide) ?_
                                          refine zr_bipush C 6 dL_law_339 (by decide) ?_
                                          obtain ⟨h1, h2⟩ := h
                                          refine zr_icmp_eq C 347 dL_law_341 (by decide) (fun hc => ?_) (fun hc => ?_)
                                          · have h := h1 hc
                                            clear h1 h2
                                            refine zr_aload_n C 1 dL_law_347 rfl rfl ?_
                                            obtain ⟨hT52, h⟩ := h
                                            refine zr_callV (As := []) (r := (RX4, TX4, 4)) C (k_X4_digest h) ok_L_47 zq_414 zq_415 hT52 (by decide) rfl rfl ⟨by decide, (Nat.le_of_ble_eq_true rfl)⟩ ⟨(by show 236 + (60 - n22) * 227 + 0 + 0 + 1 + 1 + 105 + 51 ≤ 600074; omega), (by show 5101 + (60 - n22) * 3679 + 0 + 0 + 16 + 16 + 1422 + 1054 ≤ 7301550; omega)⟩ (Nat.le_of_ble_eq_true rfl) dL_law_348 (fun v84 U85 G86 hq => ?_)
                                            clear h
                                            · obtain ⟨r53, rfl, h⟩ := hq
                                              skip
                                              refine zr_lstore C [(7, .long r53), (0, .ref b), (1, .ref q1), (2, .int y24), (3, .int (r29 >>> (((y24 / 20) * 7) &&& 31))), (4, .int r31), (5, .ref q32), (6, .ref q34)] dL_law_351 (by decide) rfl ?_
                                              refine zr_aload_n C 2 dL_law_353 rfl rfl ?_
                                              refine zr_callS (As := [.ref q1]) C (k_L_areBookingsRight h) ok_L_51 zq_792 rfl ⟨by decide, (Nat.le_of_ble_eq_true rfl)⟩ ⟨(by show 236 + (60 - n22) * 227 + 0 + 0 + 1 + 1 + 105 + 51 + 1 ≤ 600074; omega), (by show 5101 + (60 - n22) * 3679 + 0 + 0 + 16 + 16 + 1422 + 1054 + 5 ≤ 7301550; omega)⟩ (Nat.le_of_ble_eq_true rfl) dL_law_354 (fun v81 U82 G83 hq => ?_)
                                              clear h
                                              · obtain ⟨r56, rfl, h⟩ := hq
                                                skip
                                                obtain ⟨h1, h2⟩ := h
                                                refine zr_if_eq C 393 dL_law_357 (by decide) (fun hc => ?_) (fun hc => ?_)
                                                · have h := h1 hc
                                                  clear h1 h2
                                                  refine zr_iconst C 0 dL_law_393 (by decide) ?_
                                                  exact h.elim
                                                · have h := h2 hc
                                                  clear h1 h2
                                                  refine zr_aload_n C 2 dL_law_360 rfl rfl ?_
                                                  refine zr_iload_n C 4 dL_law_361 rfl rfl ?_
                                                  refine zr_callS (As := [.ref q1, .int (r29 >>> (((y24 / 20) * 7) &&& 31))]) C (k_L_arePiecesRight h) ok_L_55 zq_797 rfl ⟨by decide, (Nat.le_of_ble_eq_true rfl)⟩ ⟨(by show 236 + (60 - n22) * 227 + 0 + 0 + 1 + 1 + 105 + 51 + 1 + 0 ≤ 600074; omega), (by show 5101 + (60 - n22) * 3679 + 0 + 0 + 16 + 16 + 1422 + 1054 + 5 + 0 ≤ 7301550; omega)⟩ (Nat.le_of_ble_eq_true rfl) dL_law_362 (fun v78 U79 G80 hq => ?_)
                                                  clear h
                                                  · obtain ⟨r59, rfl, rfl, rfl, h⟩ := hq
                                                    obtain ⟨h1, h2⟩ := h
                                                    refine zr_if_eq C 393 dL_law_365 (by decide) (fun hc => ?_) (fun hc => ?_)
                                                    · have h := h1 hc
                                                      clear h1 h2
                                                      refine zr_iconst C 0 dL_law_393 (by decide) ?_
                                                      exact h.elim
                                                    · have h := h2 hc
                                                      clear h1 h2
                                                      refine zr_aload_n C 2 dL_law_368 rfl rfl ?_
                                                      refine zr_iload_n C 4 dL_law_369 rfl rfl ?_
                                                      refine zr_iconst C 3 dL_law_370 (by decide) ?_
                                                      refine zr_ishr C dL_law_371 ?_
                                                      refine zr_bipush C 9 dL_law_372 (by decide) ?_
                                                      refine zr_callS (As := [.int ((r29 >>> (((y24 / 20) * 7) &&& 31)) >>> (3 &&& 31)), .int 9]) C (k_L_below h) ok_L_22 zq_677 rfl ⟨by decide, (Nat.le_of_ble_eq_true rfl)⟩ ⟨(by show 236 + (60 - n22) * 227 + 0 + 0 + 1 + 1 + 105 + 51 + 1 + 0 + 0 ≤ 600074; omega), (by show 5101 + (60 - n22) * 3679 + 0 + 0 + 16 + 16 + 1422 + 1054 + 5 + 0 + 0 ≤ 7301550; omega)⟩ (Nat.le_of_ble_eq_true rfl) dL_law_374 (fun v75 U76 G77 hq => ?_)
                                                      clear h
                                                      · obtain ⟨r60, rfl, rfl, rfl, h⟩ := hq
                                                        refine zr_callS (As := [.ref q1, .int r60]) C (k_L_arePlacesRight h) ok_L_58 zq_806 rfl ⟨by decide, (Nat.le_of_ble_eq_true rfl)⟩ ⟨(by show 236 + (60 - n22) * 227 + 0 + 0 + 1 + 1 + 105 + 51 + 1 + 0 + 0 + 17 ≤ 600074; omega), (by show 5101 + (60 - n22) * 3679 + 0 + 0 + 16 + 16 + 1422 + 1054 + 5 + 0 + 0 + 112 ≤ 7301550; omega)⟩ (Nat.le_of_ble_eq_true rfl) dL_law_377 (fun v72 U73 G74 hq => ?_)
                                                        clear h
                                                        · obtain ⟨r61, rfl, h⟩ := hq
                                                          skip
                                                          obtain ⟨h1, h2⟩ := h
                                                          refine zr_if_eq C 393 dL_law_380 (by decide) (fun hc => ?_) (fun hc => ?_)
                                                          · have h := h1 hc
                                                            clear h1 h2
                                                            refine zr_iconst C 0 dL_law_393 (by decide) ?_
                                                            exact h.elim
                                                          · have h := h2 hc
                                                            clear h1 h2
                                                            refine zr_aload_n C 2 dL_law_383 rfl rfl ?_
                                                            obtain ⟨hT64, h⟩ := h
                                                            refine zr_callV (As := []) (r := (RX4, TX4, 4)) C (k_X4_digest h) ok_L_47 zq_414 zq_415 hT64 (by decide) rfl rfl ⟨by decide, (Nat.le_of_ble_eq_true rfl)⟩ ⟨(by show 236 + (60 - n22) * 227 + 0 + 0 + 1 + 1 + 105 + 51 + 1 + 0 + 0 + 17 + 51 ≤ 600074; omega), (by show 5101 + (60 - n22) * 3679 + 0 + 0 + 16 + 16 + 1422 + 1054 + 5 + 0 + 0 + 112 + 1054 ≤ 7301550; omega)⟩ (Nat.le_of_ble_eq_true rfl) dL_law_384 (fun v69 U70 G71 hq => ?_)
                                                            clear h
                                                            · obtain ⟨r65, rfl, h⟩ := hq
                                                              skip
                                                              refine zr_lload C 0 dL_law_387 rfl ?_
                                                              refine zr_lcmp C dL_law_389 ?_
                                                              obtain ⟨h1, h2⟩ := h
                                                              refine zr_if_eq C 395 dL_law_390 (by decide) (fun hc => ?_) (fun hc => ?_)
                                                              · have h := h1 hc
                                                                clear h1 h2
                                                                refine zr_iinc C [(2, .int (y24 + 1)), (7, .long r53), (0, .ref b), (1, .ref q1), (3, .int (r29 >>> (((y24 / 20) * 7) &&& 31))), (4, .int r31), (5, .ref q32), (6, .ref q34)] 3 dL_law_395 rfl rfl (by decide) rfl ?_
                                                                refine zr_goto C 138 dL_law_398 (by decide) ?_
                                                                obtain ⟨n68, hlt, h⟩ := h
                                                                exact zr_widen (by show 236 + (60 - n22) * 227 + 0 + 0 + 1 + 1 + 105 + 51 + 1 + 0 + 0 + 17 + 51 ≤ 236 + (60 - n68) * 227; omega) (by show 5101 + (60 - n22) * 3679 + 0 + 0 + 16 + 16 + 1422 + 1054 + 5 + 0 + 0 + 112 + 1054 ≤ 5101 + (60 - n68) * 3679; omega) (zr_sub [2, 3, 0] rfl (ih27 n68 hlt (y24 + 1) U70 G71 (by omega) h))
                                                              · have h := h2 hc
                                                                clear h1 h2
                                                                refine zr_iconst C 0 dL_law_393 (by decide) ?_
                                                                exact h.elim
                                          · have h := h2 hc
                                            clear h1 h2
                                            refine zr_goto C 395 dL_law_344 (by decide) ?_
                                            refine zr_iinc C [(2, .int (y24 + 1)), (0, .ref b), (1, .ref q1), (3, .int (r29 >>> (((y24 / 20) * 7) &&& 31))), (4, .int r31), (5, .ref q32), (6, .ref q34), (7, .int y49)] 2 dL_law_395 rfl rfl (by decide) rfl ?_
                                            refine zr_goto C 138 dL_law_398 (by decide) ?_
                                            obtain ⟨n87, hlt, h⟩ := h
                                            exact zr_widen (by show 236 + (60 - n22) * 227 + 0 + 0 + 1 + 1 + 105 ≤ 236 + (60 - n87) * 227; omega) (by show 5101 + (60 - n22) * 3679 + 0 + 0 + 16 + 16 + 1422 ≤ 5101 + (60 - n87) * 3679; omega) (zr_sub [1, 2, 0] rfl (ih27 n87 hlt (y24 + 1) U149 G150 (by omega) h))
                                        · have h := h2 hc
                                          clear h1 h2
                                          refine zr_aload_n C 1 dL_law_245 rfl rfl ?_
                                          refine zr_iload C 7 dL_law_246 rfl ?_
                                          refine zr_bipush C 6 dL_law_248 (by decide) ?_
                                          obtain ⟨hT88, h⟩ := h
                                          refine zr_callV (As := [.int y49, .int 6]) (r := (RX4, TX4, 4)) C (k_X4_ofBooking0 h) ok_L_40 zq_378 zq_379 hT88 (by decide) rfl rfl ⟨by decide, (Nat.le_of_ble_eq_true rfl)⟩ ⟨(by show 236 + (60 - n22) * 227 + 0 + 0 + 1 + 1 + 105 + 0 ≤ 600074; omega), (by show 5101 + (60 - n22) * 3679 + 0 + 0 + 16 + 16 + 1422 + 0 ≤ 7301550; omega)⟩ (Nat.le_of_ble_eq_true rfl) dL_law_250 (fun v142 U143 G144 hq => ?_)
                                          clear h
                                          · obtain ⟨r89, rfl, rfl, rfl, h⟩ := hq
                                            refine zr_aload_n C 1 dL_law_253 rfl rfl ?_
                                            refine zr_iload C 7 dL_law_254 rfl ?_
                                            refine zr_bipush C 8 dL_law_256 (by decide) ?_
                                            refine zr_callV (As := [.int y49, .int 8]) (r := (RX4, TX4, 4)) C (k_X4_ofBooking0 h) ok_L_40 zq_378 zq_379 hT88 (by decide) rfl rfl ⟨by decide, (Nat.le_of_ble_eq_true rfl)⟩ ⟨(by show 236 + (60 - n22) * 227 + 0 + 0 + 1 + 1 + 105 + 0 + 0 ≤ 600074; omega), (by show 5101 + (60 - n22) * 3679 + 0 + 0 + 16 + 16 + 1422 + 0 + 0 ≤ 7301550; omega)⟩ (Nat.le_of_ble_eq_true rfl) dL_law_258 (fun v139 U140 G141 hq => ?_)
                                            clear h
                                            · obtain ⟨r90, rfl, rfl, rfl, h⟩ := hq
                                              refine zr_aload C 6 dL_law_261 rfl ?_
                                              refine zr_iload C 7 dL_law_263 rfl ?_
                                              obtain ⟨n91, hT92, hi93, x94, hv95, h⟩ := h
                                              refine zr_iald C rfl hT92 hi93 hv95 dL_law_265 ?_
                                              obtain ⟨h1, h2⟩ := h
                                              refine zr_icmp_le C 285 dL_law_266 (by decide) (fun hc => ?_) (fun hc => ?_)
                                              · have h := h1 hc
                                                clear h1 h2
                                                refine zr_aload C 5 dL_law_285 rfl ?_
                                                refine zr_iload C 7 dL_law_287 rfl ?_
                                                obtain ⟨n96, hT97, hi98, x99, hv100, h⟩ := h
                                                refine zr_iald C rfl hT97 hi98 hv100 dL_law_289 ?_
                                                obtain ⟨h1, h2⟩ := h
                                                refine zr_icmp_ne C 327 dL_law_290 (by decide) (fun hc => ?_) (fun hc => ?_)
                                                · have h := h1 hc
                                                  clear h1 h2
                                                  refine zr_iconst C 0 dL_law_327 (by decide) ?_
                                                  exact h.elim
                                                · have h := h2 hc
                                                  clear h1 h2
                                                  refine zr_aload_n C 1 dL_law_293 rfl rfl ?_
                                                  refine zr_iload C 7 dL_law_294 rfl ?_
                                                  refine zr_bipush C 8 dL_law_296 (by decide) ?_
                                                  refine zr_callV (As := [.int y49, .int 8]) (r := (RX4, TX4, 4)) C (k_X4_ofBooking0 h) ok_L_40 zq_378 zq_379 hT88 (by decide) rfl rfl ⟨by decide, (Nat.le_of_ble_eq_true rfl)⟩ ⟨(by show 236 + (60 - n22) * 227 + 0 + 0 + 1 + 1 + 105 + 0 + 0 + 0 ≤ 600074; omega), (by show 5101 + (60 - n22) * 3679 + 0 + 0 + 16 + 16 + 1422 + 0 + 0 + 0 ≤ 7301550; omega)⟩ (Nat.le_of_ble_eq_true rfl) dL_law_298 (fun v113 U114 G115 hq => ?_)
                                                  clear h
                                                  · obtain ⟨r101, rfl, rfl, rfl, h⟩ := hq
                                                    refine zr_aload C 6 dL_law_301 rfl ?_
                                                    refine zr_iload C 7 dL_law_303 rfl ?_
                                                    obtain ⟨hi102, x103, hv104, h⟩ := h
                                                    refine zr_iald C rfl hT92 hi102 hv104 dL_law_305 ?_
                                                    obtain ⟨h1, h2⟩ := h
                                                    refine zr_icmp_lt C 327 dL_law_306 (by decide) (fun hc => ?_) (fun hc => ?_)
                                                    · have h := h1 hc
                                                      clear h1 h2
                                                      refine zr_iconst C 0 dL_law_327 (by decide) ?_
                                                      exact h.elim
                                                    · have h := h2 hc
                                                      clear h1 h2
                                                      refine zr_aload_n C 1 dL_law_309 rfl rfl ?_
                                                      refine zr_iload C 7 dL_law_310 rfl ?_
                                                      refine zr_bipush C 8 dL_law_312 (by decide) ?_
                                                      refine zr_callV (As := [.int y49, .int 8]) (r := (RX4, TX4, 4)) C (k_X4_ofBooking0 h) ok_L_40 zq_378 zq_379 hT88 (by decide) rfl rfl ⟨by decide, (Nat.le_of_ble_eq_true rfl)⟩ ⟨(by show 236 + (60 - n22) * 227 + 0 + 0 + 1 + 1 + 105 + 0 + 0 + 0 + 0 ≤ 600074; omega), (by show 5101 + (60 - n22) * 3679 + 0 + 0 + 16 + 16 + 1422 + 0 + 0 + 0 + 0 ≤ 7301550; omega)⟩ (Nat.le_of_ble_eq_true rfl) dL_law_314 (fun v110 U111 G112 hq => ?_)
                                                      clear h
                                                      · obtain ⟨r105, rfl, rfl, rfl, h⟩ := hq
                                                        refine zr_aload C 6 dL_law_317 rfl ?_
                                                        refine zr_iload C 7 dL_law_319 rfl ?_
                                                        obtain ⟨hi106, x107, hv108, h⟩ := h
                                                        refine zr_iald C rfl hT92 hi106 hv108 dL_law_321 ?_
                                                        refine zr_iconst C 1 dL_law_322 (by decide) ?_
                                                        refine zr_iadd C dL_law_323 ?_
                                                        obtain ⟨h1, h2⟩ := h
                                                        refine zr_icmp_le C 329 dL_law_324 (by decide) (fun hc => ?_) (fun hc => ?_)
                                                        · have h := h1 hc
                                                          clear h1 h2
                                                          refine zr_iinc C [(7, .int (y49 + 1)), (0, .ref b), (1, .ref q1), (2, .int y24), (3, .int (r29 >>> (((y24 / 20) * 7) &&& 31))), (4, .int r31), (5, .ref q32), (6, .ref q34)] 7 dL_law_329 rfl rfl (by decide) rfl ?_
                                                          refine zr_goto C 238 dL_law_332 (by decide) ?_
                                                          obtain ⟨n109, hlt, h⟩ := h
                                                          exact zr_sub [1, 2, 3, 4, 5, 6, 7, 0] rfl (ih50 n109 hlt (y49 + 1) h)
                                                        · have h := h2 hc
                                                          clear h1 h2
                                                          refine zr_iconst C 0 dL_law_327 (by decide) ?_
                                                          exact h.elim
                                              · have h := h2 hc
                                                clear h1 h2
                                                refine zr_aload C 5 dL_law_269 rfl ?_
                                                refine zr_iload C 7 dL_law_271 rfl ?_
                                                obtain ⟨n116, hT117, hi118, x119, hv120, h⟩ := h
                                                refine zr_iald C rfl hT117 hi118 hv120 dL_law_273 ?_
                                                refine zr_aload C 5 dL_law_274 rfl ?_
                                                refine zr_iload C 7 dL_law_276 rfl ?_
                                                obtain ⟨hi121, x122, hv123, h⟩ := h
                                                refine zr_iald C rfl hT117 hi121 hv123 dL_law_278 ?_
                                                refine zr_iconst C 5 dL_law_279 (by decide) ?_
                                                refine zr_idiv C dL_law_280 (by decide) ?_
                                                refine zr_iadd C dL_law_281 ?_
                                                refine zr_goto C 290 dL_law_282 (by decide) ?_
                                                obtain ⟨h1, h2⟩ := h
                                                refine zr_icmp_ne C 327 dL_law_290 (by decide) (fun hc => ?_) (fun hc => ?_)
                                                · have h := h1 hc
                                                  clear h1 h2
                                                  refine zr_iconst C 0 dL_law_327 (by decide) ?_
                                                  exact h.elim
                                                · have h := h2 hc
                                                  clear h1 h2
                                                  refine zr_aload_n C 1 dL_law_293 rfl rfl ?_
                                                  refine zr_iload C 7 dL_law_294 rfl ?_
                                                  refine zr_bipush C 8 dL_law_296 (by decide) ?_
                                                  refine zr_callV (As := [.int y49, .int 8]) (r := (RX4, TX4, 4)) C (k_X4_ofBooking0 h) ok_L_40 zq_378 zq_379 hT88 (by decide) rfl rfl ⟨by decide, (Nat.le_of_ble_eq_true rfl)⟩ ⟨(by show 236 + (60 - n22) * 227 + 0 + 0 + 1 + 1 + 105 + 0 + 0 + 0 ≤ 600074; omega), (by show 5101 + (60 - n22) * 3679 + 0 + 0 + 16 + 16 + 1422 + 0 + 0 + 0 ≤ 7301550; omega)⟩ (Nat.le_of_ble_eq_true rfl) dL_law_298 (fun v136 U137 G138 hq => ?_)
                                                  clear h
                                                  · obtain ⟨r124, rfl, rfl, rfl, h⟩ := hq
                                                    refine zr_aload C 6 dL_law_301 rfl ?_
                                                    refine zr_iload C 7 dL_law_303 rfl ?_
                                                    obtain ⟨hi125, x126, hv127, h⟩ := h
                                                    refine zr_iald C rfl hT92 hi125 hv127 dL_law_305 ?_
                                                    obtain ⟨h1, h2⟩ := h
                                                    refine zr_icmp_lt C 327 dL_law_306 (by decide) (fun hc => ?_) (fun hc => ?_)
                                                    · have h := h1 hc
                                                      clear h1 h2
                                                      refine zr_iconst C 0 dL_law_327 (by decide) ?_
                                                      exact h.elim
                                                    · have h := h2 hc
                                                      clear h1 h2
                                                      refine zr_aload_n C 1 dL_law_309 rfl rfl ?_
                                                      refine zr_iload C 7 dL_law_310 rfl ?_
                                                      refine zr_bipush C 8 dL_law_312 (by decide) ?_
                                                      refine zr_callV (As := [.int y49, .int 8]) (r := (RX4, TX4, 4)) C (k_X4_ofBooking0 h) ok_L_40 zq_378 zq_379 hT88 (by decide) rfl rfl ⟨by decide, (Nat.le_of_ble_eq_true rfl)⟩ ⟨(by show 236 + (60 - n22) * 227 + 0 + 0 + 1 + 1 + 105 + 0 + 0 + 0 + 0 ≤ 600074; omega), (by show 5101 + (60 - n22) * 3679 + 0 + 0 + 16 + 16 + 1422 + 0 + 0 + 0 + 0 ≤ 7301550; omega)⟩ (Nat.le_of_ble_eq_true rfl) dL_law_314 (fun v133 U134 G135 hq => ?_)
                                                      clear h
                                                      · obtain ⟨r128, rfl, rfl, rfl, h⟩ := hq
                                                        refine zr_aload C 6 dL_law_317 rfl ?_
                                                        refine zr_iload C 7 dL_law_319 rfl ?_
                                                        obtain ⟨hi129, x130, hv131, h⟩ := h
                                                        refine zr_iald C rfl hT92 hi129 hv131 dL_law_321 ?_
                                                        refine zr_iconst C 1 dL_law_322 (by decide) ?_
                                                        refine zr_iadd C dL_law_323 ?_
                                                        obtain ⟨h1, h2⟩ := h
                                                        refine zr_icmp_le C 329 dL_law_324 (by decide) (fun hc => ?_) (fun hc => ?_)
                                                        · have h := h1 hc
                                                          clear h1 h2
                                                          refine zr_iinc C [(7, .int (y49 + 1)), (0, .ref b), (1, .ref q1), (2, .int y24), (3, .int (r29 >>> (((y24 / 20) * 7) &&& 31))), (4, .int r31), (5, .ref q32), (6, .ref q34)] 7 dL_law_329 rfl rfl (by decide) rfl ?_
                                                          refine zr_goto C 238 dL_law_332 (by decide) ?_
                                                          obtain ⟨n132, hlt, h⟩ := h
                                                          exact zr_sub [1, 2, 3, 4, 5, 6, 7, 0] rfl (ih50 n132 hlt (y49 + 1) h)
                                                        · have h := h2 hc
                                                          clear h1 h2
                                                          refine zr_iconst C 0 dL_law_327 (by decide) ?_
                                                          exact h.elim
                                    exact zr_sub [1, 2, 3, 4, 5, 6, 7, 0] rfl (ky147 n48 0 h0146)
                                  · have h := h2 hc
                                    clear h1 h2
                                    refine zr_iconst C 0 dL_law_233 (by decide) ?_
                                    exact h.elim
                              · have h := h2 hc
                                clear h1 h2
                                refine zr_aload C 5 dL_law_193 rfl ?_
                                refine zr_iload C 7 dL_law_195 rfl ?_
                                refine zr_aload_n C 1 dL_law_197 rfl rfl ?_
                                refine zr_iload C 7 dL_law_198 rfl ?_
                                refine zr_bipush C 6 dL_law_200 (by decide) ?_
                                obtain ⟨hT151, h⟩ := h
                                refine zr_callV (As := [.int y39, .int 6]) (r := (RX4, TX4, 4)) C (k_X4_ofBooking0 h) ok_L_40 zq_378 zq_379 hT151 (by decide) rfl rfl ⟨by decide, (Nat.le_of_ble_eq_true rfl)⟩ ⟨(by show 236 + (60 - n22) * 227 + 0 + 0 + 1 + 1 + 0 ≤ 600074; omega), (by show 5101 + (60 - n22) * 3679 + 0 + 0 + 16 + 16 + 0 ≤ 7301550; omega)⟩ (Nat.le_of_ble_eq_true rfl) dL_law_202 (fun v162 U163 G164 hq => ?_)
                                clear h
                                · obtain ⟨r152, rfl, rfl, rfl, h⟩ := hq
                                  obtain ⟨n153, hT154, hi155, h⟩ := h
                                  refine zr_iast C rfl hT154 hi155 dL_law_205 ?_
                                  refine zr_aload C 6 dL_law_206 rfl ?_
                                  refine zr_iload C 7 dL_law_208 rfl ?_
                                  refine zr_aload_n C 1 dL_law_210 rfl rfl ?_
                                  refine zr_iload C 7 dL_law_211 rfl ?_
                                  refine zr_bipush C 8 dL_law_213 (by decide) ?_
                                  refine zr_callV (As := [.int y39, .int 8]) (r := (RX4, TX4, 4)) C (k_X4_ofBooking0 h) ok_L_40 zq_378 zq_379 hT151 (by decide) rfl rfl ⟨by decide, (Nat.le_of_ble_eq_true rfl)⟩ ⟨(by show 236 + (60 - n22) * 227 + 0 + 0 + 1 + 1 + 0 + 0 ≤ 600074; omega), (by show 5101 + (60 - n22) * 3679 + 0 + 0 + 16 + 16 + 0 + 0 ≤ 7301550; omega)⟩ (Nat.le_of_ble_eq_true rfl) dL_law_215 (fun v159 U160 G161 hq => ?_)
                                  clear h
                                  · obtain ⟨r156, rfl, rfl, rfl, h⟩ := hq
                                    obtain ⟨hi157, h⟩ := h
                                    refine zr_iast C rfl z_nq hi157 dL_law_218 ?_
                                    refine zr_iinc C [(7, .int (y39 + 1)), (0, .ref b), (1, .ref q1), (2, .int y24), (3, .int (r29 >>> (((y24 / 20) * 7) &&& 31))), (4, .int r31), (5, .ref q32), (6, .ref q34)] 7 dL_law_219 rfl rfl (by decide) rfl ?_
                                    refine zr_goto C 186 dL_law_222 (by decide) ?_
                                    obtain ⟨n158, hlt, h⟩ := h
                                    exact zr_sub [1, 2, 3, 4, 5, 6, 7, 0] rfl (ih41 n158 hlt (y39 + 1) (zu (zu F40 q32 (y39).toNatClampNeg (.int r152)) q34 (y39).toNatClampNeg (.int r156)) h)
                          exact zr_sub [5, 6, 7, 4, 3, 2, 1, 0] rfl (ky167 n38 0 (zm (zm F26 q32 (fun _ => .int 0)) q34 (fun _ => .int 0)) h0166)
                exact zr_widen (by show 236 ≤ 236 + (60 - n23) * 227; omega) (by show 5101 ≤ 5101 + (60 - n23) * 3679; omega) (zr_sub [1, 2, 0] rfl (ky176 n23 0 T17 F18 hb28 h0175))
              · have h := h2 hc
                clear h1 h2
                refine zr_aload_n C 1 dL_law_98 rfl rfl ?_
                refine zr_aload_n C 0 dL_law_99 rfl rfl ?_
                refine zr_iconst C 3 dL_law_100 (by decide) ?_
                refine zr_callS (As := [.ref b, .int 3]) C (k_L_cell h) ok_L_12 zq_681 rfl ⟨by decide, (Nat.le_of_ble_eq_true rfl)⟩ ⟨(by show 21 + (5 - n14) * 43 + 0 ≤ 600074; omega), (by show 221 + (5 - n14) * 976 + 0 ≤ 7301550; omega)⟩ (Nat.le_of_ble_eq_true rfl) dL_law_101 (fun v198 U199 G200 hq => ?_)
                clear h
                · obtain ⟨r177, rfl, rfl, rfl, h⟩ := hq
                  refine zr_iconst C 2 dL_law_104 (by decide) ?_
                  refine zr_callS (As := [.int r177, .int 2]) C (k_L_below h) ok_L_22 zq_677 rfl ⟨by decide, (Nat.le_of_ble_eq_true rfl)⟩ ⟨(by show 21 + (5 - n14) * 43 + 0 + 0 ≤ 600074; omega), (by show 221 + (5 - n14) * 976 + 0 + 0 ≤ 7301550; omega)⟩ (Nat.le_of_ble_eq_true rfl) dL_law_105 (fun v195 U196 G197 hq => ?_)
                  clear h
                  · obtain ⟨r178, rfl, rfl, rfl, h⟩ := hq
                    refine zr_iload_n C 2 dL_law_108 rfl rfl ?_
                    refine zr_iconst C 2 dL_law_109 (by decide) ?_
                    refine zr_irem C dL_law_110 (by decide) ?_
                    refine zr_imul C dL_law_111 ?_
                    refine zr_iconst C 1 dL_law_112 (by decide) ?_
                    refine zr_aload_n C 0 dL_law_113 rfl rfl ?_
                    refine zr_iconst C 4 dL_law_114 (by decide) ?_
                    refine zr_iload_n C 2 dL_law_115 rfl rfl ?_
                    refine zr_iadd C dL_law_116 ?_
                    refine zr_callS (As := [.ref b, .int ((4 : Int32) + y16)]) C (k_L_cell h) ok_L_12 zq_681 rfl ⟨by decide, (Nat.le_of_ble_eq_true rfl)⟩ ⟨(by show 21 + (5 - n14) * 43 + 0 + 0 + 0 ≤ 600074; omega), (by show 221 + (5 - n14) * 976 + 0 + 0 + 0 ≤ 7301550; omega)⟩ (Nat.le_of_ble_eq_true rfl) dL_law_117 (fun v192 U193 G194 hq => ?_)
                    clear h
                    · obtain ⟨r179, rfl, rfl, rfl, h⟩ := hq
                      refine zr_bipush C 7 dL_law_120 (by decide) ?_
                      refine zr_callS (As := [.int r179, .int 7]) C (k_L_below h) ok_L_22 zq_677 rfl ⟨by decide, (Nat.le_of_ble_eq_true rfl)⟩ ⟨(by show 21 + (5 - n14) * 43 + 0 + 0 + 0 + 0 ≤ 600074; omega), (by show 221 + (5 - n14) * 976 + 0 + 0 + 0 + 0 ≤ 7301550; omega)⟩ (Nat.le_of_ble_eq_true rfl) dL_law_122 (fun v189 U190 G191 hq => ?_)
                      clear h
                      · obtain ⟨r180, rfl, rfl, rfl, h⟩ := hq
                        refine zr_iadd C dL_law_125 ?_
                        obtain ⟨hT181, h⟩ := h
                        refine zr_callV (As := [.int (r178 * (y16 - y16 / 2 * 2)), .int ((1 : Int32) + r180)]) (r := (RX4, TX4, 4)) C (k_X4_piece0 h) ok_L_33 zq_339 zq_340 hT181 (by decide) rfl rfl ⟨by decide, (Nat.le_of_ble_eq_true rfl)⟩ ⟨(by show 21 + (5 - n14) * 43 + 0 + 0 + 0 + 0 + 43 ≤ 600074; omega), (by show 221 + (5 - n14) * 976 + 0 + 0 + 0 + 0 + 976 ≤ 7301550; omega)⟩ (Nat.le_of_ble_eq_true rfl) dL_law_126 (fun v186 U187 G188 hq => ?_)
                        clear h
                        · obtain ⟨r182, rfl, h⟩ := hq
                          skip
                          refine zr_pop C dL_law_129 rfl ?_
                          refine zr_iinc C [(2, .int (y16 + 1)), (0, .ref b), (1, .ref q1)] 2 dL_law_130 rfl rfl (by decide) rfl ?_
                          refine zr_goto C 93 dL_law_133 (by decide) ?_
                          obtain ⟨n185, hlt, h⟩ := h
                          exact zr_widen (by show 21 + (5 - n14) * 43 + 0 + 0 + 0 + 0 + 43 ≤ 21 + (5 - n185) * 43; omega) (by show 221 + (5 - n14) * 976 + 0 + 0 + 0 + 0 + 976 ≤ 221 + (5 - n185) * 976; omega) (zr_sub [1, 2, 0] rfl (ih19 n185 hlt (y16 + 1) U187 G188 (by omega) h))
          exact zr_widen (by show 21 ≤ 21 + (5 - n15) * 43; omega) (by show 221 ≤ 221 + (5 - n15) * 976; omega) (zr_sub [1, 2, 0] rfl (ky203 n15 0 T9 F10 hb20 h0202))
        · have h := h2 hc
          clear h1 h2
          refine zr_aload_n C 0 dL_law_15 rfl rfl ?_
          refine zr_iload_n C 2 dL_law_16 rfl rfl ?_
          refine zr_callS (As := [.ref b, .int y8]) C (k_L_cell h) ok_L_12 zq_681 rfl ⟨by decide, (Nat.le_of_ble_eq_true rfl)⟩ ⟨(by show 9 + (3 - n6) * 4 + 0 ≤ 600074; omega), (by show 41 + (3 - n6) * 60 + 0 ≤ 7301550; omega)⟩ (Nat.le_of_ble_eq_true rfl) dL_law_17 (fun v272 U273 G274 hq => ?_)
          clear h
          · obtain ⟨r204, rfl, rfl, rfl, h⟩ := hq
            refine zr_istore_n C [(3, .int r204), (0, .ref b), (1, .ref q1), (2, .int y8)] dL_law_20 rfl (by decide) rfl ?_
            refine zr_aload_n C 2 dL_law_21 rfl rfl ?_
            obtain ⟨hT205, h⟩ := h
            refine zr_callV (As := []) (r := (RX4, TX4, 4)) C (k_X4_asset0 h) ok_L_18 zq_108 zq_109 hT205 (by decide) rfl rfl ⟨by decide, (Nat.le_of_ble_eq_true rfl)⟩ ⟨(by show 9 + (3 - n6) * 4 + 0 + 4 ≤ 600074; omega), (by show 41 + (3 - n6) * 60 + 0 + 60 ≤ 7301550; omega)⟩ (Nat.le_of_ble_eq_true rfl) dL_law_22 (fun v269 U270 G271 hq => ?_)
            clear h
            · obtain ⟨r206, rfl, h⟩ := hq
              skip
              refine zr_pop C dL_law_25 rfl ?_
              refine zr_aload_n C 2 dL_law_26 rfl rfl ?_
              refine zr_iload_n C 3 dL_law_27 rfl rfl ?_
              refine zr_iload_n C 0 dL_law_28 rfl rfl ?_
              refine zr_iconst C 3 dL_law_29 (by decide) ?_
              refine zr_callS (As := [.int r204, .int 3]) C (k_L_below h) ok_L_22 zq_677 rfl ⟨by decide, (Nat.le_of_ble_eq_true rfl)⟩ ⟨(by show 9 + (3 - n6) * 4 + 0 + 4 + 0 ≤ 600074; omega), (by show 41 + (3 - n6) * 60 + 0 + 60 + 0 ≤ 7301550; omega)⟩ (Nat.le_of_ble_eq_true rfl) dL_law_30 (fun v266 U267 G268 hq => ?_)
              clear h
              · obtain ⟨r209, rfl, rfl, rfl, h⟩ := hq
                obtain ⟨h1, h2⟩ := h
                refine zr_if_ne C 47 dL_law_33 (by decide) (fun hc => ?_) (fun hc => ?_)
                · have h := h1 hc
                  clear h1 h2
                  refine zr_iconst C 0 dL_law_47 (by decide) ?_
                  obtain ⟨hT210, h⟩ := h
                  refine zr_callV (As := [.int y8, .int 0]) (r := (RX4, TX4, 4)) C (k_X4_version0 h) ok_L_26 zq_266 zq_267 hT210 (by decide) rfl rfl ⟨by decide, (Nat.le_of_ble_eq_true rfl)⟩ ⟨(by show 9 + (3 - n6) * 4 + 0 + 4 + 0 + 0 ≤ 600074; omega), (by show 41 + (3 - n6) * 60 + 0 + 60 + 0 + 0 ≤ 7301550; omega)⟩ (Nat.le_of_ble_eq_true rfl) dL_law_48 (fun v233 U234 G235 hq => ?_)
                  clear h
                  · obtain ⟨r211, rfl, rfl, h⟩ := hq
                    refine zr_pop C dL_law_51 rfl ?_
                    refine zr_aload_n C 2 dL_law_52 rfl rfl ?_
                    refine zr_iload_n C 3 dL_law_53 rfl rfl ?_
                    refine zr_bipush C 15 dL_law_54 (by decide) ?_
                    refine zr_iconst C 0 dL_law_56 (by decide) ?_
                    refine zr_iload_n C 0 dL_law_57 rfl rfl ?_
                    refine zr_iconst C 5 dL_law_58 (by decide) ?_
                    refine zr_ishr C dL_law_59 ?_
                    refine zr_iconst C 2 dL_law_60 (by decide) ?_
                    refine zr_callS (As := [.int (r204 >>> (5 &&& 31)), .int 2]) C (k_L_below h) ok_L_22 zq_677 rfl ⟨by decide, (Nat.le_of_ble_eq_true rfl)⟩ ⟨(by show 9 + (3 - n6) * 4 + 0 + 4 + 0 + 0 + 0 ≤ 600074; omega), (by show 41 + (3 - n6) * 60 + 0 + 60 + 0 + 0 + 0 ≤ 7301550; omega)⟩ (Nat.le_of_ble_eq_true rfl) dL_law_61 (fun v230 U231 G232 hq => ?_)
                    clear h
                    · obtain ⟨r213, rfl, rfl, rfl, h⟩ := hq
                      obtain ⟨h1, h2⟩ := h
                      refine zr_if_ne C 72 dL_law_64 (by decide) (fun hc => ?_) (fun hc => ?_)
                      · have h := h1 hc
                        clear h1 h2
                        refine zr_iload_n C 0 dL_law_72 rfl rfl ?_
                        refine zr_bipush C 6 dL_law_73 (by decide) ?_
                        refine zr_ishr C dL_law_75 ?_
                        refine zr_bipush C 60 dL_law_76 (by decide) ?_
                        refine zr_callS (As := [.int (r204 >>> (6 &&& 31)), .int 60]) C (k_L_below h) ok_L_22 zq_677 rfl ⟨by decide, (Nat.le_of_ble_eq_true rfl)⟩ ⟨(by show 9 + (3 - n6) * 4 + 0 + 4 + 0 + 0 + 0 + 0 ≤ 600074; omega), (by show 41 + (3 - n6) * 60 + 0 + 60 + 0 + 0 + 0 + 0 ≤ 7301550; omega)⟩ (Nat.le_of_ble_eq_true rfl) dL_law_78 (fun v221 U222 G223 hq => ?_)
                        clear h
                        · obtain ⟨r214, rfl, rfl, rfl, h⟩ := hq
                          refine zr_callV (As := [.int y8, .int 15, .int 0, .int r214]) (r := (RX4, TX4, 4)) C (k_X4_rights0 h) ok_L_29 zq_325 zq_326 hT210 (by decide) rfl rfl ⟨by decide, (Nat.le_of_ble_eq_true rfl)⟩ ⟨(by show 9 + (3 - n6) * 4 + 0 + 4 + 0 + 0 + 0 + 0 + 0 ≤ 600074; omega), (by show 41 + (3 - n6) * 60 + 0 + 60 + 0 + 0 + 0 + 0 + 0 ≤ 7301550; omega)⟩ (Nat.le_of_ble_eq_true rfl) dL_law_81 (fun v218 U219 G220 hq => ?_)
                          clear h
                          · obtain ⟨r215, rfl, rfl, h⟩ := hq
                            refine zr_pop C dL_law_84 rfl ?_
                            refine zr_iinc C [(2, .int (y8 + 1)), (3, .int r204), (0, .ref b), (1, .ref q1)] 3 dL_law_85 rfl rfl (by decide) rfl ?_
                            refine zr_goto C 10 dL_law_88 (by decide) ?_
                            obtain ⟨n217, hlt, h⟩ := h
                            exact zr_widen (by show 9 + (3 - n6) * 4 + 0 + 4 + 0 + 0 + 0 + 0 + 0 ≤ 9 + (3 - n217) * 4; omega) (by show 41 + (3 - n6) * 60 + 0 + 60 + 0 + 0 + 0 + 0 + 0 ≤ 41 + (3 - n217) * 60; omega) (zr_sub [2, 3, 0] rfl (ih11 n217 hlt (y8 + 1) U270 G220 (by omega) h))
                      · have h := h2 hc
                        clear h1 h2
                        refine zr_bipush C 99 dL_law_67 (by decide) ?_
                        refine zr_goto C 81 dL_law_69 (by decide) ?_
                        refine zr_callV (As := [.int y8, .int 15, .int 0, .int 99]) (r := (RX4, TX4, 4)) C (k_X4_rights0 h) ok_L_29 zq_325 zq_326 hT210 (by decide) rfl rfl ⟨by decide, (Nat.le_of_ble_eq_true rfl)⟩ ⟨(by show 9 + (3 - n6) * 4 + 0 + 4 + 0 + 0 + 0 + 0 ≤ 600074; omega), (by show 41 + (3 - n6) * 60 + 0 + 60 + 0 + 0 + 0 + 0 ≤ 7301550; omega)⟩ (Nat.le_of_ble_eq_true rfl) dL_law_81 (fun v227 U228 G229 hq => ?_)
                        clear h
                        · obtain ⟨r224, rfl, rfl, h⟩ := hq
                          refine zr_pop C dL_law_84 rfl ?_
                          refine zr_iinc C [(2, .int (y8 + 1)), (3, .int r204), (0, .ref b), (1, .ref q1)] 3 dL_law_85 rfl rfl (by decide) rfl ?_
                          refine zr_goto C 10 dL_law_88 (by decide) ?_
                          obtain ⟨n226, hlt, h⟩ := h
                          exact zr_widen (by show 9 + (3 - n6) * 4 + 0 + 4 + 0 + 0 + 0 + 0 ≤ 9 + (3 - n226) * 4; omega) (by show 41 + (3 - n6) * 60 + 0 + 60 + 0 + 0 + 0 + 0 ≤ 41 + (3 - n226) * 60; omega) (zr_sub [2, 3, 0] rfl (ih11 n226 hlt (y8 + 1) U270 G229 (by omega) h))
                · have h := h2 hc
                  clear h1 h2
                  refine zr_iload_n C 0 dL_law_36 rfl rfl ?_
                  refine zr_iconst C 2 dL_law_37 (by decide) ?_
                  refine zr_ishr C dL_law_38 ?_
                  refine zr_bipush C 9 dL_law_39 (by decide) ?_
                  refine zr_callS (As := [.int (r204 >>> (2 &&& 31)), .int 9]) C (k_L_below h) ok_L_22 zq_677 rfl ⟨by decide, (Nat.le_of_ble_eq_true rfl)⟩ ⟨(by show 9 + (3 - n6) * 4 + 0 + 4 + 0 + 0 ≤ 600074; omega), (by show 41 + (3 - n6) * 60 + 0 + 60 + 0 + 0 ≤ 7301550; omega)⟩ (Nat.le_of_ble_eq_true rfl) dL_law_41 (fun v263 U264 G265 hq => ?_)
                  clear h
                  · obtain ⟨r236, rfl, rfl, rfl, h⟩ := hq
                    refine zr_goto C 48 dL_law_44 (by decide) ?_
                    obtain ⟨hT237, h⟩ := h
                    refine zr_callV (As := [.int y8, .int r236]) (r := (RX4, TX4, 4)) C (k_X4_version0 h) ok_L_26 zq_266 zq_267 hT237 (by decide) rfl rfl ⟨by decide, (Nat.le_of_ble_eq_true rfl)⟩ ⟨(by show 9 + (3 - n6) * 4 + 0 + 4 + 0 + 0 + 0 ≤ 600074; omega), (by show 41 + (3 - n6) * 60 + 0 + 60 + 0 + 0 + 0 ≤ 7301550; omega)⟩ (Nat.le_of_ble_eq_true rfl) dL_law_48 (fun v260 U261 G262 hq => ?_)
                    clear h
                    · obtain ⟨r238, rfl, rfl, h⟩ := hq
                      refine zr_pop C dL_law_51 rfl ?_
                      refine zr_aload_n C 2 dL_law_52 rfl rfl ?_
                      refine zr_iload_n C 3 dL_law_53 rfl rfl ?_
                      refine zr_bipush C 15 dL_law_54 (by decide) ?_
                      refine zr_iconst C 0 dL_law_56 (by decide) ?_
                      refine zr_iload_n C 0 dL_law_57 rfl rfl ?_
                      refine zr_iconst C 5 dL_law_58 (by decide) ?_
                      refine zr_ishr C dL_law_59 ?_
                      refine zr_iconst C 2 dL_law_60 (by decide) ?_
                      refine zr_callS (As := [.int (r204 >>> (5 &&& 31)), .int 2]) C (k_L_below h) ok_L_22 zq_677 rfl ⟨by decide, (Nat.le_of_ble_eq_true rfl)⟩ ⟨(by show 9 + (3 - n6) * 4 + 0 + 4 + 0 + 0 + 0 + 0 ≤ 600074; omega), (by show 41 + (3 - n6) * 60 + 0 + 60 + 0 + 0 + 0 + 0 ≤ 7301550; omega)⟩ (Nat.le_of_ble_eq_true rfl) dL_law_61 (fun v257 U258 G259 hq => ?_)
                      clear h
                      · obtain ⟨r240, rfl, rfl, rfl, h⟩ := hq
                        obtain ⟨h1, h2⟩ := h
                        refine zr_if_ne C 72 dL_law_64 (by decide) (fun hc => ?_) (fun hc => ?_)
                        · have h := h1 hc
                          clear h1 h2
                          refine zr_iload_n C 0 dL_law_72 rfl rfl ?_
                          refine zr_bipush C 6 dL_law_73 (by decide) ?_
                          refine zr_ishr C dL_law_75 ?_
                          refine zr_bipush C 60 dL_law_76 (by decide) ?_
                          refine zr_callS (As := [.int (r204 >>> (6 &&& 31)), .int 60]) C (k_L_below h) ok_L_22 zq_677 rfl ⟨by decide, (Nat.le_of_ble_eq_true rfl)⟩ ⟨(by show 9 + (3 - n6) * 4 + 0 + 4 + 0 + 0 + 0 + 0 + 0 ≤ 600074; omega), (by show 41 + (3 - n6) * 60 + 0 + 60 + 0 + 0 + 0 + 0 + 0 ≤ 7301550; omega)⟩ (Nat.le_of_ble_eq_true rfl) dL_law_78 (fun v248 U249 G250 hq => ?_)
                          clear h
                          · obtain ⟨r241, rfl, rfl, rfl, h⟩ := hq
                            refine zr_callV (As := [.int y8, .int 15, .int 0, .int r241]) (r := (RX4, TX4, 4)) C (k_X4_rights0 h) ok_L_29 zq_325 zq_326 hT237 (by decide) rfl rfl ⟨by decide, (Nat.le_of_ble_eq_true rfl)⟩ ⟨(by show 9 + (3 - n6) * 4 + 0 + 4 + 0 + 0 + 0 + 0 + 0 + 0 ≤ 600074; omega), (by show 41 + (3 - n6) * 60 + 0 + 60 + 0 + 0 + 0 + 0 + 0 + 0 ≤ 7301550; omega)⟩ (Nat.le_of_ble_eq_true rfl) dL_law_81 (fun v245 U246 G247 hq => ?_)
                            clear h
                            · obtain ⟨r242, rfl, rfl, h⟩ := hq
                              refine zr_pop C dL_law_84 rfl ?_
                              refine zr_iinc C [(2, .int (y8 + 1)), (3, .int r204), (0, .ref b), (1, .ref q1)] 3 dL_law_85 rfl rfl (by decide) rfl ?_
                              refine zr_goto C 10 dL_law_88 (by decide) ?_
                              obtain ⟨n244, hlt, h⟩ := h
                              exact zr_widen (by show 9 + (3 - n6) * 4 + 0 + 4 + 0 + 0 + 0 + 0 + 0 + 0 ≤ 9 + (3 - n244) * 4; omega) (by show 41 + (3 - n6) * 60 + 0 + 60 + 0 + 0 + 0 + 0 + 0 + 0 ≤ 41 + (3 - n244) * 60; omega) (zr_sub [2, 3, 0] rfl (ih11 n244 hlt (y8 + 1) U270 G247 (by omega) h))
                        · have h := h2 hc
                          clear h1 h2
                          refine zr_bipush C 99 dL_law_67 (by decide) ?_
                          refine zr_goto C 81 dL_law_69 (by decide) ?_
                          refine zr_callV (As := [.int y8, .int 15, .int 0, .int 99]) (r := (RX4, TX4, 4)) C (k_X4_rights0 h) ok_L_29 zq_325 zq_326 hT237 (by decide) rfl rfl ⟨by decide, (Nat.le_of_ble_eq_true rfl)⟩ ⟨(by show 9 + (3 - n6) * 4 + 0 + 4 + 0 + 0 + 0 + 0 + 0 ≤ 600074; omega), (by show 41 + (3 - n6) * 60 + 0 + 60 + 0 + 0 + 0 + 0 + 0 ≤ 7301550; omega)⟩ (Nat.le_of_ble_eq_true rfl) dL_law_81 (fun v254 U255 G256 hq => ?_)
                          clear h
                          · obtain ⟨r251, rfl, rfl, h⟩ := hq
                            refine zr_pop C dL_law_84 rfl ?_
                            refine zr_iinc C [(2, .int (y8 + 1)), (3, .int r204), (0, .ref b), (1, .ref q1)] 3 dL_law_85 rfl rfl (by decide) rfl ?_
                            refine zr_goto C 10 dL_law_88 (by decide) ?_
                            obtain ⟨n253, hlt, h⟩ := h
                            exact zr_widen (by show 9 + (3 - n6) * 4 + 0 + 4 + 0 + 0 + 0 + 0 + 0 ≤ 9 + (3 - n253) * 4; omega) (by show 41 + (3 - n6) * 60 + 0 + 60 + 0 + 0 + 0 + 0 + 0 ≤ 41 + (3 - n253) * 60; omega) (zr_sub [2, 3, 0] rfl (ih11 n253 hlt (y8 + 1) U270 G256 (by omega) h))
    exact zr_widen (by show 9 ≤ 9 + (3 - n7) * 4; omega) (by show 41 ≤ 41 + (3 - n7) * 60; omega) (zr_sub [2, 1, 0] rfl (ky277 n7 0 U279 G280 hb12 h0276))
