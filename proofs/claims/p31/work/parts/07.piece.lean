theorem dX2_init_0 : decode cX2_init 0 = .ok (.aload_n 0, 1) := by decide +kernel
theorem dX2_init_1 : decode cX2_init 1 = .ok (.invokespecial 3, 3) := by decide +kernel
theorem dX2_init_4 : decode cX2_init 4 = .ok (.aload_n 0, 1) := by decide +kernel
theorem dX2_init_5 : decode cX2_init 5 = .ok (.new 9, 3) := by decide +kernel
theorem dX2_init_8 : decode cX2_init 8 = .ok (.dup, 1) := by decide +kernel
theorem dX2_init_12 : decode cX2_init 12 = .ok (.putfield 12, 3) := by decide +kernel
theorem dX2_init_15 : decode cX2_init 15 = .ok (.aload_n 0, 1) := by decide +kernel
theorem dX2_init_16 : decode cX2_init 16 = .ok (.iconst 4, 1) := by decide +kernel
theorem dX2_init_17 : decode cX2_init 17 = .ok (.bipush 16, 2) := by decide +kernel
theorem dX2_init_19 : decode cX2_init 19 = .ok (.multianewarray 18 2, 4) := by decide +kernel
theorem dX2_init_23 : decode cX2_init 23 = .ok (.putfield 20, 3) := by decide +kernel
theorem dX2_init_26 : decode cX2_init 26 = .ok (.aload_n 0, 1) := by decide +kernel
theorem dX2_init_27 : decode cX2_init 27 = .ok (.iload_n 1, 1) := by decide +kernel
theorem dX2_init_28 : decode cX2_init 28 = .ok (.putfield 23, 3) := by decide +kernel
theorem dX2_init_31 : decode cX2_init 31 = .ok (.aload_n 0, 1) := by decide +kernel
theorem dX2_init_32 : decode cX2_init 32 = .ok (.iload_n 2, 1) := by decide +kernel
theorem dX2_init_33 : decode cX2_init 33 = .ok (.putfield 27, 3) := by decide +kernel
theorem dX2_init_36 : decode cX2_init 36 = .ok (.aload_n 0, 1) := by decide +kernel
theorem dX2_init_37 : decode cX2_init 37 = .ok (.iload_n 3, 1) := by decide +kernel
theorem dX2_init_38 : decode cX2_init 38 = .ok (.putfield 30, 3) := by decide +kernel
theorem dX2_init_41 : decode cX2_init 41 = .ok (.iconst 0, 1) := by decide +kernel
theorem dX2_init_42 : decode cX2_init 42 = .ok (.istore 4, 2) := by decide +kernel
theorem dX2_init_44 : decode cX2_init 44 = .ok (.iload 4, 2) := by decide +kernel
theorem dX2_init_46 : decode cX2_init 46 = .ok (.aload_n 0, 1) := by decide +kernel
theorem dX2_init_47 : decode cX2_init 47 = .ok (.getfield 20, 3) := by decide +kernel
theorem dX2_init_50 : decode cX2_init 50 = .ok (.arraylength, 1) := by decide +kernel
theorem dX2_init_51 : decode cX2_init 51 = .ok (.if_icmp .ge 20, 3) := by decide +kernel
theorem dX2_init_71 : decode cX2_init 71 = .ok (.return_, 1) := by decide +kernel
theorem dX2_init_54 : decode cX2_init 54 = .ok (.aload_n 0, 1) := by decide +kernel
theorem dX2_init_55 : decode cX2_init 55 = .ok (.getfield 20, 3) := by decide +kernel
theorem dX2_init_58 : decode cX2_init 58 = .ok (.iload 4, 2) := by decide +kernel
theorem dX2_init_60 : decode cX2_init 60 = .ok (.aaload, 1) := by decide +kernel
theorem dX2_init_61 : decode cX2_init 61 = .ok (.iconst (-1), 1) := by decide +kernel
theorem dX2_init_65 : decode cX2_init 65 = .ok (.iinc 4 1, 3) := by decide +kernel
theorem dX2_init_68 : decode cX2_init 68 = .ok (.goto (-24), 3) := by decide +kernel
theorem dX2_init_62 : decode cX2_init 62 = .ok (.invokestatic 33, 3) := by decide +kernel
theorem dX2_init_9 : decode cX2_init 9 = .ok (.invokespecial 11, 3) := by decide +kernel
def v_X2_init (zE : Nat) (a0 : Nat) (p1 : Int32) (p2 : Int32) (p3 : Int32) (T : zT) (F : zF) (Post : zT → zF → Prop) : Prop :=
  (∀ q1 : Nat, (∀ b, q1 ≤ b → T b = none) → (v_Jx4a65c_init_da8c8 zE q1 (zn T q1 (0, 3)) (zm F q1 (fun j => defaultValue (tyJx4a65c j))) (fun (F3 : zF) => (zn T q1 (0, 3) a0 = some (3, 5) ∧ (∀ q5 : Nat, (∀ b, q5 ≤ b → (zn T q1 (0, 3)) b = none) → (znm (zn T q1 (0, 3)) q5 4 16 a0 = some (3, 5) ∧ (∃ I14 : Nat → Int32 → zF → Prop, (∃ n16 : Nat, I14 n16 0 (zu (zu (zu (zu (zmm (zu F3 a0 3 (.ref q1)) q5 4) a0 4 (.ref q5)) a0 0 (.int p1)) a0 1 (.int p2)) a0 2 (.int p3))) ∧ (∀ (n15 : Nat) (y17 : Int32) (F18 : zF), I14 n15 y17 F18 → (∃ x22 : Nat, F18 a0 4 = .ref x22 ∧ ∃ n23 : Nat, znm (zn T q1 (0, 3)) q5 4 16 x22 = some (102, n23) ∧ (((nI n23) ≤ y17 → Post (znm (zn T q1 (0, 3)) q5 4 16) F18) ∧ (¬ (nI n23) ≤ y17 → (vp_in y17 n23 ∧ ∃ x26 : Nat, F18 x22 (y17).toNatClampNeg = .ref x26 ∧ (v_J7_fill_53178 x26 ((-1)) (znm (zn T q1 (0, 3)) q5 4 16) F18 (fun (F28 : zF) => (∃ n29 : Nat, n29 < n15 ∧ I14 n29 (y17 + 1) F28)))))))))))))))
set_option maxRecDepth 100000 in
set_option maxHeartbeats 4000000 in
theorem k_X2_init {l : Launch} {D : va_G} {cA : Nat → ClassId} {N0 zE : Nat} {a0 : Nat} {p1 : Int32} {p2 : Int32} {p3 : Int32} {T : zT} {F : zF} {Post : zT → zF → Prop} (h : v_X2_init zE a0 p1 p2 p3 T F Post) : z_Mt l D cA N0 zE yX2_init cX2_init 5 none ({ frames := 4, cells := 6, slots := 71, locals := 80 } : Room) [.ref a0, .int p1, .int p2, .int p3] T F (fun v T' F' => v = none ∧ Post T' F') := by
  unfold v_X2_init at h
  refine z_bodyT (by decide) (Nat.le_of_ble_eq_true rfl) ?_
  intro p e s m args below meth c C hnm
  have C : z_C p l s m args meth c RX2 cX2_init 5 none D cA N0 zE := C
  show z_w p l e ({ frames := 4, cells := 6, slots := 71, locals := 80 } : Room) s m args below meth c D cA N0 5 0 0 (MQ below (z_Qc D cA N0 (fun v T' F' => v = none ∧ Post T' F')) args s 6 71 (fun q => N0 ≤ q)) 0 [(0, .ref a0), (1, .int p1), (2, .int p2), (3, .int p3)] [] T F
  refine zr_aload_n C 0 dX2_init_0 rfl rfl ?_
  refine zr_objInit C zq_350 zq_44 zq_45 (by decide) (Nat.le_of_ble_eq_true rfl) dX2_init_1 ?_
  refine zr_aload_n C 0 dX2_init_4 rfl rfl ?_
  refine zr_new C nw_X2_9 (Nat.le_of_ble_eq_true rfl) (Nat.le_of_ble_eq_true rfl) dX2_init_5 (fun q1 hq2 => ?_)
  have h := h q1 hq2
  refine zr_dup C dX2_init_8 rfl ?_
  refine zr_callI (As := []) C (k_Jx4a65c_init_da8c8 h) ok_X2_11 zq_49 rfl rfl ⟨by decide, (Nat.le_of_ble_eq_true rfl)⟩ ⟨(Nat.le_of_ble_eq_true rfl), (Nat.le_of_ble_eq_true rfl)⟩ (Nat.le_of_ble_eq_true rfl) dX2_init_9 (fun v36 U37 G38 hq => ?_)
  clear h
  · obtain ⟨rfl, rfl, h⟩ := hq
    obtain ⟨hT4, h⟩ := h
    refine zr_putF C fl_X2_12 fd_X2_12 hT4 rfl rfl hnm dX2_init_12 ?_
    refine zr_aload_n C 0 dX2_init_15 rfl rfl ?_
    refine zr_iconst C 4 dX2_init_16 (by decide) ?_
    refine zr_bipush C 16 dX2_init_17 (by decide) ?_
    refine zr_multi (n := 4) (k := 16) C rfl rfl zq_353 zq_93 (by decide) (by decide) (by decide) (by decide) (Nat.le_of_ble_eq_true rfl) (Nat.le_of_ble_eq_true rfl) dX2_init_19 (fun q5 hq6 => ?_)
    have h := h q5 hq6
    obtain ⟨hT7, h⟩ := h
    refine zr_putF C fl_X2_20 fd_X2_20 hT7 rfl rfl hnm dX2_init_23 ?_
    refine zr_aload_n C 0 dX2_init_26 rfl rfl ?_
    refine zr_iload_n C 1 dX2_init_27 rfl rfl ?_
    refine zr_putF C fl_X2_23 fd_X2_23 hT7 rfl rfl hnm dX2_init_28 ?_
    refine zr_aload_n C 0 dX2_init_31 rfl rfl ?_
    refine zr_iload_n C 2 dX2_init_32 rfl rfl ?_
    refine zr_putF C fl_X2_27 fd_X2_27 hT7 rfl rfl hnm dX2_init_33 ?_
    refine zr_aload_n C 0 dX2_init_36 rfl rfl ?_
    refine zr_iload_n C 3 dX2_init_37 rfl rfl ?_
    refine zr_putF C fl_X2_30 fd_X2_30 hT7 rfl rfl hnm dX2_init_38 ?_
    refine zr_iconst C 0 dX2_init_41 (by decide) ?_
    refine zr_istore C [(4, .int 0), (0, .ref a0), (1, .int p1), (2, .int p2), (3, .int p3)] dX2_init_42 (by decide) rfl ?_
    obtain ⟨I14, ⟨n16, h034⟩, hI33⟩ := h
    have ky35 : ∀ (n15 : Nat) (y17 : Int32) (F18 : zF), I14 n15 y17 F18 → z_w p l e ({ frames := 4, cells := 6, slots := 71, locals := 80 } : Room) s m args below meth c D cA N0 5 6 71 (MQ below (z_Qc D cA N0 (fun v T' F' => v = none ∧ Post T' F')) args s 6 71 (fun q => N0 ≤ q)) 44 [(0, .ref a0), (1, .int p1), (2, .int p2), (3, .int p3), (4, .int y17)] [] (znm (zn T q1 (0, 3)) q5 4 16) F18 := by
      intro n15
      induction n15 using Nat.strongRecOn with
      | _ n15 ih19 =>
        intro y17 F18 hin
        have h := hI33 n15 y17 F18 hin
        refine zr_iload C 4 dX2_init_44 rfl ?_
        refine zr_aload_n C 0 dX2_init_46 rfl rfl ?_
        obtain ⟨x22, hv21, h⟩ := h
        refine zr_get C fl_X2_20 hT7 hv21 dX2_init_47 ?_
        obtain ⟨n23, hT24, h⟩ := h
        refine zr_alen C hT24 (by decide) rfl dX2_init_50 ?_
        obtain ⟨h1, h2⟩ := h
        refine zr_icmp_ge C 71 dX2_init_51 (by decide) (fun hc => ?_) (fun hc => ?_)
        · have h := h1 hc
          clear h1 h2
          exact zr_vret C rfl ⟨rfl, h⟩ (Nat.le_of_ble_eq_true rfl) (Nat.le_of_ble_eq_true rfl) dX2_init_71
        · have h := h2 hc
          clear h1 h2
          refine zr_aload_n C 0 dX2_init_54 rfl rfl ?_
          refine zr_get C fl_X2_20 hT7 hv21 dX2_init_55 ?_
          refine zr_iload C 4 dX2_init_58 rfl ?_
          obtain ⟨hi25, x26, hv27, h⟩ := h
          refine zr_aald C hT24 (by decide) rfl rfl hi25 hv27 dX2_init_60 ?_
          refine zr_iconst C (-1) dX2_init_61 (by decide) ?_
          refine zr_callS (As := [.ref x26, .int ((-1))]) C (k_J7_fill_53178 h) ok_X2_33 zq_190 rfl ⟨by decide, (Nat.le_of_ble_eq_true rfl)⟩ ⟨(Nat.le_of_ble_eq_true rfl), (Nat.le_of_ble_eq_true rfl)⟩ (Nat.le_of_ble_eq_true rfl) dX2_init_62 (fun v30 U31 G32 hq => ?_)
          clear h
          · obtain ⟨rfl, rfl, h⟩ := hq
            refine zr_iinc C [(4, .int (y17 + 1)), (0, .ref a0), (1, .int p1), (2, .int p2), (3, .int p3)] 4 dX2_init_65 rfl rfl (by decide) rfl ?_
            refine zr_goto C 44 dX2_init_68 (by decide) ?_
            obtain ⟨n29, hlt, h⟩ := h
            exact zr_sub [1, 2, 3, 4, 0] rfl (ih19 n29 hlt (y17 + 1) G32 h)
    exact zr_sub [1, 2, 3, 4, 0] rfl (ky35 n16 0 (zu (zu (zu (zu (zmm (zu G38 a0 3 (.ref q1)) q5 4) a0 4 (.ref q5)) a0 0 (.int p1)) a0 1 (.int p2)) a0 2 (.int p3)) h034)
theorem dX2_isLaidOn_0 : decode cX2_isLaidOn 0 = .ok (.iconst 0, 1) := by decide +kernel
theorem dX2_isLaidOn_1 : decode cX2_isLaidOn 1 = .ok (.istore_n 2, 1) := by decide +kernel
theorem dX2_isLaidOn_2 : decode cX2_isLaidOn 2 = .ok (.iload_n 2, 1) := by decide +kernel
theorem dX2_isLaidOn_3 : decode cX2_isLaidOn 3 = .ok (.aload_n 0, 1) := by decide +kernel
theorem dX2_isLaidOn_4 : decode cX2_isLaidOn 4 = .ok (.getfield 12, 3) := by decide +kernel
theorem dX2_isLaidOn_10 : decode cX2_isLaidOn 10 = .ok (.if_icmp .ge 30, 3) := by decide +kernel
theorem dX2_isLaidOn_40 : decode cX2_isLaidOn 40 = .ok (.iconst 1, 1) := by decide +kernel
theorem dX2_isLaidOn_41 : decode cX2_isLaidOn 41 = .ok (.ireturn, 1) := by decide +kernel
theorem dX2_isLaidOn_13 : decode cX2_isLaidOn 13 = .ok (.aload_n 0, 1) := by decide +kernel
theorem dX2_isLaidOn_14 : decode cX2_isLaidOn 14 = .ok (.getfield 12, 3) := by decide +kernel
theorem dX2_isLaidOn_17 : decode cX2_isLaidOn 17 = .ok (.iload_n 2, 1) := by decide +kernel
theorem dX2_isLaidOn_21 : decode cX2_isLaidOn 21 = .ok (.checkcast 47, 3) := by decide +kernel
theorem dX2_isLaidOn_24 : decode cX2_isLaidOn 24 = .ok (.iload_n 1, 1) := by decide +kernel
theorem dX2_isLaidOn_28 : decode cX2_isLaidOn 28 = .ok (.iconst (-1), 1) := by decide +kernel
theorem dX2_isLaidOn_29 : decode cX2_isLaidOn 29 = .ok (.if_icmp .ne 5, 3) := by decide +kernel
theorem dX2_isLaidOn_34 : decode cX2_isLaidOn 34 = .ok (.iinc 2 1, 3) := by decide +kernel
theorem dX2_isLaidOn_37 : decode cX2_isLaidOn 37 = .ok (.goto (-35), 3) := by decide +kernel
theorem dX2_isLaidOn_32 : decode cX2_isLaidOn 32 = .ok (.iconst 0, 1) := by decide +kernel
theorem dX2_isLaidOn_33 : decode cX2_isLaidOn 33 = .ok (.ireturn, 1) := by decide +kernel
theorem dX2_isLaidOn_25 : decode cX2_isLaidOn 25 = .ok (.invokevirtual 49, 3) := by decide +kernel
theorem dX2_isLaidOn_18 : decode cX2_isLaidOn 18 = .ok (.invokevirtual 43, 3) := by decide +kernel
theorem dX2_isLaidOn_7 : decode cX2_isLaidOn 7 = .ok (.invokevirtual 39, 3) := by decide +kernel
def v_X2_isLaidOn (a0 : Nat) (p1 : Int32) (T : zT) (F : zF) (Post : Int32 → Prop) : Prop :=
  (∃ I1 : Nat → Int32 → Prop, (∃ n3 : Nat, I1 n3 0) ∧ (∀ (n2 : Nat) (y4 : Int32), I1 n2 y4 → (T a0 = some (3, 5) ∧ ∃ x9 : Nat, F a0 3 = .ref x9 ∧ T x9 = some (0, 3) ∧ (v_Jx4a65c_size_8abf5 x9 T F (fun (r11 : Int32) => ((r11 ≤ y4 → Post 1) ∧ (¬ r11 ≤ y4 → (v_Jx4a65c_get_915e3 x9 y4 T F (fun (r12 : Nat) => (T r12 = some (1, 5) ∧ (v_X0_versionAt r12 p1 T F (fun (r14 : Int32) => ((¬ r14 = ((-1)) → (∃ n15 : Nat, n15 < n2 ∧ I1 n15 (y4 + 1))) ∧ (r14 = ((-1)) → Post 0))))))))))))))
set_option maxRecDepth 100000 in
set_option maxHeartbeats 4000000 in
theorem k_X2_isLaidOn {l : Launch} {D : va_G} {cA : Nat → ClassId} {N0 zE : Nat} {a0 : Nat} {p1 : Int32} {T : zT} {F : zF} {Post : Int32 → Prop} (h : v_X2_isLaidOn a0 p1 T F Post) : z_Mt l D cA N0 zE yX2_isLaidOn cX2_isLaidOn 3 (some .boolean) ({ frames := 3, cells := 0, slots := 0, locals := 64 } : Room) [.ref a0, .int p1] T F (fun v T' F' => ∃ r : Int32, v = some (.int r) ∧ T = T' ∧ F = F' ∧ Post r) := by
  unfold v_X2_isLaidOn at h
  refine z_bodyT (by decide) (Nat.le_of_ble_eq_true rfl) ?_
  intro p e s m args below meth c C hnm
  have C : z_C p l s m args meth c RX2 cX2_isLaidOn 3 (some .boolean) D cA N0 zE := C
  show z_w p l e ({ frames := 3, cells := 0, slots := 0, locals := 64 } : Room) s m args below meth c D cA N0 3 0 0 (MQ below (z_Qc D cA N0 (fun v T' F' => ∃ r : Int32, v = some (.int r) ∧ T = T' ∧ F = F' ∧ Post r)) args s 0 0 (fun q => N0 ≤ q)) 0 [(0, .ref a0), (1, .int p1)] [] T F
  refine zr_iconst C 0 dX2_isLaidOn_0 (by decide) ?_
  refine zr_istore_n C [(2, .int 0), (0, .ref a0), (1, .int p1)] dX2_isLaidOn_1 rfl (by decide) rfl ?_
  obtain ⟨I1, ⟨n3, h026⟩, hI25⟩ := h
  have ky27 : ∀ (n2 : Nat) (y4 : Int32), I1 n2 y4 → z_w p l e ({ frames := 3, cells := 0, slots := 0, locals := 64 } : Room) s m args below meth c D cA N0 3 0 0 (MQ below (z_Qc D cA N0 (fun v T' F' => ∃ r : Int32, v = some (.int r) ∧ T = T' ∧ F = F' ∧ Post r)) args s 0 0 (fun q => N0 ≤ q)) 2 [(0, .ref a0), (1, .int p1), (2, .int y4)] [] T F := by
    intro n2
    induction n2 using Nat.strongRecOn with
    | _ n2 ih5 =>
      intro y4 hin
      have h := hI25 n2 y4 hin
      refine zr_iload_n C 2 dX2_isLaidOn_2 rfl rfl ?_
      refine zr_aload_n C 0 dX2_isLaidOn_3 rfl rfl ?_
      obtain ⟨hT7, x9, hv8, h⟩ := h
      refine zr_get C fl_X2_12 hT7 hv8 dX2_isLaidOn_4 ?_
      obtain ⟨hT10, h⟩ := h
      refine zr_callV (As := []) (r := (RJx4a65c, TJx4a65c, 3)) C (k_Jx4a65c_size_8abf5 h) ok_X2_39 zq_112 zq_113 hT10 (by decide) rfl rfl ⟨by decide, (Nat.le_of_ble_eq_true rfl)⟩ ⟨(Nat.le_of_ble_eq_true rfl), (Nat.le_of_ble_eq_true rfl)⟩ (Nat.le_of_ble_eq_true rfl) dX2_isLaidOn_7 (fun v22 U23 G24 hq => ?_)
      clear h
      · obtain ⟨r11, rfl, rfl, rfl, h⟩ := hq
        obtain ⟨h1, h2⟩ := h
        refine zr_icmp_ge C 40 dX2_isLaidOn_10 (by decide) (fun hc => ?_) (fun hc => ?_)
        · have h := h1 hc
          clear h1 h2
          refine zr_iconst C 1 dX2_isLaidOn_40 (by decide) ?_
          exact zr_zret C rfl (Or.inr rfl) ⟨_, rfl, rfl, rfl, h⟩ (Nat.le_of_ble_eq_true rfl) (Nat.le_of_ble_eq_true rfl) dX2_isLaidOn_41
        · have h := h2 hc
          clear h1 h2
          refine zr_aload_n C 0 dX2_isLaidOn_13 rfl rfl ?_
          refine zr_get C fl_X2_12 hT7 hv8 dX2_isLaidOn_14 ?_
          refine zr_iload_n C 2 dX2_isLaidOn_17 rfl rfl ?_
          refine zr_callV (As := [.int y4]) (r := (RJx4a65c, TJx4a65c, 3)) C (k_Jx4a65c_get_915e3 h) ok_X2_43 zq_290 zq_291 hT10 (by decide) rfl rfl ⟨by decide, (Nat.le_of_ble_eq_true rfl)⟩ ⟨(Nat.le_of_ble_eq_true rfl), (Nat.le_of_ble_eq_true rfl)⟩ (Nat.le_of_ble_eq_true rfl) dX2_isLaidOn_18 (fun v19 U20 G21 hq => ?_)
          clear h
          · obtain ⟨r12, rfl, rfl, rfl, h⟩ := hq
            obtain ⟨hT13, h⟩ := h
            refine zr_castS (r := (RX0, TX0, 5)) C hT13 (by decide) rfl zq_451 dX2_isLaidOn_21 ?_
            refine zr_iload_n C 1 dX2_isLaidOn_24 rfl rfl ?_
            refine zr_callV (As := [.int p1]) (r := (RX0, TX0, 5)) C (k_X0_versionAt h) ok_X2_49 zq_425 zq_426 hT13 (by decide) rfl rfl ⟨by decide, (Nat.le_of_ble_eq_true rfl)⟩ ⟨(Nat.le_of_ble_eq_true rfl), (Nat.le_of_ble_eq_true rfl)⟩ (Nat.le_of_ble_eq_true rfl) dX2_isLaidOn_25 (fun v16 U17 G18 hq => ?_)
            clear h
            · obtain ⟨r14, rfl, rfl, rfl, h⟩ := hq
              refine zr_iconst C (-1) dX2_isLaidOn_28 (by decide) ?_
              obtain ⟨h1, h2⟩ := h
              refine zr_icmp_ne C 34 dX2_isLaidOn_29 (by decide) (fun hc => ?_) (fun hc => ?_)
              · have h := h1 hc
                clear h1 h2
                refine zr_iinc C [(2, .int (y4 + 1)), (0, .ref a0), (1, .int p1)] 2 dX2_isLaidOn_34 rfl rfl (by decide) rfl ?_
                refine zr_goto C 2 dX2_isLaidOn_37 (by decide) ?_
                obtain ⟨n15, hlt, h⟩ := h
                exact zr_sub [1, 2, 0] rfl (ih5 n15 hlt (y4 + 1) h)
              · have h := h2 hc
                clear h1 h2
                refine zr_iconst C 0 dX2_isLaidOn_32 (by decide) ?_
                exact zr_zret C rfl (Or.inl rfl) ⟨_, rfl, rfl, rfl, h⟩ (Nat.le_of_ble_eq_true rfl) (Nat.le_of_ble_eq_true rfl) dX2_isLaidOn_33
  exact zr_sub [1, 2, 0] rfl (ky27 n3 0 h026)
theorem dX2_isFitOn_0 : decode cX2_isFitOn 0 = .ok (.iload_n 1, 1) := by decide +kernel
theorem dX2_isFitOn_1 : decode cX2_isFitOn 1 = .ok (.ifCond .lt 12, 3) := by decide +kernel
theorem dX2_isFitOn_13 : decode cX2_isFitOn 13 = .ok (.iconst 0, 1) := by decide +kernel
theorem dX2_isFitOn_14 : decode cX2_isFitOn 14 = .ok (.ireturn, 1) := by decide +kernel
theorem dX2_isFitOn_4 : decode cX2_isFitOn 4 = .ok (.iload_n 1, 1) := by decide +kernel
theorem dX2_isFitOn_5 : decode cX2_isFitOn 5 = .ok (.aload_n 0, 1) := by decide +kernel
theorem dX2_isFitOn_6 : decode cX2_isFitOn 6 = .ok (.getfield 20, 3) := by decide +kernel
theorem dX2_isFitOn_9 : decode cX2_isFitOn 9 = .ok (.arraylength, 1) := by decide +kernel
theorem dX2_isFitOn_10 : decode cX2_isFitOn 10 = .ok (.if_icmp .lt 5, 3) := by decide +kernel
theorem dX2_isFitOn_15 : decode cX2_isFitOn 15 = .ok (.aload_n 0, 1) := by decide +kernel
theorem dX2_isFitOn_16 : decode cX2_isFitOn 16 = .ok (.getfield 20, 3) := by decide +kernel
theorem dX2_isFitOn_19 : decode cX2_isFitOn 19 = .ok (.iload_n 1, 1) := by decide +kernel
theorem dX2_isFitOn_20 : decode cX2_isFitOn 20 = .ok (.aaload, 1) := by decide +kernel
theorem dX2_isFitOn_21 : decode cX2_isFitOn 21 = .ok (.astore_n 3, 1) := by decide +kernel
theorem dX2_isFitOn_22 : decode cX2_isFitOn 22 = .ok (.iconst 0, 1) := by decide +kernel
theorem dX2_isFitOn_23 : decode cX2_isFitOn 23 = .ok (.istore 4, 2) := by decide +kernel
theorem dX2_isFitOn_25 : decode cX2_isFitOn 25 = .ok (.iload 4, 2) := by decide +kernel
theorem dX2_isFitOn_27 : decode cX2_isFitOn 27 = .ok (.aload_n 0, 1) := by decide +kernel
theorem dX2_isFitOn_28 : decode cX2_isFitOn 28 = .ok (.getfield 12, 3) := by decide +kernel
theorem dX2_isFitOn_34 : decode cX2_isFitOn 34 = .ok (.if_icmp .ge 51, 3) := by decide +kernel
theorem dX2_isFitOn_85 : decode cX2_isFitOn 85 = .ok (.iconst 1, 1) := by decide +kernel
theorem dX2_isFitOn_86 : decode cX2_isFitOn 86 = .ok (.ireturn, 1) := by decide +kernel
theorem dX2_isFitOn_37 : decode cX2_isFitOn 37 = .ok (.iload 4, 2) := by decide +kernel
theorem dX2_isFitOn_39 : decode cX2_isFitOn 39 = .ok (.aload_n 3, 1) := by decide +kernel
theorem dX2_isFitOn_40 : decode cX2_isFitOn 40 = .ok (.arraylength, 1) := by decide +kernel
theorem dX2_isFitOn_41 : decode cX2_isFitOn 41 = .ok (.if_icmp .ge 44, 3) := by decide +kernel
theorem dX2_isFitOn_44 : decode cX2_isFitOn 44 = .ok (.aload_n 0, 1) := by decide +kernel
theorem dX2_isFitOn_45 : decode cX2_isFitOn 45 = .ok (.getfield 12, 3) := by decide +kernel
theorem dX2_isFitOn_48 : decode cX2_isFitOn 48 = .ok (.iload 4, 2) := by decide +kernel
theorem dX2_isFitOn_53 : decode cX2_isFitOn 53 = .ok (.checkcast 47, 3) := by decide +kernel
theorem dX2_isFitOn_56 : decode cX2_isFitOn 56 = .ok (.iload_n 2, 1) := by decide +kernel
theorem dX2_isFitOn_60 : decode cX2_isFitOn 60 = .ok (.istore 5, 2) := by decide +kernel
theorem dX2_isFitOn_62 : decode cX2_isFitOn 62 = .ok (.iload 5, 2) := by decide +kernel
theorem dX2_isFitOn_64 : decode cX2_isFitOn 64 = .ok (.iconst (-1), 1) := by decide +kernel
theorem dX2_isFitOn_65 : decode cX2_isFitOn 65 = .ok (.if_icmp .eq 12, 3) := by decide +kernel
theorem dX2_isFitOn_77 : decode cX2_isFitOn 77 = .ok (.iconst 0, 1) := by decide +kernel
theorem dX2_isFitOn_78 : decode cX2_isFitOn 78 = .ok (.ireturn, 1) := by decide +kernel
theorem dX2_isFitOn_68 : decode cX2_isFitOn 68 = .ok (.iload 5, 2) := by decide +kernel
theorem dX2_isFitOn_70 : decode cX2_isFitOn 70 = .ok (.aload_n 3, 1) := by decide +kernel
theorem dX2_isFitOn_71 : decode cX2_isFitOn 71 = .ok (.iload 4, 2) := by decide +kernel
theorem dX2_isFitOn_73 : decode cX2_isFitOn 73 = .ok (.iaload, 1) := by decide +kernel
theorem dX2_isFitOn_74 : decode cX2_isFitOn 74 = .ok (.if_icmp .eq 5, 3) := by decide +kernel
theorem dX2_isFitOn_79 : decode cX2_isFitOn 79 = .ok (.iinc 4 1, 3) := by decide +kernel
theorem dX2_isFitOn_82 : decode cX2_isFitOn 82 = .ok (.goto (-57), 3) := by decide +kernel
theorem dX2_isFitOn_57 : decode cX2_isFitOn 57 = .ok (.invokevirtual 49, 3) := by decide +kernel
theorem dX2_isFitOn_50 : decode cX2_isFitOn 50 = .ok (.invokevirtual 43, 3) := by decide +kernel
theorem dX2_isFitOn_31 : decode cX2_isFitOn 31 = .ok (.invokevirtual 39, 3) := by decide +kernel
def v_X2_isFitOn (a0 : Nat) (p1 : Int32) (p2 : Int32) (T : zT) (F : zF) (Post : Int32 → Prop) : Prop :=
  ((p1 < 0 → Post 0) ∧ (¬ p1 < 0 → (T a0 = some (3, 5) ∧ ∃ x3 : Nat, F a0 4 = .ref x3 ∧ ∃ n4 : Nat, T x3 = some (102, n4) ∧ ((p1 < (nI n4) → (vp_in p1 n4 ∧ ∃ x7 : Nat, F x3 (p1).toNatClampNeg = .ref x7 ∧ (∃ I9 : Nat → Int32 → Prop, (∃ n11 : Nat, I9 n11 0) ∧ (∀ (n10 : Nat) (y12 : Int32), I9 n10 y12 → (∃ x16 : Nat, F a0 3 = .ref x16 ∧ T x16 = some (0, 3) ∧ (v_Jx4a65c_size_8abf5 x16 T F (fun (r18 : Int32) => ((r18 ≤ y12 → Post 1) ∧ (¬ r18 ≤ y12 → (∃ n19 : Nat, T x7 = some (100, n19) ∧ (((nI n19) ≤ y12 → Post 1) ∧ (¬ (nI n19) ≤ y12 → (v_Jx4a65c_get_915e3 x16 y12 T F (fun (r21 : Nat) => (T r21 = some (1, 5) ∧ (v_X0_versionAt r21 p2 T F (fun (r23 : Int32) => ((r23 = ((-1)) → Post 0) ∧ (¬ r23 = ((-1)) → (vp_in y12 n19 ∧ ∃ x25 : Int32, F x7 (y12).toNatClampNeg = .int x25 ∧ ((r23 = x25 → (∃ n27 : Nat, n27 < n10 ∧ I9 n27 (y12 + 1))) ∧ (¬ r23 = x25 → Post 0)))))))))))))))))))))) ∧ (¬ p1 < (nI n4) → Post 0)))))
set_option maxRecDepth 100000 in
set_option maxHeartbeats 4000000 in
theorem k_X2_isFitOn {l : Launch} {D : va_G} {cA : Nat → ClassId} {N0 zE : Nat} {a0 : Nat} {p1 : Int32} {p2 : Int32} {T : zT} {F : zF} {Post : Int32 → Prop} (h : v_X2_isFitOn a0 p1 p2 T F Post) : z_Mt l D cA N0 zE yX2_isFitOn cX2_isFitOn 6 (some .boolean) ({ frames := 3, cells := 0, slots := 0, locals := 64 } : Room) [.ref a0, .int p1, .int p2] T F (fun v T' F' => ∃ r : Int32, v = some (.int r) ∧ T = T' ∧ F = F' ∧ Post r) := by
  unfold v_X2_isFitOn at h
  refine z_bodyT (by decide) (Nat.le_of_ble_eq_true rfl) ?_
  intro p e s m args below meth c C hnm
  have C : z_C p l s m args meth c RX2 cX2_isFitOn 6 (some .boolean) D cA N0 zE := C
  show z_w p l e ({ frames := 3, cells := 0, slots := 0, locals := 64 } : Room) s m args below meth c D cA N0 6 0 0 (MQ below (z_Qc D cA N0 (fun v T' F' => ∃ r : Int32, v = some (.int r) ∧ T = T' ∧ F = F' ∧ Post r)) args s 0 0 (fun q => N0 ≤ q)) 0 [(0, .ref a0), (1, .int p1), (2, .int p2)] [] T F
  refine zr_iload_n C 1 dX2_isFitOn_0 rfl rfl ?_
  obtain ⟨h1, h2⟩ := h
  refine zr_if_lt C 13 dX2_isFitOn_1 (by decide) (fun hc => ?_) (fun hc => ?_)
  · have h := h1 hc
    clear h1 h2
    refine zr_iconst C 0 dX2_isFitOn_13 (by decide) ?_
    exact zr_zret C rfl (Or.inl rfl) ⟨_, rfl, rfl, rfl, h⟩ (Nat.le_of_ble_eq_true rfl) (Nat.le_of_ble_eq_true rfl) dX2_isFitOn_14
  · have h := h2 hc
    clear h1 h2
    refine zr_iload_n C 1 dX2_isFitOn_4 rfl rfl ?_
    refine zr_aload_n C 0 dX2_isFitOn_5 rfl rfl ?_
    obtain ⟨hT1, x3, hv2, h⟩ := h
    refine zr_get C fl_X2_20 hT1 hv2 dX2_isFitOn_6 ?_
    obtain ⟨n4, hT5, h⟩ := h
    refine zr_alen C hT5 (by decide) rfl dX2_isFitOn_9 ?_
    obtain ⟨h1, h2⟩ := h
    refine zr_icmp_lt C 15 dX2_isFitOn_10 (by decide) (fun hc => ?_) (fun hc => ?_)
    · have h := h1 hc
      clear h1 h2
      refine zr_aload_n C 0 dX2_isFitOn_15 rfl rfl ?_
      refine zr_get C fl_X2_20 hT1 hv2 dX2_isFitOn_16 ?_
      refine zr_iload_n C 1 dX2_isFitOn_19 rfl rfl ?_
      obtain ⟨hi6, x7, hv8, h⟩ := h
      refine zr_aald C hT5 (by decide) rfl rfl hi6 hv8 dX2_isFitOn_20 ?_
      refine zr_astore_n C [(3, .ref x7), (0, .ref a0), (1, .int p1), (2, .int p2)] dX2_isFitOn_21 rfl (by decide) rfl ?_
      refine zr_iconst C 0 dX2_isFitOn_22 (by decide) ?_
      refine zr_istore C [(4, .int 0), (3, .ref x7), (0, .ref a0), (1, .int p1), (2, .int p2)] dX2_isFitOn_23 (by decide) rfl ?_
      obtain ⟨I9, ⟨n11, h038⟩, hI37⟩ := h
      have ky39 : ∀ (n10 : Nat) (y12 : Int32), I9 n10 y12 → z_w p l e ({ frames := 3, cells := 0, slots := 0, locals := 64 } : Room) s m args below meth c D cA N0 6 0 0 (MQ below (z_Qc D cA N0 (fun v T' F' => ∃ r : Int32, v = some (.int r) ∧ T = T' ∧ F = F' ∧ Post r)) args s 0 0 (fun q => N0 ≤ q)) 25 [(0, .ref a0), (1, .int p1), (2, .int p2), (3, .ref x7), (4, .int y12)] [] T F := by
        intro n10
        induction n10 using Nat.strongRecOn with
        | _ n10 ih13 =>
          intro y12 hin
          have h := hI37 n10 y12 hin
          refine zr_iload C 4 dX2_isFitOn_25 rfl ?_
          refine zr_aload_n C 0 dX2_isFitOn_27 rfl rfl ?_
          obtain ⟨x16, hv15, h⟩ := h
          refine zr_get C fl_X2_12 hT1 hv15 dX2_isFitOn_28 ?_
          obtain ⟨hT17, h⟩ := h
          refine zr_callV (As := []) (r := (RJx4a65c, TJx4a65c, 3)) C (k_Jx4a65c_size_8abf5 h) ok_X2_39 zq_112 zq_113 hT17 (by decide) rfl rfl ⟨by decide, (Nat.le_of_ble_eq_true rfl)⟩ ⟨(Nat.le_of_ble_eq_true rfl), (Nat.le_of_ble_eq_true rfl)⟩ (Nat.le_of_ble_eq_true rfl) dX2_isFitOn_31 (fun v34 U35 G36 hq => ?_)
          clear h
          · obtain ⟨r18, rfl, rfl, rfl, h⟩ := hq
            obtain ⟨h1, h2⟩ := h
            refine zr_icmp_ge C 85 dX2_isFitOn_34 (by decide) (fun hc => ?_) (fun hc => ?_)
            · have h := h1 hc
              clear h1 h2
              refine zr_iconst C 1 dX2_isFitOn_85 (by decide) ?_
              exact zr_zret C rfl (Or.inr rfl) ⟨_, rfl, rfl, rfl, h⟩ (Nat.le_of_ble_eq_true rfl) (Nat.le_of_ble_eq_true rfl) dX2_isFitOn_86
            · have h := h2 hc
              clear h1 h2
              refine zr_iload C 4 dX2_isFitOn_37 rfl ?_
              refine zr_aload_n C 3 dX2_isFitOn_39 rfl rfl ?_
              obtain ⟨n19, hT20, h⟩ := h
              refine zr_alen C hT20 (by decide) rfl dX2_isFitOn_40 ?_
              obtain ⟨h1, h2⟩ := h
              refine zr_icmp_ge C 85 dX2_isFitOn_41 (by decide) (fun hc => ?_) (fun hc => ?_)
              · have h := h1 hc
                clear h1 h2
                refine zr_iconst C 1 dX2_isFitOn_85 (by decide) ?_
                exact zr_zret C rfl (Or.inr rfl) ⟨_, rfl, rfl, rfl, h⟩ (Nat.le_of_ble_eq_true rfl) (Nat.le_of_ble_eq_true rfl) dX2_isFitOn_86
              · have h := h2 hc
                clear h1 h2
                refine zr_aload_n C 0 dX2_isFitOn_44 rfl rfl ?_
                refine zr_get C fl_X2_12 hT1 hv15 dX2_isFitOn_45 ?_
                refine zr_iload C 4 dX2_isFitOn_48 rfl ?_
                refine zr_callV (As := [.int y12]) (r := (RJx4a65c, TJx4a65c, 3)) C (k_Jx4a65c_get_915e3 h) ok_X2_43 zq_290 zq_291 hT17 (by decide) rfl rfl ⟨by decide, (Nat.le_of_ble_eq_true rfl)⟩ ⟨(Nat.le_of_ble_eq_true rfl), (Nat.le_of_ble_eq_true rfl)⟩ (Nat.le_of_ble_eq_true rfl) dX2_isFitOn_50 (fun v31 U32 G33 hq => ?_)
                clear h
                · obtain ⟨r21, rfl, rfl, rfl, h⟩ := hq
                  obtain ⟨hT22, h⟩ := h
                  refine zr_castS (r := (RX0, TX0, 5)) C hT22 (by decide) rfl zq_451 dX2_isFitOn_53 ?_
                  refine zr_iload_n C 2 dX2_isFitOn_56 rfl rfl ?_
                  refine zr_callV (As := [.int p2]) (r := (RX0, TX0, 5)) C (k_X0_versionAt h) ok_X2_49 zq_425 zq_426 hT22 (by decide) rfl rfl ⟨by decide, (Nat.le_of_ble_eq_true rfl)⟩ ⟨(Nat.le_of_ble_eq_true rfl), (Nat.le_of_ble_eq_true rfl)⟩ (Nat.le_of_ble_eq_true rfl) dX2_isFitOn_57 (fun v28 U29 G30 hq => ?_)
                  clear h
                  · obtain ⟨r23, rfl, rfl, rfl, h⟩ := hq
                    refine zr_istore C [(5, .int r23), (0, .ref a0), (1, .int p1), (2, .int p2), (3, .ref x7), (4, .int y12)] dX2_isFitOn_60 (by decide) rfl ?_
                    refine zr_iload C 0 dX2_isFitOn_62 rfl ?_
                    refine zr_iconst C (-1) dX2_isFitOn_64 (by decide) ?_
                    obtain ⟨h1, h2⟩ := h
                    refine zr_icmp_eq C 77 dX2_isFitOn_65 (by decide) (fun hc => ?_) (fun hc => ?_)
                    · have h := h1 hc
                      clear h1 h2
                      refine zr_iconst C 0 dX2_isFitOn_77 (by decide) ?_
                      exact zr_zret C rfl (Or.inl rfl) ⟨_, rfl, rfl, rfl, h⟩ (Nat.le_of_ble_eq_true rfl) (Nat.le_of_ble_eq_true rfl) dX2_isFitOn_78
                    · have h := h2 hc
                      clear h1 h2
                      refine zr_iload C 0 dX2_isFitOn_68 rfl ?_
                      refine zr_aload_n C 4 dX2_isFitOn_70 rfl rfl ?_
                      refine zr_iload C 5 dX2_isFitOn_71 rfl ?_
                      obtain ⟨hi24, x25, hv26, h⟩ := h
                      refine zr_iald C rfl hT20 hi24 hv26 dX2_isFitOn_73 ?_
                      obtain ⟨h1, h2⟩ := h
                      refine zr_icmp_eq C 79 dX2_isFitOn_74 (by decide) (fun hc => ?_) (fun hc => ?_)
                      · have h := h1 hc
                        clear h1 h2
                        refine zr_iinc C [(4, .int (y12 + 1)), (5, .int r23), (0, .ref a0), (1, .int p1), (2, .int p2), (3, .ref x7)] 5 dX2_isFitOn_79 rfl rfl (by decide) rfl ?_
                        refine zr_goto C 25 dX2_isFitOn_82 (by decide) ?_
                        obtain ⟨n27, hlt, h⟩ := h
                        exact zr_sub [2, 3, 4, 5, 0] rfl (ih13 n27 hlt (y12 + 1) h)
                      · have h := h2 hc
                        clear h1 h2
                        refine zr_iconst C 0 dX2_isFitOn_77 (by decide) ?_
                        exact zr_zret C rfl (Or.inl rfl) ⟨_, rfl, rfl, rfl, h⟩ (Nat.le_of_ble_eq_true rfl) (Nat.le_of_ble_eq_true rfl) dX2_isFitOn_78
      exact zr_sub [2, 3, 4, 1, 0] rfl (ky39 n11 0 h038)
    · have h := h2 hc
      clear h1 h2
      refine zr_iconst C 0 dX2_isFitOn_13 (by decide) ?_
      exact zr_zret C rfl (Or.inl rfl) ⟨_, rfl, rfl, rfl, h⟩ (Nat.le_of_ble_eq_true rfl) (Nat.le_of_ble_eq_true rfl) dX2_isFitOn_14
theorem dX2_approveLook_0 : decode cX2_approveLook 0 = .ok (.iload_n 1, 1) := by decide +kernel
theorem dX2_approveLook_1 : decode cX2_approveLook 1 = .ok (.ifCond .lt 12, 3) := by decide +kernel
theorem dX2_approveLook_13 : decode cX2_approveLook 13 = .ok (.return_, 1) := by decide +kernel
theorem dX2_approveLook_4 : decode cX2_approveLook 4 = .ok (.iload_n 1, 1) := by decide +kernel
theorem dX2_approveLook_5 : decode cX2_approveLook 5 = .ok (.aload_n 0, 1) := by decide +kernel
theorem dX2_approveLook_6 : decode cX2_approveLook 6 = .ok (.getfield 20, 3) := by decide +kernel
theorem dX2_approveLook_9 : decode cX2_approveLook 9 = .ok (.arraylength, 1) := by decide +kernel
theorem dX2_approveLook_10 : decode cX2_approveLook 10 = .ok (.if_icmp .lt 4, 3) := by decide +kernel
theorem dX2_approveLook_14 : decode cX2_approveLook 14 = .ok (.aload_n 0, 1) := by decide +kernel
theorem dX2_approveLook_15 : decode cX2_approveLook 15 = .ok (.getfield 20, 3) := by decide +kernel
theorem dX2_approveLook_18 : decode cX2_approveLook 18 = .ok (.iload_n 1, 1) := by decide +kernel
theorem dX2_approveLook_19 : decode cX2_approveLook 19 = .ok (.aaload, 1) := by decide +kernel
theorem dX2_approveLook_20 : decode cX2_approveLook 20 = .ok (.astore_n 3, 1) := by decide +kernel
theorem dX2_approveLook_21 : decode cX2_approveLook 21 = .ok (.iconst 0, 1) := by decide +kernel
theorem dX2_approveLook_22 : decode cX2_approveLook 22 = .ok (.istore 4, 2) := by decide +kernel
theorem dX2_approveLook_24 : decode cX2_approveLook 24 = .ok (.iload 4, 2) := by decide +kernel
theorem dX2_approveLook_26 : decode cX2_approveLook 26 = .ok (.aload_n 0, 1) := by decide +kernel
theorem dX2_approveLook_27 : decode cX2_approveLook 27 = .ok (.getfield 12, 3) := by decide +kernel
theorem dX2_approveLook_33 : decode cX2_approveLook 33 = .ok (.if_icmp .ge 36, 3) := by decide +kernel
theorem dX2_approveLook_69 : decode cX2_approveLook 69 = .ok (.return_, 1) := by decide +kernel
theorem dX2_approveLook_36 : decode cX2_approveLook 36 = .ok (.iload 4, 2) := by decide +kernel
theorem dX2_approveLook_38 : decode cX2_approveLook 38 = .ok (.aload_n 3, 1) := by decide +kernel
theorem dX2_approveLook_39 : decode cX2_approveLook 39 = .ok (.arraylength, 1) := by decide +kernel
theorem dX2_approveLook_40 : decode cX2_approveLook 40 = .ok (.if_icmp .ge 29, 3) := by decide +kernel
theorem dX2_approveLook_43 : decode cX2_approveLook 43 = .ok (.aload_n 3, 1) := by decide +kernel
theorem dX2_approveLook_44 : decode cX2_approveLook 44 = .ok (.iload 4, 2) := by decide +kernel
theorem dX2_approveLook_46 : decode cX2_approveLook 46 = .ok (.aload_n 0, 1) := by decide +kernel
theorem dX2_approveLook_47 : decode cX2_approveLook 47 = .ok (.getfield 12, 3) := by decide +kernel
theorem dX2_approveLook_50 : decode cX2_approveLook 50 = .ok (.iload 4, 2) := by decide +kernel
theorem dX2_approveLook_55 : decode cX2_approveLook 55 = .ok (.checkcast 47, 3) := by decide +kernel
theorem dX2_approveLook_58 : decode cX2_approveLook 58 = .ok (.iload_n 2, 1) := by decide +kernel
theorem dX2_approveLook_62 : decode cX2_approveLook 62 = .ok (.iastore, 1) := by decide +kernel
theorem dX2_approveLook_63 : decode cX2_approveLook 63 = .ok (.iinc 4 1, 3) := by decide +kernel
theorem dX2_approveLook_66 : decode cX2_approveLook 66 = .ok (.goto (-42), 3) := by decide +kernel
theorem dX2_approveLook_59 : decode cX2_approveLook 59 = .ok (.invokevirtual 49, 3) := by decide +kernel
theorem dX2_approveLook_52 : decode cX2_approveLook 52 = .ok (.invokevirtual 43, 3) := by decide +kernel
theorem dX2_approveLook_30 : decode cX2_approveLook 30 = .ok (.invokevirtual 39, 3) := by decide +kernel
def v_X2_approveLook (a0 : Nat) (p1 : Int32) (p2 : Int32) (T : zT) (F : zF) (Post : zF → Prop) : Prop :=
  ((p1 < 0 → Post F) ∧ (¬ p1 < 0 → (T a0 = some (3, 5) ∧ ∃ x3 : Nat, F a0 4 = .ref x3 ∧ ∃ n4 : Nat, T x3 = some (102, n4) ∧ ((p1 < (nI n4) → (vp_in p1 n4 ∧ ∃ x7 : Nat, F x3 (p1).toNatClampNeg = .ref x7 ∧ (∃ I9 : Nat → Int32 → zF → Prop, (∃ n11 : Nat, I9 n11 0 F) ∧ (∀ (n10 : Nat) (y12 : Int32) (F13 : zF), I9 n10 y12 F13 → (∃ x17 : Nat, F13 a0 3 = .ref x17 ∧ T x17 = some (0, 3) ∧ (v_Jx4a65c_size_8abf5 x17 T F13 (fun (r19 : Int32) => ((r19 ≤ y12 → Post F13) ∧ (¬ r19 ≤ y12 → (∃ n20 : Nat, T x7 = some (100, n20) ∧ (((nI n20) ≤ y12 → Post F13) ∧ (¬ (nI n20) ≤ y12 → (v_Jx4a65c_get_915e3 x17 y12 T F13 (fun (r22 : Nat) => (T r22 = some (1, 5) ∧ (v_X0_versionAt r22 p2 T F13 (fun (r24 : Int32) => (vp_in y12 n20 ∧ (∃ n26 : Nat, n26 < n10 ∧ I9 n26 (y12 + 1) (zu F13 x7 (y12).toNatClampNeg (.int r24))))))))))))))))))))) ∧ (¬ p1 < (nI n4) → Post F)))))
set_option maxRecDepth 100000 in
set_option maxHeartbeats 4000000 in
theorem k_X2_approveLook {l : Launch} {D : va_G} {cA : Nat → ClassId} {N0 zE : Nat} {a0 : Nat} {p1 : Int32} {p2 : Int32} {T : zT} {F : zF} {Post : zF → Prop} (h : v_X2_approveLook a0 p1 p2 T F Post) : z_Mt l D cA N0 zE yX2_approveLook cX2_approveLook 5 none ({ frames := 3, cells := 0, slots := 0, locals := 64 } : Room) [.ref a0, .int p1, .int p2] T F (fun v T' F' => v = none ∧ T = T' ∧ Post F') := by
  unfold v_X2_approveLook at h
  refine z_bodyT (by decide) (Nat.le_of_ble_eq_true rfl) ?_
  intro p e s m args below meth c C hnm
  have C : z_C p l s m args meth c RX2 cX2_approveLook 5 none D cA N0 zE := C
  show z_w p l e ({ frames := 3, cells := 0, slots := 0, locals := 64 } : Room) s m args below meth c D cA N0 5 0 0 (MQ below (z_Qc D cA N0 (fun v T' F' => v = none ∧ T = T' ∧ Post F')) args s 0 0 (fun q => N0 ≤ q)) 0 [(0, .ref a0), (1, .int p1), (2, .int p2)] [] T F
  refine zr_iload_n C 1 dX2_approveLook_0 rfl rfl ?_
  obtain ⟨h1, h2⟩ := h
  refine zr_if_lt C 13 dX2_approveLook_1 (by decide) (fun hc => ?_) (fun hc => ?_)
  · have h := h1 hc
    clear h1 h2
    exact zr_vret C rfl ⟨rfl, rfl, h⟩ (Nat.le_of_ble_eq_true rfl) (Nat.le_of_ble_eq_true rfl) dX2_approveLook_13
  · have h := h2 hc
    clear h1 h2
    refine zr_iload_n C 1 dX2_approveLook_4 rfl rfl ?_
    refine zr_aload_n C 0 dX2_approveLook_5 rfl rfl ?_
    obtain ⟨hT1, x3, hv2, h⟩ := h
    refine zr_get C fl_X2_20 hT1 hv2 dX2_approveLook_6 ?_
    obtain ⟨n4, hT5, h⟩ := h
    refine zr_alen C hT5 (by decide) rfl dX2_approveLook_9 ?_
    obtain ⟨h1, h2⟩ := h
    refine zr_icmp_lt C 14 dX2_approveLook_10 (by decide) (fun hc => ?_) (fun hc => ?_)
    · have h := h1 hc
      clear h1 h2
      refine zr_aload_n C 0 dX2_approveLook_14 rfl rfl ?_
      refine zr_get C fl_X2_20 hT1 hv2 dX2_approveLook_15 ?_
      refine zr_iload_n C 1 dX2_approveLook_18 rfl rfl ?_
      obtain ⟨hi6, x7, hv8, h⟩ := h
      refine zr_aald C hT5 (by decide) rfl rfl hi6 hv8 dX2_approveLook_19 ?_
      refine zr_astore_n C [(3, .ref x7), (0, .ref a0), (1, .int p1), (2, .int p2)] dX2_approveLook_20 rfl (by decide) rfl ?_
      refine zr_iconst C 0 dX2_approveLook_21 (by decide) ?_
      refine zr_istore C [(4, .int 0), (3, .ref x7), (0, .ref a0), (1, .int p1), (2, .int p2)] dX2_approveLook_22 (by decide) rfl ?_
      obtain ⟨I9, ⟨n11, h037⟩, hI36⟩ := h
      have ky38 : ∀ (n10 : Nat) (y12 : Int32) (F13 : zF), I9 n10 y12 F13 → z_w p l e ({ frames := 3, cells := 0, slots := 0, locals := 64 } : Room) s m args below meth c D cA N0 5 0 0 (MQ below (z_Qc D cA N0 (fun v T' F' => v = none ∧ T = T' ∧ Post F')) args s 0 0 (fun q => N0 ≤ q)) 24 [(0, .ref a0), (1, .int p1), (2, .int p2), (3, .ref x7), (4, .int y12)] [] T F13 := by
        intro n10
        induction n10 using Nat.strongRecOn with
        | _ n10 ih14 =>
          intro y12 F13 hin
          have h := hI36 n10 y12 F13 hin
          refine zr_iload C 4 dX2_approveLook_24 rfl ?_
          refine zr_aload_n C 0 dX2_approveLook_26 rfl rfl ?_
          obtain ⟨x17, hv16, h⟩ := h
          refine zr_get C fl_X2_12 hT1 hv16 dX2_approveLook_27 ?_
          obtain ⟨hT18, h⟩ := h
          refine zr_callV (As := []) (r := (RJx4a65c, TJx4a65c, 3)) C (k_Jx4a65c_size_8abf5 h) ok_X2_39 zq_112 zq_113 hT18 (by decide) rfl rfl ⟨by decide, (Nat.le_of_ble_eq_true rfl)⟩ ⟨(Nat.le_of_ble_eq_true rfl), (Nat.le_of_ble_eq_true rfl)⟩ (Nat.le_of_ble_eq_true rfl) dX2_approveLook_30 (fun v33 U34 G35 hq => ?_)
          clear h
          · obtain ⟨r19, rfl, rfl, rfl, h⟩ := hq
            obtain ⟨h1, h2⟩ := h
            refine zr_icmp_ge C 69 dX2_approveLook_33 (by decide) (fun hc => ?_) (fun hc => ?_)
            · have h := h1 hc
              clear h1 h2
              exact zr_vret C rfl ⟨rfl, rfl, h⟩ (Nat.le_of_ble_eq_true rfl) (Nat.le_of_ble_eq_true rfl) dX2_approveLook_69
            · have h := h2 hc
              clear h1 h2
              refine zr_iload C 4 dX2_approveLook_36 rfl ?_
              refine zr_aload_n C 3 dX2_approveLook_38 rfl rfl ?_
              obtain ⟨n20, hT21, h⟩ := h
              refine zr_alen C hT21 (by decide) rfl dX2_approveLook_39 ?_
              obtain ⟨h1, h2⟩ := h
              refine zr_icmp_ge C 69 dX2_approveLook_40 (by decide) (fun hc => ?_) (fun hc => ?_)
              · have h := h1 hc
                clear h1 h2
                exact zr_vret C rfl ⟨rfl, rfl, h⟩ (Nat.le_of_ble_eq_true rfl) (Nat.le_of_ble_eq_true rfl) dX2_approveLook_69
              · have h := h2 hc
                clear h1 h2
                refine zr_aload_n C 3 dX2_approveLook_43 rfl rfl ?_
                refine zr_iload C 4 dX2_approveLook_44 rfl ?_
                refine zr_aload_n C 0 dX2_approveLook_46 rfl rfl ?_
                refine zr_get C fl_X2_12 hT1 hv16 dX2_approveLook_47 ?_
                refine zr_iload C 4 dX2_approveLook_50 rfl ?_
                refine zr_callV (As := [.int y12]) (r := (RJx4a65c, TJx4a65c, 3)) C (k_Jx4a65c_get_915e3 h) ok_X2_43 zq_290 zq_291 hT18 (by decide) rfl rfl ⟨by decide, (Nat.le_of_ble_eq_true rfl)⟩ ⟨(Nat.le_of_ble_eq_true rfl), (Nat.le_of_ble_eq_true rfl)⟩ (Nat.le_of_ble_eq_true rfl) dX2_approveLook_52 (fun v30 U31 G32 hq => ?_)
                clear h
                · obtain ⟨r22, rfl, rfl, rfl, h⟩ := hq
                  obtain ⟨hT23, h⟩ := h
                  refine zr_castS (r := (RX0, TX0, 5)) C hT23 (by decide) rfl zq_451 dX2_approveLook_55 ?_
                  refine zr_iload_n C 2 dX2_approveLook_58 rfl rfl ?_
                  refine zr_callV (As := [.int p2]) (r := (RX0, TX0, 5)) C (k_X0_versionAt h) ok_X2_49 zq_425 zq_426 hT23 (by decide) rfl rfl ⟨by decide, (Nat.le_of_ble_eq_true rfl)⟩ ⟨(Nat.le_of_ble_eq_true rfl), (Nat.le_of_ble_eq_true rfl)⟩ (Nat.le_of_ble_eq_true rfl) dX2_approveLook_59 (fun v27 U28 G29 hq => ?_)
                  clear h
                  · obtain ⟨r24, rfl, rfl, rfl, h⟩ := hq
                    obtain ⟨hi25, h⟩ := h
                    refine zr_iast C rfl hT21 hi25 dX2_approveLook_62 ?_
                    refine zr_iinc C [(4, .int (y12 + 1)), (0, .ref a0), (1, .int p1), (2, .int p2), (3, .ref x7)] 4 dX2_approveLook_63 rfl rfl (by decide) rfl ?_
                    refine zr_goto C 24 dX2_approveLook_66 (by decide) ?_
                    obtain ⟨n26, hlt, h⟩ := h
                    exact zr_sub [1, 2, 3, 4, 0] rfl (ih14 n26 hlt (y12 + 1) (zu F13 x7 (y12).toNatClampNeg (.int r24)) h)
      exact zr_sub [2, 3, 4, 1, 0] rfl (ky38 n11 0 F h037)
    · have h := h2 hc
      clear h1 h2
      exact zr_vret C rfl ⟨rfl, rfl, h⟩ (Nat.le_of_ble_eq_true rfl) (Nat.le_of_ble_eq_true rfl) dX2_approveLook_13
theorem dX2_dropApproval_0 : decode cX2_dropApproval 0 = .ok (.iload_n 1, 1) := by decide +kernel
theorem dX2_dropApproval_1 : decode cX2_dropApproval 1 = .ok (.ifCond .lt 22, 3) := by decide +kernel
theorem dX2_dropApproval_23 : decode cX2_dropApproval 23 = .ok (.return_, 1) := by decide +kernel
theorem dX2_dropApproval_4 : decode cX2_dropApproval 4 = .ok (.iload_n 1, 1) := by decide +kernel
theorem dX2_dropApproval_5 : decode cX2_dropApproval 5 = .ok (.aload_n 0, 1) := by decide +kernel
theorem dX2_dropApproval_6 : decode cX2_dropApproval 6 = .ok (.getfield 20, 3) := by decide +kernel
theorem dX2_dropApproval_9 : decode cX2_dropApproval 9 = .ok (.arraylength, 1) := by decide +kernel
theorem dX2_dropApproval_10 : decode cX2_dropApproval 10 = .ok (.if_icmp .ge 13, 3) := by decide +kernel
theorem dX2_dropApproval_13 : decode cX2_dropApproval 13 = .ok (.aload_n 0, 1) := by decide +kernel
theorem dX2_dropApproval_14 : decode cX2_dropApproval 14 = .ok (.getfield 20, 3) := by decide +kernel
theorem dX2_dropApproval_17 : decode cX2_dropApproval 17 = .ok (.iload_n 1, 1) := by decide +kernel
theorem dX2_dropApproval_18 : decode cX2_dropApproval 18 = .ok (.aaload, 1) := by decide +kernel
theorem dX2_dropApproval_19 : decode cX2_dropApproval 19 = .ok (.iconst (-1), 1) := by decide +kernel
theorem dX2_dropApproval_20 : decode cX2_dropApproval 20 = .ok (.invokestatic 33, 3) := by decide +kernel
def v_X2_dropApproval (a0 : Nat) (p1 : Int32) (T : zT) (F : zF) (Post : zF → Prop) : Prop :=
  ((p1 < 0 → Post F) ∧ (¬ p1 < 0 → (T a0 = some (3, 5) ∧ ∃ x3 : Nat, F a0 4 = .ref x3 ∧ ∃ n4 : Nat, T x3 = some (102, n4) ∧ (((nI n4) ≤ p1 → Post F) ∧ (¬ (nI n4) ≤ p1 → (vp_in p1 n4 ∧ ∃ x7 : Nat, F x3 (p1).toNatClampNeg = .ref x7 ∧ (v_J7_fill_53178 x7 ((-1)) T F (fun (F9 : zF) => Post F9))))))))
set_option maxRecDepth 100000 in
set_option maxHeartbeats 4000000 in
theorem k_X2_dropApproval {l : Launch} {D : va_G} {cA : Nat → ClassId} {N0 zE : Nat} {a0 : Nat} {p1 : Int32} {T : zT} {F : zF} {Post : zF → Prop} (h : v_X2_dropApproval a0 p1 T F Post) : z_Mt l D cA N0 zE yX2_dropApproval cX2_dropApproval 2 none ({ frames := 1, cells := 0, slots := 0, locals := 23 } : Room) [.ref a0, .int p1] T F (fun v T' F' => v = none ∧ T = T' ∧ Post F') := by
  unfold v_X2_dropApproval at h
  refine z_bodyT (by decide) (Nat.le_of_ble_eq_true rfl) ?_
  intro p e s m args below meth c C hnm
  have C : z_C p l s m args meth c RX2 cX2_dropApproval 2 none D cA N0 zE := C
  show z_w p l e ({ frames := 1, cells := 0, slots := 0, locals := 23 } : Room) s m args below meth c D cA N0 2 0 0 (MQ below (z_Qc D cA N0 (fun v T' F' => v = none ∧ T = T' ∧ Post F')) args s 0 0 (fun q => N0 ≤ q)) 0 [(0, .ref a0), (1, .int p1)] [] T F
  refine zr_iload_n C 1 dX2_dropApproval_0 rfl rfl ?_
  obtain ⟨h1, h2⟩ := h
  refine zr_if_lt C 23 dX2_dropApproval_1 (by decide) (fun hc => ?_) (fun hc => ?_)
  · have h := h1 hc
    clear h1 h2
    exact zr_vret C rfl ⟨rfl, rfl, h⟩ (Nat.le_of_ble_eq_true rfl) (Nat.le_of_ble_eq_true rfl) dX2_dropApproval_23
  · have h := h2 hc
    clear h1 h2
    refine zr_iload_n C 1 dX2_dropApproval_4 rfl rfl ?_
    refine zr_aload_n C 0 dX2_dropApproval_5 rfl rfl ?_
    obtain ⟨hT1, x3, hv2, h⟩ := h
    refine zr_get C fl_X2_20 hT1 hv2 dX2_dropApproval_6 ?_
    obtain ⟨n4, hT5, h⟩ := h
    refine zr_alen C hT5 (by decide) rfl dX2_dropApproval_9 ?_
    obtain ⟨h1, h2⟩ := h
    refine zr_icmp_ge C 23 dX2_dropApproval_10 (by decide) (fun hc => ?_) (fun hc => ?_)
    · have h := h1 hc
      clear h1 h2
      exact zr_vret C rfl ⟨rfl, rfl, h⟩ (Nat.le_of_ble_eq_true rfl) (Nat.le_of_ble_eq_true rfl) dX2_dropApproval_23
    · have h := h2 hc
      clear h1 h2
      refine zr_aload_n C 0 dX2_dropApproval_13 rfl rfl ?_
      refine zr_get C fl_X2_20 hT1 hv2 dX2_dropApproval_14 ?_
      refine zr_iload_n C 1 dX2_dropApproval_17 rfl rfl ?_
      obtain ⟨hi6, x7, hv8, h⟩ := h
      refine zr_aald C hT5 (by decide) rfl rfl hi6 hv8 dX2_dropApproval_18 ?_
      refine zr_iconst C (-1) dX2_dropApproval_19 (by decide) ?_
      refine zr_callS (As := [.ref x7, .int ((-1))]) C (k_J7_fill_53178 h) ok_X2_33 zq_190 rfl ⟨by decide, (Nat.le_of_ble_eq_true rfl)⟩ ⟨(Nat.le_of_ble_eq_true rfl), (Nat.le_of_ble_eq_true rfl)⟩ (Nat.le_of_ble_eq_true rfl) dX2_dropApproval_20 (fun v10 U11 G12 hq => ?_)
      clear h
      · obtain ⟨rfl, rfl, h⟩ := hq
        exact zr_vret C rfl ⟨rfl, rfl, h⟩ (Nat.le_of_ble_eq_true rfl) (Nat.le_of_ble_eq_true rfl) dX2_dropApproval_23
theorem dX2_isGrantedOn_0 : decode cX2_isGrantedOn 0 = .ok (.iconst 0, 1) := by decide +kernel
theorem dX2_isGrantedOn_1 : decode cX2_isGrantedOn 1 = .ok (.istore 4, 2) := by decide +kernel
theorem dX2_isGrantedOn_3 : decode cX2_isGrantedOn 3 = .ok (.iload 4, 2) := by decide +kernel
theorem dX2_isGrantedOn_5 : decode cX2_isGrantedOn 5 = .ok (.aload_n 0, 1) := by decide +kernel
theorem dX2_isGrantedOn_6 : decode cX2_isGrantedOn 6 = .ok (.getfield 12, 3) := by decide +kernel
theorem dX2_isGrantedOn_12 : decode cX2_isGrantedOn 12 = .ok (.if_icmp .ge 32, 3) := by decide +kernel
theorem dX2_isGrantedOn_44 : decode cX2_isGrantedOn 44 = .ok (.iconst 1, 1) := by decide +kernel
theorem dX2_isGrantedOn_45 : decode cX2_isGrantedOn 45 = .ok (.ireturn, 1) := by decide +kernel
theorem dX2_isGrantedOn_15 : decode cX2_isGrantedOn 15 = .ok (.aload_n 0, 1) := by decide +kernel
theorem dX2_isGrantedOn_16 : decode cX2_isGrantedOn 16 = .ok (.getfield 12, 3) := by decide +kernel
theorem dX2_isGrantedOn_19 : decode cX2_isGrantedOn 19 = .ok (.iload 4, 2) := by decide +kernel
theorem dX2_isGrantedOn_24 : decode cX2_isGrantedOn 24 = .ok (.checkcast 47, 3) := by decide +kernel
theorem dX2_isGrantedOn_27 : decode cX2_isGrantedOn 27 = .ok (.iload_n 1, 1) := by decide +kernel
theorem dX2_isGrantedOn_28 : decode cX2_isGrantedOn 28 = .ok (.iload_n 2, 1) := by decide +kernel
theorem dX2_isGrantedOn_29 : decode cX2_isGrantedOn 29 = .ok (.iload_n 3, 1) := by decide +kernel
theorem dX2_isGrantedOn_33 : decode cX2_isGrantedOn 33 = .ok (.ifCond .ne 5, 3) := by decide +kernel
theorem dX2_isGrantedOn_38 : decode cX2_isGrantedOn 38 = .ok (.iinc 4 1, 3) := by decide +kernel
theorem dX2_isGrantedOn_41 : decode cX2_isGrantedOn 41 = .ok (.goto (-38), 3) := by decide +kernel
theorem dX2_isGrantedOn_36 : decode cX2_isGrantedOn 36 = .ok (.iconst 0, 1) := by decide +kernel
theorem dX2_isGrantedOn_37 : decode cX2_isGrantedOn 37 = .ok (.ireturn, 1) := by decide +kernel
theorem dX2_isGrantedOn_30 : decode cX2_isGrantedOn 30 = .ok (.invokevirtual 53, 3) := by decide +kernel
theorem dX2_isGrantedOn_21 : decode cX2_isGrantedOn 21 = .ok (.invokevirtual 43, 3) := by decide +kernel
theorem dX2_isGrantedOn_9 : decode cX2_isGrantedOn 9 = .ok (.invokevirtual 39, 3) := by decide +kernel
def v_X2_isGrantedOn (a0 : Nat) (p1 : Int32) (p2 : Int32) (p3 : Int32) (T : zT) (F : zF) (Post : Int32 → Prop) : Prop :=
  (∃ I1 : Nat → Int32 → Prop, (∃ n3 : Nat, I1 n3 0) ∧ (∀ (n2 : Nat) (y4 : Int32), I1 n2 y4 → (T a0 = some (3, 5) ∧ ∃ x9 : Nat, F a0 3 = .ref x9 ∧ T x9 = some (0, 3) ∧ (v_Jx4a65c_size_8abf5 x9 T F (fun (r11 : Int32) => ((r11 ≤ y4 → Post 1) ∧ (¬ r11 ≤ y4 → (v_Jx4a65c_get_915e3 x9 y4 T F (fun (r12 : Nat) => (T r12 = some (1, 5) ∧ (v_X0_isGranted r12 p1 p2 p3 T F (fun (r14 : Int32) => ((¬ r14 = 0 → (∃ n15 : Nat, n15 < n2 ∧ I1 n15 (y4 + 1))) ∧ (r14 = 0 → Post 0))))))))))))))
set_option maxRecDepth 100000 in
set_option maxHeartbeats 4000000 in
theorem k_X2_isGrantedOn {l : Launch} {D : va_G} {cA : Nat → ClassId} {N0 zE : Nat} {a0 : Nat} {p1 : Int32} {p2 : Int32} {p3 : Int32} {T : zT} {F : zF} {Post : Int32 → Prop} (h : v_X2_isGrantedOn a0 p1 p2 p3 T F Post) : z_Mt l D cA N0 zE yX2_isGrantedOn cX2_isGrantedOn 5 (some .boolean) ({ frames := 3, cells := 0, slots := 0, locals := 64 } : Room) [.ref a0, .int p1, .int p2, .int p3] T F (fun v T' F' => ∃ r : Int32, v = some (.int r) ∧ T = T' ∧ F = F' ∧ Post r) := by
  unfold v_X2_isGrantedOn at h
  refine z_bodyT (by decide) (Nat.le_of_ble_eq_true rfl) ?_
  intro p e s m args below meth c C hnm
  have C : z_C p l s m args meth c RX2 cX2_isGrantedOn 5 (some .boolean) D cA N0 zE := C
  show z_w p l e ({ frames := 3, cells := 0, slots := 0, locals := 64 } : Room) s m args below meth c D cA N0 5 0 0 (MQ below (z_Qc D cA N0 (fun v T' F' => ∃ r : Int32, v = some (.int r) ∧ T = T' ∧ F = F' ∧ Post r)) args s 0 0 (fun q => N0 ≤ q)) 0 [(0, .ref a0), (1, .int p1), (2, .int p2), (3, .int p3)] [] T F
  refine zr_iconst C 0 dX2_isGrantedOn_0 (by decide) ?_
  refine zr_istore C [(4, .int 0), (0, .ref a0), (1, .int p1), (2, .int p2), (3, .int p3)] dX2_isGrantedOn_1 (by decide) rfl ?_
  obtain ⟨I1, ⟨n3, h026⟩, hI25⟩ := h
  have ky27 : ∀ (n2 : Nat) (y4 : Int32), I1 n2 y4 → z_w p l e ({ frames := 3, cells := 0, slots := 0, locals := 64 } : Room) s m args below meth c D cA N0 5 0 0 (MQ below (z_Qc D cA N0 (fun v T' F' => ∃ r : Int32, v = some (.int r) ∧ T = T' ∧ F = F' ∧ Post r)) args s 0 0 (fun q => N0 ≤ q)) 3 [(0, .ref a0), (1, .int p1), (2, .int p2), (3, .int p3), (4, .int y4)] [] T F := by
    intro n2
    induction n2 using Nat.strongRecOn with
    | _ n2 ih5 =>
      intro y4 hin
      have h := hI25 n2 y4 hin
      refine zr_iload C 4 dX2_isGrantedOn_3 rfl ?_
      refine zr_aload_n C 0 dX2_isGrantedOn_5 rfl rfl ?_
      obtain ⟨hT7, x9, hv8, h⟩ := h
      refine zr_get C fl_X2_12 hT7 hv8 dX2_isGrantedOn_6 ?_
      obtain ⟨hT10, h⟩ := h
      refine zr_callV (As := []) (r := (RJx4a65c, TJx4a65c, 3)) C (k_Jx4a65c_size_8abf5 h) ok_X2_39 zq_112 zq_113 hT10 (by decide) rfl rfl ⟨by decide, (Nat.le_of_ble_eq_true rfl)⟩ ⟨(Nat.le_of_ble_eq_true rfl), (Nat.le_of_ble_eq_true rfl)⟩ (Nat.le_of_ble_eq_true rfl) dX2_isGrantedOn_9 (fun v22 U23 G24 hq => ?_)
      clear h
      · obtain ⟨r11, rfl, rfl, rfl, h⟩ := hq
        obtain ⟨h1, h2⟩ := h
        refine zr_icmp_ge C 44 dX2_isGrantedOn_12 (by decide) (fun hc => ?_) (fun hc => ?_)
        · have h := h1 hc
          clear h1 h2
          refine zr_iconst C 1 dX2_isGrantedOn_44 (by decide) ?_
          exact zr_zret C rfl (Or.inr rfl) ⟨_, rfl, rfl, rfl, h⟩ (Nat.le_of_ble_eq_true rfl) (Nat.le_of_ble_eq_true rfl) dX2_isGrantedOn_45
        · have h := h2 hc
          clear h1 h2
          refine zr_aload_n C 0 dX2_isGrantedOn_15 rfl rfl ?_
          refine zr_get C fl_X2_12 hT7 hv8 dX2_isGrantedOn_16 ?_
          refine zr_iload C 4 dX2_isGrantedOn_19 rfl ?_
          refine zr_callV (As := [.int y4]) (r := (RJx4a65c, TJx4a65c, 3)) C (k_Jx4a65c_get_915e3 h) ok_X2_43 zq_290 zq_291 hT10 (by decide) rfl rfl ⟨by decide, (Nat.le_of_ble_eq_true rfl)⟩ ⟨(Nat.le_of_ble_eq_true rfl), (Nat.le_of_ble_eq_true rfl)⟩ (Nat.le_of_ble_eq_true rfl) dX2_isGrantedOn_21 (fun v19 U20 G21 hq => ?_)
          clear h
          · obtain ⟨r12, rfl, rfl, rfl, h⟩ := hq
            obtain ⟨hT13, h⟩ := h
            refine zr_castS (r := (RX0, TX0, 5)) C hT13 (by decide) rfl zq_451 dX2_isGrantedOn_24 ?_
            refine zr_iload_n C 1 dX2_isGrantedOn_27 rfl rfl ?_
            refine zr_iload_n C 2 dX2_isGrantedOn_28 rfl rfl ?_
            refine zr_iload_n C 3 dX2_isGrantedOn_29 rfl rfl ?_
            refine zr_callV (As := [.int p1, .int p2, .int p3]) (r := (RX0, TX0, 5)) C (k_X0_isGranted h) ok_X2_53 zq_496 zq_497 hT13 (by decide) rfl rfl ⟨by decide, (Nat.le_of_ble_eq_true rfl)⟩ ⟨(Nat.le_of_ble_eq_true rfl), (Nat.le_of_ble_eq_true rfl)⟩ (Nat.le_of_ble_eq_true rfl) dX2_isGrantedOn_30 (fun v16 U17 G18 hq => ?_)
            clear h
            · obtain ⟨r14, rfl, rfl, rfl, h⟩ := hq
              obtain ⟨h1, h2⟩ := h
              refine zr_if_ne C 38 dX2_isGrantedOn_33 (by decide) (fun hc => ?_) (fun hc => ?_)
              · have h := h1 hc
                clear h1 h2
                refine zr_iinc C [(4, .int (y4 + 1)), (0, .ref a0), (1, .int p1), (2, .int p2), (3, .int p3)] 4 dX2_isGrantedOn_38 rfl rfl (by decide) rfl ?_
                refine zr_goto C 3 dX2_isGrantedOn_41 (by decide) ?_
                obtain ⟨n15, hlt, h⟩ := h
                exact zr_sub [1, 2, 3, 4, 0] rfl (ih5 n15 hlt (y4 + 1) h)
              · have h := h2 hc
                clear h1 h2
                refine zr_iconst C 0 dX2_isGrantedOn_36 (by decide) ?_
                exact zr_zret C rfl (Or.inl rfl) ⟨_, rfl, rfl, rfl, h⟩ (Nat.le_of_ble_eq_true rfl) (Nat.le_of_ble_eq_true rfl) dX2_isGrantedOn_37
  exact zr_sub [1, 2, 3, 4, 0] rfl (ky27 n3 0 h026)
theorem dX2_reasonOn_0 : decode cX2_reasonOn 0 = .ok (.aload_n 0, 1) := by decide +kernel
theorem dX2_reasonOn_1 : decode cX2_reasonOn 1 = .ok (.iload_n 2, 1) := by decide +kernel
theorem dX2_reasonOn_5 : decode cX2_reasonOn 5 = .ok (.ifCond .ne 5, 3) := by decide +kernel
theorem dX2_reasonOn_10 : decode cX2_reasonOn 10 = .ok (.aload_n 0, 1) := by decide +kernel
theorem dX2_reasonOn_11 : decode cX2_reasonOn 11 = .ok (.iload_n 1, 1) := by decide +kernel
theorem dX2_reasonOn_12 : decode cX2_reasonOn 12 = .ok (.iload_n 2, 1) := by decide +kernel
theorem dX2_reasonOn_13 : decode cX2_reasonOn 13 = .ok (.iload_n 2, 1) := by decide +kernel
theorem dX2_reasonOn_17 : decode cX2_reasonOn 17 = .ok (.ifCond .ne 5, 3) := by decide +kernel
theorem dX2_reasonOn_22 : decode cX2_reasonOn 22 = .ok (.aload_n 0, 1) := by decide +kernel
theorem dX2_reasonOn_23 : decode cX2_reasonOn 23 = .ok (.iload_n 1, 1) := by decide +kernel
theorem dX2_reasonOn_24 : decode cX2_reasonOn 24 = .ok (.iload_n 2, 1) := by decide +kernel
theorem dX2_reasonOn_28 : decode cX2_reasonOn 28 = .ok (.ifCond .eq 7, 3) := by decide +kernel
theorem dX2_reasonOn_35 : decode cX2_reasonOn 35 = .ok (.iconst 3, 1) := by decide +kernel
theorem dX2_reasonOn_36 : decode cX2_reasonOn 36 = .ok (.ireturn, 1) := by decide +kernel
theorem dX2_reasonOn_31 : decode cX2_reasonOn 31 = .ok (.iconst 0, 1) := by decide +kernel
theorem dX2_reasonOn_32 : decode cX2_reasonOn 32 = .ok (.goto 4, 3) := by decide +kernel
theorem dX2_reasonOn_25 : decode cX2_reasonOn 25 = .ok (.invokevirtual 64, 3) := by decide +kernel
theorem dX2_reasonOn_20 : decode cX2_reasonOn 20 = .ok (.iconst 2, 1) := by decide +kernel
theorem dX2_reasonOn_21 : decode cX2_reasonOn 21 = .ok (.ireturn, 1) := by decide +kernel
theorem dX2_reasonOn_14 : decode cX2_reasonOn 14 = .ok (.invokevirtual 61, 3) := by decide +kernel
theorem dX2_reasonOn_8 : decode cX2_reasonOn 8 = .ok (.iconst 1, 1) := by decide +kernel
theorem dX2_reasonOn_9 : decode cX2_reasonOn 9 = .ok (.ireturn, 1) := by decide +kernel
theorem dX2_reasonOn_2 : decode cX2_reasonOn 2 = .ok (.invokevirtual 57, 3) := by decide +kernel
def v_X2_reasonOn (a0 : Nat) (p1 : Int32) (p2 : Int32) (T : zT) (F : zF) (Post : Int32 → Prop) : Prop :=
  (T a0 = some (3, 5) ∧ (v_X2_isLaidOn a0 p2 T F (fun (r2 : Int32) => ((¬ r2 = 0 → (v_X2_isGrantedOn a0 p1 p2 p2 T F (fun (r3 : Int32) => ((¬ r3 = 0 → (v_X2_isFitOn a0 p1 p2 T F (fun (r4 : Int32) => ((r4 = 0 → Post 3) ∧ (¬ r4 = 0 → Post 0))))) ∧ (r3 = 0 → Post 2))))) ∧ (r2 = 0 → Post 1)))))
set_option maxRecDepth 100000 in
set_option maxHeartbeats 4000000 in
theorem k_X2_reasonOn {l : Launch} {D : va_G} {cA : Nat → ClassId} {N0 zE : Nat} {a0 : Nat} {p1 : Int32} {p2 : Int32} {T : zT} {F : zF} {Post : Int32 → Prop} (h : v_X2_reasonOn a0 p1 p2 T F Post) : z_Mt l D cA N0 zE yX2_reasonOn cX2_reasonOn 3 (some .int) ({ frames := 4, cells := 0, slots := 0, locals := 89 } : Room) [.ref a0, .int p1, .int p2] T F (fun v T' F' => ∃ r : Int32, v = some (.int r) ∧ T = T' ∧ F = F' ∧ Post r) := by
  unfold v_X2_reasonOn at h
  refine z_bodyT (by decide) (Nat.le_of_ble_eq_true rfl) ?_
  intro p e s m args below meth c C hnm
  have C : z_C p l s m args meth c RX2 cX2_reasonOn 3 (some .int) D cA N0 zE := C
  show z_w p l e ({ frames := 4, cells := 0, slots := 0, locals := 89 } : Room) s m args below meth c D cA N0 3 0 0 (MQ below (z_Qc D cA N0 (fun v T' F' => ∃ r : Int32, v = some (.int r) ∧ T = T' ∧ F = F' ∧ Post r)) args s 0 0 (fun q => N0 ≤ q)) 0 [(0, .ref a0), (1, .int p1), (2, .int p2)] [] T F
  refine zr_aload_n C 0 dX2_reasonOn_0 rfl rfl ?_
  refine zr_iload_n C 2 dX2_reasonOn_1 rfl rfl ?_
  obtain ⟨hT1, h⟩ := h
  refine zr_callV (As := [.int p2]) (r := (RX2, TX2, 5)) C (k_X2_isLaidOn h) ok_X2_57 zq_488 zq_489 hT1 (by decide) rfl rfl ⟨by decide, (Nat.le_of_ble_eq_true rfl)⟩ ⟨(Nat.le_of_ble_eq_true rfl), (Nat.le_of_ble_eq_true rfl)⟩ (Nat.le_of_ble_eq_true rfl) dX2_reasonOn_2 (fun v11 U12 G13 hq => ?_)
  clear h
  · obtain ⟨r2, rfl, rfl, rfl, h⟩ := hq
    obtain ⟨h1, h2⟩ := h
    refine zr_if_ne C 10 dX2_reasonOn_5 (by decide) (fun hc => ?_) (fun hc => ?_)
    · have h := h1 hc
      clear h1 h2
      refine zr_aload_n C 0 dX2_reasonOn_10 rfl rfl ?_
      refine zr_iload_n C 1 dX2_reasonOn_11 rfl rfl ?_
      refine zr_iload_n C 2 dX2_reasonOn_12 rfl rfl ?_
      refine zr_iload_n C 2 dX2_reasonOn_13 rfl rfl ?_
      refine zr_callV (As := [.int p1, .int p2, .int p2]) (r := (RX2, TX2, 5)) C (k_X2_isGrantedOn h) ok_X2_61 zq_492 zq_493 hT1 (by decide) rfl rfl ⟨by decide, (Nat.le_of_ble_eq_true rfl)⟩ ⟨(Nat.le_of_ble_eq_true rfl), (Nat.le_of_ble_eq_true rfl)⟩ (Nat.le_of_ble_eq_true rfl) dX2_reasonOn_14 (fun v8 U9 G10 hq => ?_)
      clear h
      · obtain ⟨r3, rfl, rfl, rfl, h⟩ := hq
        obtain ⟨h1, h2⟩ := h
        refine zr_if_ne C 22 dX2_reasonOn_17 (by decide) (fun hc => ?_) (fun hc => ?_)
        · have h := h1 hc
          clear h1 h2
          refine zr_aload_n C 0 dX2_reasonOn_22 rfl rfl ?_
          refine zr_iload_n C 1 dX2_reasonOn_23 rfl rfl ?_
          refine zr_iload_n C 2 dX2_reasonOn_24 rfl rfl ?_
          refine zr_callV (As := [.int p1, .int p2]) (r := (RX2, TX2, 5)) C (k_X2_isFitOn h) ok_X2_64 zq_446 zq_447 hT1 (by decide) rfl rfl ⟨by decide, (Nat.le_of_ble_eq_true rfl)⟩ ⟨(Nat.le_of_ble_eq_true rfl), (Nat.le_of_ble_eq_true rfl)⟩ (Nat.le_of_ble_eq_true rfl) dX2_reasonOn_25 (fun v5 U6 G7 hq => ?_)
          clear h
          · obtain ⟨r4, rfl, rfl, rfl, h⟩ := hq
            obtain ⟨h1, h2⟩ := h
            refine zr_if_eq C 35 dX2_reasonOn_28 (by decide) (fun hc => ?_) (fun hc => ?_)
            · have h := h1 hc
              clear h1 h2
              refine zr_iconst C 3 dX2_reasonOn_35 (by decide) ?_
              exact zr_iret C rfl ⟨_, rfl, rfl, rfl, h⟩ (Nat.le_of_ble_eq_true rfl) (Nat.le_of_ble_eq_true rfl) dX2_reasonOn_36
            · have h := h2 hc
              clear h1 h2
              refine zr_iconst C 0 dX2_reasonOn_31 (by decide) ?_
              refine zr_goto C 36 dX2_reasonOn_32 (by decide) ?_
              exact zr_iret C rfl ⟨_, rfl, rfl, rfl, h⟩ (Nat.le_of_ble_eq_true rfl) (Nat.le_of_ble_eq_true rfl) dX2_reasonOn_36
        · have h := h2 hc
          clear h1 h2
          refine zr_iconst C 2 dX2_reasonOn_20 (by decide) ?_
          exact zr_iret C rfl ⟨_, rfl, rfl, rfl, h⟩ (Nat.le_of_ble_eq_true rfl) (Nat.le_of_ble_eq_true rfl) dX2_reasonOn_21
    · have h := h2 hc
      clear h1 h2
      refine zr_iconst C 1 dX2_reasonOn_8 (by decide) ?_
      exact zr_iret C rfl ⟨_, rfl, rfl, rfl, h⟩ (Nat.le_of_ble_eq_true rfl) (Nat.le_of_ble_eq_true rfl) dX2_reasonOn_9
theorem dX2_landsFitOn_0 : decode cX2_landsFitOn 0 = .ok (.iconst 0, 1) := by decide +kernel
theorem dX2_landsFitOn_1 : decode cX2_landsFitOn 1 = .ok (.istore_n 2, 1) := by decide +kernel
theorem dX2_landsFitOn_2 : decode cX2_landsFitOn 2 = .ok (.iconst 0, 1) := by decide +kernel
theorem dX2_landsFitOn_3 : decode cX2_landsFitOn 3 = .ok (.istore_n 3, 1) := by decide +kernel
theorem dX2_landsFitOn_4 : decode cX2_landsFitOn 4 = .ok (.iload_n 3, 1) := by decide +kernel
theorem dX2_landsFitOn_5 : decode cX2_landsFitOn 5 = .ok (.iconst 4, 1) := by decide +kernel
theorem dX2_landsFitOn_6 : decode cX2_landsFitOn 6 = .ok (.if_icmp .ge 21, 3) := by decide +kernel
theorem dX2_landsFitOn_27 : decode cX2_landsFitOn 27 = .ok (.iload_n 2, 1) := by decide +kernel
theorem dX2_landsFitOn_28 : decode cX2_landsFitOn 28 = .ok (.ireturn, 1) := by decide +kernel
theorem dX2_landsFitOn_9 : decode cX2_landsFitOn 9 = .ok (.aload_n 0, 1) := by decide +kernel
theorem dX2_landsFitOn_10 : decode cX2_landsFitOn 10 = .ok (.iload_n 3, 1) := by decide +kernel
theorem dX2_landsFitOn_11 : decode cX2_landsFitOn 11 = .ok (.iload_n 1, 1) := by decide +kernel
theorem dX2_landsFitOn_15 : decode cX2_landsFitOn 15 = .ok (.ifCond .eq 6, 3) := by decide +kernel
theorem dX2_landsFitOn_21 : decode cX2_landsFitOn 21 = .ok (.iinc 3 1, 3) := by decide +kernel
theorem dX2_landsFitOn_24 : decode cX2_landsFitOn 24 = .ok (.goto (-20), 3) := by decide +kernel
theorem dX2_landsFitOn_18 : decode cX2_landsFitOn 18 = .ok (.iinc 2 1, 3) := by decide +kernel
theorem dX2_landsFitOn_12 : decode cX2_landsFitOn 12 = .ok (.invokevirtual 64, 3) := by decide +kernel
def v_X2_landsFitOn (a0 : Nat) (p1 : Int32) (T : zT) (F : zF) (Post : Int32 → Prop) : Prop :=
  (∃ I1 : Nat → Int32 → Int32 → Prop, (∃ n3 : Nat, I1 n3 0 0) ∧ (∀ (n2 : Nat) (y4 : Int32) (y5 : Int32), I1 n2 y4 y5 → ((4 ≤ y5 → Post y4) ∧ (¬ 4 ≤ y5 → (T a0 = some (3, 5) ∧ (v_X2_isFitOn a0 y5 p1 T F (fun (r9 : Int32) => ((r9 = 0 → (∃ n10 : Nat, n10 < n2 ∧ I1 n10 y4 (y5 + 1))) ∧ (¬ r9 = 0 → (∃ n11 : Nat, n11 < n2 ∧ I1 n11 (y4 + 1) (y5 + 1)))))))))))
set_option maxRecDepth 100000 in
set_option maxHeartbeats 4000000 in
theorem k_X2_landsFitOn {l : Launch} {D : va_G} {cA : Nat → ClassId} {N0 zE : Nat} {a0 : Nat} {p1 : Int32} {T : zT} {F : zF} {Post : Int32 → Prop} (h : v_X2_landsFitOn a0 p1 T F Post) : z_Mt l D cA N0 zE yX2_landsFitOn cX2_landsFitOn 4 (some .int) ({ frames := 4, cells := 0, slots := 0, locals := 89 } : Room) [.ref a0, .int p1] T F (fun v T' F' => ∃ r : Int32, v = some (.int r) ∧ T = T' ∧ F = F' ∧ Post r) := by
  unfold v_X2_landsFitOn at h
  refine z_bodyT (by decide) (Nat.le_of_ble_eq_true rfl) ?_
  intro p e s m args below meth c C hnm
  have C : z_C p l s m args meth c RX2 cX2_landsFitOn 4 (some .int) D cA N0 zE := C
  show z_w p l e ({ frames := 4, cells := 0, slots := 0, locals := 89 } : Room) s m args below meth c D cA N0 4 0 0 (MQ below (z_Qc D cA N0 (fun v T' F' => ∃ r : Int32, v = some (.int r) ∧ T = T' ∧ F = F' ∧ Post r)) args s 0 0 (fun q => N0 ≤ q)) 0 [(0, .ref a0), (1, .int p1)] [] T F
  refine zr_iconst C 0 dX2_landsFitOn_0 (by decide) ?_
  refine zr_istore_n C [(2, .int 0), (0, .ref a0), (1, .int p1)] dX2_landsFitOn_1 rfl (by decide) rfl ?_
  refine zr_iconst C 0 dX2_landsFitOn_2 (by decide) ?_
  refine zr_istore_n C [(3, .int 0), (2, .int 0), (0, .ref a0), (1, .int p1)] dX2_landsFitOn_3 rfl (by decide) rfl ?_
  obtain ⟨I1, ⟨n3, h016⟩, hI15⟩ := h
  have ky17 : ∀ (n2 : Nat) (y4 : Int32) (y5 : Int32), I1 n2 y4 y5 → z_w p l e ({ frames := 4, cells := 0, slots := 0, locals := 89 } : Room) s m args below meth c D cA N0 4 0 0 (MQ below (z_Qc D cA N0 (fun v T' F' => ∃ r : Int32, v = some (.int r) ∧ T = T' ∧ F = F' ∧ Post r)) args s 0 0 (fun q => N0 ≤ q)) 4 [(0, .ref a0), (1, .int p1), (2, .int y4), (3, .int y5)] [] T F := by
    intro n2
    induction n2 using Nat.strongRecOn with
    | _ n2 ih6 =>
      intro y4 y5 hin
      have h := hI15 n2 y4 y5 hin
      refine zr_iload_n C 3 dX2_landsFitOn_4 rfl rfl ?_
      refine zr_iconst C 4 dX2_landsFitOn_5 (by decide) ?_
      obtain ⟨h1, h2⟩ := h
      refine zr_icmp_ge C 27 dX2_landsFitOn_6 (by decide) (fun hc => ?_) (fun hc => ?_)
      · have h := h1 hc
        clear h1 h2
        refine zr_iload_n C 2 dX2_landsFitOn_27 rfl rfl ?_
        exact zr_iret C rfl ⟨_, rfl, rfl, rfl, h⟩ (Nat.le_of_ble_eq_true rfl) (Nat.le_of_ble_eq_true rfl) dX2_landsFitOn_28
      · have h := h2 hc
        clear h1 h2
        refine zr_aload_n C 0 dX2_landsFitOn_9 rfl rfl ?_
        refine zr_iload_n C 3 dX2_landsFitOn_10 rfl rfl ?_
        refine zr_iload_n C 1 dX2_landsFitOn_11 rfl rfl ?_
        obtain ⟨hT8, h⟩ := h
        refine zr_callV (As := [.int y5, .int p1]) (r := (RX2, TX2, 5)) C (k_X2_isFitOn h) ok_X2_64 zq_446 zq_447 hT8 (by decide) rfl rfl ⟨by decide, (Nat.le_of_ble_eq_true rfl)⟩ ⟨(Nat.le_of_ble_eq_true rfl), (Nat.le_of_ble_eq_true rfl)⟩ (Nat.le_of_ble_eq_true rfl) dX2_landsFitOn_12 (fun v12 U13 G14 hq => ?_)
        clear h
        · obtain ⟨r9, rfl, rfl, rfl, h⟩ := hq
          obtain ⟨h1, h2⟩ := h
          refine zr_if_eq C 21 dX2_landsFitOn_15 (by decide) (fun hc => ?_) (fun hc => ?_)
          · have h := h1 hc
            clear h1 h2
            refine zr_iinc C [(3, .int (y5 + 1)), (0, .ref a0), (1, .int p1), (2, .int y4)] 3 dX2_landsFitOn_21 rfl rfl (by decide) rfl ?_
            refine zr_goto C 4 dX2_landsFitOn_24 (by decide) ?_
            obtain ⟨n10, hlt, h⟩ := h
            exact zr_sub [1, 2, 3, 0] rfl (ih6 n10 hlt y4 (y5 + 1) h)
          · have h := h2 hc
            clear h1 h2
            refine zr_iinc C [(2, .int (y4 + 1)), (0, .ref a0), (1, .int p1), (3, .int y5)] 2 dX2_landsFitOn_18 rfl rfl (by decide) rfl ?_
            refine zr_iinc C [(3, .int (y5 + 1)), (2, .int (y4 + 1)), (0, .ref a0), (1, .int p1)] 3 dX2_landsFitOn_21 rfl rfl (by decide) rfl ?_
            refine zr_goto C 4 dX2_landsFitOn_24 (by decide) ?_
            obtain ⟨n11, hlt, h⟩ := h
            exact zr_sub [2, 3, 1, 0] rfl (ih6 n11 hlt (y4 + 1) (y5 + 1) h)
  exact zr_sub [2, 3, 1, 0] rfl (ky17 n3 0 0 h016)
theorem dX2_firstLaidDay_0 : decode cX2_firstLaidDay 0 = .ok (.iconst 0, 1) := by decide +kernel
theorem dX2_firstLaidDay_1 : decode cX2_firstLaidDay 1 = .ok (.istore_n 1, 1) := by decide +kernel
theorem dX2_firstLaidDay_2 : decode cX2_firstLaidDay 2 = .ok (.iconst 0, 1) := by decide +kernel
theorem dX2_firstLaidDay_3 : decode cX2_firstLaidDay 3 = .ok (.istore_n 2, 1) := by decide +kernel
theorem dX2_firstLaidDay_4 : decode cX2_firstLaidDay 4 = .ok (.iload_n 2, 1) := by decide +kernel
theorem dX2_firstLaidDay_5 : decode cX2_firstLaidDay 5 = .ok (.aload_n 0, 1) := by decide +kernel
theorem dX2_firstLaidDay_6 : decode cX2_firstLaidDay 6 = .ok (.getfield 12, 3) := by decide +kernel
theorem dX2_firstLaidDay_12 : decode cX2_firstLaidDay 12 = .ok (.if_icmp .ge 28, 3) := by decide +kernel
theorem dX2_firstLaidDay_40 : decode cX2_firstLaidDay 40 = .ok (.iload_n 1, 1) := by decide +kernel
theorem dX2_firstLaidDay_41 : decode cX2_firstLaidDay 41 = .ok (.bipush 99, 2) := by decide +kernel
theorem dX2_firstLaidDay_43 : decode cX2_firstLaidDay 43 = .ok (.if_icmp .le 7, 3) := by decide +kernel
theorem dX2_firstLaidDay_50 : decode cX2_firstLaidDay 50 = .ok (.iload_n 1, 1) := by decide +kernel
theorem dX2_firstLaidDay_51 : decode cX2_firstLaidDay 51 = .ok (.ireturn, 1) := by decide +kernel
theorem dX2_firstLaidDay_46 : decode cX2_firstLaidDay 46 = .ok (.iconst (-1), 1) := by decide +kernel
theorem dX2_firstLaidDay_47 : decode cX2_firstLaidDay 47 = .ok (.goto 4, 3) := by decide +kernel
theorem dX2_firstLaidDay_15 : decode cX2_firstLaidDay 15 = .ok (.iload_n 1, 1) := by decide +kernel
theorem dX2_firstLaidDay_16 : decode cX2_firstLaidDay 16 = .ok (.aload_n 0, 1) := by decide +kernel
theorem dX2_firstLaidDay_17 : decode cX2_firstLaidDay 17 = .ok (.getfield 12, 3) := by decide +kernel
theorem dX2_firstLaidDay_20 : decode cX2_firstLaidDay 20 = .ok (.iload_n 2, 1) := by decide +kernel
theorem dX2_firstLaidDay_24 : decode cX2_firstLaidDay 24 = .ok (.checkcast 47, 3) := by decide +kernel
theorem dX2_firstLaidDay_30 : decode cX2_firstLaidDay 30 = .ok (.invokestatic 71, 3) := by decide +kernel
theorem dX2_firstLaidDay_33 : decode cX2_firstLaidDay 33 = .ok (.istore_n 1, 1) := by decide +kernel
theorem dX2_firstLaidDay_34 : decode cX2_firstLaidDay 34 = .ok (.iinc 2 1, 3) := by decide +kernel
theorem dX2_firstLaidDay_37 : decode cX2_firstLaidDay 37 = .ok (.goto (-33), 3) := by decide +kernel
theorem dX2_firstLaidDay_27 : decode cX2_firstLaidDay 27 = .ok (.invokevirtual 68, 3) := by decide +kernel
theorem dX2_firstLaidDay_21 : decode cX2_firstLaidDay 21 = .ok (.invokevirtual 43, 3) := by decide +kernel
theorem dX2_firstLaidDay_9 : decode cX2_firstLaidDay 9 = .ok (.invokevirtual 39, 3) := by decide +kernel
def v_X2_firstLaidDay (a0 : Nat) (T : zT) (F : zF) (Post : Int32 → Prop) : Prop :=
  (∃ I1 : Nat → Int32 → Int32 → Prop, (∃ n3 : Nat, I1 n3 0 0) ∧ (∀ (n2 : Nat) (y4 : Int32) (y5 : Int32), I1 n2 y4 y5 → (T a0 = some (3, 5) ∧ ∃ x10 : Nat, F a0 3 = .ref x10 ∧ T x10 = some (0, 3) ∧ (v_Jx4a65c_size_8abf5 x10 T F (fun (r12 : Int32) => ((r12 ≤ y5 → ((y4 ≤ 99 → Post y4) ∧ (¬ y4 ≤ 99 → Post ((-1))))) ∧ (¬ r12 ≤ y5 → (v_Jx4a65c_get_915e3 x10 y5 T F (fun (r13 : Nat) => (T r13 = some (1, 5) ∧ (v_X0_firstComes r13 T F (fun (r15 : Int32) => (∃ n16 : Nat, n16 < n2 ∧ I1 n16 (if y4 < r15 then r15 else y4) (y5 + 1))))))))))))))
set_option maxRecDepth 100000 in
set_option maxHeartbeats 4000000 in
theorem k_X2_firstLaidDay {l : Launch} {D : va_G} {cA : Nat → ClassId} {N0 zE : Nat} {a0 : Nat} {T : zT} {F : zF} {Post : Int32 → Prop} (h : v_X2_firstLaidDay a0 T F Post) : z_Mt l D cA N0 zE yX2_firstLaidDay cX2_firstLaidDay 3 (some .int) ({ frames := 3, cells := 0, slots := 0, locals := 64 } : Room) [.ref a0] T F (fun v T' F' => ∃ r : Int32, v = some (.int r) ∧ T = T' ∧ F = F' ∧ Post r) := by
  unfold v_X2_firstLaidDay at h
  refine z_bodyT (by decide) (Nat.le_of_ble_eq_true rfl) ?_
  intro p e s m args below meth c C hnm
  have C : z_C p l s m args meth c RX2 cX2_firstLaidDay 3 (some .int) D cA N0 zE := C
  show z_w p l e ({ frames := 3, cells := 0, slots := 0, locals := 64 } : Room) s m args below meth c D cA N0 3 0 0 (MQ below (z_Qc D cA N0 (fun v T' F' => ∃ r : Int32, v = some (.int r) ∧ T = T' ∧ F = F' ∧ Post r)) args s 0 0 (fun q => N0 ≤ q)) 0 [(0, .ref a0)] [] T F
  refine zr_iconst C 0 dX2_firstLaidDay_0 (by decide) ?_
  refine zr_istore_n C [(1, .int 0), (0, .ref a0)] dX2_firstLaidDay_1 rfl (by decide) rfl ?_
  refine zr_iconst C 0 dX2_firstLaidDay_2 (by decide) ?_
  refine zr_istore_n C [(2, .int 0), (1, .int 0), (0, .ref a0)] dX2_firstLaidDay_3 rfl (by decide) rfl ?_
  obtain ⟨I1, ⟨n3, h027⟩, hI26⟩ := h
  have ky28 : ∀ (n2 : Nat) (y4 : Int32) (y5 : Int32), I1 n2 y4 y5 → z_w p l e ({ frames := 3, cells := 0, slots := 0, locals := 64 } : Room) s m args below meth c D cA N0 3 0 0 (MQ below (z_Qc D cA N0 (fun v T' F' => ∃ r : Int32, v = some (.int r) ∧ T = T' ∧ F = F' ∧ Post r)) args s 0 0 (fun q => N0 ≤ q)) 4 [(0, .ref a0), (1, .int y4), (2, .int y5)] [] T F := by
    intro n2
    induction n2 using Nat.strongRecOn with
    | _ n2 ih6 =>
      intro y4 y5 hin
      have h := hI26 n2 y4 y5 hin
      refine zr_iload_n C 2 dX2_firstLaidDay_4 rfl rfl ?_
      refine zr_aload_n C 0 dX2_firstLaidDay_5 rfl rfl ?_
      obtain ⟨hT8, x10, hv9, h⟩ := h
      refine zr_get C fl_X2_12 hT8 hv9 dX2_firstLaidDay_6 ?_
      obtain ⟨hT11, h⟩ := h
      refine zr_callV (As := []) (r := (RJx4a65c, TJx4a65c, 3)) C (k_Jx4a65c_size_8abf5 h) ok_X2_39 zq_112 zq_113 hT11 (by decide) rfl rfl ⟨by decide, (Nat.le_of_ble_eq_true rfl)⟩ ⟨(Nat.le_of_ble_eq_true rfl), (Nat.le_of_ble_eq_true rfl)⟩ (Nat.le_of_ble_eq_true rfl) dX2_firstLaidDay_9 (fun v23 U24 G25 hq => ?_)
      clear h
      · obtain ⟨r12, rfl, rfl, rfl, h⟩ := hq
        obtain ⟨h1, h2⟩ := h
        refine zr_icmp_ge C 40 dX2_firstLaidDay_12 (by decide) (fun hc => ?_) (fun hc => ?_)
        · have h := h1 hc
          clear h1 h2
          refine zr_iload_n C 1 dX2_firstLaidDay_40 rfl rfl ?_
          refine zr_bipush C 99 dX2_firstLaidDay_41 (by decide) ?_
          obtain ⟨h1, h2⟩ := h
          refine zr_icmp_le C 50 dX2_firstLaidDay_43 (by decide) (fun hc => ?_) (fun hc => ?_)
          · have h := h1 hc
            clear h1 h2
            refine zr_iload_n C 1 dX2_firstLaidDay_50 rfl rfl ?_
            exact zr_iret C rfl ⟨_, rfl, rfl, rfl, h⟩ (Nat.le_of_ble_eq_true rfl) (Nat.le_of_ble_eq_true rfl) dX2_firstLaidDay_51
          · have h := h2 hc
            clear h1 h2
            refine zr_iconst C (-1) dX2_firstLaidDay_46 (by decide) ?_
            refine zr_goto C 51 dX2_firstLaidDay_47 (by decide) ?_
            exact zr_iret C rfl ⟨_, rfl, rfl, rfl, h⟩ (Nat.le_of_ble_eq_true rfl) (Nat.le_of_ble_eq_true rfl) dX2_firstLaidDay_51
        · have h := h2 hc
          clear h1 h2
          refine zr_iload_n C 1 dX2_firstLaidDay_15 rfl rfl ?_
          refine zr_aload_n C 0 dX2_firstLaidDay_16 rfl rfl ?_
          refine zr_get C fl_X2_12 hT8 hv9 dX2_firstLaidDay_17 ?_
          refine zr_iload_n C 2 dX2_firstLaidDay_20 rfl rfl ?_
          refine zr_callV (As := [.int y5]) (r := (RJx4a65c, TJx4a65c, 3)) C (k_Jx4a65c_get_915e3 h) ok_X2_43 zq_290 zq_291 hT11 (by decide) rfl rfl ⟨by decide, (Nat.le_of_ble_eq_true rfl)⟩ ⟨(Nat.le_of_ble_eq_true rfl), (Nat.le_of_ble_eq_true rfl)⟩ (Nat.le_of_ble_eq_true rfl) dX2_firstLaidDay_21 (fun v20 U21 G22 hq => ?_)
          clear h
          · obtain ⟨r13, rfl, rfl, rfl, h⟩ := hq
            obtain ⟨hT14, h⟩ := h
            refine zr_castS (r := (RX0, TX0, 5)) C hT14 (by decide) rfl zq_451 dX2_firstLaidDay_24 ?_
            refine zr_callV (As := []) (r := (RX0, TX0, 5)) C (k_X0_firstComes h) ok_X2_68 zq_466 zq_467 hT14 (by decide) rfl rfl ⟨by decide, (Nat.le_of_ble_eq_true rfl)⟩ ⟨(Nat.le_of_ble_eq_true rfl), (Nat.le_of_ble_eq_true rfl)⟩ (Nat.le_of_ble_eq_true rfl) dX2_firstLaidDay_27 (fun v17 U18 G19 hq => ?_)
            clear h
            · obtain ⟨r15, rfl, rfl, rfl, h⟩ := hq
              refine zr_max C zq_470 zq_229 zq_29 zq_230 (by decide) (Nat.le_of_ble_eq_true rfl) (Nat.le_of_ble_eq_true rfl) (Nat.le_of_ble_eq_true rfl) dX2_firstLaidDay_30 ?_
              refine zr_istore_n C [(1, .int (if y4 < r15 then r15 else y4)), (0, .ref a0), (2, .int y5)] dX2_firstLaidDay_33 rfl (by decide) rfl ?_
              refine zr_iinc C [(2, .int (y5 + 1)), (1, .int (if y4 < r15 then r15 else y4)), (0, .ref a0)] 2 dX2_firstLaidDay_34 rfl rfl (by decide) rfl ?_
              refine zr_goto C 4 dX2_firstLaidDay_37 (by decide) ?_
              obtain ⟨n16, hlt, h⟩ := h
              exact zr_sub [2, 1, 0] rfl (ih6 n16 hlt (if y4 < r15 then r15 else y4) (y5 + 1) h)
  exact zr_sub [2, 1, 0] rfl (ky28 n3 0 0 h027)
