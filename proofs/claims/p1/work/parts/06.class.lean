theorem dX0_init_0 : decode cX0_init 0 = .ok (.aload_n 0, 1) := by decide +kernel
theorem dX0_init_1 : decode cX0_init 1 = .ok (.invokespecial 3, 3) := by decide +kernel
theorem dX0_init_4 : decode cX0_init 4 = .ok (.aload_n 0, 1) := by decide +kernel
theorem dX0_init_5 : decode cX0_init 5 = .ok (.iconst 5, 1) := by decide +kernel
theorem dX0_init_6 : decode cX0_init 6 = .ok (.newarray .int, 2) := by decide +kernel
theorem dX0_init_8 : decode cX0_init 8 = .ok (.putfield 9, 3) := by decide +kernel
theorem dX0_init_11 : decode cX0_init 11 = .ok (.aload_n 0, 1) := by decide +kernel
theorem dX0_init_12 : decode cX0_init 12 = .ok (.iconst 0, 1) := by decide +kernel
theorem dX0_init_13 : decode cX0_init 13 = .ok (.putfield 15, 3) := by decide +kernel
theorem dX0_init_16 : decode cX0_init 16 = .ok (.aload_n 0, 1) := by decide +kernel
theorem dX0_init_17 : decode cX0_init 17 = .ok (.iconst 0, 1) := by decide +kernel
theorem dX0_init_18 : decode cX0_init 18 = .ok (.putfield 19, 3) := by decide +kernel
theorem dX0_init_21 : decode cX0_init 21 = .ok (.aload_n 0, 1) := by decide +kernel
theorem dX0_init_22 : decode cX0_init 22 = .ok (.iconst 0, 1) := by decide +kernel
theorem dX0_init_23 : decode cX0_init 23 = .ok (.putfield 22, 3) := by decide +kernel
theorem dX0_init_26 : decode cX0_init 26 = .ok (.aload_n 0, 1) := by decide +kernel
theorem dX0_init_27 : decode cX0_init 27 = .ok (.iconst 0, 1) := by decide +kernel
theorem dX0_init_28 : decode cX0_init 28 = .ok (.putfield 25, 3) := by decide +kernel
theorem dX0_init_31 : decode cX0_init 31 = .ok (.aload_n 0, 1) := by decide +kernel
theorem dX0_init_32 : decode cX0_init 32 = .ok (.getfield 9, 3) := by decide +kernel
theorem dX0_init_35 : decode cX0_init 35 = .ok (.bipush 100, 2) := by decide +kernel
theorem dX0_init_40 : decode cX0_init 40 = .ok (.return_, 1) := by decide +kernel
theorem dX0_init_37 : decode cX0_init 37 = .ok (.invokestatic 28, 3) := by decide +kernel
def v_X0_init (a0 : Nat) (T : zT) (F : zF) (Post : zT → zF → Prop) : Prop :=
  (∀ q1 : Nat, (∀ b, q1 ≤ b → T b = none) → (zn T q1 (100, 5) a0 = some (3, 5) ∧ (v_J7_fill_53178 q1 100 (zn T q1 (100, 5)) (zu (zu (zu (zu (zu (zm F q1 (fun _ => .int 0)) a0 0 (.ref q1)) a0 1 (.int 0)) a0 2 (.int 0)) a0 3 (.int 0)) a0 4 (.int 0)) (fun (F14 : zF) => Post (zn T q1 (100, 5)) F14))))
set_option maxRecDepth 100000 in
set_option maxHeartbeats 4000000 in
theorem k_X0_init {l : Launch} {D : va_G} {cA : Nat → ClassId} {N0 zE : Nat} {a0 : Nat} {T : zT} {F : zF} {Post : zT → zF → Prop} (h : v_X0_init a0 T F Post) : z_Mt l D cA N0 zE yX0_init cX0_init 1 none ({ frames := 1, cells := 1, slots := 5, locals := 23 } : Room) [.ref a0] T F (fun v T' F' => v = none ∧ Post T' F') := by
  unfold v_X0_init at h
  refine z_bodyT (by decide) (Nat.le_of_ble_eq_true rfl) ?_
  intro p e s m args below meth c C hnm
  have C : z_C p l s m args meth c RX0 cX0_init 1 none D cA N0 zE := C
  show z_w p l e ({ frames := 1, cells := 1, slots := 5, locals := 23 } : Room) s m args below meth c D cA N0 1 0 0 (MQ below (z_Qc D cA N0 (fun v T' F' => v = none ∧ Post T' F')) args s 1 5 (fun q => N0 ≤ q)) 0 [(0, .ref a0)] [] T F
  refine zr_aload_n C 0 dX0_init_0 rfl rfl ?_
  refine zr_objInit C zq_643 zq_69 zq_70 (by decide) (Nat.le_of_ble_eq_true rfl) dX0_init_1 ?_
  refine zr_aload_n C 0 dX0_init_4 rfl rfl ?_
  refine zr_iconst C 5 dX0_init_5 (by decide) ?_
  refine zr_newarr (n := 5) (atype := .int) C 0 rfl zq_121 (by decide) (by decide) (Nat.le_of_ble_eq_true rfl) (Nat.le_of_ble_eq_true rfl) dX0_init_6 (fun q1 hq2 => ?_)
  have h := h q1 hq2
  obtain ⟨hT3, h⟩ := h
  refine zr_putF C fl_X0_9 fd_X0_9 hT3 rfl rfl hnm dX0_init_8 ?_
  refine zr_aload_n C 0 dX0_init_11 rfl rfl ?_
  refine zr_iconst C 0 dX0_init_12 (by decide) ?_
  refine zr_put C fl_X0_15 hT3 rfl rfl dX0_init_13 ?_
  refine zr_aload_n C 0 dX0_init_16 rfl rfl ?_
  refine zr_iconst C 0 dX0_init_17 (by decide) ?_
  refine zr_put C fl_X0_19 hT3 rfl rfl dX0_init_18 ?_
  refine zr_aload_n C 0 dX0_init_21 rfl rfl ?_
  refine zr_iconst C 0 dX0_init_22 (by decide) ?_
  refine zr_put C fl_X0_22 hT3 rfl rfl dX0_init_23 ?_
  refine zr_aload_n C 0 dX0_init_26 rfl rfl ?_
  refine zr_iconst C 0 dX0_init_27 (by decide) ?_
  refine zr_put C fl_X0_25 hT3 rfl rfl dX0_init_28 ?_
  refine zr_aload_n C 0 dX0_init_31 rfl rfl ?_
  refine zr_get C fl_X0_9 hT3 (z_une (z_une (z_une (z_une z_ueq (by decide)) (by decide)) (by decide)) (by decide)) dX0_init_32 ?_
  refine zr_bipush C 100 dX0_init_35 (by decide) ?_
  refine zr_callS (As := [.ref q1, .int 100]) C (k_J7_fill_53178 h) ok_X0_28 zq_645 rfl ⟨by decide, (Nat.le_of_ble_eq_true rfl)⟩ ⟨(Nat.le_of_ble_eq_true rfl), (Nat.le_of_ble_eq_true rfl)⟩ (Nat.le_of_ble_eq_true rfl) dX0_init_37 (fun v15 U16 G17 hq => ?_)
  clear h
  · obtain ⟨rfl, rfl, h⟩ := hq
    exact zr_vret C rfl ⟨rfl, h⟩ (Nat.le_of_ble_eq_true rfl) (Nat.le_of_ble_eq_true rfl) dX0_init_40
theorem dX4_asset_0 : decode cX4_asset 0 = .ok (.aload_n 0, 1) := by decide +kernel
theorem dX4_asset_1 : decode cX4_asset 1 = .ok (.getfield 10, 3) := by decide +kernel
theorem dX4_asset_7 : decode cX4_asset 7 = .ok (.bipush 16, 2) := by decide +kernel
theorem dX4_asset_9 : decode cX4_asset 9 = .ok (.if_icmp .lt 13, 3) := by decide +kernel
theorem dX4_asset_22 : decode cX4_asset 22 = .ok (.aload_n 0, 1) := by decide +kernel
theorem dX4_asset_23 : decode cX4_asset 23 = .ok (.getfield 10, 3) := by decide +kernel
theorem dX4_asset_26 : decode cX4_asset 26 = .ok (.new 41, 3) := by decide +kernel
theorem dX4_asset_29 : decode cX4_asset 29 = .ok (.dup, 1) := by decide +kernel
theorem dX4_asset_36 : decode cX4_asset 36 = .ok (.pop, 1) := by decide +kernel
theorem dX4_asset_37 : decode cX4_asset 37 = .ok (.aload_n 0, 1) := by decide +kernel
theorem dX4_asset_38 : decode cX4_asset 38 = .ok (.getfield 10, 3) := by decide +kernel
theorem dX4_asset_44 : decode cX4_asset 44 = .ok (.iconst 1, 1) := by decide +kernel
theorem dX4_asset_45 : decode cX4_asset 45 = .ok (.isub, 1) := by decide +kernel
theorem dX4_asset_46 : decode cX4_asset 46 = .ok (.ireturn, 1) := by decide +kernel
theorem dX4_asset_41 : decode cX4_asset 41 = .ok (.invokevirtual 30, 3) := by decide +kernel
theorem dX4_asset_33 : decode cX4_asset 33 = .ok (.invokevirtual 44, 3) := by decide +kernel
theorem dX4_asset_30 : decode cX4_asset 30 = .ok (.invokespecial 43, 3) := by decide +kernel
theorem dX4_asset_12 : decode cX4_asset 12 = .ok (.new 34, 3) := by decide +kernel
theorem dX4_asset_15 : decode cX4_asset 15 = .ok (.dup, 1) := by decide +kernel
theorem dX4_asset_16 : decode cX4_asset 16 = .ok (.ldc 36, 2) := by decide +kernel
theorem dX4_asset_18 : decode cX4_asset 18 = .ok (.invokespecial 38, 3) := by decide +kernel
theorem dX4_asset_21 : decode cX4_asset 21 = .ok (.athrow, 1) := by decide +kernel
theorem dX4_asset_4 : decode cX4_asset 4 = .ok (.invokevirtual 30, 3) := by decide +kernel
def v_X4_asset (zE : Nat) (a0 : Nat) (T : zT) (F : zF) (Post : Int32 → zT → zF → Prop) (PX : String → zT → zF → Prop) : Prop :=
  (T a0 = some (7, 4) ∧ ∃ x3 : Nat, F a0 0 = .ref x3 ∧ T x3 = some (2, 3) ∧ (v_Jx4a65c_size_8abf5 x3 T F (fun (r5 : Int32) => ((r5 < 16 → (∀ q6 : Nat, (∀ b, q6 ≤ b → T b = none) → (v_X0_init q6 (zn T q6 (3, 5)) (zm F q6 (fun j => defaultValue (tyX0 j))) (fun (T8 : zT) (F9 : zF) => (T8 x3 = some (2, 3) ∧ (v_Jx4a65c_add_9ea2d zE x3 q6 T8 F9 (fun (r11 : Int32) (T12 : zT) (F13 : zF) => (T12 a0 = some (7, 4) ∧ ∃ x16 : Nat, F13 a0 0 = .ref x16 ∧ T12 x16 = some (2, 3) ∧ (v_Jx4a65c_size_8abf5 x16 T12 F13 (fun (r18 : Int32) => Post (r18 - 1) T12 F13)))))))))) ∧ (¬ r5 < 16 → PX "java/lang/IllegalStateException" T F)))))
set_option maxRecDepth 100000 in
set_option maxHeartbeats 4000000 in
theorem k_X4_asset {l : Launch} {D : va_G} {cA : Nat → ClassId} {N0 zE : Nat} {a0 : Nat} {T : zT} {F : zF} {Post : Int32 → zT → zF → Prop} {PX : String → zT → zF → Prop} (h : v_X4_asset zE a0 T F Post PX) : z_Met l D cA N0 zE yX4_asset cX4_asset 1 (some .int) ({ frames := 6, cells := 4, slots := 26, locals := 131 } : Room) [.ref a0] T F (fun v T' F' => ∃ r : Int32, v = some (.int r) ∧ Post r T' F') (fun E T' F' => PX E T' F') := by
  unfold v_X4_asset at h
  refine z_body (by decide) (Nat.le_of_ble_eq_true rfl) ?_
  intro p e s m args below meth c C hxt hnm
  have C : z_C p l s m args meth c RX4 cX4_asset 1 (some .int) D cA N0 zE := C
  show z_w p l e ({ frames := 6, cells := 4, slots := 26, locals := 131 } : Room) s m args below meth c D cA N0 1 0 0 (vx_MQ below (z_Qc D cA N0 (fun v T' F' => ∃ r : Int32, v = some (.int r) ∧ Post r T' F')) (z_XC D cA N0 (fun E T' F' => PX E T' F')) args s 4 26 (fun q => N0 ≤ q)) 0 [(0, .ref a0)] [] T F
  refine zr_aload_n C 0 dX4_asset_0 rfl rfl ?_
  obtain ⟨hT1, x3, hv2, h⟩ := h
  refine zr_get C fl_X4_10 hT1 hv2 dX4_asset_1 ?_
  obtain ⟨hT4, h⟩ := h
  refine zr_callV (As := []) (r := (RJx4a65c, TJx4a65c, 3)) C (k_Jx4a65c_size_8abf5 h) ok_X4_30 zq_140 zq_141 hT4 (by decide) rfl rfl ⟨by decide, (Nat.le_of_ble_eq_true rfl)⟩ ⟨(Nat.le_of_ble_eq_true rfl), (Nat.le_of_ble_eq_true rfl)⟩ (Nat.le_of_ble_eq_true rfl) dX4_asset_4 (fun v28 U29 G30 hq => ?_)
  clear h
  · obtain ⟨r5, rfl, rfl, rfl, h⟩ := hq
    refine zr_bipush C 16 dX4_asset_7 (by decide) ?_
    obtain ⟨h1, h2⟩ := h
    refine zr_icmp_lt C 22 dX4_asset_9 (by decide) (fun hc => ?_) (fun hc => ?_)
    · have h := h1 hc
      clear h1 h2
      refine zr_aload_n C 0 dX4_asset_22 rfl rfl ?_
      refine zr_get C fl_X4_10 hT1 hv2 dX4_asset_23 ?_
      refine zr_new C nw_X4_41 (Nat.le_of_ble_eq_true rfl) (Nat.le_of_ble_eq_true rfl) dX4_asset_26 (fun q6 hq7 => ?_)
      have h := h q6 hq7
      refine zr_dup C dX4_asset_29 rfl ?_
      refine zr_callI (As := []) C (k_X0_init h) ok_X4_43 zq_641 rfl rfl ⟨by decide, (Nat.le_of_ble_eq_true rfl)⟩ ⟨(Nat.le_of_ble_eq_true rfl), (Nat.le_of_ble_eq_true rfl)⟩ (Nat.le_of_ble_eq_true rfl) dX4_asset_30 (fun v25 U26 G27 hq => ?_)
      clear h
      · obtain ⟨rfl, h⟩ := hq
        skip
        obtain ⟨hT10, h⟩ := h
        refine zr_callV (As := [.ref q6]) (r := (RJx4a65c, TJx4a65c, 3)) C (k_Jx4a65c_add_9ea2d h) ok_X4_44 zq_504 zq_505 hT10 (by decide) rfl rfl ⟨by decide, (Nat.le_of_ble_eq_true rfl)⟩ ⟨(Nat.le_of_ble_eq_true rfl), (Nat.le_of_ble_eq_true rfl)⟩ (Nat.le_of_ble_eq_true rfl) dX4_asset_33 (fun v22 U23 G24 hq => ?_)
        clear h
        · obtain ⟨r11, rfl, h⟩ := hq
          skip
          refine zr_pop C dX4_asset_36 rfl ?_
          refine zr_aload_n C 0 dX4_asset_37 rfl rfl ?_
          obtain ⟨hT14, x16, hv15, h⟩ := h
          refine zr_get C fl_X4_10 hT14 hv15 dX4_asset_38 ?_
          obtain ⟨hT17, h⟩ := h
          refine zr_callV (As := []) (r := (RJx4a65c, TJx4a65c, 3)) C (k_Jx4a65c_size_8abf5 h) ok_X4_30 zq_140 zq_141 hT17 (by decide) rfl rfl ⟨by decide, (Nat.le_of_ble_eq_true rfl)⟩ ⟨(Nat.le_of_ble_eq_true rfl), (Nat.le_of_ble_eq_true rfl)⟩ (Nat.le_of_ble_eq_true rfl) dX4_asset_41 (fun v19 U20 G21 hq => ?_)
          clear h
          · obtain ⟨r18, rfl, rfl, rfl, h⟩ := hq
            refine zr_iconst C 1 dX4_asset_44 (by decide) ?_
            refine zr_isub C dX4_asset_45 ?_
            exact zr_X (zr_iret C rfl ⟨_, rfl, h⟩ (Nat.le_of_ble_eq_true rfl) (Nat.le_of_ble_eq_true rfl) dX4_asset_46)
    · have h := h2 hc
      clear h1 h2
      exact zr_throw C th_X4_34_38_36 (fun x hx => (hxt x hx).elim) h dX4_asset_12 dX4_asset_15 dX4_asset_16 dX4_asset_18 dX4_asset_21 (by decide) (Nat.le_of_ble_eq_true rfl) ⟨(Nat.le_of_ble_eq_true rfl), (Nat.le_of_ble_eq_true rfl)⟩ ⟨(Nat.le_of_ble_eq_true rfl), (Nat.le_of_ble_eq_true rfl)⟩
set_option maxRecDepth 100000 in
set_option maxHeartbeats 4000000 in
theorem k_X4_asset0 {l : Launch} {D : va_G} {cA : Nat → ClassId} {N0 zE : Nat} {a0 : Nat} {T : zT} {F : zF} {Post : Int32 → zT → zF → Prop} (h : v_X4_asset zE a0 T F Post (fun _ _ _ => False)) : z_Mt l D cA N0 zE yX4_asset cX4_asset 1 (some .int) ({ frames := 6, cells := 3, slots := 20, locals := 131 } : Room) [.ref a0] T F (fun v T' F' => ∃ r : Int32, v = some (.int r) ∧ Post r T' F') := by
  unfold v_X4_asset at h
  refine z_bodyT (by decide) (Nat.le_of_ble_eq_true rfl) ?_
  intro p e s m args below meth c C hnm
  have C : z_C p l s m args meth c RX4 cX4_asset 1 (some .int) D cA N0 zE := C
  show z_w p l e ({ frames := 6, cells := 3, slots := 20, locals := 131 } : Room) s m args below meth c D cA N0 1 0 0 (MQ below (z_Qc D cA N0 (fun v T' F' => ∃ r : Int32, v = some (.int r) ∧ Post r T' F')) args s 3 20 (fun q => N0 ≤ q)) 0 [(0, .ref a0)] [] T F
  refine zr_aload_n C 0 dX4_asset_0 rfl rfl ?_
  obtain ⟨hT1, x3, hv2, h⟩ := h
  refine zr_get C fl_X4_10 hT1 hv2 dX4_asset_1 ?_
  obtain ⟨hT4, h⟩ := h
  refine zr_callV (As := []) (r := (RJx4a65c, TJx4a65c, 3)) C (k_Jx4a65c_size_8abf5 h) ok_X4_30 zq_140 zq_141 hT4 (by decide) rfl rfl ⟨by decide, (Nat.le_of_ble_eq_true rfl)⟩ ⟨(Nat.le_of_ble_eq_true rfl), (Nat.le_of_ble_eq_true rfl)⟩ (Nat.le_of_ble_eq_true rfl) dX4_asset_4 (fun v28 U29 G30 hq => ?_)
  clear h
  · obtain ⟨r5, rfl, rfl, rfl, h⟩ := hq
    refine zr_bipush C 16 dX4_asset_7 (by decide) ?_
    obtain ⟨h1, h2⟩ := h
    refine zr_icmp_lt C 22 dX4_asset_9 (by decide) (fun hc => ?_) (fun hc => ?_)
    · have h := h1 hc
      clear h1 h2
      refine zr_aload_n C 0 dX4_asset_22 rfl rfl ?_
      refine zr_get C fl_X4_10 hT1 hv2 dX4_asset_23 ?_
      refine zr_new C nw_X4_41 (Nat.le_of_ble_eq_true rfl) (Nat.le_of_ble_eq_true rfl) dX4_asset_26 (fun q6 hq7 => ?_)
      have h := h q6 hq7
      refine zr_dup C dX4_asset_29 rfl ?_
      refine zr_callI (As := []) C (k_X0_init h) ok_X4_43 zq_641 rfl rfl ⟨by decide, (Nat.le_of_ble_eq_true rfl)⟩ ⟨(Nat.le_of_ble_eq_true rfl), (Nat.le_of_ble_eq_true rfl)⟩ (Nat.le_of_ble_eq_true rfl) dX4_asset_30 (fun v25 U26 G27 hq => ?_)
      clear h
      · obtain ⟨rfl, h⟩ := hq
        skip
        obtain ⟨hT10, h⟩ := h
        refine zr_callV (As := [.ref q6]) (r := (RJx4a65c, TJx4a65c, 3)) C (k_Jx4a65c_add_9ea2d h) ok_X4_44 zq_504 zq_505 hT10 (by decide) rfl rfl ⟨by decide, (Nat.le_of_ble_eq_true rfl)⟩ ⟨(Nat.le_of_ble_eq_true rfl), (Nat.le_of_ble_eq_true rfl)⟩ (Nat.le_of_ble_eq_true rfl) dX4_asset_33 (fun v22 U23 G24 hq => ?_)
        clear h
        · obtain ⟨r11, rfl, h⟩ := hq
          skip
          refine zr_pop C dX4_asset_36 rfl ?_
          refine zr_aload_n C 0 dX4_asset_37 rfl rfl ?_
          obtain ⟨hT14, x16, hv15, h⟩ := h
          refine zr_get C fl_X4_10 hT14 hv15 dX4_asset_38 ?_
          obtain ⟨hT17, h⟩ := h
          refine zr_callV (As := []) (r := (RJx4a65c, TJx4a65c, 3)) C (k_Jx4a65c_size_8abf5 h) ok_X4_30 zq_140 zq_141 hT17 (by decide) rfl rfl ⟨by decide, (Nat.le_of_ble_eq_true rfl)⟩ ⟨(Nat.le_of_ble_eq_true rfl), (Nat.le_of_ble_eq_true rfl)⟩ (Nat.le_of_ble_eq_true rfl) dX4_asset_41 (fun v19 U20 G21 hq => ?_)
          clear h
          · obtain ⟨r18, rfl, rfl, rfl, h⟩ := hq
            refine zr_iconst C 1 dX4_asset_44 (by decide) ?_
            refine zr_isub C dX4_asset_45 ?_
            exact zr_iret C rfl ⟨_, rfl, h⟩ (Nat.le_of_ble_eq_true rfl) (Nat.le_of_ble_eq_true rfl) dX4_asset_46
    · have h := h2 hc
      clear h1 h2
      exact h.elim
theorem dX4_assetAt_0 : decode cX4_assetAt 0 = .ok (.iload_n 1, 1) := by decide +kernel
theorem dX4_assetAt_1 : decode cX4_assetAt 1 = .ok (.ifCond .lt 14, 3) := by decide +kernel
theorem dX4_assetAt_15 : decode cX4_assetAt 15 = .ok (.new 307, 3) := by decide +kernel
theorem dX4_assetAt_18 : decode cX4_assetAt 18 = .ok (.dup, 1) := by decide +kernel
theorem dX4_assetAt_19 : decode cX4_assetAt 19 = .ok (.ldc_w 357, 3) := by decide +kernel
theorem dX4_assetAt_22 : decode cX4_assetAt 22 = .ok (.invokespecial 309, 3) := by decide +kernel
theorem dX4_assetAt_25 : decode cX4_assetAt 25 = .ok (.athrow, 1) := by decide +kernel
theorem dX4_assetAt_4 : decode cX4_assetAt 4 = .ok (.iload_n 1, 1) := by decide +kernel
theorem dX4_assetAt_5 : decode cX4_assetAt 5 = .ok (.aload_n 0, 1) := by decide +kernel
theorem dX4_assetAt_6 : decode cX4_assetAt 6 = .ok (.getfield 10, 3) := by decide +kernel
theorem dX4_assetAt_12 : decode cX4_assetAt 12 = .ok (.if_icmp .lt 14, 3) := by decide +kernel
theorem dX4_assetAt_26 : decode cX4_assetAt 26 = .ok (.aload_n 0, 1) := by decide +kernel
theorem dX4_assetAt_27 : decode cX4_assetAt 27 = .ok (.getfield 10, 3) := by decide +kernel
theorem dX4_assetAt_30 : decode cX4_assetAt 30 = .ok (.iload_n 1, 1) := by decide +kernel
theorem dX4_assetAt_9 : decode cX4_assetAt 9 = .ok (.invokevirtual 30, 3) := by decide +kernel
def v_X4_assetAt (a0 : Nat) (p1 : Int32) (T : zT) (F : zF) (Post : Nat → Prop) (PX : String → Prop) : Prop :=
  ((p1 < 0 → PX "java/lang/IndexOutOfBoundsException") ∧ (¬ p1 < 0 → (T a0 = some (7, 4) ∧ ∃ x3 : Nat, F a0 0 = .ref x3 ∧ T x3 = some (2, 3) ∧ (v_Jx4a65c_size_8abf5 x3 T F (fun (r5 : Int32) => ((p1 < r5 → False) ∧ (¬ p1 < r5 → PX "java/lang/IndexOutOfBoundsException")))))))
set_option maxRecDepth 100000 in
set_option maxHeartbeats 4000000 in
theorem k_X4_assetAt {l : Launch} {D : va_G} {cA : Nat → ClassId} {N0 zE : Nat} {a0 : Nat} {p1 : Int32} {T : zT} {F : zF} {Post : Nat → Prop} {PX : String → Prop} (h : v_X4_assetAt a0 p1 T F Post PX) : z_Met l D cA N0 zE yX4_assetAt cX4_assetAt 2 (some (.object "BrandRoom$Asset")) ({ frames := 6, cells := 1, slots := 6, locals := 90 } : Room) [.ref a0, .int p1] T F (fun v T' F' => ∃ r : Nat, v = some (.ref r) ∧ T = T' ∧ F = F' ∧ Post r) (fun E T' F' => T = T' ∧ F = F' ∧ PX E) := by
  unfold v_X4_assetAt at h
  refine z_body (by decide) (Nat.le_of_ble_eq_true rfl) ?_
  intro p e s m args below meth c C hxt hnm
  have C : z_C p l s m args meth c RX4 cX4_assetAt 2 (some (.object "BrandRoom$Asset")) D cA N0 zE := C
  show z_w p l e ({ frames := 6, cells := 1, slots := 6, locals := 90 } : Room) s m args below meth c D cA N0 2 0 0 (vx_MQ below (z_Qc D cA N0 (fun v T' F' => ∃ r : Nat, v = some (.ref r) ∧ T = T' ∧ F = F' ∧ Post r)) (z_XC D cA N0 (fun E T' F' => T = T' ∧ F = F' ∧ PX E)) args s 1 6 (fun q => N0 ≤ q)) 0 [(0, .ref a0), (1, .int p1)] [] T F
  refine zr_iload_n C 1 dX4_assetAt_0 rfl rfl ?_
  obtain ⟨h1, h2⟩ := h
  refine zr_if_lt C 15 dX4_assetAt_1 (by decide) (fun hc => ?_) (fun hc => ?_)
  · have h := h1 hc
    clear h1 h2
    exact zr_throwW C th_X4_307_309_357 (fun x hx => (hxt x hx).elim) ⟨rfl, rfl, h⟩ dX4_assetAt_15 dX4_assetAt_18 dX4_assetAt_19 dX4_assetAt_22 dX4_assetAt_25 (by decide) (Nat.le_of_ble_eq_true rfl) ⟨(Nat.le_of_ble_eq_true rfl), (Nat.le_of_ble_eq_true rfl)⟩ ⟨(Nat.le_of_ble_eq_true rfl), (Nat.le_of_ble_eq_true rfl)⟩
  · have h := h2 hc
    clear h1 h2
    refine zr_iload_n C 1 dX4_assetAt_4 rfl rfl ?_
    refine zr_aload_n C 0 dX4_assetAt_5 rfl rfl ?_
    obtain ⟨hT1, x3, hv2, h⟩ := h
    refine zr_get C fl_X4_10 hT1 hv2 dX4_assetAt_6 ?_
    obtain ⟨hT4, h⟩ := h
    refine zr_callV (As := []) (r := (RJx4a65c, TJx4a65c, 3)) C (k_Jx4a65c_size_8abf5 h) ok_X4_30 zq_140 zq_141 hT4 (by decide) rfl rfl ⟨by decide, (Nat.le_of_ble_eq_true rfl)⟩ ⟨(Nat.le_of_ble_eq_true rfl), (Nat.le_of_ble_eq_true rfl)⟩ (Nat.le_of_ble_eq_true rfl) dX4_assetAt_9 (fun v6 U7 G8 hq => ?_)
    clear h
    · obtain ⟨r5, rfl, rfl, rfl, h⟩ := hq
      obtain ⟨h1, h2⟩ := h
      refine zr_icmp_lt C 26 dX4_assetAt_12 (by decide) (fun hc => ?_) (fun hc => ?_)
      · have h := h1 hc
        clear h1 h2
        refine zr_aload_n C 0 dX4_assetAt_26 rfl rfl ?_
        refine zr_get C fl_X4_10 hT1 hv2 dX4_assetAt_27 ?_
        refine zr_iload_n C 1 dX4_assetAt_30 rfl rfl ?_
        exact h.elim
      · have h := h2 hc
        clear h1 h2
        exact zr_throwW C th_X4_307_309_357 (fun x hx => (hxt x hx).elim) ⟨rfl, rfl, h⟩ dX4_assetAt_15 dX4_assetAt_18 dX4_assetAt_19 dX4_assetAt_22 dX4_assetAt_25 (by decide) (Nat.le_of_ble_eq_true rfl) ⟨(Nat.le_of_ble_eq_true rfl), (Nat.le_of_ble_eq_true rfl)⟩ ⟨(Nat.le_of_ble_eq_true rfl), (Nat.le_of_ble_eq_true rfl)⟩
set_option maxRecDepth 100000 in
set_option maxHeartbeats 4000000 in
theorem k_X4_assetAt0 {l : Launch} {D : va_G} {cA : Nat → ClassId} {N0 zE : Nat} {a0 : Nat} {p1 : Int32} {T : zT} {F : zF} {Post : Nat → Prop} (h : v_X4_assetAt a0 p1 T F Post (fun _ => False)) : z_Mt l D cA N0 zE yX4_assetAt cX4_assetAt 2 (some (.object "BrandRoom$Asset")) ({ frames := 1, cells := 0, slots := 0, locals := 20 } : Room) [.ref a0, .int p1] T F (fun v T' F' => ∃ r : Nat, v = some (.ref r) ∧ T = T' ∧ F = F' ∧ Post r) := by
  unfold v_X4_assetAt at h
  refine z_bodyT (by decide) (Nat.le_of_ble_eq_true rfl) ?_
  intro p e s m args below meth c C hnm
  have C : z_C p l s m args meth c RX4 cX4_assetAt 2 (some (.object "BrandRoom$Asset")) D cA N0 zE := C
  show z_w p l e ({ frames := 1, cells := 0, slots := 0, locals := 20 } : Room) s m args below meth c D cA N0 2 0 0 (MQ below (z_Qc D cA N0 (fun v T' F' => ∃ r : Nat, v = some (.ref r) ∧ T = T' ∧ F = F' ∧ Post r)) args s 0 0 (fun q => N0 ≤ q)) 0 [(0, .ref a0), (1, .int p1)] [] T F
  refine zr_iload_n C 1 dX4_assetAt_0 rfl rfl ?_
  obtain ⟨h1, h2⟩ := h
  refine zr_if_lt C 15 dX4_assetAt_1 (by decide) (fun hc => ?_) (fun hc => ?_)
  · have h := h1 hc
    clear h1 h2
    exact h.elim
  · have h := h2 hc
    clear h1 h2
    refine zr_iload_n C 1 dX4_assetAt_4 rfl rfl ?_
    refine zr_aload_n C 0 dX4_assetAt_5 rfl rfl ?_
    obtain ⟨hT1, x3, hv2, h⟩ := h
    refine zr_get C fl_X4_10 hT1 hv2 dX4_assetAt_6 ?_
    obtain ⟨hT4, h⟩ := h
    refine zr_callV (As := []) (r := (RJx4a65c, TJx4a65c, 3)) C (k_Jx4a65c_size_8abf5 h) ok_X4_30 zq_140 zq_141 hT4 (by decide) rfl rfl ⟨by decide, (Nat.le_of_ble_eq_true rfl)⟩ ⟨(Nat.le_of_ble_eq_true rfl), (Nat.le_of_ble_eq_true rfl)⟩ (Nat.le_of_ble_eq_true rfl) dX4_assetAt_9 (fun v6 U7 G8 hq => ?_)
    clear h
    · obtain ⟨r5, rfl, rfl, rfl, h⟩ := hq
      obtain ⟨h1, h2⟩ := h
      refine zr_icmp_lt C 26 dX4_assetAt_12 (by decide) (fun hc => ?_) (fun hc => ?_)
      · have h := h1 hc
        clear h1 h2
        refine zr_aload_n C 0 dX4_assetAt_26 rfl rfl ?_
        refine zr_get C fl_X4_10 hT1 hv2 dX4_assetAt_27 ?_
        refine zr_iload_n C 1 dX4_assetAt_30 rfl rfl ?_
        exact h.elim
      · have h := h2 hc
        clear h1 h2
        exact h.elim
theorem dX4_version_0 : decode cX4_version 0 = .ok (.aload_n 0, 1) := by decide +kernel
theorem dX4_version_1 : decode cX4_version 1 = .ok (.iload_n 1, 1) := by decide +kernel
theorem dX4_version_2 : decode cX4_version 2 = .ok (.invokevirtual 48, 3) := by decide +kernel
def v_X4_version (a0 : Nat) (p1 : Int32) (p2 : Int32) (T : zT) (F : zF) (Post : Int32 → Prop) (PX : String → Prop) : Prop :=
  (T a0 = some (7, 4) ∧ (v_X4_assetAt a0 p1 T F (fun (r2 : Nat) => False) (fun (E9 : String) => PX E9)))
set_option maxRecDepth 100000 in
set_option maxHeartbeats 4000000 in
theorem k_X4_version {l : Launch} {D : va_G} {cA : Nat → ClassId} {N0 zE : Nat} {a0 : Nat} {p1 : Int32} {p2 : Int32} {T : zT} {F : zF} {Post : Int32 → Prop} {PX : String → Prop} (h : v_X4_version a0 p1 p2 T F Post PX) : z_Met l D cA N0 zE yX4_version cX4_version 5 (some .int) ({ frames := 7, cells := 1, slots := 6, locals := 111 } : Room) [.ref a0, .int p1, .int p2] T F (fun v T' F' => ∃ r : Int32, v = some (.int r) ∧ T = T' ∧ F = F' ∧ Post r) (fun E T' F' => T = T' ∧ F = F' ∧ PX E) := by
  unfold v_X4_version at h
  refine z_body (by decide) (Nat.le_of_ble_eq_true rfl) ?_
  intro p e s m args below meth c C hxt hnm
  have C : z_C p l s m args meth c RX4 cX4_version 5 (some .int) D cA N0 zE := C
  show z_w p l e ({ frames := 7, cells := 1, slots := 6, locals := 111 } : Room) s m args below meth c D cA N0 5 0 0 (vx_MQ below (z_Qc D cA N0 (fun v T' F' => ∃ r : Int32, v = some (.int r) ∧ T = T' ∧ F = F' ∧ Post r)) (z_XC D cA N0 (fun E T' F' => T = T' ∧ F = F' ∧ PX E)) args s 1 6 (fun q => N0 ≤ q)) 0 [(0, .ref a0), (1, .int p1), (2, .int p2)] [] T F
  refine zr_aload_n C 0 dX4_version_0 rfl rfl ?_
  refine zr_iload_n C 1 dX4_version_1 rfl rfl ?_
  obtain ⟨hT1, h⟩ := h
  refine zr_callVX (As := [.int p1]) (r := (RX4, TX4, 4)) C (k_X4_assetAt h) ok_X4_48 zq_263 zq_1 hT1 (by decide) rfl rfl ⟨by decide, (Nat.le_of_ble_eq_true rfl)⟩ ⟨(Nat.le_of_ble_eq_true rfl), (Nat.le_of_ble_eq_true rfl)⟩ (Nat.le_of_ble_eq_true rfl) dX4_version_2 (fun E9 T9 F9 hq => by obtain ⟨rfl, rfl, hq⟩ := hq; exact zr_out C (fun x hx => (hxt x hx).elim) ⟨rfl, rfl, hq⟩ (Nat.le_of_ble_eq_true rfl) (Nat.le_of_ble_eq_true rfl)) (fun v3 U4 G5 hq => ?_)
  clear h
  · obtain ⟨r2, rfl, rfl, rfl, h⟩ := hq
    exact h.elim
set_option maxRecDepth 100000 in
set_option maxHeartbeats 4000000 in
theorem k_X4_version0 {l : Launch} {D : va_G} {cA : Nat → ClassId} {N0 zE : Nat} {a0 : Nat} {p1 : Int32} {p2 : Int32} {T : zT} {F : zF} {Post : Int32 → Prop} (h : v_X4_version a0 p1 p2 T F Post (fun _ => False)) : z_Mt l D cA N0 zE yX4_version cX4_version 5 (some .int) ({ frames := 2, cells := 0, slots := 0, locals := 41 } : Room) [.ref a0, .int p1, .int p2] T F (fun v T' F' => ∃ r : Int32, v = some (.int r) ∧ T = T' ∧ F = F' ∧ Post r) := by
  unfold v_X4_version at h
  refine z_bodyT (by decide) (Nat.le_of_ble_eq_true rfl) ?_
  intro p e s m args below meth c C hnm
  have C : z_C p l s m args meth c RX4 cX4_version 5 (some .int) D cA N0 zE := C
  show z_w p l e ({ frames := 2, cells := 0, slots := 0, locals := 41 } : Room) s m args below meth c D cA N0 5 0 0 (MQ below (z_Qc D cA N0 (fun v T' F' => ∃ r : Int32, v = some (.int r) ∧ T = T' ∧ F = F' ∧ Post r)) args s 0 0 (fun q => N0 ≤ q)) 0 [(0, .ref a0), (1, .int p1), (2, .int p2)] [] T F
  refine zr_aload_n C 0 dX4_version_0 rfl rfl ?_
  refine zr_iload_n C 1 dX4_version_1 rfl rfl ?_
  obtain ⟨hT1, h⟩ := h
  refine zr_callV (As := [.int p1]) (r := (RX4, TX4, 4)) C (k_X4_assetAt0 h) ok_X4_48 zq_263 zq_1 hT1 (by decide) rfl rfl ⟨by decide, (Nat.le_of_ble_eq_true rfl)⟩ ⟨(Nat.le_of_ble_eq_true rfl), (Nat.le_of_ble_eq_true rfl)⟩ (Nat.le_of_ble_eq_true rfl) dX4_version_2 (fun v3 U4 G5 hq => ?_)
  clear h
  · obtain ⟨r2, rfl, rfl, rfl, h⟩ := hq
    exact h.elim
theorem dX4_late_0 : decode cX4_late 0 = .ok (.aload_n 0, 1) := by decide +kernel
theorem dX4_late_1 : decode cX4_late 1 = .ok (.iload_n 1, 1) := by decide +kernel
theorem dX4_late_2 : decode cX4_late 2 = .ok (.invokevirtual 48, 3) := by decide +kernel
def v_X4_late (a0 : Nat) (p1 : Int32) (p2 : Int32) (T : zT) (F : zF) (Post : Int32 → Prop) (PX : String → Prop) : Prop :=
  (T a0 = some (7, 4) ∧ (v_X4_assetAt a0 p1 T F (fun (r2 : Nat) => False) (fun (E9 : String) => PX E9)))
set_option maxRecDepth 100000 in
set_option maxHeartbeats 4000000 in
theorem k_X4_late {l : Launch} {D : va_G} {cA : Nat → ClassId} {N0 zE : Nat} {a0 : Nat} {p1 : Int32} {p2 : Int32} {T : zT} {F : zF} {Post : Int32 → Prop} {PX : String → Prop} (h : v_X4_late a0 p1 p2 T F Post PX) : z_Met l D cA N0 zE yX4_late cX4_late 6 (some .int) ({ frames := 7, cells := 1, slots := 6, locals := 111 } : Room) [.ref a0, .int p1, .int p2] T F (fun v T' F' => ∃ r : Int32, v = some (.int r) ∧ T = T' ∧ F = F' ∧ Post r) (fun E T' F' => T = T' ∧ F = F' ∧ PX E) := by
  unfold v_X4_late at h
  refine z_body (by decide) (Nat.le_of_ble_eq_true rfl) ?_
  intro p e s m args below meth c C hxt hnm
  have C : z_C p l s m args meth c RX4 cX4_late 6 (some .int) D cA N0 zE := C
  show z_w p l e ({ frames := 7, cells := 1, slots := 6, locals := 111 } : Room) s m args below meth c D cA N0 6 0 0 (vx_MQ below (z_Qc D cA N0 (fun v T' F' => ∃ r : Int32, v = some (.int r) ∧ T = T' ∧ F = F' ∧ Post r)) (z_XC D cA N0 (fun E T' F' => T = T' ∧ F = F' ∧ PX E)) args s 1 6 (fun q => N0 ≤ q)) 0 [(0, .ref a0), (1, .int p1), (2, .int p2)] [] T F
  refine zr_aload_n C 0 dX4_late_0 rfl rfl ?_
  refine zr_iload_n C 1 dX4_late_1 rfl rfl ?_
  obtain ⟨hT1, h⟩ := h
  refine zr_callVX (As := [.int p1]) (r := (RX4, TX4, 4)) C (k_X4_assetAt h) ok_X4_48 zq_263 zq_1 hT1 (by decide) rfl rfl ⟨by decide, (Nat.le_of_ble_eq_true rfl)⟩ ⟨(Nat.le_of_ble_eq_true rfl), (Nat.le_of_ble_eq_true rfl)⟩ (Nat.le_of_ble_eq_true rfl) dX4_late_2 (fun E9 T9 F9 hq => by obtain ⟨rfl, rfl, hq⟩ := hq; exact zr_out C (fun x hx => (hxt x hx).elim) ⟨rfl, rfl, hq⟩ (Nat.le_of_ble_eq_true rfl) (Nat.le_of_ble_eq_true rfl)) (fun v3 U4 G5 hq => ?_)
  clear h
  · obtain ⟨r2, rfl, rfl, rfl, h⟩ := hq
    exact h.elim
set_option maxRecDepth 100000 in
set_option maxHeartbeats 4000000 in
theorem k_X4_late0 {l : Launch} {D : va_G} {cA : Nat → ClassId} {N0 zE : Nat} {a0 : Nat} {p1 : Int32} {p2 : Int32} {T : zT} {F : zF} {Post : Int32 → Prop} (h : v_X4_late a0 p1 p2 T F Post (fun _ => False)) : z_Mt l D cA N0 zE yX4_late cX4_late 6 (some .int) ({ frames := 2, cells := 0, slots := 0, locals := 41 } : Room) [.ref a0, .int p1, .int p2] T F (fun v T' F' => ∃ r : Int32, v = some (.int r) ∧ T = T' ∧ F = F' ∧ Post r) := by
  unfold v_X4_late at h
  refine z_bodyT (by decide) (Nat.le_of_ble_eq_true rfl) ?_
  intro p e s m args below meth c C hnm
  have C : z_C p l s m args meth c RX4 cX4_late 6 (some .int) D cA N0 zE := C
  show z_w p l e ({ frames := 2, cells := 0, slots := 0, locals := 41 } : Room) s m args below meth c D cA N0 6 0 0 (MQ below (z_Qc D cA N0 (fun v T' F' => ∃ r : Int32, v = some (.int r) ∧ T = T' ∧ F = F' ∧ Post r)) args s 0 0 (fun q => N0 ≤ q)) 0 [(0, .ref a0), (1, .int p1), (2, .int p2)] [] T F
  refine zr_aload_n C 0 dX4_late_0 rfl rfl ?_
  refine zr_iload_n C 1 dX4_late_1 rfl rfl ?_
  obtain ⟨hT1, h⟩ := h
  refine zr_callV (As := [.int p1]) (r := (RX4, TX4, 4)) C (k_X4_assetAt0 h) ok_X4_48 zq_263 zq_1 hT1 (by decide) rfl rfl ⟨by decide, (Nat.le_of_ble_eq_true rfl)⟩ ⟨(Nat.le_of_ble_eq_true rfl), (Nat.le_of_ble_eq_true rfl)⟩ (Nat.le_of_ble_eq_true rfl) dX4_late_2 (fun v3 U4 G5 hq => ?_)
  clear h
  · obtain ⟨r2, rfl, rfl, rfl, h⟩ := hq
    exact h.elim
theorem dX4_rights_0 : decode cX4_rights 0 = .ok (.aload_n 0, 1) := by decide +kernel
theorem dX4_rights_1 : decode cX4_rights 1 = .ok (.iload_n 1, 1) := by decide +kernel
theorem dX4_rights_2 : decode cX4_rights 2 = .ok (.invokevirtual 48, 3) := by decide +kernel
def v_X4_rights (a0 : Nat) (p1 : Int32) (p2 : Int32) (p3 : Int32) (p4 : Int32) (T : zT) (F : zF) (Post : Int32 → Prop) (PX : String → Prop) : Prop :=
  (T a0 = some (7, 4) ∧ (v_X4_assetAt a0 p1 T F (fun (r2 : Nat) => False) (fun (E9 : String) => PX E9)))
set_option maxRecDepth 100000 in
set_option maxHeartbeats 4000000 in
theorem k_X4_rights {l : Launch} {D : va_G} {cA : Nat → ClassId} {N0 zE : Nat} {a0 : Nat} {p1 : Int32} {p2 : Int32} {p3 : Int32} {p4 : Int32} {T : zT} {F : zF} {Post : Int32 → Prop} {PX : String → Prop} (h : v_X4_rights a0 p1 p2 p3 p4 T F Post PX) : z_Met l D cA N0 zE yX4_rights cX4_rights 7 (some .int) ({ frames := 7, cells := 1, slots := 6, locals := 111 } : Room) [.ref a0, .int p1, .int p2, .int p3, .int p4] T F (fun v T' F' => ∃ r : Int32, v = some (.int r) ∧ T = T' ∧ F = F' ∧ Post r) (fun E T' F' => T = T' ∧ F = F' ∧ PX E) := by
  unfold v_X4_rights at h
  refine z_body (by decide) (Nat.le_of_ble_eq_true rfl) ?_
  intro p e s m args below meth c C hxt hnm
  have C : z_C p l s m args meth c RX4 cX4_rights 7 (some .int) D cA N0 zE := C
  show z_w p l e ({ frames := 7, cells := 1, slots := 6, locals := 111 } : Room) s m args below meth c D cA N0 7 0 0 (vx_MQ below (z_Qc D cA N0 (fun v T' F' => ∃ r : Int32, v = some (.int r) ∧ T = T' ∧ F = F' ∧ Post r)) (z_XC D cA N0 (fun E T' F' => T = T' ∧ F = F' ∧ PX E)) args s 1 6 (fun q => N0 ≤ q)) 0 [(0, .ref a0), (1, .int p1), (2, .int p2), (3, .int p3), (4, .int p4)] [] T F
  refine zr_aload_n C 0 dX4_rights_0 rfl rfl ?_
  refine zr_iload_n C 1 dX4_rights_1 rfl rfl ?_
  obtain ⟨hT1, h⟩ := h
  refine zr_callVX (As := [.int p1]) (r := (RX4, TX4, 4)) C (k_X4_assetAt h) ok_X4_48 zq_263 zq_1 hT1 (by decide) rfl rfl ⟨by decide, (Nat.le_of_ble_eq_true rfl)⟩ ⟨(Nat.le_of_ble_eq_true rfl), (Nat.le_of_ble_eq_true rfl)⟩ (Nat.le_of_ble_eq_true rfl) dX4_rights_2 (fun E9 T9 F9 hq => by obtain ⟨rfl, rfl, hq⟩ := hq; exact zr_out C (fun x hx => (hxt x hx).elim) ⟨rfl, rfl, hq⟩ (Nat.le_of_ble_eq_true rfl) (Nat.le_of_ble_eq_true rfl)) (fun v3 U4 G5 hq => ?_)
  clear h
  · obtain ⟨r2, rfl, rfl, rfl, h⟩ := hq
    exact h.elim
set_option maxRecDepth 100000 in
set_option maxHeartbeats 4000000 in
theorem k_X4_rights0 {l : Launch} {D : va_G} {cA : Nat → ClassId} {N0 zE : Nat} {a0 : Nat} {p1 : Int32} {p2 : Int32} {p3 : Int32} {p4 : Int32} {T : zT} {F : zF} {Post : Int32 → Prop} (h : v_X4_rights a0 p1 p2 p3 p4 T F Post (fun _ => False)) : z_Mt l D cA N0 zE yX4_rights cX4_rights 7 (some .int) ({ frames := 2, cells := 0, slots := 0, locals := 41 } : Room) [.ref a0, .int p1, .int p2, .int p3, .int p4] T F (fun v T' F' => ∃ r : Int32, v = some (.int r) ∧ T = T' ∧ F = F' ∧ Post r) := by
  unfold v_X4_rights at h
  refine z_bodyT (by decide) (Nat.le_of_ble_eq_true rfl) ?_
  intro p e s m args below meth c C hnm
  have C : z_C p l s m args meth c RX4 cX4_rights 7 (some .int) D cA N0 zE := C
  show z_w p l e ({ frames := 2, cells := 0, slots := 0, locals := 41 } : Room) s m args below meth c D cA N0 7 0 0 (MQ below (z_Qc D cA N0 (fun v T' F' => ∃ r : Int32, v = some (.int r) ∧ T = T' ∧ F = F' ∧ Post r)) args s 0 0 (fun q => N0 ≤ q)) 0 [(0, .ref a0), (1, .int p1), (2, .int p2), (3, .int p3), (4, .int p4)] [] T F
  refine zr_aload_n C 0 dX4_rights_0 rfl rfl ?_
  refine zr_iload_n C 1 dX4_rights_1 rfl rfl ?_
  obtain ⟨hT1, h⟩ := h
  refine zr_callV (As := [.int p1]) (r := (RX4, TX4, 4)) C (k_X4_assetAt0 h) ok_X4_48 zq_263 zq_1 hT1 (by decide) rfl rfl ⟨by decide, (Nat.le_of_ble_eq_true rfl)⟩ ⟨(Nat.le_of_ble_eq_true rfl), (Nat.le_of_ble_eq_true rfl)⟩ (Nat.le_of_ble_eq_true rfl) dX4_rights_2 (fun v3 U4 G5 hq => ?_)
  clear h
  · obtain ⟨r2, rfl, rfl, rfl, h⟩ := hq
    exact h.elim
theorem dX4_versionOn_0 : decode cX4_versionOn 0 = .ok (.aload_n 0, 1) := by decide +kernel
theorem dX4_versionOn_1 : decode cX4_versionOn 1 = .ok (.iload_n 1, 1) := by decide +kernel
theorem dX4_versionOn_2 : decode cX4_versionOn 2 = .ok (.invokevirtual 48, 3) := by decide +kernel
def v_X4_versionOn (a0 : Nat) (p1 : Int32) (p2 : Int32) (T : zT) (F : zF) (Post : Int32 → Prop) (PX : String → Prop) : Prop :=
  (T a0 = some (7, 4) ∧ (v_X4_assetAt a0 p1 T F (fun (r2 : Nat) => False) (fun (E9 : String) => PX E9)))
set_option maxRecDepth 100000 in
set_option maxHeartbeats 4000000 in
theorem k_X4_versionOn {l : Launch} {D : va_G} {cA : Nat → ClassId} {N0 zE : Nat} {a0 : Nat} {p1 : Int32} {p2 : Int32} {T : zT} {F : zF} {Post : Int32 → Prop} {PX : String → Prop} (h : v_X4_versionOn a0 p1 p2 T F Post PX) : z_Met l D cA N0 zE yX4_versionOn cX4_versionOn 4 (some .int) ({ frames := 7, cells := 1, slots := 6, locals := 111 } : Room) [.ref a0, .int p1, .int p2] T F (fun v T' F' => ∃ r : Int32, v = some (.int r) ∧ T = T' ∧ F = F' ∧ Post r) (fun E T' F' => T = T' ∧ F = F' ∧ PX E) := by
  unfold v_X4_versionOn at h
  refine z_body (by decide) (Nat.le_of_ble_eq_true rfl) ?_
  intro p e s m args below meth c C hxt hnm
  have C : z_C p l s m args meth c RX4 cX4_versionOn 4 (some .int) D cA N0 zE := C
  show z_w p l e ({ frames := 7, cells := 1, slots := 6, locals := 111 } : Room) s m args below meth c D cA N0 4 0 0 (vx_MQ below (z_Qc D cA N0 (fun v T' F' => ∃ r : Int32, v = some (.int r) ∧ T = T' ∧ F = F' ∧ Post r)) (z_XC D cA N0 (fun E T' F' => T = T' ∧ F = F' ∧ PX E)) args s 1 6 (fun q => N0 ≤ q)) 0 [(0, .ref a0), (1, .int p1), (2, .int p2)] [] T F
  refine zr_aload_n C 0 dX4_versionOn_0 rfl rfl ?_
  refine zr_iload_n C 1 dX4_versionOn_1 rfl rfl ?_
  obtain ⟨hT1, h⟩ := h
  refine zr_callVX (As := [.int p1]) (r := (RX4, TX4, 4)) C (k_X4_assetAt h) ok_X4_48 zq_263 zq_1 hT1 (by decide) rfl rfl ⟨by decide, (Nat.le_of_ble_eq_true rfl)⟩ ⟨(Nat.le_of_ble_eq_true rfl), (Nat.le_of_ble_eq_true rfl)⟩ (Nat.le_of_ble_eq_true rfl) dX4_versionOn_2 (fun E9 T9 F9 hq => by obtain ⟨rfl, rfl, hq⟩ := hq; exact zr_out C (fun x hx => (hxt x hx).elim) ⟨rfl, rfl, hq⟩ (Nat.le_of_ble_eq_true rfl) (Nat.le_of_ble_eq_true rfl)) (fun v3 U4 G5 hq => ?_)
  clear h
  · obtain ⟨r2, rfl, rfl, rfl, h⟩ := hq
    exact h.elim
set_option maxRecDepth 100000 in
set_option maxHeartbeats 4000000 in
theorem k_X4_versionOn0 {l : Launch} {D : va_G} {cA : Nat → ClassId} {N0 zE : Nat} {a0 : Nat} {p1 : Int32} {p2 : Int32} {T : zT} {F : zF} {Post : Int32 → Prop} (h : v_X4_versionOn a0 p1 p2 T F Post (fun _ => False)) : z_Mt l D cA N0 zE yX4_versionOn cX4_versionOn 4 (some .int) ({ frames := 2, cells := 0, slots := 0, locals := 41 } : Room) [.ref a0, .int p1, .int p2] T F (fun v T' F' => ∃ r : Int32, v = some (.int r) ∧ T = T' ∧ F = F' ∧ Post r) := by
  unfold v_X4_versionOn at h
  refine z_bodyT (by decide) (Nat.le_of_ble_eq_true rfl) ?_
  intro p e s m args below meth c C hnm
  have C : z_C p l s m args meth c RX4 cX4_versionOn 4 (some .int) D cA N0 zE := C
  show z_w p l e ({ frames := 2, cells := 0, slots := 0, locals := 41 } : Room) s m args below meth c D cA N0 4 0 0 (MQ below (z_Qc D cA N0 (fun v T' F' => ∃ r : Int32, v = some (.int r) ∧ T = T' ∧ F = F' ∧ Post r)) args s 0 0 (fun q => N0 ≤ q)) 0 [(0, .ref a0), (1, .int p1), (2, .int p2)] [] T F
  refine zr_aload_n C 0 dX4_versionOn_0 rfl rfl ?_
  refine zr_iload_n C 1 dX4_versionOn_1 rfl rfl ?_
  obtain ⟨hT1, h⟩ := h
  refine zr_callV (As := [.int p1]) (r := (RX4, TX4, 4)) C (k_X4_assetAt0 h) ok_X4_48 zq_263 zq_1 hT1 (by decide) rfl rfl ⟨by decide, (Nat.le_of_ble_eq_true rfl)⟩ ⟨(Nat.le_of_ble_eq_true rfl), (Nat.le_of_ble_eq_true rfl)⟩ (Nat.le_of_ble_eq_true rfl) dX4_versionOn_2 (fun v3 U4 G5 hq => ?_)
  clear h
  · obtain ⟨r2, rfl, rfl, rfl, h⟩ := hq
    exact h.elim
theorem dX4_hasRights_0 : decode cX4_hasRights 0 = .ok (.aload_n 0, 1) := by decide +kernel
theorem dX4_hasRights_1 : decode cX4_hasRights 1 = .ok (.iload_n 1, 1) := by decide +kernel
theorem dX4_hasRights_2 : decode cX4_hasRights 2 = .ok (.invokevirtual 48, 3) := by decide +kernel
def v_X4_hasRights (a0 : Nat) (p1 : Int32) (p2 : Int32) (p3 : Int32) (T : zT) (F : zF) (Post : Int32 → Prop) (PX : String → Prop) : Prop :=
  (T a0 = some (7, 4) ∧ (v_X4_assetAt a0 p1 T F (fun (r2 : Nat) => False) (fun (E9 : String) => PX E9)))
set_option maxRecDepth 100000 in
set_option maxHeartbeats 4000000 in
theorem k_X4_hasRights {l : Launch} {D : va_G} {cA : Nat → ClassId} {N0 zE : Nat} {a0 : Nat} {p1 : Int32} {p2 : Int32} {p3 : Int32} {T : zT} {F : zF} {Post : Int32 → Prop} {PX : String → Prop} (h : v_X4_hasRights a0 p1 p2 p3 T F Post PX) : z_Met l D cA N0 zE yX4_hasRights cX4_hasRights 5 (some .boolean) ({ frames := 7, cells := 1, slots := 6, locals := 111 } : Room) [.ref a0, .int p1, .int p2, .int p3] T F (fun v T' F' => ∃ r : Int32, v = some (.int r) ∧ T = T' ∧ F = F' ∧ Post r) (fun E T' F' => T = T' ∧ F = F' ∧ PX E) := by
  unfold v_X4_hasRights at h
  refine z_body (by decide) (Nat.le_of_ble_eq_true rfl) ?_
  intro p e s m args below meth c C hxt hnm
  have C : z_C p l s m args meth c RX4 cX4_hasRights 5 (some .boolean) D cA N0 zE := C
  show z_w p l e ({ frames := 7, cells := 1, slots := 6, locals := 111 } : Room) s m args below meth c D cA N0 5 0 0 (vx_MQ below (z_Qc D cA N0 (fun v T' F' => ∃ r : Int32, v = some (.int r) ∧ T = T' ∧ F = F' ∧ Post r)) (z_XC D cA N0 (fun E T' F' => T = T' ∧ F = F' ∧ PX E)) args s 1 6 (fun q => N0 ≤ q)) 0 [(0, .ref a0), (1, .int p1), (2, .int p2), (3, .int p3)] [] T F
  refine zr_aload_n C 0 dX4_hasRights_0 rfl rfl ?_
  refine zr_iload_n C 1 dX4_hasRights_1 rfl rfl ?_
  obtain ⟨hT1, h⟩ := h
  refine zr_callVX (As := [.int p1]) (r := (RX4, TX4, 4)) C (k_X4_assetAt h) ok_X4_48 zq_263 zq_1 hT1 (by decide) rfl rfl ⟨by decide, (Nat.le_of_ble_eq_true rfl)⟩ ⟨(Nat.le_of_ble_eq_true rfl), (Nat.le_of_ble_eq_true rfl)⟩ (Nat.le_of_ble_eq_true rfl) dX4_hasRights_2 (fun E9 T9 F9 hq => by obtain ⟨rfl, rfl, hq⟩ := hq; exact zr_out C (fun x hx => (hxt x hx).elim) ⟨rfl, rfl, hq⟩ (Nat.le_of_ble_eq_true rfl) (Nat.le_of_ble_eq_true rfl)) (fun v3 U4 G5 hq => ?_)
  clear h
  · obtain ⟨r2, rfl, rfl, rfl, h⟩ := hq
    exact h.elim
set_option maxRecDepth 100000 in
set_option maxHeartbeats 4000000 in
theorem k_X4_hasRights0 {l : Launch} {D : va_G} {cA : Nat → ClassId} {N0 zE : Nat} {a0 : Nat} {p1 : Int32} {p2 : Int32} {p3 : Int32} {T : zT} {F : zF} {Post : Int32 → Prop} (h : v_X4_hasRights a0 p1 p2 p3 T F Post (fun _ => False)) : z_Mt l D cA N0 zE yX4_hasRights cX4_hasRights 5 (some .boolean) ({ frames := 2, cells := 0, slots := 0, locals := 41 } : Room) [.ref a0, .int p1, .int p2, .int p3] T F (fun v T' F' => ∃ r : Int32, v = some (.int r) ∧ T = T' ∧ F = F' ∧ Post r) := by
  unfold v_X4_hasRights at h
  refine z_bodyT (by decide) (Nat.le_of_ble_eq_true rfl) ?_
  intro p e s m args below meth c C hnm
  have C : z_C p l s m args meth c RX4 cX4_hasRights 5 (some .boolean) D cA N0 zE := C
  show z_w p l e ({ frames := 2, cells := 0, slots := 0, locals := 41 } : Room) s m args below meth c D cA N0 5 0 0 (MQ below (z_Qc D cA N0 (fun v T' F' => ∃ r : Int32, v = some (.int r) ∧ T = T' ∧ F = F' ∧ Post r)) args s 0 0 (fun q => N0 ≤ q)) 0 [(0, .ref a0), (1, .int p1), (2, .int p2), (3, .int p3)] [] T F
  refine zr_aload_n C 0 dX4_hasRights_0 rfl rfl ?_
  refine zr_iload_n C 1 dX4_hasRights_1 rfl rfl ?_
  obtain ⟨hT1, h⟩ := h
  refine zr_callV (As := [.int p1]) (r := (RX4, TX4, 4)) C (k_X4_assetAt0 h) ok_X4_48 zq_263 zq_1 hT1 (by decide) rfl rfl ⟨by decide, (Nat.le_of_ble_eq_true rfl)⟩ ⟨(Nat.le_of_ble_eq_true rfl), (Nat.le_of_ble_eq_true rfl)⟩ (Nat.le_of_ble_eq_true rfl) dX4_hasRights_2 (fun v3 U4 G5 hq => ?_)
  clear h
  · obtain ⟨r2, rfl, rfl, rfl, h⟩ := hq
    exact h.elim
theorem dX4_piece_0 : decode cX4_piece 0 = .ok (.iload_n 1, 1) := by decide +kernel
theorem dX4_piece_1 : decode cX4_piece 1 = .ok (.ifCond .lt 8, 3) := by decide +kernel
theorem dX4_piece_9 : decode cX4_piece 9 = .ok (.new 56, 3) := by decide +kernel
theorem dX4_piece_12 : decode cX4_piece 12 = .ok (.dup, 1) := by decide +kernel
theorem dX4_piece_13 : decode cX4_piece 13 = .ok (.ldc 108, 2) := by decide +kernel
theorem dX4_piece_15 : decode cX4_piece 15 = .ok (.invokespecial 60, 3) := by decide +kernel
theorem dX4_piece_18 : decode cX4_piece 18 = .ok (.athrow, 1) := by decide +kernel
theorem dX4_piece_4 : decode cX4_piece 4 = .ok (.iload_n 1, 1) := by decide +kernel
theorem dX4_piece_5 : decode cX4_piece 5 = .ok (.iconst 3, 1) := by decide +kernel
theorem dX4_piece_6 : decode cX4_piece 6 = .ok (.if_icmp .lt 13, 3) := by decide +kernel
theorem dX4_piece_19 : decode cX4_piece 19 = .ok (.iload_n 2, 1) := by decide +kernel
theorem dX4_piece_20 : decode cX4_piece 20 = .ok (.iconst 1, 1) := by decide +kernel
theorem dX4_piece_21 : decode cX4_piece 21 = .ok (.if_icmp .lt 15, 3) := by decide +kernel
theorem dX4_piece_36 : decode cX4_piece 36 = .ok (.new 56, 3) := by decide +kernel
theorem dX4_piece_39 : decode cX4_piece 39 = .ok (.dup, 1) := by decide +kernel
theorem dX4_piece_40 : decode cX4_piece 40 = .ok (.ldc 110, 2) := by decide +kernel
theorem dX4_piece_42 : decode cX4_piece 42 = .ok (.invokespecial 60, 3) := by decide +kernel
theorem dX4_piece_45 : decode cX4_piece 45 = .ok (.athrow, 1) := by decide +kernel
theorem dX4_piece_24 : decode cX4_piece 24 = .ok (.iload_n 2, 1) := by decide +kernel
theorem dX4_piece_25 : decode cX4_piece 25 = .ok (.aload_n 0, 1) := by decide +kernel
theorem dX4_piece_26 : decode cX4_piece 26 = .ok (.getfield 10, 3) := by decide +kernel
theorem dX4_piece_32 : decode cX4_piece 32 = .ok (.ishr, 1) := by decide +kernel
theorem dX4_piece_33 : decode cX4_piece 33 = .ok (.ifCond .eq 13, 3) := by decide +kernel
theorem dX4_piece_46 : decode cX4_piece 46 = .ok (.aload_n 0, 1) := by decide +kernel
theorem dX4_piece_47 : decode cX4_piece 47 = .ok (.getfield 23, 3) := by decide +kernel
theorem dX4_piece_50 : decode cX4_piece 50 = .ok (.getfield 112, 3) := by decide +kernel
theorem dX4_piece_56 : decode cX4_piece 56 = .ok (.bipush 12, 2) := by decide +kernel
theorem dX4_piece_58 : decode cX4_piece 58 = .ok (.if_icmp .lt 13, 3) := by decide +kernel
theorem dX4_piece_71 : decode cX4_piece 71 = .ok (.new 117, 3) := by decide +kernel
theorem dX4_piece_74 : decode cX4_piece 74 = .ok (.dup, 1) := by decide +kernel
theorem dX4_piece_75 : decode cX4_piece 75 = .ok (.aload_n 0, 1) := by decide +kernel
theorem dX4_piece_76 : decode cX4_piece 76 = .ok (.getfield 23, 3) := by decide +kernel
theorem dX4_piece_79 : decode cX4_piece 79 = .ok (.getfield 112, 3) := by decide +kernel
theorem dX4_piece_85 : decode cX4_piece 85 = .ok (.iload_n 1, 1) := by decide +kernel
theorem dX4_piece_86 : decode cX4_piece 86 = .ok (.iload_n 2, 1) := by decide +kernel
theorem dX4_piece_82 : decode cX4_piece 82 = .ok (.invokevirtual 30, 3) := by decide +kernel
theorem dX4_piece_61 : decode cX4_piece 61 = .ok (.new 34, 3) := by decide +kernel
theorem dX4_piece_64 : decode cX4_piece 64 = .ok (.dup, 1) := by decide +kernel
theorem dX4_piece_65 : decode cX4_piece 65 = .ok (.ldc 115, 2) := by decide +kernel
theorem dX4_piece_67 : decode cX4_piece 67 = .ok (.invokespecial 38, 3) := by decide +kernel
theorem dX4_piece_70 : decode cX4_piece 70 = .ok (.athrow, 1) := by decide +kernel
theorem dX4_piece_53 : decode cX4_piece 53 = .ok (.invokevirtual 30, 3) := by decide +kernel
theorem dX4_piece_29 : decode cX4_piece 29 = .ok (.invokevirtual 30, 3) := by decide +kernel
def v_X4_piece (a0 : Nat) (p1 : Int32) (p2 : Int32) (T : zT) (F : zF) (Post : Int32 → zT → zF → Prop) (PX : String → zT → zF → Prop) : Prop :=
  ((p1 < 0 → PX "java/lang/IllegalArgumentException" T F) ∧ (¬ p1 < 0 → ((p1 < 3 → ((p2 < 1 → PX "java/lang/IllegalArgumentException" T F) ∧ (¬ p2 < 1 → (T a0 = some (7, 4) ∧ ∃ x3 : Nat, F a0 0 = .ref x3 ∧ T x3 = some (2, 3) ∧ (v_Jx4a65c_size_8abf5 x3 T F (fun (r5 : Int32) => (((p2 >>> (r5 &&& 31)) = 0 → (∃ x7 : Nat, F a0 2 = .ref x7 ∧ T x7 = some (6, 3) ∧ ∃ x10 : Nat, F x7 1 = .ref x10 ∧ T x10 = some (2, 3) ∧ (v_Jx4a65c_size_8abf5 x10 T F (fun (r12 : Int32) => ((r12 < 12 → (∀ q13 : Nat, (∀ b, q13 ≤ b → T b = none) → (zn T q13 (5, 5) a0 = some (7, 4) ∧ ∃ x17 : Nat, (zm F q13 (fun j => defaultValue (tyX2 j))) a0 2 = .ref x17 ∧ zn T q13 (5, 5) x17 = some (6, 3) ∧ ∃ x20 : Nat, (zm F q13 (fun j => defaultValue (tyX2 j))) x17 1 = .ref x20 ∧ zn T q13 (5, 5) x20 = some (2, 3) ∧ (v_Jx4a65c_size_8abf5 x20 (zn T q13 (5, 5)) (zm F q13 (fun j => defaultValue (tyX2 j))) (fun (r22 : Int32) => False))))) ∧ (¬ r12 < 12 → PX "java/lang/IllegalStateException" T F)))))) ∧ (¬ (p2 >>> (r5 &&& 31)) = 0 → PX "java/lang/IllegalArgumentException" T F)))))))) ∧ (¬ p1 < 3 → PX "java/lang/IllegalArgumentException" T F))))
set_option maxRecDepth 100000 in
set_option maxHeartbeats 4000000 in
theorem k_X4_piece {l : Launch} {D : va_G} {cA : Nat → ClassId} {N0 zE : Nat} {a0 : Nat} {p1 : Int32} {p2 : Int32} {T : zT} {F : zF} {Post : Int32 → zT → zF → Prop} {PX : String → zT → zF → Prop} (h : v_X4_piece a0 p1 p2 T F Post PX) : z_Met l D cA N0 zE yX4_piece cX4_piece 5 (some .int) ({ frames := 6, cells := 2, slots := 11, locals := 90 } : Room) [.ref a0, .int p1, .int p2] T F (fun v T' F' => ∃ r : Int32, v = some (.int r) ∧ Post r T' F') (fun E T' F' => PX E T' F') := by
  unfold v_X4_piece at h
  refine z_body (by decide) (Nat.le_of_ble_eq_true rfl) ?_
  intro p e s m args below meth c C hxt hnm
  have C : z_C p l s m args meth c RX4 cX4_piece 5 (some .int) D cA N0 zE := C
  show z_w p l e ({ frames := 6, cells := 2, slots := 11, locals := 90 } : Room) s m args below meth c D cA N0 5 0 0 (vx_MQ below (z_Qc D cA N0 (fun v T' F' => ∃ r : Int32, v = some (.int r) ∧ Post r T' F')) (z_XC D cA N0 (fun E T' F' => PX E T' F')) args s 2 11 (fun q => N0 ≤ q)) 0 [(0, .ref a0), (1, .int p1), (2, .int p2)] [] T F
  refine zr_iload_n C 1 dX4_piece_0 rfl rfl ?_
  obtain ⟨h1, h2⟩ := h
  refine zr_if_lt C 9 dX4_piece_1 (by decide) (fun hc => ?_) (fun hc => ?_)
  · have h := h1 hc
    clear h1 h2
    exact zr_throw C th_X4_56_60_108 (fun x hx => (hxt x hx).elim) h dX4_piece_9 dX4_piece_12 dX4_piece_13 dX4_piece_15 dX4_piece_18 (by decide) (Nat.le_of_ble_eq_true rfl) ⟨(Nat.le_of_ble_eq_true rfl), (Nat.le_of_ble_eq_true rfl)⟩ ⟨(Nat.le_of_ble_eq_true rfl), (Nat.le_of_ble_eq_true rfl)⟩
  · have h := h2 hc
    clear h1 h2
    refine zr_iload_n C 1 dX4_piece_4 rfl rfl ?_
    refine zr_iconst C 3 dX4_piece_5 (by decide) ?_
    obtain ⟨h1, h2⟩ := h
    refine zr_icmp_lt C 19 dX4_piece_6 (by decide) (fun hc => ?_) (fun hc => ?_)
    · have h := h1 hc
      clear h1 h2
      refine zr_iload_n C 2 dX4_piece_19 rfl rfl ?_
      refine zr_iconst C 1 dX4_piece_20 (by decide) ?_
      obtain ⟨h1, h2⟩ := h
      refine zr_icmp_lt C 36 dX4_piece_21 (by decide) (fun hc => ?_) (fun hc => ?_)
      · have h := h1 hc
        clear h1 h2
        exact zr_throw C th_X4_56_60_110 (fun x hx => (hxt x hx).elim) h dX4_piece_36 dX4_piece_39 dX4_piece_40 dX4_piece_42 dX4_piece_45 (by decide) (Nat.le_of_ble_eq_true rfl) ⟨(Nat.le_of_ble_eq_true rfl), (Nat.le_of_ble_eq_true rfl)⟩ ⟨(Nat.le_of_ble_eq_true rfl), (Nat.le_of_ble_eq_true rfl)⟩
      · have h := h2 hc
        clear h1 h2
        refine zr_iload_n C 2 dX4_piece_24 rfl rfl ?_
        refine zr_aload_n C 0 dX4_piece_25 rfl rfl ?_
        obtain ⟨hT1, x3, hv2, h⟩ := h
        refine zr_get C fl_X4_10 hT1 hv2 dX4_piece_26 ?_
        obtain ⟨hT4, h⟩ := h
        refine zr_callV (As := []) (r := (RJx4a65c, TJx4a65c, 3)) C (k_Jx4a65c_size_8abf5 h) ok_X4_30 zq_140 zq_141 hT4 (by decide) rfl rfl ⟨by decide, (Nat.le_of_ble_eq_true rfl)⟩ ⟨(Nat.le_of_ble_eq_true rfl), (Nat.le_of_ble_eq_true rfl)⟩ (Nat.le_of_ble_eq_true rfl) dX4_piece_29 (fun v29 U30 G31 hq => ?_)
        clear h
        · obtain ⟨r5, rfl, rfl, rfl, h⟩ := hq
          refine zr_ishr C dX4_piece_32 ?_
          obtain ⟨h1, h2⟩ := h
          refine zr_if_eq C 46 dX4_piece_33 (by decide) (fun hc => ?_) (fun hc => ?_)
          · have h := h1 hc
            clear h1 h2
            refine zr_aload_n C 0 dX4_piece_46 rfl rfl ?_
            obtain ⟨x7, hv6, h⟩ := h
            refine zr_get C fl_X4_23 hT1 hv6 dX4_piece_47 ?_
            obtain ⟨hT8, x10, hv9, h⟩ := h
            refine zr_get C fl_X4_112 hT8 hv9 dX4_piece_50 ?_
            obtain ⟨hT11, h⟩ := h
            refine zr_callV (As := []) (r := (RJx4a65c, TJx4a65c, 3)) C (k_Jx4a65c_size_8abf5 h) ok_X4_30 zq_140 zq_141 hT11 (by decide) rfl rfl ⟨by decide, (Nat.le_of_ble_eq_true rfl)⟩ ⟨(Nat.le_of_ble_eq_true rfl), (Nat.le_of_ble_eq_true rfl)⟩ (Nat.le_of_ble_eq_true rfl) dX4_piece_53 (fun v26 U27 G28 hq => ?_)
            clear h
            · obtain ⟨r12, rfl, rfl, rfl, h⟩ := hq
              refine zr_bipush C 12 dX4_piece_56 (by decide) ?_
              obtain ⟨h1, h2⟩ := h
              refine zr_icmp_lt C 71 dX4_piece_58 (by decide) (fun hc => ?_) (fun hc => ?_)
              · have h := h1 hc
                clear h1 h2
                refine zr_new C nw_X4_117 (Nat.le_of_ble_eq_true rfl) (Nat.le_of_ble_eq_true rfl) dX4_piece_71 (fun q13 hq14 => ?_)
                have h := h q13 hq14
                refine zr_dup C dX4_piece_74 rfl ?_
                refine zr_aload_n C 0 dX4_piece_75 rfl rfl ?_
                obtain ⟨hT15, x17, hv16, h⟩ := h
                refine zr_get C fl_X4_23 hT15 hv16 dX4_piece_76 ?_
                obtain ⟨hT18, x20, hv19, h⟩ := h
                refine zr_get C fl_X4_112 hT18 hv19 dX4_piece_79 ?_
                obtain ⟨hT21, h⟩ := h
                refine zr_callV (As := []) (r := (RJx4a65c, TJx4a65c, 3)) C (k_Jx4a65c_size_8abf5 h) ok_X4_30 zq_140 zq_141 hT21 (by decide) rfl rfl ⟨by decide, (Nat.le_of_ble_eq_true rfl)⟩ ⟨(Nat.le_of_ble_eq_true rfl), (Nat.le_of_ble_eq_true rfl)⟩ (Nat.le_of_ble_eq_true rfl) dX4_piece_82 (fun v23 U24 G25 hq => ?_)
                clear h
                · obtain ⟨r22, rfl, rfl, rfl, h⟩ := hq
                  refine zr_iload_n C 1 dX4_piece_85 rfl rfl ?_
                  refine zr_iload_n C 2 dX4_piece_86 rfl rfl ?_
                  exact h.elim
              · have h := h2 hc
                clear h1 h2
                exact zr_throw C th_X4_34_38_115 (fun x hx => (hxt x hx).elim) h dX4_piece_61 dX4_piece_64 dX4_piece_65 dX4_piece_67 dX4_piece_70 (by decide) (Nat.le_of_ble_eq_true rfl) ⟨(Nat.le_of_ble_eq_true rfl), (Nat.le_of_ble_eq_true rfl)⟩ ⟨(Nat.le_of_ble_eq_true rfl), (Nat.le_of_ble_eq_true rfl)⟩
          · have h := h2 hc
            clear h1 h2
            exact zr_throw C th_X4_56_60_110 (fun x hx => (hxt x hx).elim) h dX4_piece_36 dX4_piece_39 dX4_piece_40 dX4_piece_42 dX4_piece_45 (by decide) (Nat.le_of_ble_eq_true rfl) ⟨(Nat.le_of_ble_eq_true rfl), (Nat.le_of_ble_eq_true rfl)⟩ ⟨(Nat.le_of_ble_eq_true rfl), (Nat.le_of_ble_eq_true rfl)⟩
    · have h := h2 hc
      clear h1 h2
      exact zr_throw C th_X4_56_60_108 (fun x hx => (hxt x hx).elim) h dX4_piece_9 dX4_piece_12 dX4_piece_13 dX4_piece_15 dX4_piece_18 (by decide) (Nat.le_of_ble_eq_true rfl) ⟨(Nat.le_of_ble_eq_true rfl), (Nat.le_of_ble_eq_true rfl)⟩ ⟨(Nat.le_of_ble_eq_true rfl), (Nat.le_of_ble_eq_true rfl)⟩
set_option maxRecDepth 100000 in
set_option maxHeartbeats 4000000 in
theorem k_X4_piece0 {l : Launch} {D : va_G} {cA : Nat → ClassId} {N0 zE : Nat} {a0 : Nat} {p1 : Int32} {p2 : Int32} {T : zT} {F : zF} {Post : Int32 → zT → zF → Prop} (h : v_X4_piece a0 p1 p2 T F Post (fun _ _ _ => False)) : z_Mt l D cA N0 zE yX4_piece cX4_piece 5 (some .int) ({ frames := 1, cells := 1, slots := 5, locals := 20 } : Room) [.ref a0, .int p1, .int p2] T F (fun v T' F' => ∃ r : Int32, v = some (.int r) ∧ Post r T' F') := by
  unfold v_X4_piece at h
  refine z_bodyT (by decide) (Nat.le_of_ble_eq_true rfl) ?_
  intro p e s m args below meth c C hnm
  have C : z_C p l s m args meth c RX4 cX4_piece 5 (some .int) D cA N0 zE := C
  show z_w p l e ({ frames := 1, cells := 1, slots := 5, locals := 20 } : Room) s m args below meth c D cA N0 5 0 0 (MQ below (z_Qc D cA N0 (fun v T' F' => ∃ r : Int32, v = some (.int r) ∧ Post r T' F')) args s 1 5 (fun q => N0 ≤ q)) 0 [(0, .ref a0), (1, .int p1), (2, .int p2)] [] T F
  refine zr_iload_n C 1 dX4_piece_0 rfl rfl ?_
  obtain ⟨h1, h2⟩ := h
  refine zr_if_lt C 9 dX4_piece_1 (by decide) (fun hc => ?_) (fun hc => ?_)
  · have h := h1 hc
    clear h1 h2
    exact h.elim
  · have h := h2 hc
    clear h1 h2
    refine zr_iload_n C 1 dX4_piece_4 rfl rfl ?_
    refine zr_iconst C 3 dX4_piece_5 (by decide) ?_
    obtain ⟨h1, h2⟩ := h
    refine zr_icmp_lt C 19 dX4_piece_6 (by decide) (fun hc => ?_) (fun hc => ?_)
    · have h := h1 hc
      clear h1 h2
      refine zr_iload_n C 2 dX4_piece_19 rfl rfl ?_
      refine zr_iconst C 1 dX4_piece_20 (by decide) ?_
      obtain ⟨h1, h2⟩ := h
      refine zr_icmp_lt C 36 dX4_piece_21 (by decide) (fun hc => ?_) (fun hc => ?_)
      · have h := h1 hc
        clear h1 h2
        exact h.elim
      · have h := h2 hc
        clear h1 h2
        refine zr_iload_n C 2 dX4_piece_24 rfl rfl ?_
        refine zr_aload_n C 0 dX4_piece_25 rfl rfl ?_
        obtain ⟨hT1, x3, hv2, h⟩ := h
        refine zr_get C fl_X4_10 hT1 hv2 dX4_piece_26 ?_
        obtain ⟨hT4, h⟩ := h
        refine zr_callV (As := []) (r := (RJx4a65c, TJx4a65c, 3)) C (k_Jx4a65c_size_8abf5 h) ok_X4_30 zq_140 zq_141 hT4 (by decide) rfl rfl ⟨by decide, (Nat.le_of_ble_eq_true rfl)⟩ ⟨(Nat.le_of_ble_eq_true rfl), (Nat.le_of_ble_eq_true rfl)⟩ (Nat.le_of_ble_eq_true rfl) dX4_piece_29 (fun v29 U30 G31 hq => ?_)
        clear h
        · obtain ⟨r5, rfl, rfl, rfl, h⟩ := hq
          refine zr_ishr C dX4_piece_32 ?_
          obtain ⟨h1, h2⟩ := h
          refine zr_if_eq C 46 dX4_piece_33 (by decide) (fun hc => ?_) (fun hc => ?_)
          · have h := h1 hc
            clear h1 h2
            refine zr_aload_n C 0 dX4_piece_46 rfl rfl ?_
            obtain ⟨x7, hv6, h⟩ := h
            refine zr_get C fl_X4_23 hT1 hv6 dX4_piece_47 ?_
            obtain ⟨hT8, x10, hv9, h⟩ := h
            refine zr_get C fl_X4_112 hT8 hv9 dX4_piece_50 ?_
            obtain ⟨hT11, h⟩ := h
            refine zr_callV (As := []) (r := (RJx4a65c, TJx4a65c, 3)) C (k_Jx4a65c_size_8abf5 h) ok_X4_30 zq_140 zq_141 hT11 (by decide) rfl rfl ⟨by decide, (Nat.le_of_ble_eq_true rfl)⟩ ⟨(Nat.le_of_ble_eq_true rfl), (Nat.le_of_ble_eq_true rfl)⟩ (Nat.le_of_ble_eq_true rfl) dX4_piece_53 (fun v26 U27 G28 hq => ?_)
            clear h
            · obtain ⟨r12, rfl, rfl, rfl, h⟩ := hq
              refine zr_bipush C 12 dX4_piece_56 (by decide) ?_
              obtain ⟨h1, h2⟩ := h
              refine zr_icmp_lt C 71 dX4_piece_58 (by decide) (fun hc => ?_) (fun hc => ?_)
              · have h := h1 hc
                clear h1 h2
                refine zr_new C nw_X4_117 (Nat.le_of_ble_eq_true rfl) (Nat.le_of_ble_eq_true rfl) dX4_piece_71 (fun q13 hq14 => ?_)
                have h := h q13 hq14
                refine zr_dup C dX4_piece_74 rfl ?_
                refine zr_aload_n C 0 dX4_piece_75 rfl rfl ?_
                obtain ⟨hT15, x17, hv16, h⟩ := h
                refine zr_get C fl_X4_23 hT15 hv16 dX4_piece_76 ?_
                obtain ⟨hT18, x20, hv19, h⟩ := h
                refine zr_get C fl_X4_112 hT18 hv19 dX4_piece_79 ?_
                obtain ⟨hT21, h⟩ := h
                refine zr_callV (As := []) (r := (RJx4a65c, TJx4a65c, 3)) C (k_Jx4a65c_size_8abf5 h) ok_X4_30 zq_140 zq_141 hT21 (by decide) rfl rfl ⟨by decide, (Nat.le_of_ble_eq_true rfl)⟩ ⟨(Nat.le_of_ble_eq_true rfl), (Nat.le_of_ble_eq_true rfl)⟩ (Nat.le_of_ble_eq_true rfl) dX4_piece_82 (fun v23 U24 G25 hq => ?_)
                clear h
                · obtain ⟨r22, rfl, rfl, rfl, h⟩ := hq
                  refine zr_iload_n C 1 dX4_piece_85 rfl rfl ?_
                  refine zr_iload_n C 2 dX4_piece_86 rfl rfl ?_
                  exact h.elim
              · have h := h2 hc
                clear h1 h2
                exact h.elim
          · have h := h2 hc
            clear h1 h2
            exact h.elim
    · have h := h2 hc
      clear h1 h2
      exact h.elim
theorem dX4_pieceAt_0 : decode cX4_pieceAt 0 = .ok (.iload_n 1, 1) := by decide +kernel
theorem dX4_pieceAt_1 : decode cX4_pieceAt 1 = .ok (.ifCond .lt 17, 3) := by decide +kernel
theorem dX4_pieceAt_18 : decode cX4_pieceAt 18 = .ok (.new 307, 3) := by decide +kernel
theorem dX4_pieceAt_21 : decode cX4_pieceAt 21 = .ok (.dup, 1) := by decide +kernel
theorem dX4_pieceAt_22 : decode cX4_pieceAt 22 = .ok (.ldc_w 359, 3) := by decide +kernel
theorem dX4_pieceAt_25 : decode cX4_pieceAt 25 = .ok (.invokespecial 309, 3) := by decide +kernel
theorem dX4_pieceAt_28 : decode cX4_pieceAt 28 = .ok (.athrow, 1) := by decide +kernel
theorem dX4_pieceAt_4 : decode cX4_pieceAt 4 = .ok (.iload_n 1, 1) := by decide +kernel
theorem dX4_pieceAt_5 : decode cX4_pieceAt 5 = .ok (.aload_n 0, 1) := by decide +kernel
theorem dX4_pieceAt_6 : decode cX4_pieceAt 6 = .ok (.getfield 23, 3) := by decide +kernel
theorem dX4_pieceAt_9 : decode cX4_pieceAt 9 = .ok (.getfield 112, 3) := by decide +kernel
theorem dX4_pieceAt_15 : decode cX4_pieceAt 15 = .ok (.if_icmp .lt 14, 3) := by decide +kernel
theorem dX4_pieceAt_29 : decode cX4_pieceAt 29 = .ok (.aload_n 0, 1) := by decide +kernel
theorem dX4_pieceAt_30 : decode cX4_pieceAt 30 = .ok (.getfield 23, 3) := by decide +kernel
theorem dX4_pieceAt_33 : decode cX4_pieceAt 33 = .ok (.getfield 112, 3) := by decide +kernel
theorem dX4_pieceAt_36 : decode cX4_pieceAt 36 = .ok (.iload_n 1, 1) := by decide +kernel
theorem dX4_pieceAt_12 : decode cX4_pieceAt 12 = .ok (.invokevirtual 30, 3) := by decide +kernel
def v_X4_pieceAt (a0 : Nat) (p1 : Int32) (T : zT) (F : zF) (Post : Nat → Prop) (PX : String → Prop) : Prop :=
  ((p1 < 0 → PX "java/lang/IndexOutOfBoundsException") ∧ (¬ p1 < 0 → (T a0 = some (7, 4) ∧ ∃ x3 : Nat, F a0 2 = .ref x3 ∧ T x3 = some (6, 3) ∧ ∃ x6 : Nat, F x3 1 = .ref x6 ∧ T x6 = some (2, 3) ∧ (v_Jx4a65c_size_8abf5 x6 T F (fun (r8 : Int32) => ((p1 < r8 → False) ∧ (¬ p1 < r8 → PX "java/lang/IndexOutOfBoundsException")))))))
set_option maxRecDepth 100000 in
set_option maxHeartbeats 4000000 in
theorem k_X4_pieceAt {l : Launch} {D : va_G} {cA : Nat → ClassId} {N0 zE : Nat} {a0 : Nat} {p1 : Int32} {T : zT} {F : zF} {Post : Nat → Prop} {PX : String → Prop} (h : v_X4_pieceAt a0 p1 T F Post PX) : z_Met l D cA N0 zE yX4_pieceAt cX4_pieceAt 2 (some (.object "BrandRoom$Piece")) ({ frames := 6, cells := 1, slots := 6, locals := 90 } : Room) [.ref a0, .int p1] T F (fun v T' F' => ∃ r : Nat, v = some (.ref r) ∧ T = T' ∧ F = F' ∧ Post r) (fun E T' F' => T = T' ∧ F = F' ∧ PX E) := by
  unfold v_X4_pieceAt at h
  refine z_body (by decide) (Nat.le_of_ble_eq_true rfl) ?_
  intro p e s m args below meth c C hxt hnm
  have C : z_C p l s m args meth c RX4 cX4_pieceAt 2 (some (.object "BrandRoom$Piece")) D cA N0 zE := C
  show z_w p l e ({ frames := 6, cells := 1, slots := 6, locals := 90 } : Room) s m args below meth c D cA N0 2 0 0 (vx_MQ below (z_Qc D cA N0 (fun v T' F' => ∃ r : Nat, v = some (.ref r) ∧ T = T' ∧ F = F' ∧ Post r)) (z_XC D cA N0 (fun E T' F' => T = T' ∧ F = F' ∧ PX E)) args s 1 6 (fun q => N0 ≤ q)) 0 [(0, .ref a0), (1, .int p1)] [] T F
  refine zr_iload_n C 1 dX4_pieceAt_0 rfl rfl ?_
  obtain ⟨h1, h2⟩ := h
  refine zr_if_lt C 18 dX4_pieceAt_1 (by decide) (fun hc => ?_) (fun hc => ?_)
  · have h := h1 hc
    clear h1 h2
    exact zr_throwW C th_X4_307_309_359 (fun x hx => (hxt x hx).elim) ⟨rfl, rfl, h⟩ dX4_pieceAt_18 dX4_pieceAt_21 dX4_pieceAt_22 dX4_pieceAt_25 dX4_pieceAt_28 (by decide) (Nat.le_of_ble_eq_true rfl) ⟨(Nat.le_of_ble_eq_true rfl), (Nat.le_of_ble_eq_true rfl)⟩ ⟨(Nat.le_of_ble_eq_true rfl), (Nat.le_of_ble_eq_true rfl)⟩
  · have h := h2 hc
    clear h1 h2
    refine zr_iload_n C 1 dX4_pieceAt_4 rfl rfl ?_
    refine zr_aload_n C 0 dX4_pieceAt_5 rfl rfl ?_
    obtain ⟨hT1, x3, hv2, h⟩ := h
    refine zr_get C fl_X4_23 hT1 hv2 dX4_pieceAt_6 ?_
    obtain ⟨hT4, x6, hv5, h⟩ := h
    refine zr_get C fl_X4_112 hT4 hv5 dX4_pieceAt_9 ?_
    obtain ⟨hT7, h⟩ := h
    refine zr_callV (As := []) (r := (RJx4a65c, TJx4a65c, 3)) C (k_Jx4a65c_size_8abf5 h) ok_X4_30 zq_140 zq_141 hT7 (by decide) rfl rfl ⟨by decide, (Nat.le_of_ble_eq_true rfl)⟩ ⟨(Nat.le_of_ble_eq_true rfl), (Nat.le_of_ble_eq_true rfl)⟩ (Nat.le_of_ble_eq_true rfl) dX4_pieceAt_12 (fun v9 U10 G11 hq => ?_)
    clear h
    · obtain ⟨r8, rfl, rfl, rfl, h⟩ := hq
      obtain ⟨h1, h2⟩ := h
      refine zr_icmp_lt C 29 dX4_pieceAt_15 (by decide) (fun hc => ?_) (fun hc => ?_)
      · have h := h1 hc
        clear h1 h2
        refine zr_aload_n C 0 dX4_pieceAt_29 rfl rfl ?_
        refine zr_get C fl_X4_23 hT1 hv2 dX4_pieceAt_30 ?_
        refine zr_get C fl_X4_112 hT4 hv5 dX4_pieceAt_33 ?_
        refine zr_iload_n C 1 dX4_pieceAt_36 rfl rfl ?_
        exact h.elim
      · have h := h2 hc
        clear h1 h2
        exact zr_throwW C th_X4_307_309_359 (fun x hx => (hxt x hx).elim) ⟨rfl, rfl, h⟩ dX4_pieceAt_18 dX4_pieceAt_21 dX4_pieceAt_22 dX4_pieceAt_25 dX4_pieceAt_28 (by decide) (Nat.le_of_ble_eq_true rfl) ⟨(Nat.le_of_ble_eq_true rfl), (Nat.le_of_ble_eq_true rfl)⟩ ⟨(Nat.le_of_ble_eq_true rfl), (Nat.le_of_ble_eq_true rfl)⟩
set_option maxRecDepth 100000 in
set_option maxHeartbeats 4000000 in
theorem k_X4_pieceAt0 {l : Launch} {D : va_G} {cA : Nat → ClassId} {N0 zE : Nat} {a0 : Nat} {p1 : Int32} {T : zT} {F : zF} {Post : Nat → Prop} (h : v_X4_pieceAt a0 p1 T F Post (fun _ => False)) : z_Mt l D cA N0 zE yX4_pieceAt cX4_pieceAt 2 (some (.object "BrandRoom$Piece")) ({ frames := 1, cells := 0, slots := 0, locals := 20 } : Room) [.ref a0, .int p1] T F (fun v T' F' => ∃ r : Nat, v = some (.ref r) ∧ T = T' ∧ F = F' ∧ Post r) := by
  unfold v_X4_pieceAt at h
  refine z_bodyT (by decide) (Nat.le_of_ble_eq_true rfl) ?_
  intro p e s m args below meth c C hnm
  have C : z_C p l s m args meth c RX4 cX4_pieceAt 2 (some (.object "BrandRoom$Piece")) D cA N0 zE := C
  show z_w p l e ({ frames := 1, cells := 0, slots := 0, locals := 20 } : Room) s m args below meth c D cA N0 2 0 0 (MQ below (z_Qc D cA N0 (fun v T' F' => ∃ r : Nat, v = some (.ref r) ∧ T = T' ∧ F = F' ∧ Post r)) args s 0 0 (fun q => N0 ≤ q)) 0 [(0, .ref a0), (1, .int p1)] [] T F
  refine zr_iload_n C 1 dX4_pieceAt_0 rfl rfl ?_
  obtain ⟨h1, h2⟩ := h
  refine zr_if_lt C 18 dX4_pieceAt_1 (by decide) (fun hc => ?_) (fun hc => ?_)
  · have h := h1 hc
    clear h1 h2
    exact h.elim
  · have h := h2 hc
    clear h1 h2
    refine zr_iload_n C 1 dX4_pieceAt_4 rfl rfl ?_
    refine zr_aload_n C 0 dX4_pieceAt_5 rfl rfl ?_
    obtain ⟨hT1, x3, hv2, h⟩ := h
    refine zr_get C fl_X4_23 hT1 hv2 dX4_pieceAt_6 ?_
    obtain ⟨hT4, x6, hv5, h⟩ := h
    refine zr_get C fl_X4_112 hT4 hv5 dX4_pieceAt_9 ?_
    obtain ⟨hT7, h⟩ := h
    refine zr_callV (As := []) (r := (RJx4a65c, TJx4a65c, 3)) C (k_Jx4a65c_size_8abf5 h) ok_X4_30 zq_140 zq_141 hT7 (by decide) rfl rfl ⟨by decide, (Nat.le_of_ble_eq_true rfl)⟩ ⟨(Nat.le_of_ble_eq_true rfl), (Nat.le_of_ble_eq_true rfl)⟩ (Nat.le_of_ble_eq_true rfl) dX4_pieceAt_12 (fun v9 U10 G11 hq => ?_)
    clear h
    · obtain ⟨r8, rfl, rfl, rfl, h⟩ := hq
      obtain ⟨h1, h2⟩ := h
      refine zr_icmp_lt C 29 dX4_pieceAt_15 (by decide) (fun hc => ?_) (fun hc => ?_)
      · have h := h1 hc
        clear h1 h2
        refine zr_aload_n C 0 dX4_pieceAt_29 rfl rfl ?_
        refine zr_get C fl_X4_23 hT1 hv2 dX4_pieceAt_30 ?_
        refine zr_get C fl_X4_112 hT4 hv5 dX4_pieceAt_33 ?_
        refine zr_iload_n C 1 dX4_pieceAt_36 rfl rfl ?_
        exact h.elim
      · have h := h2 hc
        clear h1 h2
        exact h.elim
theorem dX4_approve_0 : decode cX4_approve 0 = .ok (.aload_n 0, 1) := by decide +kernel
theorem dX4_approve_1 : decode cX4_approve 1 = .ok (.iload_n 1, 1) := by decide +kernel
theorem dX4_approve_2 : decode cX4_approve 2 = .ok (.invokevirtual 131, 3) := by decide +kernel
def v_X4_approve (a0 : Nat) (p1 : Int32) (p2 : Int32) (T : zT) (F : zF) (Post : Int32 → Prop) (PX : String → Prop) : Prop :=
  (T a0 = some (7, 4) ∧ (v_X4_pieceAt a0 p1 T F (fun (r2 : Nat) => False) (fun (E9 : String) => PX E9)))
set_option maxRecDepth 100000 in
set_option maxHeartbeats 4000000 in
theorem k_X4_approve {l : Launch} {D : va_G} {cA : Nat → ClassId} {N0 zE : Nat} {a0 : Nat} {p1 : Int32} {p2 : Int32} {T : zT} {F : zF} {Post : Int32 → Prop} {PX : String → Prop} (h : v_X4_approve a0 p1 p2 T F Post PX) : z_Met l D cA N0 zE yX4_approve cX4_approve 5 (some .boolean) ({ frames := 7, cells := 1, slots := 6, locals := 111 } : Room) [.ref a0, .int p1, .int p2] T F (fun v T' F' => ∃ r : Int32, v = some (.int r) ∧ T = T' ∧ F = F' ∧ Post r) (fun E T' F' => T = T' ∧ F = F' ∧ PX E) := by
  unfold v_X4_approve at h
  refine z_body (by decide) (Nat.le_of_ble_eq_true rfl) ?_
  intro p e s m args below meth c C hxt hnm
  have C : z_C p l s m args meth c RX4 cX4_approve 5 (some .boolean) D cA N0 zE := C
  show z_w p l e ({ frames := 7, cells := 1, slots := 6, locals := 111 } : Room) s m args below meth c D cA N0 5 0 0 (vx_MQ below (z_Qc D cA N0 (fun v T' F' => ∃ r : Int32, v = some (.int r) ∧ T = T' ∧ F = F' ∧ Post r)) (z_XC D cA N0 (fun E T' F' => T = T' ∧ F = F' ∧ PX E)) args s 1 6 (fun q => N0 ≤ q)) 0 [(0, .ref a0), (1, .int p1), (2, .int p2)] [] T F
  refine zr_aload_n C 0 dX4_approve_0 rfl rfl ?_
  refine zr_iload_n C 1 dX4_approve_1 rfl rfl ?_
  obtain ⟨hT1, h⟩ := h
  refine zr_callVX (As := [.int p1]) (r := (RX4, TX4, 4)) C (k_X4_pieceAt h) ok_X4_131 zq_301 zq_3 hT1 (by decide) rfl rfl ⟨by decide, (Nat.le_of_ble_eq_true rfl)⟩ ⟨(Nat.le_of_ble_eq_true rfl), (Nat.le_of_ble_eq_true rfl)⟩ (Nat.le_of_ble_eq_true rfl) dX4_approve_2 (fun E9 T9 F9 hq => by obtain ⟨rfl, rfl, hq⟩ := hq; exact zr_out C (fun x hx => (hxt x hx).elim) ⟨rfl, rfl, hq⟩ (Nat.le_of_ble_eq_true rfl) (Nat.le_of_ble_eq_true rfl)) (fun v3 U4 G5 hq => ?_)
  clear h
  · obtain ⟨r2, rfl, rfl, rfl, h⟩ := hq
    exact h.elim
set_option maxRecDepth 100000 in
set_option maxHeartbeats 4000000 in
theorem k_X4_approve0 {l : Launch} {D : va_G} {cA : Nat → ClassId} {N0 zE : Nat} {a0 : Nat} {p1 : Int32} {p2 : Int32} {T : zT} {F : zF} {Post : Int32 → Prop} (h : v_X4_approve a0 p1 p2 T F Post (fun _ => False)) : z_Mt l D cA N0 zE yX4_approve cX4_approve 5 (some .boolean) ({ frames := 2, cells := 0, slots := 0, locals := 41 } : Room) [.ref a0, .int p1, .int p2] T F (fun v T' F' => ∃ r : Int32, v = some (.int r) ∧ T = T' ∧ F = F' ∧ Post r) := by
  unfold v_X4_approve at h
  refine z_bodyT (by decide) (Nat.le_of_ble_eq_true rfl) ?_
  intro p e s m args below meth c C hnm
  have C : z_C p l s m args meth c RX4 cX4_approve 5 (some .boolean) D cA N0 zE := C
  show z_w p l e ({ frames := 2, cells := 0, slots := 0, locals := 41 } : Room) s m args below meth c D cA N0 5 0 0 (MQ below (z_Qc D cA N0 (fun v T' F' => ∃ r : Int32, v = some (.int r) ∧ T = T' ∧ F = F' ∧ Post r)) args s 0 0 (fun q => N0 ≤ q)) 0 [(0, .ref a0), (1, .int p1), (2, .int p2)] [] T F
  refine zr_aload_n C 0 dX4_approve_0 rfl rfl ?_
  refine zr_iload_n C 1 dX4_approve_1 rfl rfl ?_
  obtain ⟨hT1, h⟩ := h
  refine zr_callV (As := [.int p1]) (r := (RX4, TX4, 4)) C (k_X4_pieceAt0 h) ok_X4_131 zq_301 zq_3 hT1 (by decide) rfl rfl ⟨by decide, (Nat.le_of_ble_eq_true rfl)⟩ ⟨(Nat.le_of_ble_eq_true rfl), (Nat.le_of_ble_eq_true rfl)⟩ (Nat.le_of_ble_eq_true rfl) dX4_approve_2 (fun v3 U4 G5 hq => ?_)
  clear h
  · obtain ⟨r2, rfl, rfl, rfl, h⟩ := hq
    exact h.elim
theorem dX4_hold_0 : decode cX4_hold 0 = .ok (.aload_n 0, 1) := by decide +kernel
theorem dX4_hold_1 : decode cX4_hold 1 = .ok (.iload_n 1, 1) := by decide +kernel
theorem dX4_hold_2 : decode cX4_hold 2 = .ok (.invokevirtual 131, 3) := by decide +kernel
def v_X4_hold (a0 : Nat) (p1 : Int32) (p2 : Int32) (T : zT) (F : zF) (Post : Int32 → Prop) (PX : String → Prop) : Prop :=
  (T a0 = some (7, 4) ∧ (v_X4_pieceAt a0 p1 T F (fun (r2 : Nat) => False) (fun (E9 : String) => PX E9)))
set_option maxRecDepth 100000 in
set_option maxHeartbeats 4000000 in
theorem k_X4_hold {l : Launch} {D : va_G} {cA : Nat → ClassId} {N0 zE : Nat} {a0 : Nat} {p1 : Int32} {p2 : Int32} {T : zT} {F : zF} {Post : Int32 → Prop} {PX : String → Prop} (h : v_X4_hold a0 p1 p2 T F Post PX) : z_Met l D cA N0 zE yX4_hold cX4_hold 5 (some .boolean) ({ frames := 7, cells := 1, slots := 6, locals := 111 } : Room) [.ref a0, .int p1, .int p2] T F (fun v T' F' => ∃ r : Int32, v = some (.int r) ∧ T = T' ∧ F = F' ∧ Post r) (fun E T' F' => T = T' ∧ F = F' ∧ PX E) := by
  unfold v_X4_hold at h
  refine z_body (by decide) (Nat.le_of_ble_eq_true rfl) ?_
  intro p e s m args below meth c C hxt hnm
  have C : z_C p l s m args meth c RX4 cX4_hold 5 (some .boolean) D cA N0 zE := C
  show z_w p l e ({ frames := 7, cells := 1, slots := 6, locals := 111 } : Room) s m args below meth c D cA N0 5 0 0 (vx_MQ below (z_Qc D cA N0 (fun v T' F' => ∃ r : Int32, v = some (.int r) ∧ T = T' ∧ F = F' ∧ Post r)) (z_XC D cA N0 (fun E T' F' => T = T' ∧ F = F' ∧ PX E)) args s 1 6 (fun q => N0 ≤ q)) 0 [(0, .ref a0), (1, .int p1), (2, .int p2)] [] T F
  refine zr_aload_n C 0 dX4_hold_0 rfl rfl ?_
  refine zr_iload_n C 1 dX4_hold_1 rfl rfl ?_
  obtain ⟨hT1, h⟩ := h
  refine zr_callVX (As := [.int p1]) (r := (RX4, TX4, 4)) C (k_X4_pieceAt h) ok_X4_131 zq_301 zq_3 hT1 (by decide) rfl rfl ⟨by decide, (Nat.le_of_ble_eq_true rfl)⟩ ⟨(Nat.le_of_ble_eq_true rfl), (Nat.le_of_ble_eq_true rfl)⟩ (Nat.le_of_ble_eq_true rfl) dX4_hold_2 (fun E9 T9 F9 hq => by obtain ⟨rfl, rfl, hq⟩ := hq; exact zr_out C (fun x hx => (hxt x hx).elim) ⟨rfl, rfl, hq⟩ (Nat.le_of_ble_eq_true rfl) (Nat.le_of_ble_eq_true rfl)) (fun v3 U4 G5 hq => ?_)
  clear h
  · obtain ⟨r2, rfl, rfl, rfl, h⟩ := hq
    exact h.elim
set_option maxRecDepth 100000 in
set_option maxHeartbeats 4000000 in
theorem k_X4_hold0 {l : Launch} {D : va_G} {cA : Nat → ClassId} {N0 zE : Nat} {a0 : Nat} {p1 : Int32} {p2 : Int32} {T : zT} {F : zF} {Post : Int32 → Prop} (h : v_X4_hold a0 p1 p2 T F Post (fun _ => False)) : z_Mt l D cA N0 zE yX4_hold cX4_hold 5 (some .boolean) ({ frames := 2, cells := 0, slots := 0, locals := 41 } : Room) [.ref a0, .int p1, .int p2] T F (fun v T' F' => ∃ r : Int32, v = some (.int r) ∧ T = T' ∧ F = F' ∧ Post r) := by
  unfold v_X4_hold at h
  refine z_bodyT (by decide) (Nat.le_of_ble_eq_true rfl) ?_
  intro p e s m args below meth c C hnm
  have C : z_C p l s m args meth c RX4 cX4_hold 5 (some .boolean) D cA N0 zE := C
  show z_w p l e ({ frames := 2, cells := 0, slots := 0, locals := 41 } : Room) s m args below meth c D cA N0 5 0 0 (MQ below (z_Qc D cA N0 (fun v T' F' => ∃ r : Int32, v = some (.int r) ∧ T = T' ∧ F = F' ∧ Post r)) args s 0 0 (fun q => N0 ≤ q)) 0 [(0, .ref a0), (1, .int p1), (2, .int p2)] [] T F
  refine zr_aload_n C 0 dX4_hold_0 rfl rfl ?_
  refine zr_iload_n C 1 dX4_hold_1 rfl rfl ?_
  obtain ⟨hT1, h⟩ := h
  refine zr_callV (As := [.int p1]) (r := (RX4, TX4, 4)) C (k_X4_pieceAt0 h) ok_X4_131 zq_301 zq_3 hT1 (by decide) rfl rfl ⟨by decide, (Nat.le_of_ble_eq_true rfl)⟩ ⟨(Nat.le_of_ble_eq_true rfl), (Nat.le_of_ble_eq_true rfl)⟩ (Nat.le_of_ble_eq_true rfl) dX4_hold_2 (fun v3 U4 G5 hq => ?_)
  clear h
  · obtain ⟨r2, rfl, rfl, rfl, h⟩ := hq
    exact h.elim
theorem dX4_reason_0 : decode cX4_reason 0 = .ok (.aload_n 0, 1) := by decide +kernel
theorem dX4_reason_1 : decode cX4_reason 1 = .ok (.iload_n 1, 1) := by decide +kernel
theorem dX4_reason_2 : decode cX4_reason 2 = .ok (.invokevirtual 131, 3) := by decide +kernel
def v_X4_reason (a0 : Nat) (p1 : Int32) (p2 : Int32) (p3 : Int32) (T : zT) (F : zF) (Post : Int32 → Prop) (PX : String → Prop) : Prop :=
  (T a0 = some (7, 4) ∧ (v_X4_pieceAt a0 p1 T F (fun (r2 : Nat) => False) (fun (E9 : String) => PX E9)))
set_option maxRecDepth 100000 in
set_option maxHeartbeats 4000000 in
theorem k_X4_reason {l : Launch} {D : va_G} {cA : Nat → ClassId} {N0 zE : Nat} {a0 : Nat} {p1 : Int32} {p2 : Int32} {p3 : Int32} {T : zT} {F : zF} {Post : Int32 → Prop} {PX : String → Prop} (h : v_X4_reason a0 p1 p2 p3 T F Post PX) : z_Met l D cA N0 zE yX4_reason cX4_reason 5 (some .int) ({ frames := 7, cells := 1, slots := 6, locals := 111 } : Room) [.ref a0, .int p1, .int p2, .int p3] T F (fun v T' F' => ∃ r : Int32, v = some (.int r) ∧ T = T' ∧ F = F' ∧ Post r) (fun E T' F' => T = T' ∧ F = F' ∧ PX E) := by
  unfold v_X4_reason at h
  refine z_body (by decide) (Nat.le_of_ble_eq_true rfl) ?_
  intro p e s m args below meth c C hxt hnm
  have C : z_C p l s m args meth c RX4 cX4_reason 5 (some .int) D cA N0 zE := C
  show z_w p l e ({ frames := 7, cells := 1, slots := 6, locals := 111 } : Room) s m args below meth c D cA N0 5 0 0 (vx_MQ below (z_Qc D cA N0 (fun v T' F' => ∃ r : Int32, v = some (.int r) ∧ T = T' ∧ F = F' ∧ Post r)) (z_XC D cA N0 (fun E T' F' => T = T' ∧ F = F' ∧ PX E)) args s 1 6 (fun q => N0 ≤ q)) 0 [(0, .ref a0), (1, .int p1), (2, .int p2), (3, .int p3)] [] T F
  refine zr_aload_n C 0 dX4_reason_0 rfl rfl ?_
  refine zr_iload_n C 1 dX4_reason_1 rfl rfl ?_
  obtain ⟨hT1, h⟩ := h
  refine zr_callVX (As := [.int p1]) (r := (RX4, TX4, 4)) C (k_X4_pieceAt h) ok_X4_131 zq_301 zq_3 hT1 (by decide) rfl rfl ⟨by decide, (Nat.le_of_ble_eq_true rfl)⟩ ⟨(Nat.le_of_ble_eq_true rfl), (Nat.le_of_ble_eq_true rfl)⟩ (Nat.le_of_ble_eq_true rfl) dX4_reason_2 (fun E9 T9 F9 hq => by obtain ⟨rfl, rfl, hq⟩ := hq; exact zr_out C (fun x hx => (hxt x hx).elim) ⟨rfl, rfl, hq⟩ (Nat.le_of_ble_eq_true rfl) (Nat.le_of_ble_eq_true rfl)) (fun v3 U4 G5 hq => ?_)
  clear h
  · obtain ⟨r2, rfl, rfl, rfl, h⟩ := hq
    exact h.elim
set_option maxRecDepth 100000 in
set_option maxHeartbeats 4000000 in
theorem k_X4_reason0 {l : Launch} {D : va_G} {cA : Nat → ClassId} {N0 zE : Nat} {a0 : Nat} {p1 : Int32} {p2 : Int32} {p3 : Int32} {T : zT} {F : zF} {Post : Int32 → Prop} (h : v_X4_reason a0 p1 p2 p3 T F Post (fun _ => False)) : z_Mt l D cA N0 zE yX4_reason cX4_reason 5 (some .int) ({ frames := 2, cells := 0, slots := 0, locals := 41 } : Room) [.ref a0, .int p1, .int p2, .int p3] T F (fun v T' F' => ∃ r : Int32, v = some (.int r) ∧ T = T' ∧ F = F' ∧ Post r) := by
  unfold v_X4_reason at h
  refine z_bodyT (by decide) (Nat.le_of_ble_eq_true rfl) ?_
  intro p e s m args below meth c C hnm
  have C : z_C p l s m args meth c RX4 cX4_reason 5 (some .int) D cA N0 zE := C
  show z_w p l e ({ frames := 2, cells := 0, slots := 0, locals := 41 } : Room) s m args below meth c D cA N0 5 0 0 (MQ below (z_Qc D cA N0 (fun v T' F' => ∃ r : Int32, v = some (.int r) ∧ T = T' ∧ F = F' ∧ Post r)) args s 0 0 (fun q => N0 ≤ q)) 0 [(0, .ref a0), (1, .int p1), (2, .int p2), (3, .int p3)] [] T F
  refine zr_aload_n C 0 dX4_reason_0 rfl rfl ?_
  refine zr_iload_n C 1 dX4_reason_1 rfl rfl ?_
  obtain ⟨hT1, h⟩ := h
  refine zr_callV (As := [.int p1]) (r := (RX4, TX4, 4)) C (k_X4_pieceAt0 h) ok_X4_131 zq_301 zq_3 hT1 (by decide) rfl rfl ⟨by decide, (Nat.le_of_ble_eq_true rfl)⟩ ⟨(Nat.le_of_ble_eq_true rfl), (Nat.le_of_ble_eq_true rfl)⟩ (Nat.le_of_ble_eq_true rfl) dX4_reason_2 (fun v3 U4 G5 hq => ?_)
  clear h
  · obtain ⟨r2, rfl, rfl, rfl, h⟩ := hq
    exact h.elim
theorem dX4_isFit_0 : decode cX4_isFit 0 = .ok (.aload_n 0, 1) := by decide +kernel
theorem dX4_isFit_1 : decode cX4_isFit 1 = .ok (.iload_n 1, 1) := by decide +kernel
theorem dX4_isFit_2 : decode cX4_isFit 2 = .ok (.invokevirtual 131, 3) := by decide +kernel
def v_X4_isFit (a0 : Nat) (p1 : Int32) (p2 : Int32) (p3 : Int32) (T : zT) (F : zF) (Post : Int32 → Prop) (PX : String → Prop) : Prop :=
  (T a0 = some (7, 4) ∧ (v_X4_pieceAt a0 p1 T F (fun (r2 : Nat) => False) (fun (E9 : String) => PX E9)))
set_option maxRecDepth 100000 in
set_option maxHeartbeats 4000000 in
theorem k_X4_isFit {l : Launch} {D : va_G} {cA : Nat → ClassId} {N0 zE : Nat} {a0 : Nat} {p1 : Int32} {p2 : Int32} {p3 : Int32} {T : zT} {F : zF} {Post : Int32 → Prop} {PX : String → Prop} (h : v_X4_isFit a0 p1 p2 p3 T F Post PX) : z_Met l D cA N0 zE yX4_isFit cX4_isFit 5 (some .boolean) ({ frames := 7, cells := 1, slots := 6, locals := 111 } : Room) [.ref a0, .int p1, .int p2, .int p3] T F (fun v T' F' => ∃ r : Int32, v = some (.int r) ∧ T = T' ∧ F = F' ∧ Post r) (fun E T' F' => T = T' ∧ F = F' ∧ PX E) := by
  unfold v_X4_isFit at h
  refine z_body (by decide) (Nat.le_of_ble_eq_true rfl) ?_
  intro p e s m args below meth c C hxt hnm
  have C : z_C p l s m args meth c RX4 cX4_isFit 5 (some .boolean) D cA N0 zE := C
  show z_w p l e ({ frames := 7, cells := 1, slots := 6, locals := 111 } : Room) s m args below meth c D cA N0 5 0 0 (vx_MQ below (z_Qc D cA N0 (fun v T' F' => ∃ r : Int32, v = some (.int r) ∧ T = T' ∧ F = F' ∧ Post r)) (z_XC D cA N0 (fun E T' F' => T = T' ∧ F = F' ∧ PX E)) args s 1 6 (fun q => N0 ≤ q)) 0 [(0, .ref a0), (1, .int p1), (2, .int p2), (3, .int p3)] [] T F
  refine zr_aload_n C 0 dX4_isFit_0 rfl rfl ?_
  refine zr_iload_n C 1 dX4_isFit_1 rfl rfl ?_
  obtain ⟨hT1, h⟩ := h
  refine zr_callVX (As := [.int p1]) (r := (RX4, TX4, 4)) C (k_X4_pieceAt h) ok_X4_131 zq_301 zq_3 hT1 (by decide) rfl rfl ⟨by decide, (Nat.le_of_ble_eq_true rfl)⟩ ⟨(Nat.le_of_ble_eq_true rfl), (Nat.le_of_ble_eq_true rfl)⟩ (Nat.le_of_ble_eq_true rfl) dX4_isFit_2 (fun E9 T9 F9 hq => by obtain ⟨rfl, rfl, hq⟩ := hq; exact zr_out C (fun x hx => (hxt x hx).elim) ⟨rfl, rfl, hq⟩ (Nat.le_of_ble_eq_true rfl) (Nat.le_of_ble_eq_true rfl)) (fun v3 U4 G5 hq => ?_)
  clear h
  · obtain ⟨r2, rfl, rfl, rfl, h⟩ := hq
    exact h.elim
set_option maxRecDepth 100000 in
set_option maxHeartbeats 4000000 in
theorem k_X4_isFit0 {l : Launch} {D : va_G} {cA : Nat → ClassId} {N0 zE : Nat} {a0 : Nat} {p1 : Int32} {p2 : Int32} {p3 : Int32} {T : zT} {F : zF} {Post : Int32 → Prop} (h : v_X4_isFit a0 p1 p2 p3 T F Post (fun _ => False)) : z_Mt l D cA N0 zE yX4_isFit cX4_isFit 5 (some .boolean) ({ frames := 2, cells := 0, slots := 0, locals := 41 } : Room) [.ref a0, .int p1, .int p2, .int p3] T F (fun v T' F' => ∃ r : Int32, v = some (.int r) ∧ T = T' ∧ F = F' ∧ Post r) := by
  unfold v_X4_isFit at h
  refine z_bodyT (by decide) (Nat.le_of_ble_eq_true rfl) ?_
  intro p e s m args below meth c C hnm
  have C : z_C p l s m args meth c RX4 cX4_isFit 5 (some .boolean) D cA N0 zE := C
  show z_w p l e ({ frames := 2, cells := 0, slots := 0, locals := 41 } : Room) s m args below meth c D cA N0 5 0 0 (MQ below (z_Qc D cA N0 (fun v T' F' => ∃ r : Int32, v = some (.int r) ∧ T = T' ∧ F = F' ∧ Post r)) args s 0 0 (fun q => N0 ≤ q)) 0 [(0, .ref a0), (1, .int p1), (2, .int p2), (3, .int p3)] [] T F
  refine zr_aload_n C 0 dX4_isFit_0 rfl rfl ?_
  refine zr_iload_n C 1 dX4_isFit_1 rfl rfl ?_
  obtain ⟨hT1, h⟩ := h
  refine zr_callV (As := [.int p1]) (r := (RX4, TX4, 4)) C (k_X4_pieceAt0 h) ok_X4_131 zq_301 zq_3 hT1 (by decide) rfl rfl ⟨by decide, (Nat.le_of_ble_eq_true rfl)⟩ ⟨(Nat.le_of_ble_eq_true rfl), (Nat.le_of_ble_eq_true rfl)⟩ (Nat.le_of_ble_eq_true rfl) dX4_isFit_2 (fun v3 U4 G5 hq => ?_)
  clear h
  · obtain ⟨r2, rfl, rfl, rfl, h⟩ := hq
    exact h.elim
theorem dX4_ofPiece_0 : decode cX4_ofPiece 0 = .ok (.aload_n 0, 1) := by decide +kernel
theorem dX4_ofPiece_1 : decode cX4_ofPiece 1 = .ok (.iload_n 1, 1) := by decide +kernel
theorem dX4_ofPiece_2 : decode cX4_ofPiece 2 = .ok (.invokevirtual 131, 3) := by decide +kernel
def v_X4_ofPiece (a0 : Nat) (p1 : Int32) (p2 : Int32) (T : zT) (F : zF) (Post : Int32 → Prop) (PX : String → Prop) : Prop :=
  (T a0 = some (7, 4) ∧ (v_X4_pieceAt a0 p1 T F (fun (r2 : Nat) => False) (fun (E9 : String) => PX E9)))
set_option maxRecDepth 100000 in
set_option maxHeartbeats 4000000 in
theorem k_X4_ofPiece {l : Launch} {D : va_G} {cA : Nat → ClassId} {N0 zE : Nat} {a0 : Nat} {p1 : Int32} {p2 : Int32} {T : zT} {F : zF} {Post : Int32 → Prop} {PX : String → Prop} (h : v_X4_ofPiece a0 p1 p2 T F Post PX) : z_Met l D cA N0 zE yX4_ofPiece cX4_ofPiece 4 (some .int) ({ frames := 7, cells := 1, slots := 6, locals := 111 } : Room) [.ref a0, .int p1, .int p2] T F (fun v T' F' => ∃ r : Int32, v = some (.int r) ∧ T = T' ∧ F = F' ∧ Post r) (fun E T' F' => T = T' ∧ F = F' ∧ PX E) := by
  unfold v_X4_ofPiece at h
  refine z_body (by decide) (Nat.le_of_ble_eq_true rfl) ?_
  intro p e s m args below meth c C hxt hnm
  have C : z_C p l s m args meth c RX4 cX4_ofPiece 4 (some .int) D cA N0 zE := C
  show z_w p l e ({ frames := 7, cells := 1, slots := 6, locals := 111 } : Room) s m args below meth c D cA N0 4 0 0 (vx_MQ below (z_Qc D cA N0 (fun v T' F' => ∃ r : Int32, v = some (.int r) ∧ T = T' ∧ F = F' ∧ Post r)) (z_XC D cA N0 (fun E T' F' => T = T' ∧ F = F' ∧ PX E)) args s 1 6 (fun q => N0 ≤ q)) 0 [(0, .ref a0), (1, .int p1), (2, .int p2)] [] T F
  refine zr_aload_n C 0 dX4_ofPiece_0 rfl rfl ?_
  refine zr_iload_n C 1 dX4_ofPiece_1 rfl rfl ?_
  obtain ⟨hT1, h⟩ := h
  refine zr_callVX (As := [.int p1]) (r := (RX4, TX4, 4)) C (k_X4_pieceAt h) ok_X4_131 zq_301 zq_3 hT1 (by decide) rfl rfl ⟨by decide, (Nat.le_of_ble_eq_true rfl)⟩ ⟨(Nat.le_of_ble_eq_true rfl), (Nat.le_of_ble_eq_true rfl)⟩ (Nat.le_of_ble_eq_true rfl) dX4_ofPiece_2 (fun E9 T9 F9 hq => by obtain ⟨rfl, rfl, hq⟩ := hq; exact zr_out C (fun x hx => (hxt x hx).elim) ⟨rfl, rfl, hq⟩ (Nat.le_of_ble_eq_true rfl) (Nat.le_of_ble_eq_true rfl)) (fun v3 U4 G5 hq => ?_)
  clear h
  · obtain ⟨r2, rfl, rfl, rfl, h⟩ := hq
    exact h.elim
set_option maxRecDepth 100000 in
set_option maxHeartbeats 4000000 in
theorem k_X4_ofPiece0 {l : Launch} {D : va_G} {cA : Nat → ClassId} {N0 zE : Nat} {a0 : Nat} {p1 : Int32} {p2 : Int32} {T : zT} {F : zF} {Post : Int32 → Prop} (h : v_X4_ofPiece a0 p1 p2 T F Post (fun _ => False)) : z_Mt l D cA N0 zE yX4_ofPiece cX4_ofPiece 4 (some .int) ({ frames := 2, cells := 0, slots := 0, locals := 41 } : Room) [.ref a0, .int p1, .int p2] T F (fun v T' F' => ∃ r : Int32, v = some (.int r) ∧ T = T' ∧ F = F' ∧ Post r) := by
  unfold v_X4_ofPiece at h
  refine z_bodyT (by decide) (Nat.le_of_ble_eq_true rfl) ?_
  intro p e s m args below meth c C hnm
  have C : z_C p l s m args meth c RX4 cX4_ofPiece 4 (some .int) D cA N0 zE := C
  show z_w p l e ({ frames := 2, cells := 0, slots := 0, locals := 41 } : Room) s m args below meth c D cA N0 4 0 0 (MQ below (z_Qc D cA N0 (fun v T' F' => ∃ r : Int32, v = some (.int r) ∧ T = T' ∧ F = F' ∧ Post r)) args s 0 0 (fun q => N0 ≤ q)) 0 [(0, .ref a0), (1, .int p1), (2, .int p2)] [] T F
  refine zr_aload_n C 0 dX4_ofPiece_0 rfl rfl ?_
  refine zr_iload_n C 1 dX4_ofPiece_1 rfl rfl ?_
  obtain ⟨hT1, h⟩ := h
  refine zr_callV (As := [.int p1]) (r := (RX4, TX4, 4)) C (k_X4_pieceAt0 h) ok_X4_131 zq_301 zq_3 hT1 (by decide) rfl rfl ⟨by decide, (Nat.le_of_ble_eq_true rfl)⟩ ⟨(Nat.le_of_ble_eq_true rfl), (Nat.le_of_ble_eq_true rfl)⟩ (Nat.le_of_ble_eq_true rfl) dX4_ofPiece_2 (fun v3 U4 G5 hq => ?_)
  clear h
  · obtain ⟨r2, rfl, rfl, rfl, h⟩ := hq
    exact h.elim
theorem dX4_book_0 : decode cX4_book 0 = .ok (.aload_n 0, 1) := by decide +kernel
theorem dX4_book_1 : decode cX4_book 1 = .ok (.iload_n 1, 1) := by decide +kernel
theorem dX4_book_2 : decode cX4_book 2 = .ok (.invokevirtual 131, 3) := by decide +kernel
def v_X4_book (a0 : Nat) (p1 : Int32) (p2 : Int32) (p3 : Int32) (p4 : Int32) (p5 : Int32) (p6 : Int32) (T : zT) (F : zF) (Post : Int32 → Prop) (PX : String → Prop) : Prop :=
  (T a0 = some (7, 4) ∧ (v_X4_pieceAt a0 p1 T F (fun (r2 : Nat) => False) (fun (E9 : String) => PX E9)))
set_option maxRecDepth 100000 in
set_option maxHeartbeats 4000000 in
theorem k_X4_book {l : Launch} {D : va_G} {cA : Nat → ClassId} {N0 zE : Nat} {a0 : Nat} {p1 : Int32} {p2 : Int32} {p3 : Int32} {p4 : Int32} {p5 : Int32} {p6 : Int32} {T : zT} {F : zF} {Post : Int32 → Prop} {PX : String → Prop} (h : v_X4_book a0 p1 p2 p3 p4 p5 p6 T F Post PX) : z_Met l D cA N0 zE yX4_book cX4_book 8 (some .int) ({ frames := 7, cells := 1, slots := 6, locals := 111 } : Room) [.ref a0, .int p1, .int p2, .int p3, .int p4, .int p5, .int p6] T F (fun v T' F' => ∃ r : Int32, v = some (.int r) ∧ T = T' ∧ F = F' ∧ Post r) (fun E T' F' => T = T' ∧ F = F' ∧ PX E) := by
  unfold v_X4_book at h
  refine z_body (by decide) (Nat.le_of_ble_eq_true rfl) ?_
  intro p e s m args below meth c C hxt hnm
  have C : z_C p l s m args meth c RX4 cX4_book 8 (some .int) D cA N0 zE := C
  show z_w p l e ({ frames := 7, cells := 1, slots := 6, locals := 111 } : Room) s m args below meth c D cA N0 8 0 0 (vx_MQ below (z_Qc D cA N0 (fun v T' F' => ∃ r : Int32, v = some (.int r) ∧ T = T' ∧ F = F' ∧ Post r)) (z_XC D cA N0 (fun E T' F' => T = T' ∧ F = F' ∧ PX E)) args s 1 6 (fun q => N0 ≤ q)) 0 [(0, .ref a0), (1, .int p1), (2, .int p2), (3, .int p3), (4, .int p4), (5, .int p5), (6, .int p6)] [] T F
  refine zr_aload_n C 0 dX4_book_0 rfl rfl ?_
  refine zr_iload_n C 1 dX4_book_1 rfl rfl ?_
  obtain ⟨hT1, h⟩ := h
  refine zr_callVX (As := [.int p1]) (r := (RX4, TX4, 4)) C (k_X4_pieceAt h) ok_X4_131 zq_301 zq_3 hT1 (by decide) rfl rfl ⟨by decide, (Nat.le_of_ble_eq_true rfl)⟩ ⟨(Nat.le_of_ble_eq_true rfl), (Nat.le_of_ble_eq_true rfl)⟩ (Nat.le_of_ble_eq_true rfl) dX4_book_2 (fun E9 T9 F9 hq => by obtain ⟨rfl, rfl, hq⟩ := hq; exact zr_out C (fun x hx => (hxt x hx).elim) ⟨rfl, rfl, hq⟩ (Nat.le_of_ble_eq_true rfl) (Nat.le_of_ble_eq_true rfl)) (fun v3 U4 G5 hq => ?_)
  clear h
  · obtain ⟨r2, rfl, rfl, rfl, h⟩ := hq
    exact h.elim
set_option maxRecDepth 100000 in
set_option maxHeartbeats 4000000 in
theorem k_X4_book0 {l : Launch} {D : va_G} {cA : Nat → ClassId} {N0 zE : Nat} {a0 : Nat} {p1 : Int32} {p2 : Int32} {p3 : Int32} {p4 : Int32} {p5 : Int32} {p6 : Int32} {T : zT} {F : zF} {Post : Int32 → Prop} (h : v_X4_book a0 p1 p2 p3 p4 p5 p6 T F Post (fun _ => False)) : z_Mt l D cA N0 zE yX4_book cX4_book 8 (some .int) ({ frames := 2, cells := 0, slots := 0, locals := 41 } : Room) [.ref a0, .int p1, .int p2, .int p3, .int p4, .int p5, .int p6] T F (fun v T' F' => ∃ r : Int32, v = some (.int r) ∧ T = T' ∧ F = F' ∧ Post r) := by
  unfold v_X4_book at h
  refine z_bodyT (by decide) (Nat.le_of_ble_eq_true rfl) ?_
  intro p e s m args below meth c C hnm
  have C : z_C p l s m args meth c RX4 cX4_book 8 (some .int) D cA N0 zE := C
  show z_w p l e ({ frames := 2, cells := 0, slots := 0, locals := 41 } : Room) s m args below meth c D cA N0 8 0 0 (MQ below (z_Qc D cA N0 (fun v T' F' => ∃ r : Int32, v = some (.int r) ∧ T = T' ∧ F = F' ∧ Post r)) args s 0 0 (fun q => N0 ≤ q)) 0 [(0, .ref a0), (1, .int p1), (2, .int p2), (3, .int p3), (4, .int p4), (5, .int p5), (6, .int p6)] [] T F
  refine zr_aload_n C 0 dX4_book_0 rfl rfl ?_
  refine zr_iload_n C 1 dX4_book_1 rfl rfl ?_
  obtain ⟨hT1, h⟩ := h
  refine zr_callV (As := [.int p1]) (r := (RX4, TX4, 4)) C (k_X4_pieceAt0 h) ok_X4_131 zq_301 zq_3 hT1 (by decide) rfl rfl ⟨by decide, (Nat.le_of_ble_eq_true rfl)⟩ ⟨(Nat.le_of_ble_eq_true rfl), (Nat.le_of_ble_eq_true rfl)⟩ (Nat.le_of_ble_eq_true rfl) dX4_book_2 (fun v3 U4 G5 hq => ?_)
  clear h
  · obtain ⟨r2, rfl, rfl, rfl, h⟩ := hq
    exact h.elim
theorem dX4_bookingAt_0 : decode cX4_bookingAt 0 = .ok (.iload_n 1, 1) := by decide +kernel
theorem dX4_bookingAt_1 : decode cX4_bookingAt 1 = .ok (.ifCond .lt 17, 3) := by decide +kernel
theorem dX4_bookingAt_18 : decode cX4_bookingAt 18 = .ok (.new 307, 3) := by decide +kernel
theorem dX4_bookingAt_21 : decode cX4_bookingAt 21 = .ok (.dup, 1) := by decide +kernel
theorem dX4_bookingAt_22 : decode cX4_bookingAt 22 = .ok (.ldc_w 361, 3) := by decide +kernel
theorem dX4_bookingAt_25 : decode cX4_bookingAt 25 = .ok (.invokespecial 309, 3) := by decide +kernel
theorem dX4_bookingAt_28 : decode cX4_bookingAt 28 = .ok (.athrow, 1) := by decide +kernel
theorem dX4_bookingAt_4 : decode cX4_bookingAt 4 = .ok (.iload_n 1, 1) := by decide +kernel
theorem dX4_bookingAt_5 : decode cX4_bookingAt 5 = .ok (.aload_n 0, 1) := by decide +kernel
theorem dX4_bookingAt_6 : decode cX4_bookingAt 6 = .ok (.getfield 23, 3) := by decide +kernel
theorem dX4_bookingAt_9 : decode cX4_bookingAt 9 = .ok (.getfield 179, 3) := by decide +kernel
theorem dX4_bookingAt_15 : decode cX4_bookingAt 15 = .ok (.if_icmp .lt 14, 3) := by decide +kernel
theorem dX4_bookingAt_29 : decode cX4_bookingAt 29 = .ok (.aload_n 0, 1) := by decide +kernel
theorem dX4_bookingAt_30 : decode cX4_bookingAt 30 = .ok (.getfield 23, 3) := by decide +kernel
theorem dX4_bookingAt_33 : decode cX4_bookingAt 33 = .ok (.getfield 179, 3) := by decide +kernel
theorem dX4_bookingAt_36 : decode cX4_bookingAt 36 = .ok (.iload_n 1, 1) := by decide +kernel
theorem dX4_bookingAt_12 : decode cX4_bookingAt 12 = .ok (.invokevirtual 30, 3) := by decide +kernel
def v_X4_bookingAt (a0 : Nat) (p1 : Int32) (T : zT) (F : zF) (Post : Nat → Prop) (PX : String → Prop) : Prop :=
  ((p1 < 0 → PX "java/lang/IndexOutOfBoundsException") ∧ (¬ p1 < 0 → (T a0 = some (7, 4) ∧ ∃ x3 : Nat, F a0 2 = .ref x3 ∧ T x3 = some (6, 3) ∧ ∃ x6 : Nat, F x3 0 = .ref x6 ∧ T x6 = some (2, 3) ∧ (v_Jx4a65c_size_8abf5 x6 T F (fun (r8 : Int32) => ((p1 < r8 → False) ∧ (¬ p1 < r8 → PX "java/lang/IndexOutOfBoundsException")))))))
set_option maxRecDepth 100000 in
set_option maxHeartbeats 4000000 in
theorem k_X4_bookingAt {l : Launch} {D : va_G} {cA : Nat → ClassId} {N0 zE : Nat} {a0 : Nat} {p1 : Int32} {T : zT} {F : zF} {Post : Nat → Prop} {PX : String → Prop} (h : v_X4_bookingAt a0 p1 T F Post PX) : z_Met l D cA N0 zE yX4_bookingAt cX4_bookingAt 2 (some (.object "BrandRoom$Booking")) ({ frames := 6, cells := 1, slots := 6, locals := 90 } : Room) [.ref a0, .int p1] T F (fun v T' F' => ∃ r : Nat, v = some (.ref r) ∧ T = T' ∧ F = F' ∧ Post r) (fun E T' F' => T = T' ∧ F = F' ∧ PX E) := by
  unfold v_X4_bookingAt at h
  refine z_body (by decide) (Nat.le_of_ble_eq_true rfl) ?_
  intro p e s m args below meth c C hxt hnm
  have C : z_C p l s m args meth c RX4 cX4_bookingAt 2 (some (.object "BrandRoom$Booking")) D cA N0 zE := C
  show z_w p l e ({ frames := 6, cells := 1, slots := 6, locals := 90 } : Room) s m args below meth c D cA N0 2 0 0 (vx_MQ below (z_Qc D cA N0 (fun v T' F' => ∃ r : Nat, v = some (.ref r) ∧ T = T' ∧ F = F' ∧ Post r)) (z_XC D cA N0 (fun E T' F' => T = T' ∧ F = F' ∧ PX E)) args s 1 6 (fun q => N0 ≤ q)) 0 [(0, .ref a0), (1, .int p1)] [] T F
  refine zr_iload_n C 1 dX4_bookingAt_0 rfl rfl ?_
  obtain ⟨h1, h2⟩ := h
  refine zr_if_lt C 18 dX4_bookingAt_1 (by decide) (fun hc => ?_) (fun hc => ?_)
  · have h := h1 hc
    clear h1 h2
    exact zr_throwW C th_X4_307_309_361 (fun x hx => (hxt x hx).elim) ⟨rfl, rfl, h⟩ dX4_bookingAt_18 dX4_bookingAt_21 dX4_bookingAt_22 dX4_bookingAt_25 dX4_bookingAt_28 (by decide) (Nat.le_of_ble_eq_true rfl) ⟨(Nat.le_of_ble_eq_true rfl), (Nat.le_of_ble_eq_true rfl)⟩ ⟨(Nat.le_of_ble_eq_true rfl), (Nat.le_of_ble_eq_true rfl)⟩
  · have h := h2 hc
    clear h1 h2
    refine zr_iload_n C 1 dX4_bookingAt_4 rfl rfl ?_
    refine zr_aload_n C 0 dX4_bookingAt_5 rfl rfl ?_
    obtain ⟨hT1, x3, hv2, h⟩ := h
    refine zr_get C fl_X4_23 hT1 hv2 dX4_bookingAt_6 ?_
    obtain ⟨hT4, x6, hv5, h⟩ := h
    refine zr_get C fl_X4_179 hT4 hv5 dX4_bookingAt_9 ?_
    obtain ⟨hT7, h⟩ := h
    refine zr_callV (As := []) (r := (RJx4a65c, TJx4a65c, 3)) C (k_Jx4a65c_size_8abf5 h) ok_X4_30 zq_140 zq_141 hT7 (by decide) rfl rfl ⟨by decide, (Nat.le_of_ble_eq_true rfl)⟩ ⟨(Nat.le_of_ble_eq_true rfl), (Nat.le_of_ble_eq_true rfl)⟩ (Nat.le_of_ble_eq_true rfl) dX4_bookingAt_12 (fun v9 U10 G11 hq => ?_)
    clear h
    · obtain ⟨r8, rfl, rfl, rfl, h⟩ := hq
      obtain ⟨h1, h2⟩ := h
      refine zr_icmp_lt C 29 dX4_bookingAt_15 (by decide) (fun hc => ?_) (fun hc => ?_)
      · have h := h1 hc
        clear h1 h2
        refine zr_aload_n C 0 dX4_bookingAt_29 rfl rfl ?_
        refine zr_get C fl_X4_23 hT1 hv2 dX4_bookingAt_30 ?_
        refine zr_get C fl_X4_179 hT4 hv5 dX4_bookingAt_33 ?_
        refine zr_iload_n C 1 dX4_bookingAt_36 rfl rfl ?_
        exact h.elim
      · have h := h2 hc
        clear h1 h2
        exact zr_throwW C th_X4_307_309_361 (fun x hx => (hxt x hx).elim) ⟨rfl, rfl, h⟩ dX4_bookingAt_18 dX4_bookingAt_21 dX4_bookingAt_22 dX4_bookingAt_25 dX4_bookingAt_28 (by decide) (Nat.le_of_ble_eq_true rfl) ⟨(Nat.le_of_ble_eq_true rfl), (Nat.le_of_ble_eq_true rfl)⟩ ⟨(Nat.le_of_ble_eq_true rfl), (Nat.le_of_ble_eq_true rfl)⟩
set_option maxRecDepth 100000 in
set_option maxHeartbeats 4000000 in
theorem k_X4_bookingAt0 {l : Launch} {D : va_G} {cA : Nat → ClassId} {N0 zE : Nat} {a0 : Nat} {p1 : Int32} {T : zT} {F : zF} {Post : Nat → Prop} (h : v_X4_bookingAt a0 p1 T F Post (fun _ => False)) : z_Mt l D cA N0 zE yX4_bookingAt cX4_bookingAt 2 (some (.object "BrandRoom$Booking")) ({ frames := 1, cells := 0, slots := 0, locals := 20 } : Room) [.ref a0, .int p1] T F (fun v T' F' => ∃ r : Nat, v = some (.ref r) ∧ T = T' ∧ F = F' ∧ Post r) := by
  unfold v_X4_bookingAt at h
  refine z_bodyT (by decide) (Nat.le_of_ble_eq_true rfl) ?_
  intro p e s m args below meth c C hnm
  have C : z_C p l s m args meth c RX4 cX4_bookingAt 2 (some (.object "BrandRoom$Booking")) D cA N0 zE := C
  show z_w p l e ({ frames := 1, cells := 0, slots := 0, locals := 20 } : Room) s m args below meth c D cA N0 2 0 0 (MQ below (z_Qc D cA N0 (fun v T' F' => ∃ r : Nat, v = some (.ref r) ∧ T = T' ∧ F = F' ∧ Post r)) args s 0 0 (fun q => N0 ≤ q)) 0 [(0, .ref a0), (1, .int p1)] [] T F
  refine zr_iload_n C 1 dX4_bookingAt_0 rfl rfl ?_
  obtain ⟨h1, h2⟩ := h
  refine zr_if_lt C 18 dX4_bookingAt_1 (by decide) (fun hc => ?_) (fun hc => ?_)
  · have h := h1 hc
    clear h1 h2
    exact h.elim
  · have h := h2 hc
    clear h1 h2
    refine zr_iload_n C 1 dX4_bookingAt_4 rfl rfl ?_
    refine zr_aload_n C 0 dX4_bookingAt_5 rfl rfl ?_
    obtain ⟨hT1, x3, hv2, h⟩ := h
    refine zr_get C fl_X4_23 hT1 hv2 dX4_bookingAt_6 ?_
    obtain ⟨hT4, x6, hv5, h⟩ := h
    refine zr_get C fl_X4_179 hT4 hv5 dX4_bookingAt_9 ?_
    obtain ⟨hT7, h⟩ := h
    refine zr_callV (As := []) (r := (RJx4a65c, TJx4a65c, 3)) C (k_Jx4a65c_size_8abf5 h) ok_X4_30 zq_140 zq_141 hT7 (by decide) rfl rfl ⟨by decide, (Nat.le_of_ble_eq_true rfl)⟩ ⟨(Nat.le_of_ble_eq_true rfl), (Nat.le_of_ble_eq_true rfl)⟩ (Nat.le_of_ble_eq_true rfl) dX4_bookingAt_12 (fun v9 U10 G11 hq => ?_)
    clear h
    · obtain ⟨r8, rfl, rfl, rfl, h⟩ := hq
      obtain ⟨h1, h2⟩ := h
      refine zr_icmp_lt C 29 dX4_bookingAt_15 (by decide) (fun hc => ?_) (fun hc => ?_)
      · have h := h1 hc
        clear h1 h2
        refine zr_aload_n C 0 dX4_bookingAt_29 rfl rfl ?_
        refine zr_get C fl_X4_23 hT1 hv2 dX4_bookingAt_30 ?_
        refine zr_get C fl_X4_179 hT4 hv5 dX4_bookingAt_33 ?_
        refine zr_iload_n C 1 dX4_bookingAt_36 rfl rfl ?_
        exact h.elim
      · have h := h2 hc
        clear h1 h2
        exact h.elim
theorem dX4_cancel_0 : decode cX4_cancel 0 = .ok (.aload_n 0, 1) := by decide +kernel
theorem dX4_cancel_1 : decode cX4_cancel 1 = .ok (.iload_n 1, 1) := by decide +kernel
theorem dX4_cancel_2 : decode cX4_cancel 2 = .ok (.invokevirtual 199, 3) := by decide +kernel
def v_X4_cancel (a0 : Nat) (p1 : Int32) (T : zT) (F : zF) (Post : Int32 → Prop) (PX : String → Prop) : Prop :=
  (T a0 = some (7, 4) ∧ (v_X4_bookingAt a0 p1 T F (fun (r2 : Nat) => False) (fun (E9 : String) => PX E9)))
set_option maxRecDepth 100000 in
set_option maxHeartbeats 4000000 in
theorem k_X4_cancel {l : Launch} {D : va_G} {cA : Nat → ClassId} {N0 zE : Nat} {a0 : Nat} {p1 : Int32} {T : zT} {F : zF} {Post : Int32 → Prop} {PX : String → Prop} (h : v_X4_cancel a0 p1 T F Post PX) : z_Met l D cA N0 zE yX4_cancel cX4_cancel 3 (some .int) ({ frames := 7, cells := 1, slots := 6, locals := 111 } : Room) [.ref a0, .int p1] T F (fun v T' F' => ∃ r : Int32, v = some (.int r) ∧ T = T' ∧ F = F' ∧ Post r) (fun E T' F' => T = T' ∧ F = F' ∧ PX E) := by
  unfold v_X4_cancel at h
  refine z_body (by decide) (Nat.le_of_ble_eq_true rfl) ?_
  intro p e s m args below meth c C hxt hnm
  have C : z_C p l s m args meth c RX4 cX4_cancel 3 (some .int) D cA N0 zE := C
  show z_w p l e ({ frames := 7, cells := 1, slots := 6, locals := 111 } : Room) s m args below meth c D cA N0 3 0 0 (vx_MQ below (z_Qc D cA N0 (fun v T' F' => ∃ r : Int32, v = some (.int r) ∧ T = T' ∧ F = F' ∧ Post r)) (z_XC D cA N0 (fun E T' F' => T = T' ∧ F = F' ∧ PX E)) args s 1 6 (fun q => N0 ≤ q)) 0 [(0, .ref a0), (1, .int p1)] [] T F
  refine zr_aload_n C 0 dX4_cancel_0 rfl rfl ?_
  refine zr_iload_n C 1 dX4_cancel_1 rfl rfl ?_
  obtain ⟨hT1, h⟩ := h
  refine zr_callVX (As := [.int p1]) (r := (RX4, TX4, 4)) C (k_X4_bookingAt h) ok_X4_199 zq_377 zq_5 hT1 (by decide) rfl rfl ⟨by decide, (Nat.le_of_ble_eq_true rfl)⟩ ⟨(Nat.le_of_ble_eq_true rfl), (Nat.le_of_ble_eq_true rfl)⟩ (Nat.le_of_ble_eq_true rfl) dX4_cancel_2 (fun E9 T9 F9 hq => by obtain ⟨rfl, rfl, hq⟩ := hq; exact zr_out C (fun x hx => (hxt x hx).elim) ⟨rfl, rfl, hq⟩ (Nat.le_of_ble_eq_true rfl) (Nat.le_of_ble_eq_true rfl)) (fun v3 U4 G5 hq => ?_)
  clear h
  · obtain ⟨r2, rfl, rfl, rfl, h⟩ := hq
    exact h.elim
set_option maxRecDepth 100000 in
set_option maxHeartbeats 4000000 in
theorem k_X4_cancel0 {l : Launch} {D : va_G} {cA : Nat → ClassId} {N0 zE : Nat} {a0 : Nat} {p1 : Int32} {T : zT} {F : zF} {Post : Int32 → Prop} (h : v_X4_cancel a0 p1 T F Post (fun _ => False)) : z_Mt l D cA N0 zE yX4_cancel cX4_cancel 3 (some .int) ({ frames := 2, cells := 0, slots := 0, locals := 41 } : Room) [.ref a0, .int p1] T F (fun v T' F' => ∃ r : Int32, v = some (.int r) ∧ T = T' ∧ F = F' ∧ Post r) := by
  unfold v_X4_cancel at h
  refine z_bodyT (by decide) (Nat.le_of_ble_eq_true rfl) ?_
  intro p e s m args below meth c C hnm
  have C : z_C p l s m args meth c RX4 cX4_cancel 3 (some .int) D cA N0 zE := C
  show z_w p l e ({ frames := 2, cells := 0, slots := 0, locals := 41 } : Room) s m args below meth c D cA N0 3 0 0 (MQ below (z_Qc D cA N0 (fun v T' F' => ∃ r : Int32, v = some (.int r) ∧ T = T' ∧ F = F' ∧ Post r)) args s 0 0 (fun q => N0 ≤ q)) 0 [(0, .ref a0), (1, .int p1)] [] T F
  refine zr_aload_n C 0 dX4_cancel_0 rfl rfl ?_
  refine zr_iload_n C 1 dX4_cancel_1 rfl rfl ?_
  obtain ⟨hT1, h⟩ := h
  refine zr_callV (As := [.int p1]) (r := (RX4, TX4, 4)) C (k_X4_bookingAt0 h) ok_X4_199 zq_377 zq_5 hT1 (by decide) rfl rfl ⟨by decide, (Nat.le_of_ble_eq_true rfl)⟩ ⟨(Nat.le_of_ble_eq_true rfl), (Nat.le_of_ble_eq_true rfl)⟩ (Nat.le_of_ble_eq_true rfl) dX4_cancel_2 (fun v3 U4 G5 hq => ?_)
  clear h
  · obtain ⟨r2, rfl, rfl, rfl, h⟩ := hq
    exact h.elim
theorem dX4_swap_0 : decode cX4_swap 0 = .ok (.aload_n 0, 1) := by decide +kernel
theorem dX4_swap_1 : decode cX4_swap 1 = .ok (.iload_n 1, 1) := by decide +kernel
theorem dX4_swap_2 : decode cX4_swap 2 = .ok (.invokevirtual 199, 3) := by decide +kernel
def v_X4_swap (a0 : Nat) (p1 : Int32) (p2 : Int32) (T : zT) (F : zF) (Post : Int32 → Prop) (PX : String → Prop) : Prop :=
  (T a0 = some (7, 4) ∧ (v_X4_bookingAt a0 p1 T F (fun (r2 : Nat) => False) (fun (E9 : String) => PX E9)))
set_option maxRecDepth 100000 in
set_option maxHeartbeats 4000000 in
theorem k_X4_swap {l : Launch} {D : va_G} {cA : Nat → ClassId} {N0 zE : Nat} {a0 : Nat} {p1 : Int32} {p2 : Int32} {T : zT} {F : zF} {Post : Int32 → Prop} {PX : String → Prop} (h : v_X4_swap a0 p1 p2 T F Post PX) : z_Met l D cA N0 zE yX4_swap cX4_swap 6 (some .int) ({ frames := 7, cells := 1, slots := 6, locals := 111 } : Room) [.ref a0, .int p1, .int p2] T F (fun v T' F' => ∃ r : Int32, v = some (.int r) ∧ T = T' ∧ F = F' ∧ Post r) (fun E T' F' => T = T' ∧ F = F' ∧ PX E) := by
  unfold v_X4_swap at h
  refine z_body (by decide) (Nat.le_of_ble_eq_true rfl) ?_
  intro p e s m args below meth c C hxt hnm
  have C : z_C p l s m args meth c RX4 cX4_swap 6 (some .int) D cA N0 zE := C
  show z_w p l e ({ frames := 7, cells := 1, slots := 6, locals := 111 } : Room) s m args below meth c D cA N0 6 0 0 (vx_MQ below (z_Qc D cA N0 (fun v T' F' => ∃ r : Int32, v = some (.int r) ∧ T = T' ∧ F = F' ∧ Post r)) (z_XC D cA N0 (fun E T' F' => T = T' ∧ F = F' ∧ PX E)) args s 1 6 (fun q => N0 ≤ q)) 0 [(0, .ref a0), (1, .int p1), (2, .int p2)] [] T F
  refine zr_aload_n C 0 dX4_swap_0 rfl rfl ?_
  refine zr_iload_n C 1 dX4_swap_1 rfl rfl ?_
  obtain ⟨hT1, h⟩ := h
  refine zr_callVX (As := [.int p1]) (r := (RX4, TX4, 4)) C (k_X4_bookingAt h) ok_X4_199 zq_377 zq_5 hT1 (by decide) rfl rfl ⟨by decide, (Nat.le_of_ble_eq_true rfl)⟩ ⟨(Nat.le_of_ble_eq_true rfl), (Nat.le_of_ble_eq_true rfl)⟩ (Nat.le_of_ble_eq_true rfl) dX4_swap_2 (fun E9 T9 F9 hq => by obtain ⟨rfl, rfl, hq⟩ := hq; exact zr_out C (fun x hx => (hxt x hx).elim) ⟨rfl, rfl, hq⟩ (Nat.le_of_ble_eq_true rfl) (Nat.le_of_ble_eq_true rfl)) (fun v3 U4 G5 hq => ?_)
  clear h
  · obtain ⟨r2, rfl, rfl, rfl, h⟩ := hq
    exact h.elim
set_option maxRecDepth 100000 in
set_option maxHeartbeats 4000000 in
theorem k_X4_swap0 {l : Launch} {D : va_G} {cA : Nat → ClassId} {N0 zE : Nat} {a0 : Nat} {p1 : Int32} {p2 : Int32} {T : zT} {F : zF} {Post : Int32 → Prop} (h : v_X4_swap a0 p1 p2 T F Post (fun _ => False)) : z_Mt l D cA N0 zE yX4_swap cX4_swap 6 (some .int) ({ frames := 2, cells := 0, slots := 0, locals := 41 } : Room) [.ref a0, .int p1, .int p2] T F (fun v T' F' => ∃ r : Int32, v = some (.int r) ∧ T = T' ∧ F = F' ∧ Post r) := by
  unfold v_X4_swap at h
  refine z_bodyT (by decide) (Nat.le_of_ble_eq_true rfl) ?_
  intro p e s m args below meth c C hnm
  have C : z_C p l s m args meth c RX4 cX4_swap 6 (some .int) D cA N0 zE := C
  show z_w p l e ({ frames := 2, cells := 0, slots := 0, locals := 41 } : Room) s m args below meth c D cA N0 6 0 0 (MQ below (z_Qc D cA N0 (fun v T' F' => ∃ r : Int32, v = some (.int r) ∧ T = T' ∧ F = F' ∧ Post r)) args s 0 0 (fun q => N0 ≤ q)) 0 [(0, .ref a0), (1, .int p1), (2, .int p2)] [] T F
  refine zr_aload_n C 0 dX4_swap_0 rfl rfl ?_
  refine zr_iload_n C 1 dX4_swap_1 rfl rfl ?_
  obtain ⟨hT1, h⟩ := h
  refine zr_callV (As := [.int p1]) (r := (RX4, TX4, 4)) C (k_X4_bookingAt0 h) ok_X4_199 zq_377 zq_5 hT1 (by decide) rfl rfl ⟨by decide, (Nat.le_of_ble_eq_true rfl)⟩ ⟨(Nat.le_of_ble_eq_true rfl), (Nat.le_of_ble_eq_true rfl)⟩ (Nat.le_of_ble_eq_true rfl) dX4_swap_2 (fun v3 U4 G5 hq => ?_)
  clear h
  · obtain ⟨r2, rfl, rfl, rfl, h⟩ := hq
    exact h.elim
theorem dX4_ofBooking_0 : decode cX4_ofBooking 0 = .ok (.aload_n 0, 1) := by decide +kernel
theorem dX4_ofBooking_1 : decode cX4_ofBooking 1 = .ok (.iload_n 1, 1) := by decide +kernel
theorem dX4_ofBooking_2 : decode cX4_ofBooking 2 = .ok (.invokevirtual 199, 3) := by decide +kernel
def v_X4_ofBooking (a0 : Nat) (p1 : Int32) (p2 : Int32) (T : zT) (F : zF) (Post : Int32 → Prop) (PX : String → Prop) : Prop :=
  (T a0 = some (7, 4) ∧ (v_X4_bookingAt a0 p1 T F (fun (r2 : Nat) => False) (fun (E9 : String) => PX E9)))
set_option maxRecDepth 100000 in
set_option maxHeartbeats 4000000 in
theorem k_X4_ofBooking {l : Launch} {D : va_G} {cA : Nat → ClassId} {N0 zE : Nat} {a0 : Nat} {p1 : Int32} {p2 : Int32} {T : zT} {F : zF} {Post : Int32 → Prop} {PX : String → Prop} (h : v_X4_ofBooking a0 p1 p2 T F Post PX) : z_Met l D cA N0 zE yX4_ofBooking cX4_ofBooking 4 (some .int) ({ frames := 7, cells := 1, slots := 6, locals := 111 } : Room) [.ref a0, .int p1, .int p2] T F (fun v T' F' => ∃ r : Int32, v = some (.int r) ∧ T = T' ∧ F = F' ∧ Post r) (fun E T' F' => T = T' ∧ F = F' ∧ PX E) := by
  unfold v_X4_ofBooking at h
  refine z_body (by decide) (Nat.le_of_ble_eq_true rfl) ?_
  intro p e s m args below meth c C hxt hnm
  have C : z_C p l s m args meth c RX4 cX4_ofBooking 4 (some .int) D cA N0 zE := C
  show z_w p l e ({ frames := 7, cells := 1, slots := 6, locals := 111 } : Room) s m args below meth c D cA N0 4 0 0 (vx_MQ below (z_Qc D cA N0 (fun v T' F' => ∃ r : Int32, v = some (.int r) ∧ T = T' ∧ F = F' ∧ Post r)) (z_XC D cA N0 (fun E T' F' => T = T' ∧ F = F' ∧ PX E)) args s 1 6 (fun q => N0 ≤ q)) 0 [(0, .ref a0), (1, .int p1), (2, .int p2)] [] T F
  refine zr_aload_n C 0 dX4_ofBooking_0 rfl rfl ?_
  refine zr_iload_n C 1 dX4_ofBooking_1 rfl rfl ?_
  obtain ⟨hT1, h⟩ := h
  refine zr_callVX (As := [.int p1]) (r := (RX4, TX4, 4)) C (k_X4_bookingAt h) ok_X4_199 zq_377 zq_5 hT1 (by decide) rfl rfl ⟨by decide, (Nat.le_of_ble_eq_true rfl)⟩ ⟨(Nat.le_of_ble_eq_true rfl), (Nat.le_of_ble_eq_true rfl)⟩ (Nat.le_of_ble_eq_true rfl) dX4_ofBooking_2 (fun E9 T9 F9 hq => by obtain ⟨rfl, rfl, hq⟩ := hq; exact zr_out C (fun x hx => (hxt x hx).elim) ⟨rfl, rfl, hq⟩ (Nat.le_of_ble_eq_true rfl) (Nat.le_of_ble_eq_true rfl)) (fun v3 U4 G5 hq => ?_)
  clear h
  · obtain ⟨r2, rfl, rfl, rfl, h⟩ := hq
    exact h.elim
set_option maxRecDepth 100000 in
set_option maxHeartbeats 4000000 in
theorem k_X4_ofBooking0 {l : Launch} {D : va_G} {cA : Nat → ClassId} {N0 zE : Nat} {a0 : Nat} {p1 : Int32} {p2 : Int32} {T : zT} {F : zF} {Post : Int32 → Prop} (h : v_X4_ofBooking a0 p1 p2 T F Post (fun _ => False)) : z_Mt l D cA N0 zE yX4_ofBooking cX4_ofBooking 4 (some .int) ({ frames := 2, cells := 0, slots := 0, locals := 41 } : Room) [.ref a0, .int p1, .int p2] T F (fun v T' F' => ∃ r : Int32, v = some (.int r) ∧ T = T' ∧ F = F' ∧ Post r) := by
  unfold v_X4_ofBooking at h
  refine z_bodyT (by decide) (Nat.le_of_ble_eq_true rfl) ?_
  intro p e s m args below meth c C hnm
  have C : z_C p l s m args meth c RX4 cX4_ofBooking 4 (some .int) D cA N0 zE := C
  show z_w p l e ({ frames := 2, cells := 0, slots := 0, locals := 41 } : Room) s m args below meth c D cA N0 4 0 0 (MQ below (z_Qc D cA N0 (fun v T' F' => ∃ r : Int32, v = some (.int r) ∧ T = T' ∧ F = F' ∧ Post r)) args s 0 0 (fun q => N0 ≤ q)) 0 [(0, .ref a0), (1, .int p1), (2, .int p2)] [] T F
  refine zr_aload_n C 0 dX4_ofBooking_0 rfl rfl ?_
  refine zr_iload_n C 1 dX4_ofBooking_1 rfl rfl ?_
  obtain ⟨hT1, h⟩ := h
  refine zr_callV (As := [.int p1]) (r := (RX4, TX4, 4)) C (k_X4_bookingAt0 h) ok_X4_199 zq_377 zq_5 hT1 (by decide) rfl rfl ⟨by decide, (Nat.le_of_ble_eq_true rfl)⟩ ⟨(Nat.le_of_ble_eq_true rfl), (Nat.le_of_ble_eq_true rfl)⟩ (Nat.le_of_ble_eq_true rfl) dX4_ofBooking_2 (fun v3 U4 G5 hq => ?_)
  clear h
  · obtain ⟨r2, rfl, rfl, rfl, h⟩ := hq
    exact h.elim
theorem dX3_beginDay_0 : decode cX3_beginDay 0 = .ok (.aload_n 0, 1) := by decide +kernel
theorem dX3_beginDay_1 : decode cX3_beginDay 1 = .ok (.dup, 1) := by decide +kernel
theorem dX3_beginDay_2 : decode cX3_beginDay 2 = .ok (.getfield 21, 3) := by decide +kernel
theorem dX3_beginDay_5 : decode cX3_beginDay 5 = .ok (.iconst 1, 1) := by decide +kernel
theorem dX3_beginDay_6 : decode cX3_beginDay 6 = .ok (.iadd, 1) := by decide +kernel
theorem dX3_beginDay_7 : decode cX3_beginDay 7 = .ok (.putfield 21, 3) := by decide +kernel
theorem dX3_beginDay_10 : decode cX3_beginDay 10 = .ok (.iconst 0, 1) := by decide +kernel
theorem dX3_beginDay_11 : decode cX3_beginDay 11 = .ok (.istore_n 1, 1) := by decide +kernel
theorem dX3_beginDay_12 : decode cX3_beginDay 12 = .ok (.iload_n 1, 1) := by decide +kernel
theorem dX3_beginDay_13 : decode cX3_beginDay 13 = .ok (.aload_n 0, 1) := by decide +kernel
theorem dX3_beginDay_14 : decode cX3_beginDay 14 = .ok (.getfield 12, 3) := by decide +kernel
theorem dX3_beginDay_20 : decode cX3_beginDay 20 = .ok (.if_icmp .ge 27, 3) := by decide +kernel
theorem dX3_beginDay_47 : decode cX3_beginDay 47 = .ok (.iconst 0, 1) := by decide +kernel
theorem dX3_beginDay_48 : decode cX3_beginDay 48 = .ok (.istore_n 1, 1) := by decide +kernel
theorem dX3_beginDay_49 : decode cX3_beginDay 49 = .ok (.iconst 0, 1) := by decide +kernel
theorem dX3_beginDay_50 : decode cX3_beginDay 50 = .ok (.istore_n 2, 1) := by decide +kernel
theorem dX3_beginDay_51 : decode cX3_beginDay 51 = .ok (.iload_n 2, 1) := by decide +kernel
theorem dX3_beginDay_52 : decode cX3_beginDay 52 = .ok (.aload_n 0, 1) := by decide +kernel
theorem dX3_beginDay_53 : decode cX3_beginDay 53 = .ok (.getfield 12, 3) := by decide +kernel
theorem dX3_beginDay_59 : decode cX3_beginDay 59 = .ok (.if_icmp .ge 53, 3) := by decide +kernel
theorem dX3_beginDay_112 : decode cX3_beginDay 112 = .ok (.iconst 0, 1) := by decide +kernel
theorem dX3_beginDay_113 : decode cX3_beginDay 113 = .ok (.istore_n 2, 1) := by decide +kernel
theorem dX3_beginDay_114 : decode cX3_beginDay 114 = .ok (.iload_n 2, 1) := by decide +kernel
theorem dX3_beginDay_115 : decode cX3_beginDay 115 = .ok (.aload_n 0, 1) := by decide +kernel
theorem dX3_beginDay_116 : decode cX3_beginDay 116 = .ok (.getfield 12, 3) := by decide +kernel
theorem dX3_beginDay_122 : decode cX3_beginDay 122 = .ok (.if_icmp .ge 27, 3) := by decide +kernel
theorem dX3_beginDay_149 : decode cX3_beginDay 149 = .ok (.iload_n 1, 1) := by decide +kernel
theorem dX3_beginDay_150 : decode cX3_beginDay 150 = .ok (.ireturn, 1) := by decide +kernel
theorem dX3_beginDay_125 : decode cX3_beginDay 125 = .ok (.aload_n 0, 1) := by decide +kernel
theorem dX3_beginDay_126 : decode cX3_beginDay 126 = .ok (.getfield 12, 3) := by decide +kernel
theorem dX3_beginDay_129 : decode cX3_beginDay 129 = .ok (.iload_n 2, 1) := by decide +kernel
theorem dX3_beginDay_119 : decode cX3_beginDay 119 = .ok (.invokevirtual 25, 3) := by decide +kernel
theorem dX3_beginDay_62 : decode cX3_beginDay 62 = .ok (.aload_n 0, 1) := by decide +kernel
theorem dX3_beginDay_63 : decode cX3_beginDay 63 = .ok (.getfield 12, 3) := by decide +kernel
theorem dX3_beginDay_66 : decode cX3_beginDay 66 = .ok (.iload_n 2, 1) := by decide +kernel
theorem dX3_beginDay_56 : decode cX3_beginDay 56 = .ok (.invokevirtual 25, 3) := by decide +kernel
theorem dX3_beginDay_23 : decode cX3_beginDay 23 = .ok (.aload_n 0, 1) := by decide +kernel
theorem dX3_beginDay_24 : decode cX3_beginDay 24 = .ok (.getfield 12, 3) := by decide +kernel
theorem dX3_beginDay_27 : decode cX3_beginDay 27 = .ok (.iload_n 1, 1) := by decide +kernel
theorem dX3_beginDay_17 : decode cX3_beginDay 17 = .ok (.invokevirtual 25, 3) := by decide +kernel
def v_X3_beginDay (a0 : Nat) (T : zT) (F : zF) (Post : Int32 → zF → Prop) : Prop :=
  (T a0 = some (6, 3) ∧ ∃ x3 : Int32, F a0 2 = .int x3 ∧ ∃ x5 : Nat, (zu F a0 2 (.int (x3 + 1))) a0 0 = .ref x5 ∧ T x5 = some (2, 3) ∧ (v_Jx4a65c_size_8abf5 x5 T (zu F a0 2 (.int (x3 + 1))) (fun (r7 : Int32) => ((r7 ≤ (0 : Int32) → (v_Jx4a65c_size_8abf5 x5 T (zu F a0 2 (.int (x3 + 1))) (fun (r8 : Int32) => ((r8 ≤ (0 : Int32) → (v_Jx4a65c_size_8abf5 x5 T (zu F a0 2 (.int (x3 + 1))) (fun (r9 : Int32) => ((r9 ≤ (0 : Int32) → Post 0 (zu F a0 2 (.int (x3 + 1)))) ∧ (¬ r9 ≤ (0 : Int32) → False))))) ∧ (¬ r8 ≤ (0 : Int32) → False))))) ∧ (¬ r7 ≤ (0 : Int32) → False)))))
set_option maxRecDepth 100000 in
set_option maxHeartbeats 4000000 in
theorem k_X3_beginDay {l : Launch} {D : va_G} {cA : Nat → ClassId} {N0 zE : Nat} {a0 : Nat} {T : zT} {F : zF} {Post : Int32 → zF → Prop} (h : v_X3_beginDay a0 T F Post) : z_Mt l D cA N0 zE yX3_beginDay cX3_beginDay 4 (some .int) ({ frames := 1, cells := 0, slots := 0, locals := 20 } : Room) [.ref a0] T F (fun v T' F' => ∃ r : Int32, v = some (.int r) ∧ T = T' ∧ Post r F') := by
  unfold v_X3_beginDay at h
  refine z_bodyT (by decide) (Nat.le_of_ble_eq_true rfl) ?_
  intro p e s m args below meth c C hnm
  have C : z_C p l s m args meth c RX3 cX3_beginDay 4 (some .int) D cA N0 zE := C
  show z_w p l e ({ frames := 1, cells := 0, slots := 0, locals := 20 } : Room) s m args below meth c D cA N0 4 0 0 (MQ below (z_Qc D cA N0 (fun v T' F' => ∃ r : Int32, v = some (.int r) ∧ T = T' ∧ Post r F')) args s 0 0 (fun q => N0 ≤ q)) 0 [(0, .ref a0)] [] T F
  refine zr_aload_n C 0 dX3_beginDay_0 rfl rfl ?_
  refine zr_dup C dX3_beginDay_1 rfl ?_
  obtain ⟨hT1, x3, hv2, h⟩ := h
  refine zr_get C fl_X3_21 hT1 hv2 dX3_beginDay_2 ?_
  refine zr_iconst C 1 dX3_beginDay_5 (by decide) ?_
  refine zr_iadd C dX3_beginDay_6 ?_
  refine zr_put C fl_X3_21 hT1 rfl rfl dX3_beginDay_7 ?_
  refine zr_iconst C 0 dX3_beginDay_10 (by decide) ?_
  refine zr_istore_n C [(1, .int 0), (0, .ref a0)] dX3_beginDay_11 rfl (by decide) rfl ?_
  refine zr_iload_n C 0 dX3_beginDay_12 rfl rfl ?_
  refine zr_aload_n C 1 dX3_beginDay_13 rfl rfl ?_
  obtain ⟨x5, hv4, h⟩ := h
  refine zr_get C fl_X3_12 hT1 hv4 dX3_beginDay_14 ?_
  obtain ⟨hT6, h⟩ := h
  refine zr_callV (As := []) (r := (RJx4a65c, TJx4a65c, 3)) C (k_Jx4a65c_size_8abf5 h) ok_X3_25 zq_140 zq_141 hT6 (by decide) rfl rfl ⟨by decide, (Nat.le_of_ble_eq_true rfl)⟩ ⟨(Nat.le_of_ble_eq_true rfl), (Nat.le_of_ble_eq_true rfl)⟩ (Nat.le_of_ble_eq_true rfl) dX3_beginDay_17 (fun v16 U17 G18 hq => ?_)
  clear h
  · obtain ⟨r7, rfl, rfl, rfl, h⟩ := hq
    obtain ⟨h1, h2⟩ := h
    refine zr_icmp_ge C 47 dX3_beginDay_20 (by decide) (fun hc => ?_) (fun hc => ?_)
    · have h := h1 hc
      clear h1 h2
      refine zr_iconst C 0 dX3_beginDay_47 (by decide) ?_
      refine zr_istore_n C [(1, .int 0), (0, .ref a0)] dX3_beginDay_48 rfl (by decide) rfl ?_
      refine zr_iconst C 0 dX3_beginDay_49 (by decide) ?_
      refine zr_istore_n C [(2, .int 0), (1, .int 0), (0, .ref a0)] dX3_beginDay_50 rfl (by decide) rfl ?_
      refine zr_iload_n C 0 dX3_beginDay_51 rfl rfl ?_
      refine zr_aload_n C 2 dX3_beginDay_52 rfl rfl ?_
      refine zr_get C fl_X3_12 hT1 hv4 dX3_beginDay_53 ?_
      refine zr_callV (As := []) (r := (RJx4a65c, TJx4a65c, 3)) C (k_Jx4a65c_size_8abf5 h) ok_X3_25 zq_140 zq_141 hT6 (by decide) rfl rfl ⟨by decide, (Nat.le_of_ble_eq_true rfl)⟩ ⟨(Nat.le_of_ble_eq_true rfl), (Nat.le_of_ble_eq_true rfl)⟩ (Nat.le_of_ble_eq_true rfl) dX3_beginDay_56 (fun v13 U14 G15 hq => ?_)
      clear h
      · obtain ⟨r8, rfl, rfl, rfl, h⟩ := hq
        obtain ⟨h1, h2⟩ := h
        refine zr_icmp_ge C 112 dX3_beginDay_59 (by decide) (fun hc => ?_) (fun hc => ?_)
        · have h := h1 hc
          clear h1 h2
          refine zr_iconst C 0 dX3_beginDay_112 (by decide) ?_
          refine zr_istore_n C [(2, .int 0), (1, .int 0), (0, .ref a0)] dX3_beginDay_113 rfl (by decide) rfl ?_
          refine zr_iload_n C 0 dX3_beginDay_114 rfl rfl ?_
          refine zr_aload_n C 2 dX3_beginDay_115 rfl rfl ?_
          refine zr_get C fl_X3_12 hT1 hv4 dX3_beginDay_116 ?_
          refine zr_callV (As := []) (r := (RJx4a65c, TJx4a65c, 3)) C (k_Jx4a65c_size_8abf5 h) ok_X3_25 zq_140 zq_141 hT6 (by decide) rfl rfl ⟨by decide, (Nat.le_of_ble_eq_true rfl)⟩ ⟨(Nat.le_of_ble_eq_true rfl), (Nat.le_of_ble_eq_true rfl)⟩ (Nat.le_of_ble_eq_true rfl) dX3_beginDay_119 (fun v10 U11 G12 hq => ?_)
          clear h
          · obtain ⟨r9, rfl, rfl, rfl, h⟩ := hq
            obtain ⟨h1, h2⟩ := h
            refine zr_icmp_ge C 149 dX3_beginDay_122 (by decide) (fun hc => ?_) (fun hc => ?_)
            · have h := h1 hc
              clear h1 h2
              refine zr_iload_n C 1 dX3_beginDay_149 rfl rfl ?_
              exact zr_iret C rfl ⟨_, rfl, rfl, h⟩ (Nat.le_of_ble_eq_true rfl) (Nat.le_of_ble_eq_true rfl) dX3_beginDay_150
            · have h := h2 hc
              clear h1 h2
              refine zr_aload_n C 2 dX3_beginDay_125 rfl rfl ?_
              refine zr_get C fl_X3_12 hT1 hv4 dX3_beginDay_126 ?_
              refine zr_iload_n C 0 dX3_beginDay_129 rfl rfl ?_
              exact h.elim
        · have h := h2 hc
          clear h1 h2
          refine zr_aload_n C 2 dX3_beginDay_62 rfl rfl ?_
          refine zr_get C fl_X3_12 hT1 hv4 dX3_beginDay_63 ?_
          refine zr_iload_n C 0 dX3_beginDay_66 rfl rfl ?_
          exact h.elim
    · have h := h2 hc
      clear h1 h2
      refine zr_aload_n C 1 dX3_beginDay_23 rfl rfl ?_
      refine zr_get C fl_X3_12 hT1 hv4 dX3_beginDay_24 ?_
      refine zr_iload_n C 0 dX3_beginDay_27 rfl rfl ?_
      exact h.elim
theorem dX4_day_0 : decode cX4_day 0 = .ok (.aload_n 0, 1) := by decide +kernel
theorem dX4_day_1 : decode cX4_day 1 = .ok (.getfield 23, 3) := by decide +kernel
theorem dX4_day_4 : decode cX4_day 4 = .ok (.getfield 52, 3) := by decide +kernel
theorem dX4_day_7 : decode cX4_day 7 = .ok (.bipush 99, 2) := by decide +kernel
theorem dX4_day_9 : decode cX4_day 9 = .ok (.if_icmp .lt 14, 3) := by decide +kernel
theorem dX4_day_23 : decode cX4_day 23 = .ok (.aload_n 0, 1) := by decide +kernel
theorem dX4_day_24 : decode cX4_day 24 = .ok (.getfield 23, 3) := by decide +kernel
theorem dX4_day_30 : decode cX4_day 30 = .ok (.ireturn, 1) := by decide +kernel
theorem dX4_day_27 : decode cX4_day 27 = .ok (.invokevirtual 264, 3) := by decide +kernel
theorem dX4_day_12 : decode cX4_day 12 = .ok (.new 34, 3) := by decide +kernel
theorem dX4_day_15 : decode cX4_day 15 = .ok (.dup, 1) := by decide +kernel
theorem dX4_day_16 : decode cX4_day 16 = .ok (.ldc_w 262, 3) := by decide +kernel
theorem dX4_day_19 : decode cX4_day 19 = .ok (.invokespecial 38, 3) := by decide +kernel
theorem dX4_day_22 : decode cX4_day 22 = .ok (.athrow, 1) := by decide +kernel
def v_X4_day (a0 : Nat) (T : zT) (F : zF) (Post : Int32 → zF → Prop) (PX : String → zF → Prop) : Prop :=
  (T a0 = some (7, 4) ∧ ∃ x3 : Nat, F a0 2 = .ref x3 ∧ T x3 = some (6, 3) ∧ ∃ x6 : Int32, F x3 2 = .int x6 ∧ ((x6 < 99 → (v_X3_beginDay x3 T F (fun (r7 : Int32) (F8 : zF) => Post r7 F8))) ∧ (¬ x6 < 99 → PX "java/lang/IllegalStateException" F)))
set_option maxRecDepth 100000 in
set_option maxHeartbeats 4000000 in
theorem k_X4_day {l : Launch} {D : va_G} {cA : Nat → ClassId} {N0 zE : Nat} {a0 : Nat} {T : zT} {F : zF} {Post : Int32 → zF → Prop} {PX : String → zF → Prop} (h : v_X4_day a0 T F Post PX) : z_Met l D cA N0 zE yX4_day cX4_day 1 (some .int) ({ frames := 6, cells := 1, slots := 6, locals := 90 } : Room) [.ref a0] T F (fun v T' F' => ∃ r : Int32, v = some (.int r) ∧ T = T' ∧ Post r F') (fun E T' F' => T = T' ∧ PX E F') := by
  unfold v_X4_day at h
  refine z_body (by decide) (Nat.le_of_ble_eq_true rfl) ?_
  intro p e s m args below meth c C hxt hnm
  have C : z_C p l s m args meth c RX4 cX4_day 1 (some .int) D cA N0 zE := C
  show z_w p l e ({ frames := 6, cells := 1, slots := 6, locals := 90 } : Room) s m args below meth c D cA N0 1 0 0 (vx_MQ below (z_Qc D cA N0 (fun v T' F' => ∃ r : Int32, v = some (.int r) ∧ T = T' ∧ Post r F')) (z_XC D cA N0 (fun E T' F' => T = T' ∧ PX E F')) args s 1 6 (fun q => N0 ≤ q)) 0 [(0, .ref a0)] [] T F
  refine zr_aload_n C 0 dX4_day_0 rfl rfl ?_
  obtain ⟨hT1, x3, hv2, h⟩ := h
  refine zr_get C fl_X4_23 hT1 hv2 dX4_day_1 ?_
  obtain ⟨hT4, x6, hv5, h⟩ := h
  refine zr_get C fl_X4_52 hT4 hv5 dX4_day_4 ?_
  refine zr_bipush C 99 dX4_day_7 (by decide) ?_
  obtain ⟨h1, h2⟩ := h
  refine zr_icmp_lt C 23 dX4_day_9 (by decide) (fun hc => ?_) (fun hc => ?_)
  · have h := h1 hc
    clear h1 h2
    refine zr_aload_n C 0 dX4_day_23 rfl rfl ?_
    refine zr_get C fl_X4_23 hT1 hv2 dX4_day_24 ?_
    refine zr_callV (As := []) (r := (RX3, TX3, 3)) C (k_X3_beginDay h) ok_X4_264 zq_565 zq_566 hT4 (by decide) rfl rfl ⟨by decide, (Nat.le_of_ble_eq_true rfl)⟩ ⟨(Nat.le_of_ble_eq_true rfl), (Nat.le_of_ble_eq_true rfl)⟩ (Nat.le_of_ble_eq_true rfl) dX4_day_27 (fun v9 U10 G11 hq => ?_)
    clear h
    · obtain ⟨r7, rfl, rfl, h⟩ := hq
      exact zr_X (zr_iret C rfl ⟨_, rfl, rfl, h⟩ (Nat.le_of_ble_eq_true rfl) (Nat.le_of_ble_eq_true rfl) dX4_day_30)
  · have h := h2 hc
    clear h1 h2
    exact zr_throwW C th_X4_34_38_262 (fun x hx => (hxt x hx).elim) ⟨rfl, h⟩ dX4_day_12 dX4_day_15 dX4_day_16 dX4_day_19 dX4_day_22 (by decide) (Nat.le_of_ble_eq_true rfl) ⟨(Nat.le_of_ble_eq_true rfl), (Nat.le_of_ble_eq_true rfl)⟩ ⟨(Nat.le_of_ble_eq_true rfl), (Nat.le_of_ble_eq_true rfl)⟩
set_option maxRecDepth 100000 in
set_option maxHeartbeats 4000000 in
theorem k_X4_day0 {l : Launch} {D : va_G} {cA : Nat → ClassId} {N0 zE : Nat} {a0 : Nat} {T : zT} {F : zF} {Post : Int32 → zF → Prop} (h : v_X4_day a0 T F Post (fun _ _ => False)) : z_Mt l D cA N0 zE yX4_day cX4_day 1 (some .int) ({ frames := 2, cells := 0, slots := 0, locals := 43 } : Room) [.ref a0] T F (fun v T' F' => ∃ r : Int32, v = some (.int r) ∧ T = T' ∧ Post r F') := by
  unfold v_X4_day at h
  refine z_bodyT (by decide) (Nat.le_of_ble_eq_true rfl) ?_
  intro p e s m args below meth c C hnm
  have C : z_C p l s m args meth c RX4 cX4_day 1 (some .int) D cA N0 zE := C
  show z_w p l e ({ frames := 2, cells := 0, slots := 0, locals := 43 } : Room) s m args below meth c D cA N0 1 0 0 (MQ below (z_Qc D cA N0 (fun v T' F' => ∃ r : Int32, v = some (.int r) ∧ T = T' ∧ Post r F')) args s 0 0 (fun q => N0 ≤ q)) 0 [(0, .ref a0)] [] T F
  refine zr_aload_n C 0 dX4_day_0 rfl rfl ?_
  obtain ⟨hT1, x3, hv2, h⟩ := h
  refine zr_get C fl_X4_23 hT1 hv2 dX4_day_1 ?_
  obtain ⟨hT4, x6, hv5, h⟩ := h
  refine zr_get C fl_X4_52 hT4 hv5 dX4_day_4 ?_
  refine zr_bipush C 99 dX4_day_7 (by decide) ?_
  obtain ⟨h1, h2⟩ := h
  refine zr_icmp_lt C 23 dX4_day_9 (by decide) (fun hc => ?_) (fun hc => ?_)
  · have h := h1 hc
    clear h1 h2
    refine zr_aload_n C 0 dX4_day_23 rfl rfl ?_
    refine zr_get C fl_X4_23 hT1 hv2 dX4_day_24 ?_
    refine zr_callV (As := []) (r := (RX3, TX3, 3)) C (k_X3_beginDay h) ok_X4_264 zq_565 zq_566 hT4 (by decide) rfl rfl ⟨by decide, (Nat.le_of_ble_eq_true rfl)⟩ ⟨(Nat.le_of_ble_eq_true rfl), (Nat.le_of_ble_eq_true rfl)⟩ (Nat.le_of_ble_eq_true rfl) dX4_day_27 (fun v9 U10 G11 hq => ?_)
    clear h
    · obtain ⟨r7, rfl, rfl, h⟩ := hq
      exact zr_iret C rfl ⟨_, rfl, rfl, h⟩ (Nat.le_of_ble_eq_true rfl) (Nat.le_of_ble_eq_true rfl) dX4_day_30
  · have h := h2 hc
    clear h1 h2
    exact h.elim
theorem dX4_isLand_0 : decode cX4_isLand 0 = .ok (.iload_n 0, 1) := by decide +kernel
theorem dX4_isLand_1 : decode cX4_isLand 1 = .ok (.ifCond .lt 12, 3) := by decide +kernel
theorem dX4_isLand_13 : decode cX4_isLand 13 = .ok (.iconst 0, 1) := by decide +kernel
theorem dX4_isLand_14 : decode cX4_isLand 14 = .ok (.ireturn, 1) := by decide +kernel
theorem dX4_isLand_4 : decode cX4_isLand 4 = .ok (.iload_n 0, 1) := by decide +kernel
theorem dX4_isLand_5 : decode cX4_isLand 5 = .ok (.iconst 4, 1) := by decide +kernel
theorem dX4_isLand_6 : decode cX4_isLand 6 = .ok (.if_icmp .ge 7, 3) := by decide +kernel
theorem dX4_isLand_9 : decode cX4_isLand 9 = .ok (.iconst 1, 1) := by decide +kernel
theorem dX4_isLand_10 : decode cX4_isLand 10 = .ok (.goto 4, 3) := by decide +kernel
def v_X4_isLand (p0 : Int32) (T : zT) (F : zF) (Post : Int32 → Prop) : Prop :=
  ((p0 < 0 → Post 0) ∧ (¬ p0 < 0 → ((4 ≤ p0 → Post 0) ∧ (¬ 4 ≤ p0 → Post 1))))
set_option maxRecDepth 100000 in
set_option maxHeartbeats 4000000 in
theorem k_X4_isLand {l : Launch} {D : va_G} {cA : Nat → ClassId} {N0 zE : Nat} {p0 : Int32} {T : zT} {F : zF} {Post : Int32 → Prop} (h : v_X4_isLand p0 T F Post) : z_Mt l D cA N0 zE yX4_isLand cX4_isLand 1 (some .boolean) ({ frames := 0, cells := 0, slots := 0, locals := 0 } : Room) [.int p0] T F (fun v T' F' => ∃ r : Int32, v = some (.int r) ∧ T = T' ∧ F = F' ∧ Post r) := by
  unfold v_X4_isLand at h
  refine z_bodyT (by decide) (Nat.le_of_ble_eq_true rfl) ?_
  intro p e s m args below meth c C hnm
  have C : z_C p l s m args meth c RX4 cX4_isLand 1 (some .boolean) D cA N0 zE := C
  show z_w p l e ({ frames := 0, cells := 0, slots := 0, locals := 0 } : Room) s m args below meth c D cA N0 1 0 0 (MQ below (z_Qc D cA N0 (fun v T' F' => ∃ r : Int32, v = some (.int r) ∧ T = T' ∧ F = F' ∧ Post r)) args s 0 0 (fun q => N0 ≤ q)) 0 [(0, .int p0)] [] T F
  refine zr_iload_n C 0 dX4_isLand_0 rfl rfl ?_
  obtain ⟨h1, h2⟩ := h
  refine zr_if_lt C 13 dX4_isLand_1 (by decide) (fun hc => ?_) (fun hc => ?_)
  · have h := h1 hc
    clear h1 h2
    refine zr_iconst C 0 dX4_isLand_13 (by decide) ?_
    exact zr_zret C rfl (Or.inl rfl) ⟨_, rfl, rfl, rfl, h⟩ (Nat.le_of_ble_eq_true rfl) (Nat.le_of_ble_eq_true rfl) dX4_isLand_14
  · have h := h2 hc
    clear h1 h2
    refine zr_iload_n C 0 dX4_isLand_4 rfl rfl ?_
    refine zr_iconst C 4 dX4_isLand_5 (by decide) ?_
    obtain ⟨h1, h2⟩ := h
    refine zr_icmp_ge C 13 dX4_isLand_6 (by decide) (fun hc => ?_) (fun hc => ?_)
    · have h := h1 hc
      clear h1 h2
      refine zr_iconst C 0 dX4_isLand_13 (by decide) ?_
      exact zr_zret C rfl (Or.inl rfl) ⟨_, rfl, rfl, rfl, h⟩ (Nat.le_of_ble_eq_true rfl) (Nat.le_of_ble_eq_true rfl) dX4_isLand_14
    · have h := h2 hc
      clear h1 h2
      refine zr_iconst C 1 dX4_isLand_9 (by decide) ?_
      refine zr_goto C 14 dX4_isLand_10 (by decide) ?_
      exact zr_zret C rfl (Or.inr rfl) ⟨_, rfl, rfl, rfl, h⟩ (Nat.le_of_ble_eq_true rfl) (Nat.le_of_ble_eq_true rfl) dX4_isLand_14
theorem dX4_needLand_0 : decode cX4_needLand 0 = .ok (.iload_n 0, 1) := by decide +kernel
theorem dX4_needLand_4 : decode cX4_needLand 4 = .ok (.ifCond .ne 14, 3) := by decide +kernel
theorem dX4_needLand_18 : decode cX4_needLand 18 = .ok (.return_, 1) := by decide +kernel
theorem dX4_needLand_7 : decode cX4_needLand 7 = .ok (.new 307, 3) := by decide +kernel
theorem dX4_needLand_10 : decode cX4_needLand 10 = .ok (.dup, 1) := by decide +kernel
theorem dX4_needLand_11 : decode cX4_needLand 11 = .ok (.ldc_w 369, 3) := by decide +kernel
theorem dX4_needLand_14 : decode cX4_needLand 14 = .ok (.invokespecial 309, 3) := by decide +kernel
theorem dX4_needLand_17 : decode cX4_needLand 17 = .ok (.athrow, 1) := by decide +kernel
theorem dX4_needLand_1 : decode cX4_needLand 1 = .ok (.invokestatic 354, 3) := by decide +kernel
def v_X4_needLand (p0 : Int32) (T : zT) (F : zF) (Post : Prop) (PX : String → Prop) : Prop :=
  (v_X4_isLand p0 T F (fun (r1 : Int32) => ((¬ r1 = 0 → Post) ∧ (r1 = 0 → PX "java/lang/IndexOutOfBoundsException"))))
set_option maxRecDepth 100000 in
set_option maxHeartbeats 4000000 in
theorem k_X4_needLand {l : Launch} {D : va_G} {cA : Nat → ClassId} {N0 zE : Nat} {p0 : Int32} {T : zT} {F : zF} {Post : Prop} {PX : String → Prop} (h : v_X4_needLand p0 T F Post PX) : z_Met l D cA N0 zE yX4_needLand cX4_needLand 1 none ({ frames := 6, cells := 1, slots := 6, locals := 90 } : Room) [.int p0] T F (fun v T' F' => v = none ∧ T = T' ∧ F = F' ∧ Post) (fun E T' F' => T = T' ∧ F = F' ∧ PX E) := by
  unfold v_X4_needLand at h
  refine z_body (by decide) (Nat.le_of_ble_eq_true rfl) ?_
  intro p e s m args below meth c C hxt hnm
  have C : z_C p l s m args meth c RX4 cX4_needLand 1 none D cA N0 zE := C
  show z_w p l e ({ frames := 6, cells := 1, slots := 6, locals := 90 } : Room) s m args below meth c D cA N0 1 0 0 (vx_MQ below (z_Qc D cA N0 (fun v T' F' => v = none ∧ T = T' ∧ F = F' ∧ Post)) (z_XC D cA N0 (fun E T' F' => T = T' ∧ F = F' ∧ PX E)) args s 1 6 (fun q => N0 ≤ q)) 0 [(0, .int p0)] [] T F
  refine zr_iload_n C 0 dX4_needLand_0 rfl rfl ?_
  refine zr_callS (As := [.int p0]) C (k_X4_isLand h) ok_X4_354 zq_348 rfl ⟨by decide, (Nat.le_of_ble_eq_true rfl)⟩ ⟨(Nat.le_of_ble_eq_true rfl), (Nat.le_of_ble_eq_true rfl)⟩ (Nat.le_of_ble_eq_true rfl) dX4_needLand_1 (fun v2 U3 G4 hq => ?_)
  clear h
  · obtain ⟨r1, rfl, rfl, rfl, h⟩ := hq
    obtain ⟨h1, h2⟩ := h
    refine zr_if_ne C 18 dX4_needLand_4 (by decide) (fun hc => ?_) (fun hc => ?_)
    · have h := h1 hc
      clear h1 h2
      exact zr_X (zr_vret C rfl ⟨rfl, rfl, rfl, h⟩ (Nat.le_of_ble_eq_true rfl) (Nat.le_of_ble_eq_true rfl) dX4_needLand_18)
    · have h := h2 hc
      clear h1 h2
      exact zr_throwW C th_X4_307_309_369 (fun x hx => (hxt x hx).elim) ⟨rfl, rfl, h⟩ dX4_needLand_7 dX4_needLand_10 dX4_needLand_11 dX4_needLand_14 dX4_needLand_17 (by decide) (Nat.le_of_ble_eq_true rfl) ⟨(Nat.le_of_ble_eq_true rfl), (Nat.le_of_ble_eq_true rfl)⟩ ⟨(Nat.le_of_ble_eq_true rfl), (Nat.le_of_ble_eq_true rfl)⟩
set_option maxRecDepth 100000 in
set_option maxHeartbeats 4000000 in
theorem k_X4_needLand0 {l : Launch} {D : va_G} {cA : Nat → ClassId} {N0 zE : Nat} {p0 : Int32} {T : zT} {F : zF} {Post : Prop} (h : v_X4_needLand p0 T F Post (fun _ => False)) : z_Mt l D cA N0 zE yX4_needLand cX4_needLand 1 none ({ frames := 1, cells := 0, slots := 0, locals := 20 } : Room) [.int p0] T F (fun v T' F' => v = none ∧ T = T' ∧ F = F' ∧ Post) := by
  unfold v_X4_needLand at h
  refine z_bodyT (by decide) (Nat.le_of_ble_eq_true rfl) ?_
  intro p e s m args below meth c C hnm
  have C : z_C p l s m args meth c RX4 cX4_needLand 1 none D cA N0 zE := C
  show z_w p l e ({ frames := 1, cells := 0, slots := 0, locals := 20 } : Room) s m args below meth c D cA N0 1 0 0 (MQ below (z_Qc D cA N0 (fun v T' F' => v = none ∧ T = T' ∧ F = F' ∧ Post)) args s 0 0 (fun q => N0 ≤ q)) 0 [(0, .int p0)] [] T F
  refine zr_iload_n C 0 dX4_needLand_0 rfl rfl ?_
  refine zr_callS (As := [.int p0]) C (k_X4_isLand h) ok_X4_354 zq_348 rfl ⟨by decide, (Nat.le_of_ble_eq_true rfl)⟩ ⟨(Nat.le_of_ble_eq_true rfl), (Nat.le_of_ble_eq_true rfl)⟩ (Nat.le_of_ble_eq_true rfl) dX4_needLand_1 (fun v2 U3 G4 hq => ?_)
  clear h
  · obtain ⟨r1, rfl, rfl, rfl, h⟩ := hq
    obtain ⟨h1, h2⟩ := h
    refine zr_if_ne C 18 dX4_needLand_4 (by decide) (fun hc => ?_) (fun hc => ?_)
    · have h := h1 hc
      clear h1 h2
      exact zr_vret C rfl ⟨rfl, rfl, rfl, h⟩ (Nat.le_of_ble_eq_true rfl) (Nat.le_of_ble_eq_true rfl) dX4_needLand_18
    · have h := h2 hc
      clear h1 h2
      exact h.elim
theorem dX4_isMedium_0 : decode cX4_isMedium 0 = .ok (.iload_n 0, 1) := by decide +kernel
theorem dX4_isMedium_1 : decode cX4_isMedium 1 = .ok (.ifCond .lt 12, 3) := by decide +kernel
theorem dX4_isMedium_13 : decode cX4_isMedium 13 = .ok (.iconst 0, 1) := by decide +kernel
theorem dX4_isMedium_14 : decode cX4_isMedium 14 = .ok (.ireturn, 1) := by decide +kernel
theorem dX4_isMedium_4 : decode cX4_isMedium 4 = .ok (.iload_n 0, 1) := by decide +kernel
theorem dX4_isMedium_5 : decode cX4_isMedium 5 = .ok (.iconst 4, 1) := by decide +kernel
theorem dX4_isMedium_6 : decode cX4_isMedium 6 = .ok (.if_icmp .ge 7, 3) := by decide +kernel
theorem dX4_isMedium_9 : decode cX4_isMedium 9 = .ok (.iconst 1, 1) := by decide +kernel
theorem dX4_isMedium_10 : decode cX4_isMedium 10 = .ok (.goto 4, 3) := by decide +kernel
def v_X4_isMedium (p0 : Int32) (T : zT) (F : zF) (Post : Int32 → Prop) : Prop :=
  ((p0 < 0 → Post 0) ∧ (¬ p0 < 0 → ((4 ≤ p0 → Post 0) ∧ (¬ 4 ≤ p0 → Post 1))))
set_option maxRecDepth 100000 in
set_option maxHeartbeats 4000000 in
theorem k_X4_isMedium {l : Launch} {D : va_G} {cA : Nat → ClassId} {N0 zE : Nat} {p0 : Int32} {T : zT} {F : zF} {Post : Int32 → Prop} (h : v_X4_isMedium p0 T F Post) : z_Mt l D cA N0 zE yX4_isMedium cX4_isMedium 1 (some .boolean) ({ frames := 0, cells := 0, slots := 0, locals := 0 } : Room) [.int p0] T F (fun v T' F' => ∃ r : Int32, v = some (.int r) ∧ T = T' ∧ F = F' ∧ Post r) := by
  unfold v_X4_isMedium at h
  refine z_bodyT (by decide) (Nat.le_of_ble_eq_true rfl) ?_
  intro p e s m args below meth c C hnm
  have C : z_C p l s m args meth c RX4 cX4_isMedium 1 (some .boolean) D cA N0 zE := C
  show z_w p l e ({ frames := 0, cells := 0, slots := 0, locals := 0 } : Room) s m args below meth c D cA N0 1 0 0 (MQ below (z_Qc D cA N0 (fun v T' F' => ∃ r : Int32, v = some (.int r) ∧ T = T' ∧ F = F' ∧ Post r)) args s 0 0 (fun q => N0 ≤ q)) 0 [(0, .int p0)] [] T F
  refine zr_iload_n C 0 dX4_isMedium_0 rfl rfl ?_
  obtain ⟨h1, h2⟩ := h
  refine zr_if_lt C 13 dX4_isMedium_1 (by decide) (fun hc => ?_) (fun hc => ?_)
  · have h := h1 hc
    clear h1 h2
    refine zr_iconst C 0 dX4_isMedium_13 (by decide) ?_
    exact zr_zret C rfl (Or.inl rfl) ⟨_, rfl, rfl, rfl, h⟩ (Nat.le_of_ble_eq_true rfl) (Nat.le_of_ble_eq_true rfl) dX4_isMedium_14
  · have h := h2 hc
    clear h1 h2
    refine zr_iload_n C 0 dX4_isMedium_4 rfl rfl ?_
    refine zr_iconst C 4 dX4_isMedium_5 (by decide) ?_
    obtain ⟨h1, h2⟩ := h
    refine zr_icmp_ge C 13 dX4_isMedium_6 (by decide) (fun hc => ?_) (fun hc => ?_)
    · have h := h1 hc
      clear h1 h2
      refine zr_iconst C 0 dX4_isMedium_13 (by decide) ?_
      exact zr_zret C rfl (Or.inl rfl) ⟨_, rfl, rfl, rfl, h⟩ (Nat.le_of_ble_eq_true rfl) (Nat.le_of_ble_eq_true rfl) dX4_isMedium_14
    · have h := h2 hc
      clear h1 h2
      refine zr_iconst C 1 dX4_isMedium_9 (by decide) ?_
      refine zr_goto C 14 dX4_isMedium_10 (by decide) ?_
      exact zr_zret C rfl (Or.inr rfl) ⟨_, rfl, rfl, rfl, h⟩ (Nat.le_of_ble_eq_true rfl) (Nat.le_of_ble_eq_true rfl) dX4_isMedium_14
theorem dX4_needMedium_0 : decode cX4_needMedium 0 = .ok (.iload_n 0, 1) := by decide +kernel
theorem dX4_needMedium_4 : decode cX4_needMedium 4 = .ok (.ifCond .ne 14, 3) := by decide +kernel
theorem dX4_needMedium_18 : decode cX4_needMedium 18 = .ok (.return_, 1) := by decide +kernel
theorem dX4_needMedium_7 : decode cX4_needMedium 7 = .ok (.new 307, 3) := by decide +kernel
theorem dX4_needMedium_10 : decode cX4_needMedium 10 = .ok (.dup, 1) := by decide +kernel
theorem dX4_needMedium_11 : decode cX4_needMedium 11 = .ok (.ldc_w 371, 3) := by decide +kernel
theorem dX4_needMedium_14 : decode cX4_needMedium 14 = .ok (.invokespecial 309, 3) := by decide +kernel
theorem dX4_needMedium_17 : decode cX4_needMedium 17 = .ok (.athrow, 1) := by decide +kernel
theorem dX4_needMedium_1 : decode cX4_needMedium 1 = .ok (.invokestatic 351, 3) := by decide +kernel
def v_X4_needMedium (p0 : Int32) (T : zT) (F : zF) (Post : Prop) (PX : String → Prop) : Prop :=
  (v_X4_isMedium p0 T F (fun (r1 : Int32) => ((¬ r1 = 0 → Post) ∧ (r1 = 0 → PX "java/lang/IndexOutOfBoundsException"))))
set_option maxRecDepth 100000 in
set_option maxHeartbeats 4000000 in
theorem k_X4_needMedium {l : Launch} {D : va_G} {cA : Nat → ClassId} {N0 zE : Nat} {p0 : Int32} {T : zT} {F : zF} {Post : Prop} {PX : String → Prop} (h : v_X4_needMedium p0 T F Post PX) : z_Met l D cA N0 zE yX4_needMedium cX4_needMedium 1 none ({ frames := 6, cells := 1, slots := 6, locals := 90 } : Room) [.int p0] T F (fun v T' F' => v = none ∧ T = T' ∧ F = F' ∧ Post) (fun E T' F' => T = T' ∧ F = F' ∧ PX E) := by
  unfold v_X4_needMedium at h
  refine z_body (by decide) (Nat.le_of_ble_eq_true rfl) ?_
  intro p e s m args below meth c C hxt hnm
  have C : z_C p l s m args meth c RX4 cX4_needMedium 1 none D cA N0 zE := C
  show z_w p l e ({ frames := 6, cells := 1, slots := 6, locals := 90 } : Room) s m args below meth c D cA N0 1 0 0 (vx_MQ below (z_Qc D cA N0 (fun v T' F' => v = none ∧ T = T' ∧ F = F' ∧ Post)) (z_XC D cA N0 (fun E T' F' => T = T' ∧ F = F' ∧ PX E)) args s 1 6 (fun q => N0 ≤ q)) 0 [(0, .int p0)] [] T F
  refine zr_iload_n C 0 dX4_needMedium_0 rfl rfl ?_
  refine zr_callS (As := [.int p0]) C (k_X4_isMedium h) ok_X4_351 zq_420 rfl ⟨by decide, (Nat.le_of_ble_eq_true rfl)⟩ ⟨(Nat.le_of_ble_eq_true rfl), (Nat.le_of_ble_eq_true rfl)⟩ (Nat.le_of_ble_eq_true rfl) dX4_needMedium_1 (fun v2 U3 G4 hq => ?_)
  clear h
  · obtain ⟨r1, rfl, rfl, rfl, h⟩ := hq
    obtain ⟨h1, h2⟩ := h
    refine zr_if_ne C 18 dX4_needMedium_4 (by decide) (fun hc => ?_) (fun hc => ?_)
    · have h := h1 hc
      clear h1 h2
      exact zr_X (zr_vret C rfl ⟨rfl, rfl, rfl, h⟩ (Nat.le_of_ble_eq_true rfl) (Nat.le_of_ble_eq_true rfl) dX4_needMedium_18)
    · have h := h2 hc
      clear h1 h2
      exact zr_throwW C th_X4_307_309_371 (fun x hx => (hxt x hx).elim) ⟨rfl, rfl, h⟩ dX4_needMedium_7 dX4_needMedium_10 dX4_needMedium_11 dX4_needMedium_14 dX4_needMedium_17 (by decide) (Nat.le_of_ble_eq_true rfl) ⟨(Nat.le_of_ble_eq_true rfl), (Nat.le_of_ble_eq_true rfl)⟩ ⟨(Nat.le_of_ble_eq_true rfl), (Nat.le_of_ble_eq_true rfl)⟩
set_option maxRecDepth 100000 in
set_option maxHeartbeats 4000000 in
theorem k_X4_needMedium0 {l : Launch} {D : va_G} {cA : Nat → ClassId} {N0 zE : Nat} {p0 : Int32} {T : zT} {F : zF} {Post : Prop} (h : v_X4_needMedium p0 T F Post (fun _ => False)) : z_Mt l D cA N0 zE yX4_needMedium cX4_needMedium 1 none ({ frames := 1, cells := 0, slots := 0, locals := 20 } : Room) [.int p0] T F (fun v T' F' => v = none ∧ T = T' ∧ F = F' ∧ Post) := by
  unfold v_X4_needMedium at h
  refine z_bodyT (by decide) (Nat.le_of_ble_eq_true rfl) ?_
  intro p e s m args below meth c C hnm
  have C : z_C p l s m args meth c RX4 cX4_needMedium 1 none D cA N0 zE := C
  show z_w p l e ({ frames := 1, cells := 0, slots := 0, locals := 20 } : Room) s m args below meth c D cA N0 1 0 0 (MQ below (z_Qc D cA N0 (fun v T' F' => v = none ∧ T = T' ∧ F = F' ∧ Post)) args s 0 0 (fun q => N0 ≤ q)) 0 [(0, .int p0)] [] T F
  refine zr_iload_n C 0 dX4_needMedium_0 rfl rfl ?_
  refine zr_callS (As := [.int p0]) C (k_X4_isMedium h) ok_X4_351 zq_420 rfl ⟨by decide, (Nat.le_of_ble_eq_true rfl)⟩ ⟨(Nat.le_of_ble_eq_true rfl), (Nat.le_of_ble_eq_true rfl)⟩ (Nat.le_of_ble_eq_true rfl) dX4_needMedium_1 (fun v2 U3 G4 hq => ?_)
  clear h
  · obtain ⟨r1, rfl, rfl, rfl, h⟩ := hq
    obtain ⟨h1, h2⟩ := h
    refine zr_if_ne C 18 dX4_needMedium_4 (by decide) (fun hc => ?_) (fun hc => ?_)
    · have h := h1 hc
      clear h1 h2
      exact zr_vret C rfl ⟨rfl, rfl, rfl, h⟩ (Nat.le_of_ble_eq_true rfl) (Nat.le_of_ble_eq_true rfl) dX4_needMedium_18
    · have h := h2 hc
      clear h1 h2
      exact h.elim
theorem dX4_needDay_0 : decode cX4_needDay 0 = .ok (.iload_n 0, 1) := by decide +kernel
theorem dX4_needDay_1 : decode cX4_needDay 1 = .ok (.ifCond .lt 9, 3) := by decide +kernel
theorem dX4_needDay_10 : decode cX4_needDay 10 = .ok (.new 56, 3) := by decide +kernel
theorem dX4_needDay_13 : decode cX4_needDay 13 = .ok (.dup, 1) := by decide +kernel
theorem dX4_needDay_14 : decode cX4_needDay 14 = .ok (.ldc_w 373, 3) := by decide +kernel
theorem dX4_needDay_17 : decode cX4_needDay 17 = .ok (.invokespecial 60, 3) := by decide +kernel
theorem dX4_needDay_20 : decode cX4_needDay 20 = .ok (.athrow, 1) := by decide +kernel
theorem dX4_needDay_4 : decode cX4_needDay 4 = .ok (.iload_n 0, 1) := by decide +kernel
theorem dX4_needDay_5 : decode cX4_needDay 5 = .ok (.bipush 99, 2) := by decide +kernel
theorem dX4_needDay_7 : decode cX4_needDay 7 = .ok (.if_icmp .le 14, 3) := by decide +kernel
theorem dX4_needDay_21 : decode cX4_needDay 21 = .ok (.return_, 1) := by decide +kernel
def v_X4_needDay (p0 : Int32) (T : zT) (F : zF) (Post : Prop) (PX : String → Prop) : Prop :=
  ((p0 < 0 → PX "java/lang/IllegalArgumentException") ∧ (¬ p0 < 0 → ((p0 ≤ 99 → Post) ∧ (¬ p0 ≤ 99 → PX "java/lang/IllegalArgumentException"))))
set_option maxRecDepth 100000 in
set_option maxHeartbeats 4000000 in
theorem k_X4_needDay {l : Launch} {D : va_G} {cA : Nat → ClassId} {N0 zE : Nat} {p0 : Int32} {T : zT} {F : zF} {Post : Prop} {PX : String → Prop} (h : v_X4_needDay p0 T F Post PX) : z_Met l D cA N0 zE yX4_needDay cX4_needDay 1 none ({ frames := 6, cells := 1, slots := 6, locals := 90 } : Room) [.int p0] T F (fun v T' F' => v = none ∧ T = T' ∧ F = F' ∧ Post) (fun E T' F' => T = T' ∧ F = F' ∧ PX E) := by
  unfold v_X4_needDay at h
  refine z_body (by decide) (Nat.le_of_ble_eq_true rfl) ?_
  intro p e s m args below meth c C hxt hnm
  have C : z_C p l s m args meth c RX4 cX4_needDay 1 none D cA N0 zE := C
  show z_w p l e ({ frames := 6, cells := 1, slots := 6, locals := 90 } : Room) s m args below meth c D cA N0 1 0 0 (vx_MQ below (z_Qc D cA N0 (fun v T' F' => v = none ∧ T = T' ∧ F = F' ∧ Post)) (z_XC D cA N0 (fun E T' F' => T = T' ∧ F = F' ∧ PX E)) args s 1 6 (fun q => N0 ≤ q)) 0 [(0, .int p0)] [] T F
  refine zr_iload_n C 0 dX4_needDay_0 rfl rfl ?_
  obtain ⟨h1, h2⟩ := h
  refine zr_if_lt C 10 dX4_needDay_1 (by decide) (fun hc => ?_) (fun hc => ?_)
  · have h := h1 hc
    clear h1 h2
    exact zr_throwW C th_X4_56_60_373 (fun x hx => (hxt x hx).elim) ⟨rfl, rfl, h⟩ dX4_needDay_10 dX4_needDay_13 dX4_needDay_14 dX4_needDay_17 dX4_needDay_20 (by decide) (Nat.le_of_ble_eq_true rfl) ⟨(Nat.le_of_ble_eq_true rfl), (Nat.le_of_ble_eq_true rfl)⟩ ⟨(Nat.le_of_ble_eq_true rfl), (Nat.le_of_ble_eq_true rfl)⟩
  · have h := h2 hc
    clear h1 h2
    refine zr_iload_n C 0 dX4_needDay_4 rfl rfl ?_
    refine zr_bipush C 99 dX4_needDay_5 (by decide) ?_
    obtain ⟨h1, h2⟩ := h
    refine zr_icmp_le C 21 dX4_needDay_7 (by decide) (fun hc => ?_) (fun hc => ?_)
    · have h := h1 hc
      clear h1 h2
      exact zr_X (zr_vret C rfl ⟨rfl, rfl, rfl, h⟩ (Nat.le_of_ble_eq_true rfl) (Nat.le_of_ble_eq_true rfl) dX4_needDay_21)
    · have h := h2 hc
      clear h1 h2
      exact zr_throwW C th_X4_56_60_373 (fun x hx => (hxt x hx).elim) ⟨rfl, rfl, h⟩ dX4_needDay_10 dX4_needDay_13 dX4_needDay_14 dX4_needDay_17 dX4_needDay_20 (by decide) (Nat.le_of_ble_eq_true rfl) ⟨(Nat.le_of_ble_eq_true rfl), (Nat.le_of_ble_eq_true rfl)⟩ ⟨(Nat.le_of_ble_eq_true rfl), (Nat.le_of_ble_eq_true rfl)⟩
set_option maxRecDepth 100000 in
set_option maxHeartbeats 4000000 in
theorem k_X4_needDay0 {l : Launch} {D : va_G} {cA : Nat → ClassId} {N0 zE : Nat} {p0 : Int32} {T : zT} {F : zF} {Post : Prop} (h : v_X4_needDay p0 T F Post (fun _ => False)) : z_Mt l D cA N0 zE yX4_needDay cX4_needDay 1 none ({ frames := 0, cells := 0, slots := 0, locals := 0 } : Room) [.int p0] T F (fun v T' F' => v = none ∧ T = T' ∧ F = F' ∧ Post) := by
  unfold v_X4_needDay at h
  refine z_bodyT (by decide) (Nat.le_of_ble_eq_true rfl) ?_
  intro p e s m args below meth c C hnm
  have C : z_C p l s m args meth c RX4 cX4_needDay 1 none D cA N0 zE := C
  show z_w p l e ({ frames := 0, cells := 0, slots := 0, locals := 0 } : Room) s m args below meth c D cA N0 1 0 0 (MQ below (z_Qc D cA N0 (fun v T' F' => v = none ∧ T = T' ∧ F = F' ∧ Post)) args s 0 0 (fun q => N0 ≤ q)) 0 [(0, .int p0)] [] T F
  refine zr_iload_n C 0 dX4_needDay_0 rfl rfl ?_
  obtain ⟨h1, h2⟩ := h
  refine zr_if_lt C 10 dX4_needDay_1 (by decide) (fun hc => ?_) (fun hc => ?_)
  · have h := h1 hc
    clear h1 h2
    exact h.elim
  · have h := h2 hc
    clear h1 h2
    refine zr_iload_n C 0 dX4_needDay_4 rfl rfl ?_
    refine zr_bipush C 99 dX4_needDay_5 (by decide) ?_
    obtain ⟨h1, h2⟩ := h
    refine zr_icmp_le C 21 dX4_needDay_7 (by decide) (fun hc => ?_) (fun hc => ?_)
    · have h := h1 hc
      clear h1 h2
      exact zr_vret C rfl ⟨rfl, rfl, rfl, h⟩ (Nat.le_of_ble_eq_true rfl) (Nat.le_of_ble_eq_true rfl) dX4_needDay_21
    · have h := h2 hc
      clear h1 h2
      exact h.elim
theorem dX3_bookingShownAt_0 : decode cX3_bookingShownAt 0 = .ok (.iconst 0, 1) := by decide +kernel
theorem dX3_bookingShownAt_1 : decode cX3_bookingShownAt 1 = .ok (.istore 4, 2) := by decide +kernel
theorem dX3_bookingShownAt_3 : decode cX3_bookingShownAt 3 = .ok (.iload 4, 2) := by decide +kernel
theorem dX3_bookingShownAt_5 : decode cX3_bookingShownAt 5 = .ok (.aload_n 0, 1) := by decide +kernel
theorem dX3_bookingShownAt_6 : decode cX3_bookingShownAt 6 = .ok (.getfield 12, 3) := by decide +kernel
theorem dX3_bookingShownAt_12 : decode cX3_bookingShownAt 12 = .ok (.if_icmp .ge 63, 3) := by decide +kernel
theorem dX3_bookingShownAt_75 : decode cX3_bookingShownAt 75 = .ok (.iconst (-1), 1) := by decide +kernel
theorem dX3_bookingShownAt_76 : decode cX3_bookingShownAt 76 = .ok (.ireturn, 1) := by decide +kernel
theorem dX3_bookingShownAt_15 : decode cX3_bookingShownAt 15 = .ok (.aload_n 0, 1) := by decide +kernel
theorem dX3_bookingShownAt_16 : decode cX3_bookingShownAt 16 = .ok (.getfield 12, 3) := by decide +kernel
theorem dX3_bookingShownAt_19 : decode cX3_bookingShownAt 19 = .ok (.iload 4, 2) := by decide +kernel
theorem dX3_bookingShownAt_9 : decode cX3_bookingShownAt 9 = .ok (.invokevirtual 25, 3) := by decide +kernel
def v_X3_bookingShownAt (a0 : Nat) (p1 : Int32) (p2 : Int32) (p3 : Int32) (T : zT) (F : zF) (Post : Int32 → Prop) : Prop :=
  (T a0 = some (6, 3) ∧ ∃ x3 : Nat, F a0 0 = .ref x3 ∧ T x3 = some (2, 3) ∧ (v_Jx4a65c_size_8abf5 x3 T F (fun (r5 : Int32) => ((r5 ≤ (0 : Int32) → Post ((-1))) ∧ (¬ r5 ≤ (0 : Int32) → False)))))
set_option maxRecDepth 100000 in
set_option maxHeartbeats 4000000 in
theorem k_X3_bookingShownAt {l : Launch} {D : va_G} {cA : Nat → ClassId} {N0 zE : Nat} {a0 : Nat} {p1 : Int32} {p2 : Int32} {p3 : Int32} {T : zT} {F : zF} {Post : Int32 → Prop} (h : v_X3_bookingShownAt a0 p1 p2 p3 T F Post) : z_Mt l D cA N0 zE yX3_bookingShownAt cX3_bookingShownAt 6 (some .int) ({ frames := 1, cells := 0, slots := 0, locals := 20 } : Room) [.ref a0, .int p1, .int p2, .int p3] T F (fun v T' F' => ∃ r : Int32, v = some (.int r) ∧ T = T' ∧ F = F' ∧ Post r) := by
  unfold v_X3_bookingShownAt at h
  refine z_bodyT (by decide) (Nat.le_of_ble_eq_true rfl) ?_
  intro p e s m args below meth c C hnm
  have C : z_C p l s m args meth c RX3 cX3_bookingShownAt 6 (some .int) D cA N0 zE := C
  show z_w p l e ({ frames := 1, cells := 0, slots := 0, locals := 20 } : Room) s m args below meth c D cA N0 6 0 0 (MQ below (z_Qc D cA N0 (fun v T' F' => ∃ r : Int32, v = some (.int r) ∧ T = T' ∧ F = F' ∧ Post r)) args s 0 0 (fun q => N0 ≤ q)) 0 [(0, .ref a0), (1, .int p1), (2, .int p2), (3, .int p3)] [] T F
  refine zr_iconst C 0 dX3_bookingShownAt_0 (by decide) ?_
  refine zr_istore C [(4, .int 0), (0, .ref a0), (1, .int p1), (2, .int p2), (3, .int p3)] dX3_bookingShownAt_1 (by decide) rfl ?_
  refine zr_iload C 0 dX3_bookingShownAt_3 rfl ?_
  refine zr_aload_n C 1 dX3_bookingShownAt_5 rfl rfl ?_
  obtain ⟨hT1, x3, hv2, h⟩ := h
  refine zr_get C fl_X3_12 hT1 hv2 dX3_bookingShownAt_6 ?_
  obtain ⟨hT4, h⟩ := h
  refine zr_callV (As := []) (r := (RJx4a65c, TJx4a65c, 3)) C (k_Jx4a65c_size_8abf5 h) ok_X3_25 zq_140 zq_141 hT4 (by decide) rfl rfl ⟨by decide, (Nat.le_of_ble_eq_true rfl)⟩ ⟨(Nat.le_of_ble_eq_true rfl), (Nat.le_of_ble_eq_true rfl)⟩ (Nat.le_of_ble_eq_true rfl) dX3_bookingShownAt_9 (fun v6 U7 G8 hq => ?_)
  clear h
  · obtain ⟨r5, rfl, rfl, rfl, h⟩ := hq
    obtain ⟨h1, h2⟩ := h
    refine zr_icmp_ge C 75 dX3_bookingShownAt_12 (by decide) (fun hc => ?_) (fun hc => ?_)
    · have h := h1 hc
      clear h1 h2
      refine zr_iconst C (-1) dX3_bookingShownAt_75 (by decide) ?_
      exact zr_iret C rfl ⟨_, rfl, rfl, rfl, h⟩ (Nat.le_of_ble_eq_true rfl) (Nat.le_of_ble_eq_true rfl) dX3_bookingShownAt_76
    · have h := h2 hc
      clear h1 h2
      refine zr_aload_n C 1 dX3_bookingShownAt_15 rfl rfl ?_
      refine zr_get C fl_X3_12 hT1 hv2 dX3_bookingShownAt_16 ?_
      refine zr_iload C 0 dX3_bookingShownAt_19 rfl ?_
      exact h.elim
theorem dX4_at_0 : decode cX4_at 0 = .ok (.iload_n 1, 1) := by decide +kernel
theorem dX4_at_4 : decode cX4_at 4 = .ok (.iload_n 2, 1) := by decide +kernel
theorem dX4_at_8 : decode cX4_at 8 = .ok (.iload_n 3, 1) := by decide +kernel
theorem dX4_at_12 : decode cX4_at 12 = .ok (.aload_n 0, 1) := by decide +kernel
theorem dX4_at_13 : decode cX4_at 13 = .ok (.getfield 23, 3) := by decide +kernel
theorem dX4_at_16 : decode cX4_at 16 = .ok (.iload_n 1, 1) := by decide +kernel
theorem dX4_at_17 : decode cX4_at 17 = .ok (.iload_n 2, 1) := by decide +kernel
theorem dX4_at_18 : decode cX4_at 18 = .ok (.iload_n 3, 1) := by decide +kernel
theorem dX4_at_22 : decode cX4_at 22 = .ok (.ireturn, 1) := by decide +kernel
theorem dX4_at_19 : decode cX4_at 19 = .ok (.invokevirtual 267, 3) := by decide +kernel
theorem dX4_at_9 : decode cX4_at 9 = .ok (.invokestatic 86, 3) := by decide +kernel
theorem dX4_at_5 : decode cX4_at 5 = .ok (.invokestatic 173, 3) := by decide +kernel
theorem dX4_at_1 : decode cX4_at 1 = .ok (.invokestatic 101, 3) := by decide +kernel
def v_X4_at (a0 : Nat) (p1 : Int32) (p2 : Int32) (p3 : Int32) (T : zT) (F : zF) (Post : Int32 → Prop) (PX : String → Prop) : Prop :=
  (v_X4_needLand p1 T F (v_X4_needMedium p2 T F (v_X4_needDay p3 T F (T a0 = some (7, 4) ∧ ∃ x3 : Nat, F a0 2 = .ref x3 ∧ T x3 = some (6, 3) ∧ (v_X3_bookingShownAt x3 p1 p2 p3 T F (fun (r5 : Int32) => Post r5))) (fun (E9 : String) => PX E9)) (fun (E9 : String) => PX E9)) (fun (E9 : String) => PX E9))
set_option maxRecDepth 100000 in
set_option maxHeartbeats 4000000 in
theorem k_X4_at {l : Launch} {D : va_G} {cA : Nat → ClassId} {N0 zE : Nat} {a0 : Nat} {p1 : Int32} {p2 : Int32} {p3 : Int32} {T : zT} {F : zF} {Post : Int32 → Prop} {PX : String → Prop} (h : v_X4_at a0 p1 p2 p3 T F Post PX) : z_Met l D cA N0 zE yX4_at cX4_at 4 (some .int) ({ frames := 7, cells := 3, slots := 18, locals := 110 } : Room) [.ref a0, .int p1, .int p2, .int p3] T F (fun v T' F' => ∃ r : Int32, v = some (.int r) ∧ T = T' ∧ F = F' ∧ Post r) (fun E T' F' => T = T' ∧ F = F' ∧ PX E) := by
  unfold v_X4_at at h
  refine z_body (by decide) (Nat.le_of_ble_eq_true rfl) ?_
  intro p e s m args below meth c C hxt hnm
  have C : z_C p l s m args meth c RX4 cX4_at 4 (some .int) D cA N0 zE := C
  show z_w p l e ({ frames := 7, cells := 3, slots := 18, locals := 110 } : Room) s m args below meth c D cA N0 4 0 0 (vx_MQ below (z_Qc D cA N0 (fun v T' F' => ∃ r : Int32, v = some (.int r) ∧ T = T' ∧ F = F' ∧ Post r)) (z_XC D cA N0 (fun E T' F' => T = T' ∧ F = F' ∧ PX E)) args s 3 18 (fun q => N0 ≤ q)) 0 [(0, .ref a0), (1, .int p1), (2, .int p2), (3, .int p3)] [] T F
  refine zr_iload_n C 1 dX4_at_0 rfl rfl ?_
  refine zr_callSX (As := [.int p1]) C (k_X4_needLand h) ok_X4_101 zq_345 rfl ⟨by decide, (Nat.le_of_ble_eq_true rfl)⟩ ⟨(Nat.le_of_ble_eq_true rfl), (Nat.le_of_ble_eq_true rfl)⟩ (Nat.le_of_ble_eq_true rfl) dX4_at_1 (fun E9 T9 F9 hq => by obtain ⟨rfl, rfl, hq⟩ := hq; exact zr_out C (fun x hx => (hxt x hx).elim) ⟨rfl, rfl, hq⟩ (Nat.le_of_ble_eq_true rfl) (Nat.le_of_ble_eq_true rfl)) (fun v15 U16 G17 hq => ?_)
  clear h
  · obtain ⟨rfl, rfl, rfl, h⟩ := hq
    refine zr_iload_n C 2 dX4_at_4 rfl rfl ?_
    refine zr_callSX (As := [.int p2]) C (k_X4_needMedium h) ok_X4_173 zq_815 rfl ⟨by decide, (Nat.le_of_ble_eq_true rfl)⟩ ⟨(Nat.le_of_ble_eq_true rfl), (Nat.le_of_ble_eq_true rfl)⟩ (Nat.le_of_ble_eq_true rfl) dX4_at_5 (fun E9 T9 F9 hq => by obtain ⟨rfl, rfl, hq⟩ := hq; exact zr_out C (fun x hx => (hxt x hx).elim) ⟨rfl, rfl, hq⟩ (Nat.le_of_ble_eq_true rfl) (Nat.le_of_ble_eq_true rfl)) (fun v12 U13 G14 hq => ?_)
    clear h
    · obtain ⟨rfl, rfl, rfl, h⟩ := hq
      refine zr_iload_n C 3 dX4_at_8 rfl rfl ?_
      refine zr_callSX (As := [.int p3]) C (k_X4_needDay h) ok_X4_86 zq_284 rfl ⟨by decide, (Nat.le_of_ble_eq_true rfl)⟩ ⟨(Nat.le_of_ble_eq_true rfl), (Nat.le_of_ble_eq_true rfl)⟩ (Nat.le_of_ble_eq_true rfl) dX4_at_9 (fun E9 T9 F9 hq => by obtain ⟨rfl, rfl, hq⟩ := hq; exact zr_out C (fun x hx => (hxt x hx).elim) ⟨rfl, rfl, hq⟩ (Nat.le_of_ble_eq_true rfl) (Nat.le_of_ble_eq_true rfl)) (fun v9 U10 G11 hq => ?_)
      clear h
      · obtain ⟨rfl, rfl, rfl, h⟩ := hq
        refine zr_aload_n C 0 dX4_at_12 rfl rfl ?_
        obtain ⟨hT1, x3, hv2, h⟩ := h
        refine zr_get C fl_X4_23 hT1 hv2 dX4_at_13 ?_
        refine zr_iload_n C 1 dX4_at_16 rfl rfl ?_
        refine zr_iload_n C 2 dX4_at_17 rfl rfl ?_
        refine zr_iload_n C 3 dX4_at_18 rfl rfl ?_
        obtain ⟨hT4, h⟩ := h
        refine zr_callV (As := [.int p1, .int p2, .int p3]) (r := (RX3, TX3, 3)) C (k_X3_bookingShownAt h) ok_X4_267 zq_879 zq_880 hT4 (by decide) rfl rfl ⟨by decide, (Nat.le_of_ble_eq_true rfl)⟩ ⟨(Nat.le_of_ble_eq_true rfl), (Nat.le_of_ble_eq_true rfl)⟩ (Nat.le_of_ble_eq_true rfl) dX4_at_19 (fun v6 U7 G8 hq => ?_)
        clear h
        · obtain ⟨r5, rfl, rfl, rfl, h⟩ := hq
          exact zr_X (zr_iret C rfl ⟨_, rfl, rfl, rfl, h⟩ (Nat.le_of_ble_eq_true rfl) (Nat.le_of_ble_eq_true rfl) dX4_at_22)
set_option maxRecDepth 100000 in
set_option maxHeartbeats 4000000 in
theorem k_X4_at0 {l : Launch} {D : va_G} {cA : Nat → ClassId} {N0 zE : Nat} {a0 : Nat} {p1 : Int32} {p2 : Int32} {p3 : Int32} {T : zT} {F : zF} {Post : Int32 → Prop} (h : v_X4_at a0 p1 p2 p3 T F Post (fun _ => False)) : z_Mt l D cA N0 zE yX4_at cX4_at 4 (some .int) ({ frames := 2, cells := 0, slots := 0, locals := 45 } : Room) [.ref a0, .int p1, .int p2, .int p3] T F (fun v T' F' => ∃ r : Int32, v = some (.int r) ∧ T = T' ∧ F = F' ∧ Post r) := by
  unfold v_X4_at at h
  refine z_bodyT (by decide) (Nat.le_of_ble_eq_true rfl) ?_
  intro p e s m args below meth c C hnm
  have C : z_C p l s m args meth c RX4 cX4_at 4 (some .int) D cA N0 zE := C
  show z_w p l e ({ frames := 2, cells := 0, slots := 0, locals := 45 } : Room) s m args below meth c D cA N0 4 0 0 (MQ below (z_Qc D cA N0 (fun v T' F' => ∃ r : Int32, v = some (.int r) ∧ T = T' ∧ F = F' ∧ Post r)) args s 0 0 (fun q => N0 ≤ q)) 0 [(0, .ref a0), (1, .int p1), (2, .int p2), (3, .int p3)] [] T F
  refine zr_iload_n C 1 dX4_at_0 rfl rfl ?_
  refine zr_callS (As := [.int p1]) C (k_X4_needLand0 h) ok_X4_101 zq_345 rfl ⟨by decide, (Nat.le_of_ble_eq_true rfl)⟩ ⟨(Nat.le_of_ble_eq_true rfl), (Nat.le_of_ble_eq_true rfl)⟩ (Nat.le_of_ble_eq_true rfl) dX4_at_1 (fun v15 U16 G17 hq => ?_)
  clear h
  · obtain ⟨rfl, rfl, rfl, h⟩ := hq
    refine zr_iload_n C 2 dX4_at_4 rfl rfl ?_
    refine zr_callS (As := [.int p2]) C (k_X4_needMedium0 h) ok_X4_173 zq_815 rfl ⟨by decide, (Nat.le_of_ble_eq_true rfl)⟩ ⟨(Nat.le_of_ble_eq_true rfl), (Nat.le_of_ble_eq_true rfl)⟩ (Nat.le_of_ble_eq_true rfl) dX4_at_5 (fun v12 U13 G14 hq => ?_)
    clear h
    · obtain ⟨rfl, rfl, rfl, h⟩ := hq
      refine zr_iload_n C 3 dX4_at_8 rfl rfl ?_
      refine zr_callS (As := [.int p3]) C (k_X4_needDay0 h) ok_X4_86 zq_284 rfl ⟨by decide, (Nat.le_of_ble_eq_true rfl)⟩ ⟨(Nat.le_of_ble_eq_true rfl), (Nat.le_of_ble_eq_true rfl)⟩ (Nat.le_of_ble_eq_true rfl) dX4_at_9 (fun v9 U10 G11 hq => ?_)
      clear h
      · obtain ⟨rfl, rfl, rfl, h⟩ := hq
        refine zr_aload_n C 0 dX4_at_12 rfl rfl ?_
        obtain ⟨hT1, x3, hv2, h⟩ := h
        refine zr_get C fl_X4_23 hT1 hv2 dX4_at_13 ?_
        refine zr_iload_n C 1 dX4_at_16 rfl rfl ?_
        refine zr_iload_n C 2 dX4_at_17 rfl rfl ?_
        refine zr_iload_n C 3 dX4_at_18 rfl rfl ?_
        obtain ⟨hT4, h⟩ := h
        refine zr_callV (As := [.int p1, .int p2, .int p3]) (r := (RX3, TX3, 3)) C (k_X3_bookingShownAt h) ok_X4_267 zq_879 zq_880 hT4 (by decide) rfl rfl ⟨by decide, (Nat.le_of_ble_eq_true rfl)⟩ ⟨(Nat.le_of_ble_eq_true rfl), (Nat.le_of_ble_eq_true rfl)⟩ (Nat.le_of_ble_eq_true rfl) dX4_at_19 (fun v6 U7 G8 hq => ?_)
        clear h
        · obtain ⟨r5, rfl, rfl, rfl, h⟩ := hq
          exact zr_iret C rfl ⟨_, rfl, rfl, rfl, h⟩ (Nat.le_of_ble_eq_true rfl) (Nat.le_of_ble_eq_true rfl) dX4_at_22
theorem dX3_countInState_0 : decode cX3_countInState 0 = .ok (.iconst 0, 1) := by decide +kernel
theorem dX3_countInState_1 : decode cX3_countInState 1 = .ok (.istore_n 2, 1) := by decide +kernel
theorem dX3_countInState_2 : decode cX3_countInState 2 = .ok (.iconst 0, 1) := by decide +kernel
theorem dX3_countInState_3 : decode cX3_countInState 3 = .ok (.istore_n 3, 1) := by decide +kernel
theorem dX3_countInState_4 : decode cX3_countInState 4 = .ok (.iload_n 3, 1) := by decide +kernel
theorem dX3_countInState_5 : decode cX3_countInState 5 = .ok (.aload_n 0, 1) := by decide +kernel
theorem dX3_countInState_6 : decode cX3_countInState 6 = .ok (.getfield 12, 3) := by decide +kernel
theorem dX3_countInState_12 : decode cX3_countInState 12 = .ok (.if_icmp .ge 30, 3) := by decide +kernel
theorem dX3_countInState_42 : decode cX3_countInState 42 = .ok (.iload_n 2, 1) := by decide +kernel
theorem dX3_countInState_43 : decode cX3_countInState 43 = .ok (.ireturn, 1) := by decide +kernel
theorem dX3_countInState_15 : decode cX3_countInState 15 = .ok (.aload_n 0, 1) := by decide +kernel
theorem dX3_countInState_16 : decode cX3_countInState 16 = .ok (.getfield 12, 3) := by decide +kernel
theorem dX3_countInState_19 : decode cX3_countInState 19 = .ok (.iload_n 3, 1) := by decide +kernel
theorem dX3_countInState_9 : decode cX3_countInState 9 = .ok (.invokevirtual 25, 3) := by decide +kernel
def v_X3_countInState (a0 : Nat) (p1 : Int32) (T : zT) (F : zF) (Post : Int32 → Prop) : Prop :=
  (T a0 = some (6, 3) ∧ ∃ x3 : Nat, F a0 0 = .ref x3 ∧ T x3 = some (2, 3) ∧ (v_Jx4a65c_size_8abf5 x3 T F (fun (r5 : Int32) => ((r5 ≤ (0 : Int32) → Post 0) ∧ (¬ r5 ≤ (0 : Int32) → False)))))
set_option maxRecDepth 100000 in
set_option maxHeartbeats 4000000 in
theorem k_X3_countInState {l : Launch} {D : va_G} {cA : Nat → ClassId} {N0 zE : Nat} {a0 : Nat} {p1 : Int32} {T : zT} {F : zF} {Post : Int32 → Prop} (h : v_X3_countInState a0 p1 T F Post) : z_Mt l D cA N0 zE yX3_countInState cX3_countInState 4 (some .int) ({ frames := 1, cells := 0, slots := 0, locals := 20 } : Room) [.ref a0, .int p1] T F (fun v T' F' => ∃ r : Int32, v = some (.int r) ∧ T = T' ∧ F = F' ∧ Post r) := by
  unfold v_X3_countInState at h
  refine z_bodyT (by decide) (Nat.le_of_ble_eq_true rfl) ?_
  intro p e s m args below meth c C hnm
  have C : z_C p l s m args meth c RX3 cX3_countInState 4 (some .int) D cA N0 zE := C
  show z_w p l e ({ frames := 1, cells := 0, slots := 0, locals := 20 } : Room) s m args below meth c D cA N0 4 0 0 (MQ below (z_Qc D cA N0 (fun v T' F' => ∃ r : Int32, v = some (.int r) ∧ T = T' ∧ F = F' ∧ Post r)) args s 0 0 (fun q => N0 ≤ q)) 0 [(0, .ref a0), (1, .int p1)] [] T F
  refine zr_iconst C 0 dX3_countInState_0 (by decide) ?_
  refine zr_istore_n C [(2, .int 0), (0, .ref a0), (1, .int p1)] dX3_countInState_1 rfl (by decide) rfl ?_
  refine zr_iconst C 0 dX3_countInState_2 (by decide) ?_
  refine zr_istore_n C [(3, .int 0), (2, .int 0), (0, .ref a0), (1, .int p1)] dX3_countInState_3 rfl (by decide) rfl ?_
  refine zr_iload_n C 0 dX3_countInState_4 rfl rfl ?_
  refine zr_aload_n C 2 dX3_countInState_5 rfl rfl ?_
  obtain ⟨hT1, x3, hv2, h⟩ := h
  refine zr_get C fl_X3_12 hT1 hv2 dX3_countInState_6 ?_
  obtain ⟨hT4, h⟩ := h
  refine zr_callV (As := []) (r := (RJx4a65c, TJx4a65c, 3)) C (k_Jx4a65c_size_8abf5 h) ok_X3_25 zq_140 zq_141 hT4 (by decide) rfl rfl ⟨by decide, (Nat.le_of_ble_eq_true rfl)⟩ ⟨(Nat.le_of_ble_eq_true rfl), (Nat.le_of_ble_eq_true rfl)⟩ (Nat.le_of_ble_eq_true rfl) dX3_countInState_9 (fun v6 U7 G8 hq => ?_)
  clear h
  · obtain ⟨r5, rfl, rfl, rfl, h⟩ := hq
    obtain ⟨h1, h2⟩ := h
    refine zr_icmp_ge C 42 dX3_countInState_12 (by decide) (fun hc => ?_) (fun hc => ?_)
    · have h := h1 hc
      clear h1 h2
      refine zr_iload_n C 1 dX3_countInState_42 rfl rfl ?_
      exact zr_iret C rfl ⟨_, rfl, rfl, rfl, h⟩ (Nat.le_of_ble_eq_true rfl) (Nat.le_of_ble_eq_true rfl) dX3_countInState_43
    · have h := h2 hc
      clear h1 h2
      refine zr_aload_n C 2 dX3_countInState_15 rfl rfl ?_
      refine zr_get C fl_X3_12 hT1 hv2 dX3_countInState_16 ?_
      refine zr_iload_n C 0 dX3_countInState_19 rfl rfl ?_
      exact h.elim
theorem dX3_countOn_0 : decode cX3_countOn 0 = .ok (.iconst 0, 1) := by decide +kernel
theorem dX3_countOn_1 : decode cX3_countOn 1 = .ok (.istore_n 1, 1) := by decide +kernel
theorem dX3_countOn_2 : decode cX3_countOn 2 = .ok (.iconst 0, 1) := by decide +kernel
theorem dX3_countOn_3 : decode cX3_countOn 3 = .ok (.istore_n 2, 1) := by decide +kernel
theorem dX3_countOn_4 : decode cX3_countOn 4 = .ok (.iload_n 2, 1) := by decide +kernel
theorem dX3_countOn_5 : decode cX3_countOn 5 = .ok (.aload_n 0, 1) := by decide +kernel
theorem dX3_countOn_6 : decode cX3_countOn 6 = .ok (.getfield 12, 3) := by decide +kernel
theorem dX3_countOn_12 : decode cX3_countOn 12 = .ok (.if_icmp .ge 29, 3) := by decide +kernel
theorem dX3_countOn_41 : decode cX3_countOn 41 = .ok (.iload_n 1, 1) := by decide +kernel
theorem dX3_countOn_42 : decode cX3_countOn 42 = .ok (.ireturn, 1) := by decide +kernel
theorem dX3_countOn_15 : decode cX3_countOn 15 = .ok (.aload_n 0, 1) := by decide +kernel
theorem dX3_countOn_16 : decode cX3_countOn 16 = .ok (.getfield 12, 3) := by decide +kernel
theorem dX3_countOn_19 : decode cX3_countOn 19 = .ok (.iload_n 2, 1) := by decide +kernel
theorem dX3_countOn_9 : decode cX3_countOn 9 = .ok (.invokevirtual 25, 3) := by decide +kernel
def v_X3_countOn (a0 : Nat) (T : zT) (F : zF) (Post : Int32 → Prop) : Prop :=
  (T a0 = some (6, 3) ∧ ∃ x3 : Nat, F a0 0 = .ref x3 ∧ T x3 = some (2, 3) ∧ (v_Jx4a65c_size_8abf5 x3 T F (fun (r5 : Int32) => ((r5 ≤ (0 : Int32) → Post 0) ∧ (¬ r5 ≤ (0 : Int32) → False)))))
set_option maxRecDepth 100000 in
set_option maxHeartbeats 4000000 in
theorem k_X3_countOn {l : Launch} {D : va_G} {cA : Nat → ClassId} {N0 zE : Nat} {a0 : Nat} {T : zT} {F : zF} {Post : Int32 → Prop} (h : v_X3_countOn a0 T F Post) : z_Mt l D cA N0 zE yX3_countOn cX3_countOn 3 (some .int) ({ frames := 1, cells := 0, slots := 0, locals := 20 } : Room) [.ref a0] T F (fun v T' F' => ∃ r : Int32, v = some (.int r) ∧ T = T' ∧ F = F' ∧ Post r) := by
  unfold v_X3_countOn at h
  refine z_bodyT (by decide) (Nat.le_of_ble_eq_true rfl) ?_
  intro p e s m args below meth c C hnm
  have C : z_C p l s m args meth c RX3 cX3_countOn 3 (some .int) D cA N0 zE := C
  show z_w p l e ({ frames := 1, cells := 0, slots := 0, locals := 20 } : Room) s m args below meth c D cA N0 3 0 0 (MQ below (z_Qc D cA N0 (fun v T' F' => ∃ r : Int32, v = some (.int r) ∧ T = T' ∧ F = F' ∧ Post r)) args s 0 0 (fun q => N0 ≤ q)) 0 [(0, .ref a0)] [] T F
  refine zr_iconst C 0 dX3_countOn_0 (by decide) ?_
  refine zr_istore_n C [(1, .int 0), (0, .ref a0)] dX3_countOn_1 rfl (by decide) rfl ?_
  refine zr_iconst C 0 dX3_countOn_2 (by decide) ?_
  refine zr_istore_n C [(2, .int 0), (1, .int 0), (0, .ref a0)] dX3_countOn_3 rfl (by decide) rfl ?_
  refine zr_iload_n C 0 dX3_countOn_4 rfl rfl ?_
  refine zr_aload_n C 2 dX3_countOn_5 rfl rfl ?_
  obtain ⟨hT1, x3, hv2, h⟩ := h
  refine zr_get C fl_X3_12 hT1 hv2 dX3_countOn_6 ?_
  obtain ⟨hT4, h⟩ := h
  refine zr_callV (As := []) (r := (RJx4a65c, TJx4a65c, 3)) C (k_Jx4a65c_size_8abf5 h) ok_X3_25 zq_140 zq_141 hT4 (by decide) rfl rfl ⟨by decide, (Nat.le_of_ble_eq_true rfl)⟩ ⟨(Nat.le_of_ble_eq_true rfl), (Nat.le_of_ble_eq_true rfl)⟩ (Nat.le_of_ble_eq_true rfl) dX3_countOn_9 (fun v6 U7 G8 hq => ?_)
  clear h
  · obtain ⟨r5, rfl, rfl, rfl, h⟩ := hq
    obtain ⟨h1, h2⟩ := h
    refine zr_icmp_ge C 41 dX3_countOn_12 (by decide) (fun hc => ?_) (fun hc => ?_)
    · have h := h1 hc
      clear h1 h2
      refine zr_iload_n C 1 dX3_countOn_41 rfl rfl ?_
      exact zr_iret C rfl ⟨_, rfl, rfl, rfl, h⟩ (Nat.le_of_ble_eq_true rfl) (Nat.le_of_ble_eq_true rfl) dX3_countOn_42
    · have h := h2 hc
      clear h1 h2
      refine zr_aload_n C 2 dX3_countOn_15 rfl rfl ?_
      refine zr_get C fl_X3_12 hT1 hv2 dX3_countOn_16 ?_
      refine zr_iload_n C 0 dX3_countOn_19 rfl rfl ?_
      exact h.elim
theorem dX3_costOfAll_0 : decode cX3_costOfAll 0 = .ok (.iconst 0, 1) := by decide +kernel
theorem dX3_costOfAll_1 : decode cX3_costOfAll 1 = .ok (.istore_n 1, 1) := by decide +kernel
theorem dX3_costOfAll_2 : decode cX3_costOfAll 2 = .ok (.iconst 0, 1) := by decide +kernel
theorem dX3_costOfAll_3 : decode cX3_costOfAll 3 = .ok (.istore_n 2, 1) := by decide +kernel
theorem dX3_costOfAll_4 : decode cX3_costOfAll 4 = .ok (.iload_n 2, 1) := by decide +kernel
theorem dX3_costOfAll_5 : decode cX3_costOfAll 5 = .ok (.aload_n 0, 1) := by decide +kernel
theorem dX3_costOfAll_6 : decode cX3_costOfAll 6 = .ok (.getfield 12, 3) := by decide +kernel
theorem dX3_costOfAll_12 : decode cX3_costOfAll 12 = .ok (.if_icmp .ge 26, 3) := by decide +kernel
theorem dX3_costOfAll_38 : decode cX3_costOfAll 38 = .ok (.iload_n 1, 1) := by decide +kernel
theorem dX3_costOfAll_39 : decode cX3_costOfAll 39 = .ok (.ireturn, 1) := by decide +kernel
theorem dX3_costOfAll_15 : decode cX3_costOfAll 15 = .ok (.iload_n 1, 1) := by decide +kernel
theorem dX3_costOfAll_16 : decode cX3_costOfAll 16 = .ok (.aload_n 0, 1) := by decide +kernel
theorem dX3_costOfAll_17 : decode cX3_costOfAll 17 = .ok (.getfield 12, 3) := by decide +kernel
theorem dX3_costOfAll_20 : decode cX3_costOfAll 20 = .ok (.iload_n 2, 1) := by decide +kernel
theorem dX3_costOfAll_9 : decode cX3_costOfAll 9 = .ok (.invokevirtual 25, 3) := by decide +kernel
def v_X3_costOfAll (a0 : Nat) (T : zT) (F : zF) (Post : Int32 → Prop) : Prop :=
  (T a0 = some (6, 3) ∧ ∃ x3 : Nat, F a0 0 = .ref x3 ∧ T x3 = some (2, 3) ∧ (v_Jx4a65c_size_8abf5 x3 T F (fun (r5 : Int32) => ((r5 ≤ (0 : Int32) → Post 0) ∧ (¬ r5 ≤ (0 : Int32) → False)))))
set_option maxRecDepth 100000 in
set_option maxHeartbeats 4000000 in
theorem k_X3_costOfAll {l : Launch} {D : va_G} {cA : Nat → ClassId} {N0 zE : Nat} {a0 : Nat} {T : zT} {F : zF} {Post : Int32 → Prop} (h : v_X3_costOfAll a0 T F Post) : z_Mt l D cA N0 zE yX3_costOfAll cX3_costOfAll 3 (some .int) ({ frames := 1, cells := 0, slots := 0, locals := 20 } : Room) [.ref a0] T F (fun v T' F' => ∃ r : Int32, v = some (.int r) ∧ T = T' ∧ F = F' ∧ Post r) := by
  unfold v_X3_costOfAll at h
  refine z_bodyT (by decide) (Nat.le_of_ble_eq_true rfl) ?_
  intro p e s m args below meth c C hnm
  have C : z_C p l s m args meth c RX3 cX3_costOfAll 3 (some .int) D cA N0 zE := C
  show z_w p l e ({ frames := 1, cells := 0, slots := 0, locals := 20 } : Room) s m args below meth c D cA N0 3 0 0 (MQ below (z_Qc D cA N0 (fun v T' F' => ∃ r : Int32, v = some (.int r) ∧ T = T' ∧ F = F' ∧ Post r)) args s 0 0 (fun q => N0 ≤ q)) 0 [(0, .ref a0)] [] T F
  refine zr_iconst C 0 dX3_costOfAll_0 (by decide) ?_
  refine zr_istore_n C [(1, .int 0), (0, .ref a0)] dX3_costOfAll_1 rfl (by decide) rfl ?_
  refine zr_iconst C 0 dX3_costOfAll_2 (by decide) ?_
  refine zr_istore_n C [(2, .int 0), (1, .int 0), (0, .ref a0)] dX3_costOfAll_3 rfl (by decide) rfl ?_
  refine zr_iload_n C 0 dX3_costOfAll_4 rfl rfl ?_
  refine zr_aload_n C 2 dX3_costOfAll_5 rfl rfl ?_
  obtain ⟨hT1, x3, hv2, h⟩ := h
  refine zr_get C fl_X3_12 hT1 hv2 dX3_costOfAll_6 ?_
  obtain ⟨hT4, h⟩ := h
  refine zr_callV (As := []) (r := (RJx4a65c, TJx4a65c, 3)) C (k_Jx4a65c_size_8abf5 h) ok_X3_25 zq_140 zq_141 hT4 (by decide) rfl rfl ⟨by decide, (Nat.le_of_ble_eq_true rfl)⟩ ⟨(Nat.le_of_ble_eq_true rfl), (Nat.le_of_ble_eq_true rfl)⟩ (Nat.le_of_ble_eq_true rfl) dX3_costOfAll_9 (fun v6 U7 G8 hq => ?_)
  clear h
  · obtain ⟨r5, rfl, rfl, rfl, h⟩ := hq
    obtain ⟨h1, h2⟩ := h
    refine zr_icmp_ge C 38 dX3_costOfAll_12 (by decide) (fun hc => ?_) (fun hc => ?_)
    · have h := h1 hc
      clear h1 h2
      refine zr_iload_n C 1 dX3_costOfAll_38 rfl rfl ?_
      exact zr_iret C rfl ⟨_, rfl, rfl, rfl, h⟩ (Nat.le_of_ble_eq_true rfl) (Nat.le_of_ble_eq_true rfl) dX3_costOfAll_39
    · have h := h2 hc
      clear h1 h2
      refine zr_iload_n C 1 dX3_costOfAll_15 rfl rfl ?_
      refine zr_aload_n C 2 dX3_costOfAll_16 rfl rfl ?_
      refine zr_get C fl_X3_12 hT1 hv2 dX3_costOfAll_17 ?_
      refine zr_iload_n C 0 dX3_costOfAll_20 rfl rfl ?_
      exact h.elim
theorem dX4_many_0 : decode cX4_many 0 = .ok (.iload_n 1, 1) := by decide +kernel
theorem dX4_many_125 : decode cX4_many 125 = .ok (.new 56, 3) := by decide +kernel
theorem dX4_many_128 : decode cX4_many 128 = .ok (.dup, 1) := by decide +kernel
theorem dX4_many_129 : decode cX4_many 129 = .ok (.ldc_w 279, 3) := by decide +kernel
theorem dX4_many_132 : decode cX4_many 132 = .ok (.invokespecial 60, 3) := by decide +kernel
theorem dX4_many_135 : decode cX4_many 135 = .ok (.athrow, 1) := by decide +kernel
theorem dX4_many_60 : decode cX4_many 60 = .ok (.aload_n 0, 1) := by decide +kernel
theorem dX4_many_61 : decode cX4_many 61 = .ok (.getfield 10, 3) := by decide +kernel
theorem dX4_many_67 : decode cX4_many 67 = .ok (.ireturn, 1) := by decide +kernel
theorem dX4_many_64 : decode cX4_many 64 = .ok (.invokevirtual 30, 3) := by decide +kernel
theorem dX4_many_68 : decode cX4_many 68 = .ok (.aload_n 0, 1) := by decide +kernel
theorem dX4_many_69 : decode cX4_many 69 = .ok (.getfield 23, 3) := by decide +kernel
theorem dX4_many_72 : decode cX4_many 72 = .ok (.getfield 112, 3) := by decide +kernel
theorem dX4_many_78 : decode cX4_many 78 = .ok (.ireturn, 1) := by decide +kernel
theorem dX4_many_75 : decode cX4_many 75 = .ok (.invokevirtual 30, 3) := by decide +kernel
theorem dX4_many_79 : decode cX4_many 79 = .ok (.aload_n 0, 1) := by decide +kernel
theorem dX4_many_80 : decode cX4_many 80 = .ok (.getfield 23, 3) := by decide +kernel
theorem dX4_many_83 : decode cX4_many 83 = .ok (.getfield 179, 3) := by decide +kernel
theorem dX4_many_89 : decode cX4_many 89 = .ok (.ireturn, 1) := by decide +kernel
theorem dX4_many_86 : decode cX4_many 86 = .ok (.invokevirtual 30, 3) := by decide +kernel
theorem dX4_many_90 : decode cX4_many 90 = .ok (.aload_n 0, 1) := by decide +kernel
theorem dX4_many_91 : decode cX4_many 91 = .ok (.getfield 23, 3) := by decide +kernel
theorem dX4_many_94 : decode cX4_many 94 = .ok (.iload_n 1, 1) := by decide +kernel
theorem dX4_many_95 : decode cX4_many 95 = .ok (.iconst 3, 1) := by decide +kernel
theorem dX4_many_96 : decode cX4_many 96 = .ok (.isub, 1) := by decide +kernel
theorem dX4_many_100 : decode cX4_many 100 = .ok (.ireturn, 1) := by decide +kernel
theorem dX4_many_97 : decode cX4_many 97 = .ok (.invokevirtual 270, 3) := by decide +kernel
theorem dX4_many_101 : decode cX4_many 101 = .ok (.aload_n 0, 1) := by decide +kernel
theorem dX4_many_102 : decode cX4_many 102 = .ok (.getfield 23, 3) := by decide +kernel
theorem dX4_many_108 : decode cX4_many 108 = .ok (.ireturn, 1) := by decide +kernel
theorem dX4_many_105 : decode cX4_many 105 = .ok (.invokevirtual 273, 3) := by decide +kernel
theorem dX4_many_109 : decode cX4_many 109 = .ok (.aload_n 0, 1) := by decide +kernel
theorem dX4_many_110 : decode cX4_many 110 = .ok (.getfield 23, 3) := by decide +kernel
theorem dX4_many_116 : decode cX4_many 116 = .ok (.ireturn, 1) := by decide +kernel
theorem dX4_many_113 : decode cX4_many 113 = .ok (.invokevirtual 276, 3) := by decide +kernel
theorem dX4_many_117 : decode cX4_many 117 = .ok (.aload_n 0, 1) := by decide +kernel
theorem dX4_many_118 : decode cX4_many 118 = .ok (.getfield 23, 3) := by decide +kernel
theorem dX4_many_121 : decode cX4_many 121 = .ok (.getfield 52, 3) := by decide +kernel
theorem dX4_many_124 : decode cX4_many 124 = .ok (.ireturn, 1) := by decide +kernel
theorem dX4_many_1 : decode cX4_many 1 = .ok (.tableswitch 124 0 10 #[59, 67, 78, 89, 89, 89, 89, 89, 100, 108, 116], 59) := by decide +kernel
def v_X4_many (a0 : Nat) (p1 : Int32) (T : zT) (F : zF) (Post : Int32 → Prop) (PX : String → Prop) : Prop :=
  (((p1.toInt < 0 ∨ 10 < p1.toInt) → PX "java/lang/IllegalArgumentException") ∧ (p1 = 0 → (T a0 = some (7, 4) ∧ ∃ x4 : Nat, F a0 0 = .ref x4 ∧ T x4 = some (2, 3) ∧ (v_Jx4a65c_size_8abf5 x4 T F (fun (r6 : Int32) => Post r6)))) ∧ (p1 = 1 → (T a0 = some (7, 4) ∧ ∃ x13 : Nat, F a0 2 = .ref x13 ∧ T x13 = some (6, 3) ∧ ∃ x16 : Nat, F x13 1 = .ref x16 ∧ T x16 = some (2, 3) ∧ (v_Jx4a65c_size_8abf5 x16 T F (fun (r18 : Int32) => Post r18)))) ∧ (p1 = 2 → (T a0 = some (7, 4) ∧ ∃ x25 : Nat, F a0 2 = .ref x25 ∧ T x25 = some (6, 3) ∧ ∃ x28 : Nat, F x25 0 = .ref x28 ∧ T x28 = some (2, 3) ∧ (v_Jx4a65c_size_8abf5 x28 T F (fun (r30 : Int32) => Post r30)))) ∧ (p1 = 3 → (T a0 = some (7, 4) ∧ ∃ x37 : Nat, F a0 2 = .ref x37 ∧ T x37 = some (6, 3) ∧ (v_X3_countInState x37 (p1 - 3) T F (fun (r39 : Int32) => Post r39)))) ∧ (p1 = 4 → (T a0 = some (7, 4) ∧ ∃ x46 : Nat, F a0 2 = .ref x46 ∧ T x46 = some (6, 3) ∧ (v_X3_countInState x46 (p1 - 3) T F (fun (r48 : Int32) => Post r48)))) ∧ (p1 = 5 → (T a0 = some (7, 4) ∧ ∃ x55 : Nat, F a0 2 = .ref x55 ∧ T x55 = some (6, 3) ∧ (v_X3_countInState x55 (p1 - 3) T F (fun (r57 : Int32) => Post r57)))) ∧ (p1 = 6 → (T a0 = some (7, 4) ∧ ∃ x64 : Nat, F a0 2 = .ref x64 ∧ T x64 = some (6, 3) ∧ (v_X3_countInState x64 (p1 - 3) T F (fun (r66 : Int32) => Post r66)))) ∧ (p1 = 7 → (T a0 = some (7, 4) ∧ ∃ x73 : Nat, F a0 2 = .ref x73 ∧ T x73 = some (6, 3) ∧ (v_X3_countInState x73 (p1 - 3) T F (fun (r75 : Int32) => Post r75)))) ∧ (p1 = 8 → (T a0 = some (7, 4) ∧ ∃ x82 : Nat, F a0 2 = .ref x82 ∧ T x82 = some (6, 3) ∧ (v_X3_countOn x82 T F (fun (r84 : Int32) => Post r84)))) ∧ (p1 = 9 → (T a0 = some (7, 4) ∧ ∃ x91 : Nat, F a0 2 = .ref x91 ∧ T x91 = some (6, 3) ∧ (v_X3_costOfAll x91 T F (fun (r93 : Int32) => Post r93)))) ∧ (p1 = 10 → (T a0 = some (7, 4) ∧ ∃ x100 : Nat, F a0 2 = .ref x100 ∧ T x100 = some (6, 3) ∧ ∃ x103 : Int32, F x100 2 = .int x103 ∧ Post x103)))
set_option maxRecDepth 100000 in
set_option maxHeartbeats 4000000 in
theorem k_X4_many {l : Launch} {D : va_G} {cA : Nat → ClassId} {N0 zE : Nat} {a0 : Nat} {p1 : Int32} {T : zT} {F : zF} {Post : Int32 → Prop} {PX : String → Prop} (h : v_X4_many a0 p1 T F Post PX) : z_Met l D cA N0 zE yX4_many cX4_many 2 (some .int) ({ frames := 6, cells := 1, slots := 6, locals := 90 } : Room) [.ref a0, .int p1] T F (fun v T' F' => ∃ r : Int32, v = some (.int r) ∧ T = T' ∧ F = F' ∧ Post r) (fun E T' F' => T = T' ∧ F = F' ∧ PX E) := by
  unfold v_X4_many at h
  refine z_body (by decide) (Nat.le_of_ble_eq_true rfl) ?_
  intro p e s m args below meth c C hxt hnm
  have C : z_C p l s m args meth c RX4 cX4_many 2 (some .int) D cA N0 zE := C
  show z_w p l e ({ frames := 6, cells := 1, slots := 6, locals := 90 } : Room) s m args below meth c D cA N0 2 0 0 (vx_MQ below (z_Qc D cA N0 (fun v T' F' => ∃ r : Int32, v = some (.int r) ∧ T = T' ∧ F = F' ∧ Post r)) (z_XC D cA N0 (fun E T' F' => T = T' ∧ F = F' ∧ PX E)) args s 1 6 (fun q => N0 ≤ q)) 0 [(0, .ref a0), (1, .int p1)] [] T F
  refine zr_iload_n C 1 dX4_many_0 rfl rfl ?_
  obtain ⟨hs1, hs10, hs22, hs34, hs43, hs52, hs61, hs70, hs79, hs88, hs97, hs104⟩ := h
  by_cases hw : (p1).toInt < 0 ∨ 10 < (p1).toInt
  · have h := hs1 hw
    refine zr_tableOut C 125 dX4_many_1 hw (by decide) ?_
    exact zr_throwW C th_X4_56_60_279 (fun x hx => (hxt x hx).elim) ⟨rfl, rfl, h⟩ dX4_many_125 dX4_many_128 dX4_many_129 dX4_many_132 dX4_many_135 (by decide) (Nat.le_of_ble_eq_true rfl) ⟨(Nat.le_of_ble_eq_true rfl), (Nat.le_of_ble_eq_true rfl)⟩ ⟨(Nat.le_of_ble_eq_true rfl), (Nat.le_of_ble_eq_true rfl)⟩
  by_cases hk0 : p1 = 0
  · have h := hs10 hk0
    refine zr_tableIn C 60 dX4_many_1 (by rw [hk0]; decide) (by rw [hk0]; decide) (by rw [hk0]; rfl) (by decide) ?_
    refine zr_aload_n C 0 dX4_many_60 rfl rfl ?_
    obtain ⟨hT2, x4, hv3, h⟩ := h
    refine zr_get C fl_X4_10 hT2 hv3 dX4_many_61 ?_
    obtain ⟨hT5, h⟩ := h
    refine zr_callV (As := []) (r := (RJx4a65c, TJx4a65c, 3)) C (k_Jx4a65c_size_8abf5 h) ok_X4_30 zq_140 zq_141 hT5 (by decide) rfl rfl ⟨by decide, (Nat.le_of_ble_eq_true rfl)⟩ ⟨(Nat.le_of_ble_eq_true rfl), (Nat.le_of_ble_eq_true rfl)⟩ (Nat.le_of_ble_eq_true rfl) dX4_many_64 (fun v7 U8 G9 hq => ?_)
    clear h
    · obtain ⟨r6, rfl, rfl, rfl, h⟩ := hq
      exact zr_X (zr_iret C rfl ⟨_, rfl, rfl, rfl, h⟩ (Nat.le_of_ble_eq_true rfl) (Nat.le_of_ble_eq_true rfl) dX4_many_67)
  by_cases hk1 : p1 = 1
  · have h := hs22 hk1
    refine zr_tableIn C 68 dX4_many_1 (by rw [hk1]; decide) (by rw [hk1]; decide) (by rw [hk1]; rfl) (by decide) ?_
    refine zr_aload_n C 0 dX4_many_68 rfl rfl ?_
    obtain ⟨hT11, x13, hv12, h⟩ := h
    refine zr_get C fl_X4_23 hT11 hv12 dX4_many_69 ?_
    obtain ⟨hT14, x16, hv15, h⟩ := h
    refine zr_get C fl_X4_112 hT14 hv15 dX4_many_72 ?_
    obtain ⟨hT17, h⟩ := h
    refine zr_callV (As := []) (r := (RJx4a65c, TJx4a65c, 3)) C (k_Jx4a65c_size_8abf5 h) ok_X4_30 zq_140 zq_141 hT17 (by decide) rfl rfl ⟨by decide, (Nat.le_of_ble_eq_true rfl)⟩ ⟨(Nat.le_of_ble_eq_true rfl), (Nat.le_of_ble_eq_true rfl)⟩ (Nat.le_of_ble_eq_true rfl) dX4_many_75 (fun v19 U20 G21 hq => ?_)
    clear h
    · obtain ⟨r18, rfl, rfl, rfl, h⟩ := hq
      exact zr_X (zr_iret C rfl ⟨_, rfl, rfl, rfl, h⟩ (Nat.le_of_ble_eq_true rfl) (Nat.le_of_ble_eq_true rfl) dX4_many_78)
  by_cases hk2 : p1 = 2
  · have h := hs34 hk2
    refine zr_tableIn C 79 dX4_many_1 (by rw [hk2]; decide) (by rw [hk2]; decide) (by rw [hk2]; rfl) (by decide) ?_
    refine zr_aload_n C 0 dX4_many_79 rfl rfl ?_
    obtain ⟨hT23, x25, hv24, h⟩ := h
    refine zr_get C fl_X4_23 hT23 hv24 dX4_many_80 ?_
    obtain ⟨hT26, x28, hv27, h⟩ := h
    refine zr_get C fl_X4_179 hT26 hv27 dX4_many_83 ?_
    obtain ⟨hT29, h⟩ := h
    refine zr_callV (As := []) (r := (RJx4a65c, TJx4a65c, 3)) C (k_Jx4a65c_size_8abf5 h) ok_X4_30 zq_140 zq_141 hT29 (by decide) rfl rfl ⟨by decide, (Nat.le_of_ble_eq_true rfl)⟩ ⟨(Nat.le_of_ble_eq_true rfl), (Nat.le_of_ble_eq_true rfl)⟩ (Nat.le_of_ble_eq_true rfl) dX4_many_86 (fun v31 U32 G33 hq => ?_)
    clear h
    · obtain ⟨r30, rfl, rfl, rfl, h⟩ := hq
      exact zr_X (zr_iret C rfl ⟨_, rfl, rfl, rfl, h⟩ (Nat.le_of_ble_eq_true rfl) (Nat.le_of_ble_eq_true rfl) dX4_many_89)
  by_cases hk3 : p1 = 3
  · have h := hs43 hk3
    refine zr_tableIn C 90 dX4_many_1 (by rw [hk3]; decide) (by rw [hk3]; decide) (by rw [hk3]; rfl) (by decide) ?_
    refine zr_aload_n C 0 dX4_many_90 rfl rfl ?_
    obtain ⟨hT35, x37, hv36, h⟩ := h
    refine zr_get C fl_X4_23 hT35 hv36 dX4_many_91 ?_
    refine zr_iload_n C 1 dX4_many_94 rfl rfl ?_
    refine zr_iconst C 3 dX4_many_95 (by decide) ?_
    refine zr_isub C dX4_many_96 ?_
    obtain ⟨hT38, h⟩ := h
    refine zr_callV (As := [.int (p1 - 3)]) (r := (RX3, TX3, 3)) C (k_X3_countInState h) ok_X4_270 zq_174 zq_175 hT38 (by decide) rfl rfl ⟨by decide, (Nat.le_of_ble_eq_true rfl)⟩ ⟨(Nat.le_of_ble_eq_true rfl), (Nat.le_of_ble_eq_true rfl)⟩ (Nat.le_of_ble_eq_true rfl) dX4_many_97 (fun v40 U41 G42 hq => ?_)
    clear h
    · obtain ⟨r39, rfl, rfl, rfl, h⟩ := hq
      exact zr_X (zr_iret C rfl ⟨_, rfl, rfl, rfl, h⟩ (Nat.le_of_ble_eq_true rfl) (Nat.le_of_ble_eq_true rfl) dX4_many_100)
  by_cases hk4 : p1 = 4
  · have h := hs52 hk4
    refine zr_tableIn C 90 dX4_many_1 (by rw [hk4]; decide) (by rw [hk4]; decide) (by rw [hk4]; rfl) (by decide) ?_
    refine zr_aload_n C 0 dX4_many_90 rfl rfl ?_
    obtain ⟨hT44, x46, hv45, h⟩ := h
    refine zr_get C fl_X4_23 hT44 hv45 dX4_many_91 ?_
    refine zr_iload_n C 1 dX4_many_94 rfl rfl ?_
    refine zr_iconst C 3 dX4_many_95 (by decide) ?_
    refine zr_isub C dX4_many_96 ?_
    obtain ⟨hT47, h⟩ := h
    refine zr_callV (As := [.int (p1 - 3)]) (r := (RX3, TX3, 3)) C (k_X3_countInState h) ok_X4_270 zq_174 zq_175 hT47 (by decide) rfl rfl ⟨by decide, (Nat.le_of_ble_eq_true rfl)⟩ ⟨(Nat.le_of_ble_eq_true rfl), (Nat.le_of_ble_eq_true rfl)⟩ (Nat.le_of_ble_eq_true rfl) dX4_many_97 (fun v49 U50 G51 hq => ?_)
    clear h
    · obtain ⟨r48, rfl, rfl, rfl, h⟩ := hq
      exact zr_X (zr_iret C rfl ⟨_, rfl, rfl, rfl, h⟩ (Nat.le_of_ble_eq_true rfl) (Nat.le_of_ble_eq_true rfl) dX4_many_100)
  by_cases hk5 : p1 = 5
  · have h := hs61 hk5
    refine zr_tableIn C 90 dX4_many_1 (by rw [hk5]; decide) (by rw [hk5]; decide) (by rw [hk5]; rfl) (by decide) ?_
    refine zr_aload_n C 0 dX4_many_90 rfl rfl ?_
    obtain ⟨hT53, x55, hv54, h⟩ := h
    refine zr_get C fl_X4_23 hT53 hv54 dX4_many_91 ?_
    refine zr_iload_n C 1 dX4_many_94 rfl rfl ?_
    refine zr_iconst C 3 dX4_many_95 (by decide) ?_
    refine zr_isub C dX4_many_96 ?_
    obtain ⟨hT56, h⟩ := h
    refine zr_callV (As := [.int (p1 - 3)]) (r := (RX3, TX3, 3)) C (k_X3_countInState h) ok_X4_270 zq_174 zq_175 hT56 (by decide) rfl rfl ⟨by decide, (Nat.le_of_ble_eq_true rfl)⟩ ⟨(Nat.le_of_ble_eq_true rfl), (Nat.le_of_ble_eq_true rfl)⟩ (Nat.le_of_ble_eq_true rfl) dX4_many_97 (fun v58 U59 G60 hq => ?_)
    clear h
    · obtain ⟨r57, rfl, rfl, rfl, h⟩ := hq
      exact zr_X (zr_iret C rfl ⟨_, rfl, rfl, rfl, h⟩ (Nat.le_of_ble_eq_true rfl) (Nat.le_of_ble_eq_true rfl) dX4_many_100)
  by_cases hk6 : p1 = 6
  · have h := hs70 hk6
    refine zr_tableIn C 90 dX4_many_1 (by rw [hk6]; decide) (by rw [hk6]; decide) (by rw [hk6]; rfl) (by decide) ?_
    refine zr_aload_n C 0 dX4_many_90 rfl rfl ?_
    obtain ⟨hT62, x64, hv63, h⟩ := h
    refine zr_get C fl_X4_23 hT62 hv63 dX4_many_91 ?_
    refine zr_iload_n C 1 dX4_many_94 rfl rfl ?_
    refine zr_iconst C 3 dX4_many_95 (by decide) ?_
    refine zr_isub C dX4_many_96 ?_
    obtain ⟨hT65, h⟩ := h
    refine zr_callV (As := [.int (p1 - 3)]) (r := (RX3, TX3, 3)) C (k_X3_countInState h) ok_X4_270 zq_174 zq_175 hT65 (by decide) rfl rfl ⟨by decide, (Nat.le_of_ble_eq_true rfl)⟩ ⟨(Nat.le_of_ble_eq_true rfl), (Nat.le_of_ble_eq_true rfl)⟩ (Nat.le_of_ble_eq_true rfl) dX4_many_97 (fun v67 U68 G69 hq => ?_)
    clear h
    · obtain ⟨r66, rfl, rfl, rfl, h⟩ := hq
      exact zr_X (zr_iret C rfl ⟨_, rfl, rfl, rfl, h⟩ (Nat.le_of_ble_eq_true rfl) (Nat.le_of_ble_eq_true rfl) dX4_many_100)
  by_cases hk7 : p1 = 7
  · have h := hs79 hk7
    refine zr_tableIn C 90 dX4_many_1 (by rw [hk7]; decide) (by rw [hk7]; decide) (by rw [hk7]; rfl) (by decide) ?_
    refine zr_aload_n C 0 dX4_many_90 rfl rfl ?_
    obtain ⟨hT71, x73, hv72, h⟩ := h
    refine zr_get C fl_X4_23 hT71 hv72 dX4_many_91 ?_
    refine zr_iload_n C 1 dX4_many_94 rfl rfl ?_
    refine zr_iconst C 3 dX4_many_95 (by decide) ?_
    refine zr_isub C dX4_many_96 ?_
    obtain ⟨hT74, h⟩ := h
    refine zr_callV (As := [.int (p1 - 3)]) (r := (RX3, TX3, 3)) C (k_X3_countInState h) ok_X4_270 zq_174 zq_175 hT74 (by decide) rfl rfl ⟨by decide, (Nat.le_of_ble_eq_true rfl)⟩ ⟨(Nat.le_of_ble_eq_true rfl), (Nat.le_of_ble_eq_true rfl)⟩ (Nat.le_of_ble_eq_true rfl) dX4_many_97 (fun v76 U77 G78 hq => ?_)
    clear h
    · obtain ⟨r75, rfl, rfl, rfl, h⟩ := hq
      exact zr_X (zr_iret C rfl ⟨_, rfl, rfl, rfl, h⟩ (Nat.le_of_ble_eq_true rfl) (Nat.le_of_ble_eq_true rfl) dX4_many_100)
  by_cases hk8 : p1 = 8
  · have h := hs88 hk8
    refine zr_tableIn C 101 dX4_many_1 (by rw [hk8]; decide) (by rw [hk8]; decide) (by rw [hk8]; rfl) (by decide) ?_
    refine zr_aload_n C 0 dX4_many_101 rfl rfl ?_
    obtain ⟨hT80, x82, hv81, h⟩ := h
    refine zr_get C fl_X4_23 hT80 hv81 dX4_many_102 ?_
    obtain ⟨hT83, h⟩ := h
    refine zr_callV (As := []) (r := (RX3, TX3, 3)) C (k_X3_countOn h) ok_X4_273 zq_178 zq_179 hT83 (by decide) rfl rfl ⟨by decide, (Nat.le_of_ble_eq_true rfl)⟩ ⟨(Nat.le_of_ble_eq_true rfl), (Nat.le_of_ble_eq_true rfl)⟩ (Nat.le_of_ble_eq_true rfl) dX4_many_105 (fun v85 U86 G87 hq => ?_)
    clear h
    · obtain ⟨r84, rfl, rfl, rfl, h⟩ := hq
      exact zr_X (zr_iret C rfl ⟨_, rfl, rfl, rfl, h⟩ (Nat.le_of_ble_eq_true rfl) (Nat.le_of_ble_eq_true rfl) dX4_many_108)
  by_cases hk9 : p1 = 9
  · have h := hs97 hk9
    refine zr_tableIn C 109 dX4_many_1 (by rw [hk9]; decide) (by rw [hk9]; decide) (by rw [hk9]; rfl) (by decide) ?_
    refine zr_aload_n C 0 dX4_many_109 rfl rfl ?_
    obtain ⟨hT89, x91, hv90, h⟩ := h
    refine zr_get C fl_X4_23 hT89 hv90 dX4_many_110 ?_
    obtain ⟨hT92, h⟩ := h
    refine zr_callV (As := []) (r := (RX3, TX3, 3)) C (k_X3_costOfAll h) ok_X4_276 zq_182 zq_183 hT92 (by decide) rfl rfl ⟨by decide, (Nat.le_of_ble_eq_true rfl)⟩ ⟨(Nat.le_of_ble_eq_true rfl), (Nat.le_of_ble_eq_true rfl)⟩ (Nat.le_of_ble_eq_true rfl) dX4_many_113 (fun v94 U95 G96 hq => ?_)
    clear h
    · obtain ⟨r93, rfl, rfl, rfl, h⟩ := hq
      exact zr_X (zr_iret C rfl ⟨_, rfl, rfl, rfl, h⟩ (Nat.le_of_ble_eq_true rfl) (Nat.le_of_ble_eq_true rfl) dX4_many_116)
  by_cases hk10 : p1 = 10
  · have h := hs104 hk10
    refine zr_tableIn C 117 dX4_many_1 (by rw [hk10]; decide) (by rw [hk10]; decide) (by rw [hk10]; rfl) (by decide) ?_
    refine zr_aload_n C 0 dX4_many_117 rfl rfl ?_
    obtain ⟨hT98, x100, hv99, h⟩ := h
    refine zr_get C fl_X4_23 hT98 hv99 dX4_many_118 ?_
    obtain ⟨hT101, x103, hv102, h⟩ := h
    refine zr_get C fl_X4_52 hT101 hv102 dX4_many_121 ?_
    exact zr_X (zr_iret C rfl ⟨_, rfl, rfl, rfl, h⟩ (Nat.le_of_ble_eq_true rfl) (Nat.le_of_ble_eq_true rfl) dX4_many_124)
  obtain ⟨j9, hj9, e9⟩ := z_sw 10 hw
  have hc9 : j9 = 0 ∨ j9 = 1 ∨ j9 = 2 ∨ j9 = 3 ∨ j9 = 4 ∨ j9 = 5 ∨ j9 = 6 ∨ j9 = 7 ∨ j9 = 8 ∨ j9 = 9 ∨ j9 = 10 := by omega
  rcases hc9 with rfl | rfl | rfl | rfl | rfl | rfl | rfl | rfl | rfl | rfl | rfl
  · exact absurd (e9.trans (by decide)) hk0
  · exact absurd (e9.trans (by decide)) hk1
  · exact absurd (e9.trans (by decide)) hk2
  · exact absurd (e9.trans (by decide)) hk3
  · exact absurd (e9.trans (by decide)) hk4
  · exact absurd (e9.trans (by decide)) hk5
  · exact absurd (e9.trans (by decide)) hk6
  · exact absurd (e9.trans (by decide)) hk7
  · exact absurd (e9.trans (by decide)) hk8
  · exact absurd (e9.trans (by decide)) hk9
  · exact absurd (e9.trans (by decide)) hk10
set_option maxRecDepth 100000 in
set_option maxHeartbeats 4000000 in
theorem k_X4_many0 {l : Launch} {D : va_G} {cA : Nat → ClassId} {N0 zE : Nat} {a0 : Nat} {p1 : Int32} {T : zT} {F : zF} {Post : Int32 → Prop} (h : v_X4_many a0 p1 T F Post (fun _ => False)) : z_Mt l D cA N0 zE yX4_many cX4_many 2 (some .int) ({ frames := 2, cells := 0, slots := 0, locals := 43 } : Room) [.ref a0, .int p1] T F (fun v T' F' => ∃ r : Int32, v = some (.int r) ∧ T = T' ∧ F = F' ∧ Post r) := by
  unfold v_X4_many at h
  refine z_bodyT (by decide) (Nat.le_of_ble_eq_true rfl) ?_
  intro p e s m args below meth c C hnm
  have C : z_C p l s m args meth c RX4 cX4_many 2 (some .int) D cA N0 zE := C
  show z_w p l e ({ frames := 2, cells := 0, slots := 0, locals := 43 } : Room) s m args below meth c D cA N0 2 0 0 (MQ below (z_Qc D cA N0 (fun v T' F' => ∃ r : Int32, v = some (.int r) ∧ T = T' ∧ F = F' ∧ Post r)) args s 0 0 (fun q => N0 ≤ q)) 0 [(0, .ref a0), (1, .int p1)] [] T F
  refine zr_iload_n C 1 dX4_many_0 rfl rfl ?_
  obtain ⟨hs1, hs10, hs22, hs34, hs43, hs52, hs61, hs70, hs79, hs88, hs97, hs104⟩ := h
  by_cases hw : (p1).toInt < 0 ∨ 10 < (p1).toInt
  · have h := hs1 hw
    refine zr_tableOut C 125 dX4_many_1 hw (by decide) ?_
    exact h.elim
  by_cases hk0 : p1 = 0
  · have h := hs10 hk0
    refine zr_tableIn C 60 dX4_many_1 (by rw [hk0]; decide) (by rw [hk0]; decide) (by rw [hk0]; rfl) (by decide) ?_
    refine zr_aload_n C 0 dX4_many_60 rfl rfl ?_
    obtain ⟨hT2, x4, hv3, h⟩ := h
    refine zr_get C fl_X4_10 hT2 hv3 dX4_many_61 ?_
    obtain ⟨hT5, h⟩ := h
    refine zr_callV (As := []) (r := (RJx4a65c, TJx4a65c, 3)) C (k_Jx4a65c_size_8abf5 h) ok_X4_30 zq_140 zq_141 hT5 (by decide) rfl rfl ⟨by decide, (Nat.le_of_ble_eq_true rfl)⟩ ⟨(Nat.le_of_ble_eq_true rfl), (Nat.le_of_ble_eq_true rfl)⟩ (Nat.le_of_ble_eq_true rfl) dX4_many_64 (fun v7 U8 G9 hq => ?_)
    clear h
    · obtain ⟨r6, rfl, rfl, rfl, h⟩ := hq
      exact zr_iret C rfl ⟨_, rfl, rfl, rfl, h⟩ (Nat.le_of_ble_eq_true rfl) (Nat.le_of_ble_eq_true rfl) dX4_many_67
  by_cases hk1 : p1 = 1
  · have h := hs22 hk1
    refine zr_tableIn C 68 dX4_many_1 (by rw [hk1]; decide) (by rw [hk1]; decide) (by rw [hk1]; rfl) (by decide) ?_
    refine zr_aload_n C 0 dX4_many_68 rfl rfl ?_
    obtain ⟨hT11, x13, hv12, h⟩ := h
    refine zr_get C fl_X4_23 hT11 hv12 dX4_many_69 ?_
    obtain ⟨hT14, x16, hv15, h⟩ := h
    refine zr_get C fl_X4_112 hT14 hv15 dX4_many_72 ?_
    obtain ⟨hT17, h⟩ := h
    refine zr_callV (As := []) (r := (RJx4a65c, TJx4a65c, 3)) C (k_Jx4a65c_size_8abf5 h) ok_X4_30 zq_140 zq_141 hT17 (by decide) rfl rfl ⟨by decide, (Nat.le_of_ble_eq_true rfl)⟩ ⟨(Nat.le_of_ble_eq_true rfl), (Nat.le_of_ble_eq_true rfl)⟩ (Nat.le_of_ble_eq_true rfl) dX4_many_75 (fun v19 U20 G21 hq => ?_)
    clear h
    · obtain ⟨r18, rfl, rfl, rfl, h⟩ := hq
      exact zr_iret C rfl ⟨_, rfl, rfl, rfl, h⟩ (Nat.le_of_ble_eq_true rfl) (Nat.le_of_ble_eq_true rfl) dX4_many_78
  by_cases hk2 : p1 = 2
  · have h := hs34 hk2
    refine zr_tableIn C 79 dX4_many_1 (by rw [hk2]; decide) (by rw [hk2]; decide) (by rw [hk2]; rfl) (by decide) ?_
    refine zr_aload_n C 0 dX4_many_79 rfl rfl ?_
    obtain ⟨hT23, x25, hv24, h⟩ := h
    refine zr_get C fl_X4_23 hT23 hv24 dX4_many_80 ?_
    obtain ⟨hT26, x28, hv27, h⟩ := h
    refine zr_get C fl_X4_179 hT26 hv27 dX4_many_83 ?_
    obtain ⟨hT29, h⟩ := h
    refine zr_callV (As := []) (r := (RJx4a65c, TJx4a65c, 3)) C (k_Jx4a65c_size_8abf5 h) ok_X4_30 zq_140 zq_141 hT29 (by decide) rfl rfl ⟨by decide, (Nat.le_of_ble_eq_true rfl)⟩ ⟨(Nat.le_of_ble_eq_true rfl), (Nat.le_of_ble_eq_true rfl)⟩ (Nat.le_of_ble_eq_true rfl) dX4_many_86 (fun v31 U32 G33 hq => ?_)
    clear h
    · obtain ⟨r30, rfl, rfl, rfl, h⟩ := hq
      exact zr_iret C rfl ⟨_, rfl, rfl, rfl, h⟩ (Nat.le_of_ble_eq_true rfl) (Nat.le_of_ble_eq_true rfl) dX4_many_89
  by_cases hk3 : p1 = 3
  · have h := hs43 hk3
    refine zr_tableIn C 90 dX4_many_1 (by rw [hk3]; decide) (by rw [hk3]; decide) (by rw [hk3]; rfl) (by decide) ?_
    refine zr_aload_n C 0 dX4_many_90 rfl rfl ?_
    obtain ⟨hT35, x37, hv36, h⟩ := h
    refine zr_get C fl_X4_23 hT35 hv36 dX4_many_91 ?_
    refine zr_iload_n C 1 dX4_many_94 rfl rfl ?_
    refine zr_iconst C 3 dX4_many_95 (by decide) ?_
    refine zr_isub C dX4_many_96 ?_
    obtain ⟨hT38, h⟩ := h
    refine zr_callV (As := [.int (p1 - 3)]) (r := (RX3, TX3, 3)) C (k_X3_countInState h) ok_X4_270 zq_174 zq_175 hT38 (by decide) rfl rfl ⟨by decide, (Nat.le_of_ble_eq_true rfl)⟩ ⟨(Nat.le_of_ble_eq_true rfl), (Nat.le_of_ble_eq_true rfl)⟩ (Nat.le_of_ble_eq_true rfl) dX4_many_97 (fun v40 U41 G42 hq => ?_)
    clear h
    · obtain ⟨r39, rfl, rfl, rfl, h⟩ := hq
      exact zr_iret C rfl ⟨_, rfl, rfl, rfl, h⟩ (Nat.le_of_ble_eq_true rfl) (Nat.le_of_ble_eq_true rfl) dX4_many_100
  by_cases hk4 : p1 = 4
  · have h := hs52 hk4
    refine zr_tableIn C 90 dX4_many_1 (by rw [hk4]; decide) (by rw [hk4]; decide) (by rw [hk4]; rfl) (by decide) ?_
    refine zr_aload_n C 0 dX4_many_90 rfl rfl ?_
    obtain ⟨hT44, x46, hv45, h⟩ := h
    refine zr_get C fl_X4_23 hT44 hv45 dX4_many_91 ?_
    refine zr_iload_n C 1 dX4_many_94 rfl rfl ?_
    refine zr_iconst C 3 dX4_many_95 (by decide) ?_
    refine zr_isub C dX4_many_96 ?_
    obtain ⟨hT47, h⟩ := h
    refine zr_callV (As := [.int (p1 - 3)]) (r := (RX3, TX3, 3)) C (k_X3_countInState h) ok_X4_270 zq_174 zq_175 hT47 (by decide) rfl rfl ⟨by decide, (Nat.le_of_ble_eq_true rfl)⟩ ⟨(Nat.le_of_ble_eq_true rfl), (Nat.le_of_ble_eq_true rfl)⟩ (Nat.le_of_ble_eq_true rfl) dX4_many_97 (fun v49 U50 G51 hq => ?_)
    clear h
    · obtain ⟨r48, rfl, rfl, rfl, h⟩ := hq
      exact zr_iret C rfl ⟨_, rfl, rfl, rfl, h⟩ (Nat.le_of_ble_eq_true rfl) (Nat.le_of_ble_eq_true rfl) dX4_many_100
  by_cases hk5 : p1 = 5
  · have h := hs61 hk5
    refine zr_tableIn C 90 dX4_many_1 (by rw [hk5]; decide) (by rw [hk5]; decide) (by rw [hk5]; rfl) (by decide) ?_
    refine zr_aload_n C 0 dX4_many_90 rfl rfl ?_
    obtain ⟨hT53, x55, hv54, h⟩ := h
    refine zr_get C fl_X4_23 hT53 hv54 dX4_many_91 ?_
    refine zr_iload_n C 1 dX4_many_94 rfl rfl ?_
    refine zr_iconst C 3 dX4_many_95 (by decide) ?_
    refine zr_isub C dX4_many_96 ?_
    obtain ⟨hT56, h⟩ := h
    refine zr_callV (As := [.int (p1 - 3)]) (r := (RX3, TX3, 3)) C (k_X3_countInState h) ok_X4_270 zq_174 zq_175 hT56 (by decide) rfl rfl ⟨by decide, (Nat.le_of_ble_eq_true rfl)⟩ ⟨(Nat.le_of_ble_eq_true rfl), (Nat.le_of_ble_eq_true rfl)⟩ (Nat.le_of_ble_eq_true rfl) dX4_many_97 (fun v58 U59 G60 hq => ?_)
    clear h
    · obtain ⟨r57, rfl, rfl, rfl, h⟩ := hq
      exact zr_iret C rfl ⟨_, rfl, rfl, rfl, h⟩ (Nat.le_of_ble_eq_true rfl) (Nat.le_of_ble_eq_true rfl) dX4_many_100
  by_cases hk6 : p1 = 6
  · have h := hs70 hk6
    refine zr_tableIn C 90 dX4_many_1 (by rw [hk6]; decide) (by rw [hk6]; decide) (by rw [hk6]; rfl) (by decide) ?_
    refine zr_aload_n C 0 dX4_many_90 rfl rfl ?_
    obtain ⟨hT62, x64, hv63, h⟩ := h
    refine zr_get C fl_X4_23 hT62 hv63 dX4_many_91 ?_
    refine zr_iload_n C 1 dX4_many_94 rfl rfl ?_
    refine zr_iconst C 3 dX4_many_95 (by decide) ?_
    refine zr_isub C dX4_many_96 ?_
    obtain ⟨hT65, h⟩ := h
    refine zr_callV (As := [.int (p1 - 3)]) (r := (RX3, TX3, 3)) C (k_X3_countInState h) ok_X4_270 zq_174 zq_175 hT65 (by decide) rfl rfl ⟨by decide, (Nat.le_of_ble_eq_true rfl)⟩ ⟨(Nat.le_of_ble_eq_true rfl), (Nat.le_of_ble_eq_true rfl)⟩ (Nat.le_of_ble_eq_true rfl) dX4_many_97 (fun v67 U68 G69 hq => ?_)
    clear h
    · obtain ⟨r66, rfl, rfl, rfl, h⟩ := hq
      exact zr_iret C rfl ⟨_, rfl, rfl, rfl, h⟩ (Nat.le_of_ble_eq_true rfl) (Nat.le_of_ble_eq_true rfl) dX4_many_100
  by_cases hk7 : p1 = 7
  · have h := hs79 hk7
    refine zr_tableIn C 90 dX4_many_1 (by rw [hk7]; decide) (by rw [hk7]; decide) (by rw [hk7]; rfl) (by decide) ?_
    refine zr_aload_n C 0 dX4_many_90 rfl rfl ?_
    obtain ⟨hT71, x73, hv72, h⟩ := h
    refine zr_get C fl_X4_23 hT71 hv72 dX4_many_91 ?_
    refine zr_iload_n C 1 dX4_many_94 rfl rfl ?_
    refine zr_iconst C 3 dX4_many_95 (by decide) ?_
    refine zr_isub C dX4_many_96 ?_
    obtain ⟨hT74, h⟩ := h
    refine zr_callV (As := [.int (p1 - 3)]) (r := (RX3, TX3, 3)) C (k_X3_countInState h) ok_X4_270 zq_174 zq_175 hT74 (by decide) rfl rfl ⟨by decide, (Nat.le_of_ble_eq_true rfl)⟩ ⟨(Nat.le_of_ble_eq_true rfl), (Nat.le_of_ble_eq_true rfl)⟩ (Nat.le_of_ble_eq_true rfl) dX4_many_97 (fun v76 U77 G78 hq => ?_)
    clear h
    · obtain ⟨r75, rfl, rfl, rfl, h⟩ := hq
      exact zr_iret C rfl ⟨_, rfl, rfl, rfl, h⟩ (Nat.le_of_ble_eq_true rfl) (Nat.le_of_ble_eq_true rfl) dX4_many_100
  by_cases hk8 : p1 = 8
  · have h := hs88 hk8
    refine zr_tableIn C 101 dX4_many_1 (by rw [hk8]; decide) (by rw [hk8]; decide) (by rw [hk8]; rfl) (by decide) ?_
    refine zr_aload_n C 0 dX4_many_101 rfl rfl ?_
    obtain ⟨hT80, x82, hv81, h⟩ := h
    refine zr_get C fl_X4_23 hT80 hv81 dX4_many_102 ?_
    obtain ⟨hT83, h⟩ := h
    refine zr_callV (As := []) (r := (RX3, TX3, 3)) C (k_X3_countOn h) ok_X4_273 zq_178 zq_179 hT83 (by decide) rfl rfl ⟨by decide, (Nat.le_of_ble_eq_true rfl)⟩ ⟨(Nat.le_of_ble_eq_true rfl), (Nat.le_of_ble_eq_true rfl)⟩ (Nat.le_of_ble_eq_true rfl) dX4_many_105 (fun v85 U86 G87 hq => ?_)
    clear h
    · obtain ⟨r84, rfl, rfl, rfl, h⟩ := hq
      exact zr_iret C rfl ⟨_, rfl, rfl, rfl, h⟩ (Nat.le_of_ble_eq_true rfl) (Nat.le_of_ble_eq_true rfl) dX4_many_108
  by_cases hk9 : p1 = 9
  · have h := hs97 hk9
    refine zr_tableIn C 109 dX4_many_1 (by rw [hk9]; decide) (by rw [hk9]; decide) (by rw [hk9]; rfl) (by decide) ?_
    refine zr_aload_n C 0 dX4_many_109 rfl rfl ?_
    obtain ⟨hT89, x91, hv90, h⟩ := h
    refine zr_get C fl_X4_23 hT89 hv90 dX4_many_110 ?_
    obtain ⟨hT92, h⟩ := h
    refine zr_callV (As := []) (r := (RX3, TX3, 3)) C (k_X3_costOfAll h) ok_X4_276 zq_182 zq_183 hT92 (by decide) rfl rfl ⟨by decide, (Nat.le_of_ble_eq_true rfl)⟩ ⟨(Nat.le_of_ble_eq_true rfl), (Nat.le_of_ble_eq_true rfl)⟩ (Nat.le_of_ble_eq_true rfl) dX4_many_113 (fun v94 U95 G96 hq => ?_)
    clear h
    · obtain ⟨r93, rfl, rfl, rfl, h⟩ := hq
      exact zr_iret C rfl ⟨_, rfl, rfl, rfl, h⟩ (Nat.le_of_ble_eq_true rfl) (Nat.le_of_ble_eq_true rfl) dX4_many_116
  by_cases hk10 : p1 = 10
  · have h := hs104 hk10
    refine zr_tableIn C 117 dX4_many_1 (by rw [hk10]; decide) (by rw [hk10]; decide) (by rw [hk10]; rfl) (by decide) ?_
    refine zr_aload_n C 0 dX4_many_117 rfl rfl ?_
    obtain ⟨hT98, x100, hv99, h⟩ := h
    refine zr_get C fl_X4_23 hT98 hv99 dX4_many_118 ?_
    obtain ⟨hT101, x103, hv102, h⟩ := h
    refine zr_get C fl_X4_52 hT101 hv102 dX4_many_121 ?_
    exact zr_iret C rfl ⟨_, rfl, rfl, rfl, h⟩ (Nat.le_of_ble_eq_true rfl) (Nat.le_of_ble_eq_true rfl) dX4_many_124
  obtain ⟨j9, hj9, e9⟩ := z_sw 10 hw
  have hc9 : j9 = 0 ∨ j9 = 1 ∨ j9 = 2 ∨ j9 = 3 ∨ j9 = 4 ∨ j9 = 5 ∨ j9 = 6 ∨ j9 = 7 ∨ j9 = 8 ∨ j9 = 9 ∨ j9 = 10 := by omega
  rcases hc9 with rfl | rfl | rfl | rfl | rfl | rfl | rfl | rfl | rfl | rfl | rfl
  · exact absurd (e9.trans (by decide)) hk0
  · exact absurd (e9.trans (by decide)) hk1
  · exact absurd (e9.trans (by decide)) hk2
  · exact absurd (e9.trans (by decide)) hk3
  · exact absurd (e9.trans (by decide)) hk4
  · exact absurd (e9.trans (by decide)) hk5
  · exact absurd (e9.trans (by decide)) hk6
  · exact absurd (e9.trans (by decide)) hk7
  · exact absurd (e9.trans (by decide)) hk8
  · exact absurd (e9.trans (by decide)) hk9
  · exact absurd (e9.trans (by decide)) hk10
theorem dX4_groups_0 : decode cX4_groups 0 = .ok (.iload_n 1, 1) := by decide +kernel
theorem dX4_groups_4 : decode cX4_groups 4 = .ok (.iload_n 2, 1) := by decide +kernel
theorem dX4_groups_8 : decode cX4_groups 8 = .ok (.iload_n 3, 1) := by decide +kernel
theorem dX4_groups_9 : decode cX4_groups 9 = .ok (.ifCond .lt 10, 3) := by decide +kernel
theorem dX4_groups_19 : decode cX4_groups 19 = .ok (.new 56, 3) := by decide +kernel
theorem dX4_groups_22 : decode cX4_groups 22 = .ok (.dup, 1) := by decide +kernel
theorem dX4_groups_23 : decode cX4_groups 23 = .ok (.ldc_w 284, 3) := by decide +kernel
theorem dX4_groups_26 : decode cX4_groups 26 = .ok (.invokespecial 60, 3) := by decide +kernel
theorem dX4_groups_29 : decode cX4_groups 29 = .ok (.athrow, 1) := by decide +kernel
theorem dX4_groups_12 : decode cX4_groups 12 = .ok (.iload_n 3, 1) := by decide +kernel
theorem dX4_groups_13 : decode cX4_groups 13 = .ok (.sipush 1023, 3) := by decide +kernel
theorem dX4_groups_16 : decode cX4_groups 16 = .ok (.if_icmp .le 14, 3) := by decide +kernel
theorem dX4_groups_30 : decode cX4_groups 30 = .ok (.iload_n 1, 1) := by decide +kernel
theorem dX4_groups_31 : decode cX4_groups 31 = .ok (.iconst 4, 1) := by decide +kernel
theorem dX4_groups_32 : decode cX4_groups 32 = .ok (.imul, 1) := by decide +kernel
theorem dX4_groups_33 : decode cX4_groups 33 = .ok (.iload_n 2, 1) := by decide +kernel
theorem dX4_groups_34 : decode cX4_groups 34 = .ok (.iadd, 1) := by decide +kernel
theorem dX4_groups_35 : decode cX4_groups 35 = .ok (.istore 4, 2) := by decide +kernel
theorem dX4_groups_37 : decode cX4_groups 37 = .ok (.aload_n 0, 1) := by decide +kernel
theorem dX4_groups_38 : decode cX4_groups 38 = .ok (.getfield 16, 3) := by decide +kernel
theorem dX4_groups_41 : decode cX4_groups 41 = .ok (.iload 4, 2) := by decide +kernel
theorem dX4_groups_43 : decode cX4_groups 43 = .ok (.iaload, 1) := by decide +kernel
theorem dX4_groups_44 : decode cX4_groups 44 = .ok (.istore 5, 2) := by decide +kernel
theorem dX4_groups_46 : decode cX4_groups 46 = .ok (.aload_n 0, 1) := by decide +kernel
theorem dX4_groups_47 : decode cX4_groups 47 = .ok (.getfield 16, 3) := by decide +kernel
theorem dX4_groups_50 : decode cX4_groups 50 = .ok (.iload 4, 2) := by decide +kernel
theorem dX4_groups_52 : decode cX4_groups 52 = .ok (.iload_n 3, 1) := by decide +kernel
theorem dX4_groups_53 : decode cX4_groups 53 = .ok (.iastore, 1) := by decide +kernel
theorem dX4_groups_54 : decode cX4_groups 54 = .ok (.iload 5, 2) := by decide +kernel
theorem dX4_groups_56 : decode cX4_groups 56 = .ok (.ireturn, 1) := by decide +kernel
theorem dX4_groups_5 : decode cX4_groups 5 = .ok (.invokestatic 101, 3) := by decide +kernel
theorem dX4_groups_1 : decode cX4_groups 1 = .ok (.invokestatic 173, 3) := by decide +kernel
def v_X4_groups (a0 : Nat) (p1 : Int32) (p2 : Int32) (p3 : Int32) (T : zT) (F : zF) (Post : Int32 → zF → Prop) (PX : String → zF → Prop) : Prop :=
  (v_X4_needMedium p1 T F (v_X4_needLand p2 T F ((p3 < 0 → PX "java/lang/IllegalArgumentException" F) ∧ (¬ p3 < 0 → ((p3 ≤ 1023 → (T a0 = some (7, 4) ∧ ∃ x3 : Nat, F a0 1 = .ref x3 ∧ ∃ n4 : Nat, T x3 = some (100, n4) ∧ vp_in ((p1 * 4) + p2) n4 ∧ ∃ x7 : Int32, F x3 (((p1 * 4) + p2)).toNatClampNeg = .int x7 ∧ vp_in ((p1 * 4) + p2) n4 ∧ Post x7 (zu F x3 (((p1 * 4) + p2)).toNatClampNeg (.int p3)))) ∧ (¬ p3 ≤ 1023 → PX "java/lang/IllegalArgumentException" F)))) (fun (E9 : String) => PX E9 F)) (fun (E9 : String) => PX E9 F))
set_option maxRecDepth 100000 in
set_option maxHeartbeats 4000000 in
theorem k_X4_groups {l : Launch} {D : va_G} {cA : Nat → ClassId} {N0 zE : Nat} {a0 : Nat} {p1 : Int32} {p2 : Int32} {p3 : Int32} {T : zT} {F : zF} {Post : Int32 → zF → Prop} {PX : String → zF → Prop} (h : v_X4_groups a0 p1 p2 p3 T F Post PX) : z_Met l D cA N0 zE yX4_groups cX4_groups 6 (some .int) ({ frames := 7, cells := 3, slots := 18, locals := 110 } : Room) [.ref a0, .int p1, .int p2, .int p3] T F (fun v T' F' => ∃ r : Int32, v = some (.int r) ∧ T = T' ∧ Post r F') (fun E T' F' => T = T' ∧ PX E F') := by
  unfold v_X4_groups at h
  refine z_body (by decide) (Nat.le_of_ble_eq_true rfl) ?_
  intro p e s m args below meth c C hxt hnm
  have C : z_C p l s m args meth c RX4 cX4_groups 6 (some .int) D cA N0 zE := C
  show z_w p l e ({ frames := 7, cells := 3, slots := 18, locals := 110 } : Room) s m args below meth c D cA N0 6 0 0 (vx_MQ below (z_Qc D cA N0 (fun v T' F' => ∃ r : Int32, v = some (.int r) ∧ T = T' ∧ Post r F')) (z_XC D cA N0 (fun E T' F' => T = T' ∧ PX E F')) args s 3 18 (fun q => N0 ≤ q)) 0 [(0, .ref a0), (1, .int p1), (2, .int p2), (3, .int p3)] [] T F
  refine zr_iload_n C 1 dX4_groups_0 rfl rfl ?_
  refine zr_callSX (As := [.int p1]) C (k_X4_needMedium h) ok_X4_173 zq_815 rfl ⟨by decide, (Nat.le_of_ble_eq_true rfl)⟩ ⟨(Nat.le_of_ble_eq_true rfl), (Nat.le_of_ble_eq_true rfl)⟩ (Nat.le_of_ble_eq_true rfl) dX4_groups_1 (fun E9 T9 F9 hq => by obtain ⟨rfl, rfl, hq⟩ := hq; exact zr_out C (fun x hx => (hxt x hx).elim) ⟨rfl, hq⟩ (Nat.le_of_ble_eq_true rfl) (Nat.le_of_ble_eq_true rfl)) (fun v13 U14 G15 hq => ?_)
  clear h
  · obtain ⟨rfl, rfl, rfl, h⟩ := hq
    refine zr_iload_n C 2 dX4_groups_4 rfl rfl ?_
    refine zr_callSX (As := [.int p2]) C (k_X4_needLand h) ok_X4_101 zq_345 rfl ⟨by decide, (Nat.le_of_ble_eq_true rfl)⟩ ⟨(Nat.le_of_ble_eq_true rfl), (Nat.le_of_ble_eq_true rfl)⟩ (Nat.le_of_ble_eq_true rfl) dX4_groups_5 (fun E9 T9 F9 hq => by obtain ⟨rfl, rfl, hq⟩ := hq; exact zr_out C (fun x hx => (hxt x hx).elim) ⟨rfl, hq⟩ (Nat.le_of_ble_eq_true rfl) (Nat.le_of_ble_eq_true rfl)) (fun v10 U11 G12 hq => ?_)
    clear h
    · obtain ⟨rfl, rfl, rfl, h⟩ := hq
      refine zr_iload_n C 3 dX4_groups_8 rfl rfl ?_
      obtain ⟨h1, h2⟩ := h
      refine zr_if_lt C 19 dX4_groups_9 (by decide) (fun hc => ?_) (fun hc => ?_)
      · have h := h1 hc
        clear h1 h2
        exact zr_throwW C th_X4_56_60_284 (fun x hx => (hxt x hx).elim) ⟨rfl, h⟩ dX4_groups_19 dX4_groups_22 dX4_groups_23 dX4_groups_26 dX4_groups_29 (by decide) (Nat.le_of_ble_eq_true rfl) ⟨(Nat.le_of_ble_eq_true rfl), (Nat.le_of_ble_eq_true rfl)⟩ ⟨(Nat.le_of_ble_eq_true rfl), (Nat.le_of_ble_eq_true rfl)⟩
      · have h := h2 hc
        clear h1 h2
        refine zr_iload_n C 3 dX4_groups_12 rfl rfl ?_
        refine zr_sipush C 1023 dX4_groups_13 (by decide) ?_
        obtain ⟨h1, h2⟩ := h
        refine zr_icmp_le C 30 dX4_groups_16 (by decide) (fun hc => ?_) (fun hc => ?_)
        · have h := h1 hc
          clear h1 h2
          refine zr_iload_n C 1 dX4_groups_30 rfl rfl ?_
          refine zr_iconst C 4 dX4_groups_31 (by decide) ?_
          refine zr_imul C dX4_groups_32 ?_
          refine zr_iload_n C 2 dX4_groups_33 rfl rfl ?_
          refine zr_iadd C dX4_groups_34 ?_
          refine zr_istore C [(4, .int ((p1 * 4) + p2)), (0, .ref a0), (1, .int p1), (2, .int p2), (3, .int p3)] dX4_groups_35 (by decide) rfl ?_
          refine zr_aload_n C 1 dX4_groups_37 rfl rfl ?_
          obtain ⟨hT1, x3, hv2, h⟩ := h
          refine zr_get C fl_X4_16 hT1 hv2 dX4_groups_38 ?_
          refine zr_iload C 0 dX4_groups_41 rfl ?_
          obtain ⟨n4, hT5, hi6, x7, hv8, h⟩ := h
          refine zr_iald C rfl hT5 hi6 hv8 dX4_groups_43 ?_
          refine zr_istore C [(5, .int x7), (4, .int ((p1 * 4) + p2)), (0, .ref a0), (1, .int p1), (2, .int p2), (3, .int p3)] dX4_groups_44 (by decide) rfl ?_
          refine zr_aload_n C 2 dX4_groups_46 rfl rfl ?_
          refine zr_get C fl_X4_16 hT1 hv2 dX4_groups_47 ?_
          refine zr_iload C 1 dX4_groups_50 rfl ?_
          refine zr_iload_n C 5 dX4_groups_52 rfl rfl ?_
          obtain ⟨hi9, h⟩ := h
          refine zr_iast C rfl hT5 hi9 dX4_groups_53 ?_
          refine zr_iload C 0 dX4_groups_54 rfl ?_
          exact zr_X (zr_iret C rfl ⟨_, rfl, rfl, h⟩ (Nat.le_of_ble_eq_true rfl) (Nat.le_of_ble_eq_true rfl) dX4_groups_56)
        · have h := h2 hc
          clear h1 h2
          exact zr_throwW C th_X4_56_60_284 (fun x hx => (hxt x hx).elim) ⟨rfl, h⟩ dX4_groups_19 dX4_groups_22 dX4_groups_23 dX4_groups_26 dX4_groups_29 (by decide) (Nat.le_of_ble_eq_true rfl) ⟨(Nat.le_of_ble_eq_true rfl), (Nat.le_of_ble_eq_true rfl)⟩ ⟨(Nat.le_of_ble_eq_true rfl), (Nat.le_of_ble_eq_true rfl)⟩
set_option maxRecDepth 100000 in
set_option maxHeartbeats 4000000 in
theorem k_X4_groups0 {l : Launch} {D : va_G} {cA : Nat → ClassId} {N0 zE : Nat} {a0 : Nat} {p1 : Int32} {p2 : Int32} {p3 : Int32} {T : zT} {F : zF} {Post : Int32 → zF → Prop} (h : v_X4_groups a0 p1 p2 p3 T F Post (fun _ _ => False)) : z_Mt l D cA N0 zE yX4_groups cX4_groups 6 (some .int) ({ frames := 2, cells := 0, slots := 0, locals := 40 } : Room) [.ref a0, .int p1, .int p2, .int p3] T F (fun v T' F' => ∃ r : Int32, v = some (.int r) ∧ T = T' ∧ Post r F') := by
  unfold v_X4_groups at h
  refine z_bodyT (by decide) (Nat.le_of_ble_eq_true rfl) ?_
  intro p e s m args below meth c C hnm
  have C : z_C p l s m args meth c RX4 cX4_groups 6 (some .int) D cA N0 zE := C
  show z_w p l e ({ frames := 2, cells := 0, slots := 0, locals := 40 } : Room) s m args below meth c D cA N0 6 0 0 (MQ below (z_Qc D cA N0 (fun v T' F' => ∃ r : Int32, v = some (.int r) ∧ T = T' ∧ Post r F')) args s 0 0 (fun q => N0 ≤ q)) 0 [(0, .ref a0), (1, .int p1), (2, .int p2), (3, .int p3)] [] T F
  refine zr_iload_n C 1 dX4_groups_0 rfl rfl ?_
  refine zr_callS (As := [.int p1]) C (k_X4_needMedium0 h) ok_X4_173 zq_815 rfl ⟨by decide, (Nat.le_of_ble_eq_true rfl)⟩ ⟨(Nat.le_of_ble_eq_true rfl), (Nat.le_of_ble_eq_true rfl)⟩ (Nat.le_of_ble_eq_true rfl) dX4_groups_1 (fun v13 U14 G15 hq => ?_)
  clear h
  · obtain ⟨rfl, rfl, rfl, h⟩ := hq
    refine zr_iload_n C 2 dX4_groups_4 rfl rfl ?_
    refine zr_callS (As := [.int p2]) C (k_X4_needLand0 h) ok_X4_101 zq_345 rfl ⟨by decide, (Nat.le_of_ble_eq_true rfl)⟩ ⟨(Nat.le_of_ble_eq_true rfl), (Nat.le_of_ble_eq_true rfl)⟩ (Nat.le_of_ble_eq_true rfl) dX4_groups_5 (fun v10 U11 G12 hq => ?_)
    clear h
    · obtain ⟨rfl, rfl, rfl, h⟩ := hq
      refine zr_iload_n C 3 dX4_groups_8 rfl rfl ?_
      obtain ⟨h1, h2⟩ := h
      refine zr_if_lt C 19 dX4_groups_9 (by decide) (fun hc => ?_) (fun hc => ?_)
      · have h := h1 hc
        clear h1 h2
        exact h.elim
      · have h := h2 hc
        clear h1 h2
        refine zr_iload_n C 3 dX4_groups_12 rfl rfl ?_
        refine zr_sipush C 1023 dX4_groups_13 (by decide) ?_
        obtain ⟨h1, h2⟩ := h
        refine zr_icmp_le C 30 dX4_groups_16 (by decide) (fun hc => ?_) (fun hc => ?_)
        · have h := h1 hc
          clear h1 h2
          refine zr_iload_n C 1 dX4_groups_30 rfl rfl ?_
          refine zr_iconst C 4 dX4_groups_31 (by decide) ?_
          refine zr_imul C dX4_groups_32 ?_
          refine zr_iload_n C 2 dX4_groups_33 rfl rfl ?_
          refine zr_iadd C dX4_groups_34 ?_
          refine zr_istore C [(4, .int ((p1 * 4) + p2)), (0, .ref a0), (1, .int p1), (2, .int p2), (3, .int p3)] dX4_groups_35 (by decide) rfl ?_
          refine zr_aload_n C 1 dX4_groups_37 rfl rfl ?_
          obtain ⟨hT1, x3, hv2, h⟩ := h
          refine zr_get C fl_X4_16 hT1 hv2 dX4_groups_38 ?_
          refine zr_iload C 0 dX4_groups_41 rfl ?_
          obtain ⟨n4, hT5, hi6, x7, hv8, h⟩ := h
          refine zr_iald C rfl hT5 hi6 hv8 dX4_groups_43 ?_
          refine zr_istore C [(5, .int x7), (4, .int ((p1 * 4) + p2)), (0, .ref a0), (1, .int p1), (2, .int p2), (3, .int p3)] dX4_groups_44 (by decide) rfl ?_
          refine zr_aload_n C 2 dX4_groups_46 rfl rfl ?_
          refine zr_get C fl_X4_16 hT1 hv2 dX4_groups_47 ?_
          refine zr_iload C 1 dX4_groups_50 rfl ?_
          refine zr_iload_n C 5 dX4_groups_52 rfl rfl ?_
          obtain ⟨hi9, h⟩ := h
          refine zr_iast C rfl hT5 hi9 dX4_groups_53 ?_
          refine zr_iload C 0 dX4_groups_54 rfl ?_
          exact zr_iret C rfl ⟨_, rfl, rfl, h⟩ (Nat.le_of_ble_eq_true rfl) (Nat.le_of_ble_eq_true rfl) dX4_groups_56
        · have h := h2 hc
          clear h1 h2
          exact h.elim
theorem dX4_groupsReached_0 : decode cX4_groupsReached 0 = .ok (.iconst 0, 1) := by decide +kernel
theorem dX4_groupsReached_1 : decode cX4_groupsReached 1 = .ok (.istore_n 2, 1) := by decide +kernel
theorem dX4_groupsReached_2 : decode cX4_groupsReached 2 = .ok (.iconst 0, 1) := by decide +kernel
theorem dX4_groupsReached_3 : decode cX4_groupsReached 3 = .ok (.istore_n 3, 1) := by decide +kernel
theorem dX4_groupsReached_4 : decode cX4_groupsReached 4 = .ok (.iload_n 3, 1) := by decide +kernel
theorem dX4_groupsReached_5 : decode cX4_groupsReached 5 = .ok (.aload_n 0, 1) := by decide +kernel
theorem dX4_groupsReached_6 : decode cX4_groupsReached 6 = .ok (.getfield 23, 3) := by decide +kernel
theorem dX4_groupsReached_9 : decode cX4_groupsReached 9 = .ok (.getfield 179, 3) := by decide +kernel
theorem dX4_groupsReached_15 : decode cX4_groupsReached 15 = .ok (.if_icmp .ge 55, 3) := by decide +kernel
theorem dX4_groupsReached_70 : decode cX4_groupsReached 70 = .ok (.iload_n 2, 1) := by decide +kernel
theorem dX4_groupsReached_71 : decode cX4_groupsReached 71 = .ok (.ireturn, 1) := by decide +kernel
theorem dX4_groupsReached_18 : decode cX4_groupsReached 18 = .ok (.aload_n 0, 1) := by decide +kernel
theorem dX4_groupsReached_19 : decode cX4_groupsReached 19 = .ok (.getfield 23, 3) := by decide +kernel
theorem dX4_groupsReached_22 : decode cX4_groupsReached 22 = .ok (.getfield 179, 3) := by decide +kernel
theorem dX4_groupsReached_25 : decode cX4_groupsReached 25 = .ok (.iload_n 3, 1) := by decide +kernel
theorem dX4_groupsReached_12 : decode cX4_groupsReached 12 = .ok (.invokevirtual 30, 3) := by decide +kernel
def v_X4_groupsReached (a0 : Nat) (p1 : Int32) (T : zT) (F : zF) (Post : Int32 → Prop) : Prop :=
  (T a0 = some (7, 4) ∧ ∃ x3 : Nat, F a0 2 = .ref x3 ∧ T x3 = some (6, 3) ∧ ∃ x6 : Nat, F x3 0 = .ref x6 ∧ T x6 = some (2, 3) ∧ (v_Jx4a65c_size_8abf5 x6 T F (fun (r8 : Int32) => ((r8 ≤ (0 : Int32) → Post 0) ∧ (¬ r8 ≤ (0 : Int32) → False)))))
set_option maxRecDepth 100000 in
set_option maxHeartbeats 4000000 in
theorem k_X4_groupsReached {l : Launch} {D : va_G} {cA : Nat → ClassId} {N0 zE : Nat} {a0 : Nat} {p1 : Int32} {T : zT} {F : zF} {Post : Int32 → Prop} (h : v_X4_groupsReached a0 p1 T F Post) : z_Mt l D cA N0 zE yX4_groupsReached cX4_groupsReached 5 (some .int) ({ frames := 1, cells := 0, slots := 0, locals := 20 } : Room) [.ref a0, .int p1] T F (fun v T' F' => ∃ r : Int32, v = some (.int r) ∧ T = T' ∧ F = F' ∧ Post r) := by
  unfold v_X4_groupsReached at h
  refine z_bodyT (by decide) (Nat.le_of_ble_eq_true rfl) ?_
  intro p e s m args below meth c C hnm
  have C : z_C p l s m args meth c RX4 cX4_groupsReached 5 (some .int) D cA N0 zE := C
  show z_w p l e ({ frames := 1, cells := 0, slots := 0, locals := 20 } : Room) s m args below meth c D cA N0 5 0 0 (MQ below (z_Qc D cA N0 (fun v T' F' => ∃ r : Int32, v = some (.int r) ∧ T = T' ∧ F = F' ∧ Post r)) args s 0 0 (fun q => N0 ≤ q)) 0 [(0, .ref a0), (1, .int p1)] [] T F
  refine zr_iconst C 0 dX4_groupsReached_0 (by decide) ?_
  refine zr_istore_n C [(2, .int 0), (0, .ref a0), (1, .int p1)] dX4_groupsReached_1 rfl (by decide) rfl ?_
  refine zr_iconst C 0 dX4_groupsReached_2 (by decide) ?_
  refine zr_istore_n C [(3, .int 0), (2, .int 0), (0, .ref a0), (1, .int p1)] dX4_groupsReached_3 rfl (by decide) rfl ?_
  refine zr_iload_n C 0 dX4_groupsReached_4 rfl rfl ?_
  refine zr_aload_n C 2 dX4_groupsReached_5 rfl rfl ?_
  obtain ⟨hT1, x3, hv2, h⟩ := h
  refine zr_get C fl_X4_23 hT1 hv2 dX4_groupsReached_6 ?_
  obtain ⟨hT4, x6, hv5, h⟩ := h
  refine zr_get C fl_X4_179 hT4 hv5 dX4_groupsReached_9 ?_
  obtain ⟨hT7, h⟩ := h
  refine zr_callV (As := []) (r := (RJx4a65c, TJx4a65c, 3)) C (k_Jx4a65c_size_8abf5 h) ok_X4_30 zq_140 zq_141 hT7 (by decide) rfl rfl ⟨by decide, (Nat.le_of_ble_eq_true rfl)⟩ ⟨(Nat.le_of_ble_eq_true rfl), (Nat.le_of_ble_eq_true rfl)⟩ (Nat.le_of_ble_eq_true rfl) dX4_groupsReached_12 (fun v9 U10 G11 hq => ?_)
  clear h
  · obtain ⟨r8, rfl, rfl, rfl, h⟩ := hq
    obtain ⟨h1, h2⟩ := h
    refine zr_icmp_ge C 70 dX4_groupsReached_15 (by decide) (fun hc => ?_) (fun hc => ?_)
    · have h := h1 hc
      clear h1 h2
      refine zr_iload_n C 1 dX4_groupsReached_70 rfl rfl ?_
      exact zr_iret C rfl ⟨_, rfl, rfl, rfl, h⟩ (Nat.le_of_ble_eq_true rfl) (Nat.le_of_ble_eq_true rfl) dX4_groupsReached_71
    · have h := h2 hc
      clear h1 h2
      refine zr_aload_n C 2 dX4_groupsReached_18 rfl rfl ?_
      refine zr_get C fl_X4_23 hT1 hv2 dX4_groupsReached_19 ?_
      refine zr_get C fl_X4_179 hT4 hv5 dX4_groupsReached_22 ?_
      refine zr_iload_n C 0 dX4_groupsReached_25 rfl rfl ?_
      exact h.elim
theorem dX4_reach_0 : decode cX4_reach 0 = .ok (.iload_n 1, 1) := by decide +kernel
theorem dX4_reach_4 : decode cX4_reach 4 = .ok (.aload_n 0, 1) := by decide +kernel
theorem dX4_reach_5 : decode cX4_reach 5 = .ok (.iload_n 1, 1) := by decide +kernel
theorem dX4_reach_12 : decode cX4_reach 12 = .ok (.ireturn, 1) := by decide +kernel
theorem dX4_reach_9 : decode cX4_reach 9 = .ok (.invokestatic 289, 3) := by decide +kernel
theorem dX4_reach_6 : decode cX4_reach 6 = .ok (.invokevirtual 286, 3) := by decide +kernel
theorem dX4_reach_1 : decode cX4_reach 1 = .ok (.invokestatic 101, 3) := by decide +kernel
def v_X4_reach (a0 : Nat) (p1 : Int32) (T : zT) (F : zF) (Post : Int32 → Prop) (PX : String → Prop) : Prop :=
  (v_X4_needLand p1 T F (T a0 = some (7, 4) ∧ (v_X4_groupsReached a0 p1 T F (fun (r2 : Int32) => (v_J6_bitCount_0f7a4 r2 T F (fun (r3 : Int32) => Post r3))))) (fun (E9 : String) => PX E9))
set_option maxRecDepth 100000 in
set_option maxHeartbeats 4000000 in
theorem k_X4_reach {l : Launch} {D : va_G} {cA : Nat → ClassId} {N0 zE : Nat} {a0 : Nat} {p1 : Int32} {T : zT} {F : zF} {Post : Int32 → Prop} {PX : String → Prop} (h : v_X4_reach a0 p1 T F Post PX) : z_Met l D cA N0 zE yX4_reach cX4_reach 2 (some .int) ({ frames := 7, cells := 1, slots := 6, locals := 110 } : Room) [.ref a0, .int p1] T F (fun v T' F' => ∃ r : Int32, v = some (.int r) ∧ T = T' ∧ F = F' ∧ Post r) (fun E T' F' => T = T' ∧ F = F' ∧ PX E) := by
  unfold v_X4_reach at h
  refine z_body (by decide) (Nat.le_of_ble_eq_true rfl) ?_
  intro p e s m args below meth c C hxt hnm
  have C : z_C p l s m args meth c RX4 cX4_reach 2 (some .int) D cA N0 zE := C
  show z_w p l e ({ frames := 7, cells := 1, slots := 6, locals := 110 } : Room) s m args below meth c D cA N0 2 0 0 (vx_MQ below (z_Qc D cA N0 (fun v T' F' => ∃ r : Int32, v = some (.int r) ∧ T = T' ∧ F = F' ∧ Post r)) (z_XC D cA N0 (fun E T' F' => T = T' ∧ F = F' ∧ PX E)) args s 1 6 (fun q => N0 ≤ q)) 0 [(0, .ref a0), (1, .int p1)] [] T F
  refine zr_iload_n C 1 dX4_reach_0 rfl rfl ?_
  refine zr_callSX (As := [.int p1]) C (k_X4_needLand h) ok_X4_101 zq_345 rfl ⟨by decide, (Nat.le_of_ble_eq_true rfl)⟩ ⟨(Nat.le_of_ble_eq_true rfl), (Nat.le_of_ble_eq_true rfl)⟩ (Nat.le_of_ble_eq_true rfl) dX4_reach_1 (fun E9 T9 F9 hq => by obtain ⟨rfl, rfl, hq⟩ := hq; exact zr_out C (fun x hx => (hxt x hx).elim) ⟨rfl, rfl, hq⟩ (Nat.le_of_ble_eq_true rfl) (Nat.le_of_ble_eq_true rfl)) (fun v10 U11 G12 hq => ?_)
  clear h
  · obtain ⟨rfl, rfl, rfl, h⟩ := hq
    refine zr_aload_n C 0 dX4_reach_4 rfl rfl ?_
    refine zr_iload_n C 1 dX4_reach_5 rfl rfl ?_
    obtain ⟨hT1, h⟩ := h
    refine zr_callV (As := [.int p1]) (r := (RX4, TX4, 4)) C (k_X4_groupsReached h) ok_X4_286 zq_413 zq_7 hT1 (by decide) rfl rfl ⟨by decide, (Nat.le_of_ble_eq_true rfl)⟩ ⟨(Nat.le_of_ble_eq_true rfl), (Nat.le_of_ble_eq_true rfl)⟩ (Nat.le_of_ble_eq_true rfl) dX4_reach_6 (fun v7 U8 G9 hq => ?_)
    clear h
    · obtain ⟨r2, rfl, rfl, rfl, h⟩ := hq
      refine zr_callS (As := [.int r2]) C (k_J6_bitCount_0f7a4 h) ok_X4_289 zq_423 rfl ⟨by decide, (Nat.le_of_ble_eq_true rfl)⟩ ⟨(Nat.le_of_ble_eq_true rfl), (Nat.le_of_ble_eq_true rfl)⟩ (Nat.le_of_ble_eq_true rfl) dX4_reach_9 (fun v4 U5 G6 hq => ?_)
      clear h
      · obtain ⟨r3, rfl, rfl, rfl, h⟩ := hq
        exact zr_X (zr_iret C rfl ⟨_, rfl, rfl, rfl, h⟩ (Nat.le_of_ble_eq_true rfl) (Nat.le_of_ble_eq_true rfl) dX4_reach_12)
set_option maxRecDepth 100000 in
set_option maxHeartbeats 4000000 in
theorem k_X4_reach0 {l : Launch} {D : va_G} {cA : Nat → ClassId} {N0 zE : Nat} {a0 : Nat} {p1 : Int32} {T : zT} {F : zF} {Post : Int32 → Prop} (h : v_X4_reach a0 p1 T F Post (fun _ => False)) : z_Mt l D cA N0 zE yX4_reach cX4_reach 2 (some .int) ({ frames := 2, cells := 0, slots := 0, locals := 44 } : Room) [.ref a0, .int p1] T F (fun v T' F' => ∃ r : Int32, v = some (.int r) ∧ T = T' ∧ F = F' ∧ Post r) := by
  unfold v_X4_reach at h
  refine z_bodyT (by decide) (Nat.le_of_ble_eq_true rfl) ?_
  intro p e s m args below meth c C hnm
  have C : z_C p l s m args meth c RX4 cX4_reach 2 (some .int) D cA N0 zE := C
  show z_w p l e ({ frames := 2, cells := 0, slots := 0, locals := 44 } : Room) s m args below meth c D cA N0 2 0 0 (MQ below (z_Qc D cA N0 (fun v T' F' => ∃ r : Int32, v = some (.int r) ∧ T = T' ∧ F = F' ∧ Post r)) args s 0 0 (fun q => N0 ≤ q)) 0 [(0, .ref a0), (1, .int p1)] [] T F
  refine zr_iload_n C 1 dX4_reach_0 rfl rfl ?_
  refine zr_callS (As := [.int p1]) C (k_X4_needLand0 h) ok_X4_101 zq_345 rfl ⟨by decide, (Nat.le_of_ble_eq_true rfl)⟩ ⟨(Nat.le_of_ble_eq_true rfl), (Nat.le_of_ble_eq_true rfl)⟩ (Nat.le_of_ble_eq_true rfl) dX4_reach_1 (fun v10 U11 G12 hq => ?_)
  clear h
  · obtain ⟨rfl, rfl, rfl, h⟩ := hq
    refine zr_aload_n C 0 dX4_reach_4 rfl rfl ?_
    refine zr_iload_n C 1 dX4_reach_5 rfl rfl ?_
    obtain ⟨hT1, h⟩ := h
    refine zr_callV (As := [.int p1]) (r := (RX4, TX4, 4)) C (k_X4_groupsReached h) ok_X4_286 zq_413 zq_7 hT1 (by decide) rfl rfl ⟨by decide, (Nat.le_of_ble_eq_true rfl)⟩ ⟨(Nat.le_of_ble_eq_true rfl), (Nat.le_of_ble_eq_true rfl)⟩ (Nat.le_of_ble_eq_true rfl) dX4_reach_6 (fun v7 U8 G9 hq => ?_)
    clear h
    · obtain ⟨r2, rfl, rfl, rfl, h⟩ := hq
      refine zr_callS (As := [.int r2]) C (k_J6_bitCount_0f7a4 h) ok_X4_289 zq_423 rfl ⟨by decide, (Nat.le_of_ble_eq_true rfl)⟩ ⟨(Nat.le_of_ble_eq_true rfl), (Nat.le_of_ble_eq_true rfl)⟩ (Nat.le_of_ble_eq_true rfl) dX4_reach_9 (fun v4 U5 G6 hq => ?_)
      clear h
      · obtain ⟨r3, rfl, rfl, rfl, h⟩ := hq
        exact zr_iret C rfl ⟨_, rfl, rfl, rfl, h⟩ (Nat.le_of_ble_eq_true rfl) (Nat.le_of_ble_eq_true rfl) dX4_reach_12
theorem dX4_needOffer_0 : decode cX4_needOffer 0 = .ok (.iload_n 1, 1) := by decide +kernel
theorem dX4_needOffer_1 : decode cX4_needOffer 1 = .ok (.aload_n 0, 1) := by decide +kernel
theorem dX4_needOffer_2 : decode cX4_needOffer 2 = .ok (.getfield 23, 3) := by decide +kernel
theorem dX4_needOffer_5 : decode cX4_needOffer 5 = .ok (.getfield 52, 3) := by decide +kernel
theorem dX4_needOffer_8 : decode cX4_needOffer 8 = .ok (.if_icmp .gt 14, 3) := by decide +kernel
theorem dX4_needOffer_22 : decode cX4_needOffer 22 = .ok (.iload_n 2, 1) := by decide +kernel
theorem dX4_needOffer_23 : decode cX4_needOffer 23 = .ok (.iload_n 1, 1) := by decide +kernel
theorem dX4_needOffer_24 : decode cX4_needOffer 24 = .ok (.if_icmp .lt 9, 3) := by decide +kernel
theorem dX4_needOffer_33 : decode cX4_needOffer 33 = .ok (.new 56, 3) := by decide +kernel
theorem dX4_needOffer_36 : decode cX4_needOffer 36 = .ok (.dup, 1) := by decide +kernel
theorem dX4_needOffer_37 : decode cX4_needOffer 37 = .ok (.ldc_w 365, 3) := by decide +kernel
theorem dX4_needOffer_40 : decode cX4_needOffer 40 = .ok (.invokespecial 60, 3) := by decide +kernel
theorem dX4_needOffer_43 : decode cX4_needOffer 43 = .ok (.athrow, 1) := by decide +kernel
theorem dX4_needOffer_27 : decode cX4_needOffer 27 = .ok (.iload_n 2, 1) := by decide +kernel
theorem dX4_needOffer_28 : decode cX4_needOffer 28 = .ok (.bipush 99, 2) := by decide +kernel
theorem dX4_needOffer_30 : decode cX4_needOffer 30 = .ok (.if_icmp .le 14, 3) := by decide +kernel
theorem dX4_needOffer_44 : decode cX4_needOffer 44 = .ok (.iload_n 3, 1) := by decide +kernel
theorem dX4_needOffer_45 : decode cX4_needOffer 45 = .ok (.iconst 1, 1) := by decide +kernel
theorem dX4_needOffer_46 : decode cX4_needOffer 46 = .ok (.if_icmp .lt 10, 3) := by decide +kernel
theorem dX4_needOffer_56 : decode cX4_needOffer 56 = .ok (.new 56, 3) := by decide +kernel
theorem dX4_needOffer_59 : decode cX4_needOffer 59 = .ok (.dup, 1) := by decide +kernel
theorem dX4_needOffer_60 : decode cX4_needOffer 60 = .ok (.ldc_w 367, 3) := by decide +kernel
theorem dX4_needOffer_63 : decode cX4_needOffer 63 = .ok (.invokespecial 60, 3) := by decide +kernel
theorem dX4_needOffer_66 : decode cX4_needOffer 66 = .ok (.athrow, 1) := by decide +kernel
theorem dX4_needOffer_49 : decode cX4_needOffer 49 = .ok (.iload_n 3, 1) := by decide +kernel
theorem dX4_needOffer_50 : decode cX4_needOffer 50 = .ok (.sipush 999, 3) := by decide +kernel
theorem dX4_needOffer_53 : decode cX4_needOffer 53 = .ok (.if_icmp .le 14, 3) := by decide +kernel
theorem dX4_needOffer_67 : decode cX4_needOffer 67 = .ok (.return_, 1) := by decide +kernel
theorem dX4_needOffer_11 : decode cX4_needOffer 11 = .ok (.new 56, 3) := by decide +kernel
theorem dX4_needOffer_14 : decode cX4_needOffer 14 = .ok (.dup, 1) := by decide +kernel
theorem dX4_needOffer_15 : decode cX4_needOffer 15 = .ok (.ldc_w 363, 3) := by decide +kernel
theorem dX4_needOffer_18 : decode cX4_needOffer 18 = .ok (.invokespecial 60, 3) := by decide +kernel
theorem dX4_needOffer_21 : decode cX4_needOffer 21 = .ok (.athrow, 1) := by decide +kernel
def v_X4_needOffer (a0 : Nat) (p1 : Int32) (p2 : Int32) (p3 : Int32) (T : zT) (F : zF) (Post : Prop) (PX : String → Prop) : Prop :=
  (T a0 = some (7, 4) ∧ ∃ x3 : Nat, F a0 2 = .ref x3 ∧ T x3 = some (6, 3) ∧ ∃ x6 : Int32, F x3 2 = .int x6 ∧ ((x6 < p1 → ((p2 < p1 → PX "java/lang/IllegalArgumentException") ∧ (¬ p2 < p1 → ((p2 ≤ 99 → ((p3 < 1 → PX "java/lang/IllegalArgumentException") ∧ (¬ p3 < 1 → ((p3 ≤ 999 → Post) ∧ (¬ p3 ≤ 999 → PX "java/lang/IllegalArgumentException"))))) ∧ (¬ p2 ≤ 99 → PX "java/lang/IllegalArgumentException"))))) ∧ (¬ x6 < p1 → PX "java/lang/IllegalArgumentException")))
set_option maxRecDepth 100000 in
set_option maxHeartbeats 4000000 in
theorem k_X4_needOffer {l : Launch} {D : va_G} {cA : Nat → ClassId} {N0 zE : Nat} {a0 : Nat} {p1 : Int32} {p2 : Int32} {p3 : Int32} {T : zT} {F : zF} {Post : Prop} {PX : String → Prop} (h : v_X4_needOffer a0 p1 p2 p3 T F Post PX) : z_Met l D cA N0 zE yX4_needOffer cX4_needOffer 4 none ({ frames := 6, cells := 1, slots := 6, locals := 90 } : Room) [.ref a0, .int p1, .int p2, .int p3] T F (fun v T' F' => v = none ∧ T = T' ∧ F = F' ∧ Post) (fun E T' F' => T = T' ∧ F = F' ∧ PX E) := by
  unfold v_X4_needOffer at h
  refine z_body (by decide) (Nat.le_of_ble_eq_true rfl) ?_
  intro p e s m args below meth c C hxt hnm
  have C : z_C p l s m args meth c RX4 cX4_needOffer 4 none D cA N0 zE := C
  show z_w p l e ({ frames := 6, cells := 1, slots := 6, locals := 90 } : Room) s m args below meth c D cA N0 4 0 0 (vx_MQ below (z_Qc D cA N0 (fun v T' F' => v = none ∧ T = T' ∧ F = F' ∧ Post)) (z_XC D cA N0 (fun E T' F' => T = T' ∧ F = F' ∧ PX E)) args s 1 6 (fun q => N0 ≤ q)) 0 [(0, .ref a0), (1, .int p1), (2, .int p2), (3, .int p3)] [] T F
  refine zr_iload_n C 1 dX4_needOffer_0 rfl rfl ?_
  refine zr_aload_n C 0 dX4_needOffer_1 rfl rfl ?_
  obtain ⟨hT1, x3, hv2, h⟩ := h
  refine zr_get C fl_X4_23 hT1 hv2 dX4_needOffer_2 ?_
  obtain ⟨hT4, x6, hv5, h⟩ := h
  refine zr_get C fl_X4_52 hT4 hv5 dX4_needOffer_5 ?_
  obtain ⟨h1, h2⟩ := h
  refine zr_icmp_gt C 22 dX4_needOffer_8 (by decide) (fun hc => ?_) (fun hc => ?_)
  · have h := h1 hc
    clear h1 h2
    refine zr_iload_n C 2 dX4_needOffer_22 rfl rfl ?_
    refine zr_iload_n C 1 dX4_needOffer_23 rfl rfl ?_
    obtain ⟨h1, h2⟩ := h
    refine zr_icmp_lt C 33 dX4_needOffer_24 (by decide) (fun hc => ?_) (fun hc => ?_)
    · have h := h1 hc
      clear h1 h2
      exact zr_throwW C th_X4_56_60_365 (fun x hx => (hxt x hx).elim) ⟨rfl, rfl, h⟩ dX4_needOffer_33 dX4_needOffer_36 dX4_needOffer_37 dX4_needOffer_40 dX4_needOffer_43 (by decide) (Nat.le_of_ble_eq_true rfl) ⟨(Nat.le_of_ble_eq_true rfl), (Nat.le_of_ble_eq_true rfl)⟩ ⟨(Nat.le_of_ble_eq_true rfl), (Nat.le_of_ble_eq_true rfl)⟩
    · have h := h2 hc
      clear h1 h2
      refine zr_iload_n C 2 dX4_needOffer_27 rfl rfl ?_
      refine zr_bipush C 99 dX4_needOffer_28 (by decide) ?_
      obtain ⟨h1, h2⟩ := h
      refine zr_icmp_le C 44 dX4_needOffer_30 (by decide) (fun hc => ?_) (fun hc => ?_)
      · have h := h1 hc
        clear h1 h2
        refine zr_iload_n C 3 dX4_needOffer_44 rfl rfl ?_
        refine zr_iconst C 1 dX4_needOffer_45 (by decide) ?_
        obtain ⟨h1, h2⟩ := h
        refine zr_icmp_lt C 56 dX4_needOffer_46 (by decide) (fun hc => ?_) (fun hc => ?_)
        · have h := h1 hc
          clear h1 h2
          exact zr_throwW C th_X4_56_60_367 (fun x hx => (hxt x hx).elim) ⟨rfl, rfl, h⟩ dX4_needOffer_56 dX4_needOffer_59 dX4_needOffer_60 dX4_needOffer_63 dX4_needOffer_66 (by decide) (Nat.le_of_ble_eq_true rfl) ⟨(Nat.le_of_ble_eq_true rfl), (Nat.le_of_ble_eq_true rfl)⟩ ⟨(Nat.le_of_ble_eq_true rfl), (Nat.le_of_ble_eq_true rfl)⟩
        · have h := h2 hc
          clear h1 h2
          refine zr_iload_n C 3 dX4_needOffer_49 rfl rfl ?_
          refine zr_sipush C 999 dX4_needOffer_50 (by decide) ?_
          obtain ⟨h1, h2⟩ := h
          refine zr_icmp_le C 67 dX4_needOffer_53 (by decide) (fun hc => ?_) (fun hc => ?_)
          · have h := h1 hc
            clear h1 h2
            exact zr_X (zr_vret C rfl ⟨rfl, rfl, rfl, h⟩ (Nat.le_of_ble_eq_true rfl) (Nat.le_of_ble_eq_true rfl) dX4_needOffer_67)
          · have h := h2 hc
            clear h1 h2
            exact zr_throwW C th_X4_56_60_367 (fun x hx => (hxt x hx).elim) ⟨rfl, rfl, h⟩ dX4_needOffer_56 dX4_needOffer_59 dX4_needOffer_60 dX4_needOffer_63 dX4_needOffer_66 (by decide) (Nat.le_of_ble_eq_true rfl) ⟨(Nat.le_of_ble_eq_true rfl), (Nat.le_of_ble_eq_true rfl)⟩ ⟨(Nat.le_of_ble_eq_true rfl), (Nat.le_of_ble_eq_true rfl)⟩
      · have h := h2 hc
        clear h1 h2
        exact zr_throwW C th_X4_56_60_365 (fun x hx => (hxt x hx).elim) ⟨rfl, rfl, h⟩ dX4_needOffer_33 dX4_needOffer_36 dX4_needOffer_37 dX4_needOffer_40 dX4_needOffer_43 (by decide) (Nat.le_of_ble_eq_true rfl) ⟨(Nat.le_of_ble_eq_true rfl), (Nat.le_of_ble_eq_true rfl)⟩ ⟨(Nat.le_of_ble_eq_true rfl), (Nat.le_of_ble_eq_true rfl)⟩
  · have h := h2 hc
    clear h1 h2
    exact zr_throwW C th_X4_56_60_363 (fun x hx => (hxt x hx).elim) ⟨rfl, rfl, h⟩ dX4_needOffer_11 dX4_needOffer_14 dX4_needOffer_15 dX4_needOffer_18 dX4_needOffer_21 (by decide) (Nat.le_of_ble_eq_true rfl) ⟨(Nat.le_of_ble_eq_true rfl), (Nat.le_of_ble_eq_true rfl)⟩ ⟨(Nat.le_of_ble_eq_true rfl), (Nat.le_of_ble_eq_true rfl)⟩
set_option maxRecDepth 100000 in
set_option maxHeartbeats 4000000 in
theorem k_X4_needOffer0 {l : Launch} {D : va_G} {cA : Nat → ClassId} {N0 zE : Nat} {a0 : Nat} {p1 : Int32} {p2 : Int32} {p3 : Int32} {T : zT} {F : zF} {Post : Prop} (h : v_X4_needOffer a0 p1 p2 p3 T F Post (fun _ => False)) : z_Mt l D cA N0 zE yX4_needOffer cX4_needOffer 4 none ({ frames := 0, cells := 0, slots := 0, locals := 0 } : Room) [.ref a0, .int p1, .int p2, .int p3] T F (fun v T' F' => v = none ∧ T = T' ∧ F = F' ∧ Post) := by
  unfold v_X4_needOffer at h
  refine z_bodyT (by decide) (Nat.le_of_ble_eq_true rfl) ?_
  intro p e s m args below meth c C hnm
  have C : z_C p l s m args meth c RX4 cX4_needOffer 4 none D cA N0 zE := C
  show z_w p l e ({ frames := 0, cells := 0, slots := 0, locals := 0 } : Room) s m args below meth c D cA N0 4 0 0 (MQ below (z_Qc D cA N0 (fun v T' F' => v = none ∧ T = T' ∧ F = F' ∧ Post)) args s 0 0 (fun q => N0 ≤ q)) 0 [(0, .ref a0), (1, .int p1), (2, .int p2), (3, .int p3)] [] T F
  refine zr_iload_n C 1 dX4_needOffer_0 rfl rfl ?_
  refine zr_aload_n C 0 dX4_needOffer_1 rfl rfl ?_
  obtain ⟨hT1, x3, hv2, h⟩ := h
  refine zr_get C fl_X4_23 hT1 hv2 dX4_needOffer_2 ?_
  obtain ⟨hT4, x6, hv5, h⟩ := h
  refine zr_get C fl_X4_52 hT4 hv5 dX4_needOffer_5 ?_
  obtain ⟨h1, h2⟩ := h
  refine zr_icmp_gt C 22 dX4_needOffer_8 (by decide) (fun hc => ?_) (fun hc => ?_)
  · have h := h1 hc
    clear h1 h2
    refine zr_iload_n C 2 dX4_needOffer_22 rfl rfl ?_
    refine zr_iload_n C 1 dX4_needOffer_23 rfl rfl ?_
    obtain ⟨h1, h2⟩ := h
    refine zr_icmp_lt C 33 dX4_needOffer_24 (by decide) (fun hc => ?_) (fun hc => ?_)
    · have h := h1 hc
      clear h1 h2
      exact h.elim
    · have h := h2 hc
      clear h1 h2
      refine zr_iload_n C 2 dX4_needOffer_27 rfl rfl ?_
      refine zr_bipush C 99 dX4_needOffer_28 (by decide) ?_
      obtain ⟨h1, h2⟩ := h
      refine zr_icmp_le C 44 dX4_needOffer_30 (by decide) (fun hc => ?_) (fun hc => ?_)
      · have h := h1 hc
        clear h1 h2
        refine zr_iload_n C 3 dX4_needOffer_44 rfl rfl ?_
        refine zr_iconst C 1 dX4_needOffer_45 (by decide) ?_
        obtain ⟨h1, h2⟩ := h
        refine zr_icmp_lt C 56 dX4_needOffer_46 (by decide) (fun hc => ?_) (fun hc => ?_)
        · have h := h1 hc
          clear h1 h2
          exact h.elim
        · have h := h2 hc
          clear h1 h2
          refine zr_iload_n C 3 dX4_needOffer_49 rfl rfl ?_
          refine zr_sipush C 999 dX4_needOffer_50 (by decide) ?_
          obtain ⟨h1, h2⟩ := h
          refine zr_icmp_le C 67 dX4_needOffer_53 (by decide) (fun hc => ?_) (fun hc => ?_)
          · have h := h1 hc
            clear h1 h2
            exact zr_vret C rfl ⟨rfl, rfl, rfl, h⟩ (Nat.le_of_ble_eq_true rfl) (Nat.le_of_ble_eq_true rfl) dX4_needOffer_67
          · have h := h2 hc
            clear h1 h2
            exact h.elim
      · have h := h2 hc
        clear h1 h2
        exact h.elim
  · have h := h2 hc
    clear h1 h2
    exact h.elim
theorem dX3_priceToday_0 : decode cX3_priceToday 0 = .ok (.iload_n 3, 1) := by decide +kernel
theorem dX3_priceToday_1 : decode cX3_priceToday 1 = .ok (.iload_n 2, 1) := by decide +kernel
theorem dX3_priceToday_2 : decode cX3_priceToday 2 = .ok (.iload_n 1, 1) := by decide +kernel
theorem dX3_priceToday_3 : decode cX3_priceToday 3 = .ok (.isub, 1) := by decide +kernel
theorem dX3_priceToday_4 : decode cX3_priceToday 4 = .ok (.iconst 1, 1) := by decide +kernel
theorem dX3_priceToday_5 : decode cX3_priceToday 5 = .ok (.iadd, 1) := by decide +kernel
theorem dX3_priceToday_6 : decode cX3_priceToday 6 = .ok (.imul, 1) := by decide +kernel
theorem dX3_priceToday_7 : decode cX3_priceToday 7 = .ok (.istore 4, 2) := by decide +kernel
theorem dX3_priceToday_9 : decode cX3_priceToday 9 = .ok (.iconst 0, 1) := by decide +kernel
theorem dX3_priceToday_10 : decode cX3_priceToday 10 = .ok (.aload_n 0, 1) := by decide +kernel
theorem dX3_priceToday_11 : decode cX3_priceToday 11 = .ok (.getfield 21, 3) := by decide +kernel
theorem dX3_priceToday_14 : decode cX3_priceToday 14 = .ok (.iload_n 1, 1) := by decide +kernel
theorem dX3_priceToday_15 : decode cX3_priceToday 15 = .ok (.bipush 10, 2) := by decide +kernel
theorem dX3_priceToday_17 : decode cX3_priceToday 17 = .ok (.isub, 1) := by decide +kernel
theorem dX3_priceToday_18 : decode cX3_priceToday 18 = .ok (.isub, 1) := by decide +kernel
theorem dX3_priceToday_19 : decode cX3_priceToday 19 = .ok (.invokestatic 131, 3) := by decide +kernel
theorem dX3_priceToday_22 : decode cX3_priceToday 22 = .ok (.istore 5, 2) := by decide +kernel
theorem dX3_priceToday_24 : decode cX3_priceToday 24 = .ok (.iload 4, 2) := by decide +kernel
theorem dX3_priceToday_26 : decode cX3_priceToday 26 = .ok (.iload 5, 2) := by decide +kernel
theorem dX3_priceToday_28 : decode cX3_priceToday 28 = .ok (.iload 4, 2) := by decide +kernel
theorem dX3_priceToday_30 : decode cX3_priceToday 30 = .ok (.bipush 10, 2) := by decide +kernel
theorem dX3_priceToday_32 : decode cX3_priceToday 32 = .ok (.idiv, 1) := by decide +kernel
theorem dX3_priceToday_33 : decode cX3_priceToday 33 = .ok (.imul, 1) := by decide +kernel
theorem dX3_priceToday_34 : decode cX3_priceToday 34 = .ok (.iadd, 1) := by decide +kernel
theorem dX3_priceToday_35 : decode cX3_priceToday 35 = .ok (.ireturn, 1) := by decide +kernel
def v_X3_priceToday (a0 : Nat) (p1 : Int32) (p2 : Int32) (p3 : Int32) (T : zT) (F : zF) (Post : Int32 → Prop) : Prop :=
  (T a0 = some (6, 3) ∧ ∃ x3 : Int32, F a0 2 = .int x3 ∧ (∀ (y4 : Int32), y4 = (if (0 : Int32) < (x3 - (p1 - 10)) then (x3 - (p1 - 10)) else (0 : Int32)) → Post ((p3 * ((p2 - p1) + 1)) + (y4 * ((p3 * ((p2 - p1) + 1)) / 10)))))
set_option maxRecDepth 100000 in
set_option maxHeartbeats 4000000 in
theorem k_X3_priceToday {l : Launch} {D : va_G} {cA : Nat → ClassId} {N0 zE : Nat} {a0 : Nat} {p1 : Int32} {p2 : Int32} {p3 : Int32} {T : zT} {F : zF} {Post : Int32 → Prop} (h : v_X3_priceToday a0 p1 p2 p3 T F Post) : z_Mt l D cA N0 zE yX3_priceToday cX3_priceToday 6 (some .int) ({ frames := 1, cells := 0, slots := 0, locals := 21 } : Room) [.ref a0, .int p1, .int p2, .int p3] T F (fun v T' F' => ∃ r : Int32, v = some (.int r) ∧ T = T' ∧ F = F' ∧ Post r) := by
  unfold v_X3_priceToday at h
  refine z_bodyT (by decide) (Nat.le_of_ble_eq_true rfl) ?_
  intro p e s m args below meth c C hnm
  have C : z_C p l s m args meth c RX3 cX3_priceToday 6 (some .int) D cA N0 zE := C
  show z_w p l e ({ frames := 1, cells := 0, slots := 0, locals := 21 } : Room) s m args below meth c D cA N0 6 0 0 (MQ below (z_Qc D cA N0 (fun v T' F' => ∃ r : Int32, v = some (.int r) ∧ T = T' ∧ F = F' ∧ Post r)) args s 0 0 (fun q => N0 ≤ q)) 0 [(0, .ref a0), (1, .int p1), (2, .int p2), (3, .int p3)] [] T F
  refine zr_iload_n C 3 dX3_priceToday_0 rfl rfl ?_
  refine zr_iload_n C 2 dX3_priceToday_1 rfl rfl ?_
  refine zr_iload_n C 1 dX3_priceToday_2 rfl rfl ?_
  refine zr_isub C dX3_priceToday_3 ?_
  refine zr_iconst C 1 dX3_priceToday_4 (by decide) ?_
  refine zr_iadd C dX3_priceToday_5 ?_
  refine zr_imul C dX3_priceToday_6 ?_
  refine zr_istore C [(4, .int (p3 * ((p2 - p1) + 1))), (0, .ref a0), (1, .int p1), (2, .int p2), (3, .int p3)] dX3_priceToday_7 (by decide) rfl ?_
  refine zr_iconst C 0 dX3_priceToday_9 (by decide) ?_
  refine zr_aload_n C 1 dX3_priceToday_10 rfl rfl ?_
  obtain ⟨hT1, x3, hv2, h⟩ := h
  refine zr_get C fl_X3_21 hT1 hv2 dX3_priceToday_11 ?_
  refine zr_iload_n C 2 dX3_priceToday_14 rfl rfl ?_
  refine zr_bipush C 10 dX3_priceToday_15 (by decide) ?_
  refine zr_isub C dX3_priceToday_17 ?_
  refine zr_isub C dX3_priceToday_18 ?_
  refine zr_max C zq_832 zq_337 zq_45 zq_338 (by decide) (Nat.le_of_ble_eq_true rfl) (Nat.le_of_ble_eq_true rfl) (Nat.le_of_ble_eq_true rfl) dX3_priceToday_19 ?_
  refine zr_topi (fun y4 hy5 => ?_)
  have h := h y4 hy5
  refine zr_istore C [(5, .int y4), (4, .int (p3 * ((p2 - p1) + 1))), (0, .ref a0), (1, .int p1), (2, .int p2), (3, .int p3)] dX3_priceToday_22 (by decide) rfl ?_
  refine zr_iload C 1 dX3_priceToday_24 rfl ?_
  refine zr_iload C 0 dX3_priceToday_26 rfl ?_
  refine zr_iload C 1 dX3_priceToday_28 rfl ?_
  refine zr_bipush C 10 dX3_priceToday_30 (by decide) ?_
  refine zr_idiv C dX3_priceToday_32 (by decide) ?_
  refine zr_imul C dX3_priceToday_33 ?_
  refine zr_iadd C dX3_priceToday_34 ?_
  exact zr_iret C rfl ⟨_, rfl, rfl, rfl, h⟩ (Nat.le_of_ble_eq_true rfl) (Nat.le_of_ble_eq_true rfl) dX3_priceToday_35
theorem dX4_price_0 : decode cX4_price 0 = .ok (.aload_n 0, 1) := by decide +kernel
theorem dX4_price_1 : decode cX4_price 1 = .ok (.iload_n 1, 1) := by decide +kernel
theorem dX4_price_2 : decode cX4_price 2 = .ok (.iload_n 2, 1) := by decide +kernel
theorem dX4_price_3 : decode cX4_price 3 = .ok (.iload_n 3, 1) := by decide +kernel
theorem dX4_price_7 : decode cX4_price 7 = .ok (.aload_n 0, 1) := by decide +kernel
theorem dX4_price_8 : decode cX4_price 8 = .ok (.getfield 23, 3) := by decide +kernel
theorem dX4_price_11 : decode cX4_price 11 = .ok (.iload_n 1, 1) := by decide +kernel
theorem dX4_price_12 : decode cX4_price 12 = .ok (.iload_n 2, 1) := by decide +kernel
theorem dX4_price_13 : decode cX4_price 13 = .ok (.iload_n 3, 1) := by decide +kernel
theorem dX4_price_17 : decode cX4_price 17 = .ok (.ireturn, 1) := by decide +kernel
theorem dX4_price_14 : decode cX4_price 14 = .ok (.invokevirtual 192, 3) := by decide +kernel
theorem dX4_price_4 : decode cX4_price 4 = .ok (.invokevirtual 176, 3) := by decide +kernel
def v_X4_price (a0 : Nat) (p1 : Int32) (p2 : Int32) (p3 : Int32) (T : zT) (F : zF) (Post : Int32 → Prop) (PX : String → Prop) : Prop :=
  (T a0 = some (7, 4) ∧ (v_X4_needOffer a0 p1 p2 p3 T F (∃ x3 : Nat, F a0 2 = .ref x3 ∧ T x3 = some (6, 3) ∧ (v_X3_priceToday x3 p1 p2 p3 T F (fun (r5 : Int32) => Post r5))) (fun (E9 : String) => PX E9)))
set_option maxRecDepth 100000 in
set_option maxHeartbeats 4000000 in
theorem k_X4_price {l : Launch} {D : va_G} {cA : Nat → ClassId} {N0 zE : Nat} {a0 : Nat} {p1 : Int32} {p2 : Int32} {p3 : Int32} {T : zT} {F : zF} {Post : Int32 → Prop} {PX : String → Prop} (h : v_X4_price a0 p1 p2 p3 T F Post PX) : z_Met l D cA N0 zE yX4_price cX4_price 4 (some .int) ({ frames := 7, cells := 1, slots := 6, locals := 113 } : Room) [.ref a0, .int p1, .int p2, .int p3] T F (fun v T' F' => ∃ r : Int32, v = some (.int r) ∧ T = T' ∧ F = F' ∧ Post r) (fun E T' F' => T = T' ∧ F = F' ∧ PX E) := by
  unfold v_X4_price at h
  refine z_body (by decide) (Nat.le_of_ble_eq_true rfl) ?_
  intro p e s m args below meth c C hxt hnm
  have C : z_C p l s m args meth c RX4 cX4_price 4 (some .int) D cA N0 zE := C
  show z_w p l e ({ frames := 7, cells := 1, slots := 6, locals := 113 } : Room) s m args below meth c D cA N0 4 0 0 (vx_MQ below (z_Qc D cA N0 (fun v T' F' => ∃ r : Int32, v = some (.int r) ∧ T = T' ∧ F = F' ∧ Post r)) (z_XC D cA N0 (fun E T' F' => T = T' ∧ F = F' ∧ PX E)) args s 1 6 (fun q => N0 ≤ q)) 0 [(0, .ref a0), (1, .int p1), (2, .int p2), (3, .int p3)] [] T F
  refine zr_aload_n C 0 dX4_price_0 rfl rfl ?_
  refine zr_iload_n C 1 dX4_price_1 rfl rfl ?_
  refine zr_iload_n C 2 dX4_price_2 rfl rfl ?_
  refine zr_iload_n C 3 dX4_price_3 rfl rfl ?_
  obtain ⟨hT1, h⟩ := h
  refine zr_callVX (As := [.int p1, .int p2, .int p3]) (r := (RX4, TX4, 4)) C (k_X4_needOffer h) ok_X4_176 zq_820 zq_15 hT1 (by decide) rfl rfl ⟨by decide, (Nat.le_of_ble_eq_true rfl)⟩ ⟨(Nat.le_of_ble_eq_true rfl), (Nat.le_of_ble_eq_true rfl)⟩ (Nat.le_of_ble_eq_true rfl) dX4_price_4 (fun E9 T9 F9 hq => by obtain ⟨rfl, rfl, hq⟩ := hq; exact zr_out C (fun x hx => (hxt x hx).elim) ⟨rfl, rfl, hq⟩ (Nat.le_of_ble_eq_true rfl) (Nat.le_of_ble_eq_true rfl)) (fun v9 U10 G11 hq => ?_)
  clear h
  · obtain ⟨rfl, rfl, rfl, h⟩ := hq
    refine zr_aload_n C 0 dX4_price_7 rfl rfl ?_
    obtain ⟨x3, hv2, h⟩ := h
    refine zr_get C fl_X4_23 hT1 hv2 dX4_price_8 ?_
    refine zr_iload_n C 1 dX4_price_11 rfl rfl ?_
    refine zr_iload_n C 2 dX4_price_12 rfl rfl ?_
    refine zr_iload_n C 3 dX4_price_13 rfl rfl ?_
    obtain ⟨hT4, h⟩ := h
    refine zr_callV (As := [.int p1, .int p2, .int p3]) (r := (RX3, TX3, 3)) C (k_X3_priceToday h) ok_X4_192 zq_829 zq_830 hT4 (by decide) rfl rfl ⟨by decide, (Nat.le_of_ble_eq_true rfl)⟩ ⟨(Nat.le_of_ble_eq_true rfl), (Nat.le_of_ble_eq_true rfl)⟩ (Nat.le_of_ble_eq_true rfl) dX4_price_14 (fun v6 U7 G8 hq => ?_)
    clear h
    · obtain ⟨r5, rfl, rfl, rfl, h⟩ := hq
      exact zr_X (zr_iret C rfl ⟨_, rfl, rfl, rfl, h⟩ (Nat.le_of_ble_eq_true rfl) (Nat.le_of_ble_eq_true rfl) dX4_price_17)
set_option maxRecDepth 100000 in
set_option maxHeartbeats 4000000 in
theorem k_X4_price0 {l : Launch} {D : va_G} {cA : Nat → ClassId} {N0 zE : Nat} {a0 : Nat} {p1 : Int32} {p2 : Int32} {p3 : Int32} {T : zT} {F : zF} {Post : Int32 → Prop} (h : v_X4_price a0 p1 p2 p3 T F Post (fun _ => False)) : z_Mt l D cA N0 zE yX4_price cX4_price 4 (some .int) ({ frames := 2, cells := 0, slots := 0, locals := 46 } : Room) [.ref a0, .int p1, .int p2, .int p3] T F (fun v T' F' => ∃ r : Int32, v = some (.int r) ∧ T = T' ∧ F = F' ∧ Post r) := by
  unfold v_X4_price at h
  refine z_bodyT (by decide) (Nat.le_of_ble_eq_true rfl) ?_
  intro p e s m args below meth c C hnm
  have C : z_C p l s m args meth c RX4 cX4_price 4 (some .int) D cA N0 zE := C
  show z_w p l e ({ frames := 2, cells := 0, slots := 0, locals := 46 } : Room) s m args below meth c D cA N0 4 0 0 (MQ below (z_Qc D cA N0 (fun v T' F' => ∃ r : Int32, v = some (.int r) ∧ T = T' ∧ F = F' ∧ Post r)) args s 0 0 (fun q => N0 ≤ q)) 0 [(0, .ref a0), (1, .int p1), (2, .int p2), (3, .int p3)] [] T F
  refine zr_aload_n C 0 dX4_price_0 rfl rfl ?_
  refine zr_iload_n C 1 dX4_price_1 rfl rfl ?_
  refine zr_iload_n C 2 dX4_price_2 rfl rfl ?_
  refine zr_iload_n C 3 dX4_price_3 rfl rfl ?_
  obtain ⟨hT1, h⟩ := h
  refine zr_callV (As := [.int p1, .int p2, .int p3]) (r := (RX4, TX4, 4)) C (k_X4_needOffer0 h) ok_X4_176 zq_820 zq_15 hT1 (by decide) rfl rfl ⟨by decide, (Nat.le_of_ble_eq_true rfl)⟩ ⟨(Nat.le_of_ble_eq_true rfl), (Nat.le_of_ble_eq_true rfl)⟩ (Nat.le_of_ble_eq_true rfl) dX4_price_4 (fun v9 U10 G11 hq => ?_)
  clear h
  · obtain ⟨rfl, rfl, rfl, h⟩ := hq
    refine zr_aload_n C 0 dX4_price_7 rfl rfl ?_
    obtain ⟨x3, hv2, h⟩ := h
    refine zr_get C fl_X4_23 hT1 hv2 dX4_price_8 ?_
    refine zr_iload_n C 1 dX4_price_11 rfl rfl ?_
    refine zr_iload_n C 2 dX4_price_12 rfl rfl ?_
    refine zr_iload_n C 3 dX4_price_13 rfl rfl ?_
    obtain ⟨hT4, h⟩ := h
    refine zr_callV (As := [.int p1, .int p2, .int p3]) (r := (RX3, TX3, 3)) C (k_X3_priceToday h) ok_X4_192 zq_829 zq_830 hT4 (by decide) rfl rfl ⟨by decide, (Nat.le_of_ble_eq_true rfl)⟩ ⟨(Nat.le_of_ble_eq_true rfl), (Nat.le_of_ble_eq_true rfl)⟩ (Nat.le_of_ble_eq_true rfl) dX4_price_14 (fun v6 U7 G8 hq => ?_)
    clear h
    · obtain ⟨r5, rfl, rfl, rfl, h⟩ := hq
      exact zr_iret C rfl ⟨_, rfl, rfl, rfl, h⟩ (Nat.le_of_ble_eq_true rfl) (Nat.le_of_ble_eq_true rfl) dX4_price_17
theorem dX4_swapFor_0 : decode cX4_swapFor 0 = .ok (.aload_n 0, 1) := by decide +kernel
theorem dX4_swapFor_1 : decode cX4_swapFor 1 = .ok (.getfield 23, 3) := by decide +kernel
theorem dX4_swapFor_4 : decode cX4_swapFor 4 = .ok (.aload_n 0, 1) := by decide +kernel
theorem dX4_swapFor_5 : decode cX4_swapFor 5 = .ok (.iload_n 1, 1) := by decide +kernel
theorem dX4_swapFor_6 : decode cX4_swapFor 6 = .ok (.invokevirtual 199, 3) := by decide +kernel
def v_X4_swapFor (a0 : Nat) (p1 : Int32) (T : zT) (F : zF) (Post : Int32 → Prop) (PX : String → Prop) : Prop :=
  (T a0 = some (7, 4) ∧ ∃ x3 : Nat, F a0 2 = .ref x3 ∧ (v_X4_bookingAt a0 p1 T F (fun (r4 : Nat) => False) (fun (E9 : String) => PX E9)))
set_option maxRecDepth 100000 in
set_option maxHeartbeats 4000000 in
theorem k_X4_swapFor {l : Launch} {D : va_G} {cA : Nat → ClassId} {N0 zE : Nat} {a0 : Nat} {p1 : Int32} {T : zT} {F : zF} {Post : Int32 → Prop} {PX : String → Prop} (h : v_X4_swapFor a0 p1 T F Post PX) : z_Met l D cA N0 zE yX4_swapFor cX4_swapFor 3 (some .int) ({ frames := 7, cells := 1, slots := 6, locals := 111 } : Room) [.ref a0, .int p1] T F (fun v T' F' => ∃ r : Int32, v = some (.int r) ∧ T = T' ∧ F = F' ∧ Post r) (fun E T' F' => T = T' ∧ F = F' ∧ PX E) := by
  unfold v_X4_swapFor at h
  refine z_body (by decide) (Nat.le_of_ble_eq_true rfl) ?_
  intro p e s m args below meth c C hxt hnm
  have C : z_C p l s m args meth c RX4 cX4_swapFor 3 (some .int) D cA N0 zE := C
  show z_w p l e ({ frames := 7, cells := 1, slots := 6, locals := 111 } : Room) s m args below meth c D cA N0 3 0 0 (vx_MQ below (z_Qc D cA N0 (fun v T' F' => ∃ r : Int32, v = some (.int r) ∧ T = T' ∧ F = F' ∧ Post r)) (z_XC D cA N0 (fun E T' F' => T = T' ∧ F = F' ∧ PX E)) args s 1 6 (fun q => N0 ≤ q)) 0 [(0, .ref a0), (1, .int p1)] [] T F
  refine zr_aload_n C 0 dX4_swapFor_0 rfl rfl ?_
  obtain ⟨hT1, x3, hv2, h⟩ := h
  refine zr_get C fl_X4_23 hT1 hv2 dX4_swapFor_1 ?_
  refine zr_aload_n C 0 dX4_swapFor_4 rfl rfl ?_
  refine zr_iload_n C 1 dX4_swapFor_5 rfl rfl ?_
  refine zr_callVX (As := [.int p1]) (r := (RX4, TX4, 4)) C (k_X4_bookingAt h) ok_X4_199 zq_377 zq_5 hT1 (by decide) rfl rfl ⟨by decide, (Nat.le_of_ble_eq_true rfl)⟩ ⟨(Nat.le_of_ble_eq_true rfl), (Nat.le_of_ble_eq_true rfl)⟩ (Nat.le_of_ble_eq_true rfl) dX4_swapFor_6 (fun E9 T9 F9 hq => by obtain ⟨rfl, rfl, hq⟩ := hq; exact zr_out C (fun x hx => (hxt x hx).elim) ⟨rfl, rfl, hq⟩ (Nat.le_of_ble_eq_true rfl) (Nat.le_of_ble_eq_true rfl)) (fun v5 U6 G7 hq => ?_)
  clear h
  · obtain ⟨r4, rfl, rfl, rfl, h⟩ := hq
    exact h.elim
set_option maxRecDepth 100000 in
set_option maxHeartbeats 4000000 in
theorem k_X4_swapFor0 {l : Launch} {D : va_G} {cA : Nat → ClassId} {N0 zE : Nat} {a0 : Nat} {p1 : Int32} {T : zT} {F : zF} {Post : Int32 → Prop} (h : v_X4_swapFor a0 p1 T F Post (fun _ => False)) : z_Mt l D cA N0 zE yX4_swapFor cX4_swapFor 3 (some .int) ({ frames := 2, cells := 0, slots := 0, locals := 41 } : Room) [.ref a0, .int p1] T F (fun v T' F' => ∃ r : Int32, v = some (.int r) ∧ T = T' ∧ F = F' ∧ Post r) := by
  unfold v_X4_swapFor at h
  refine z_bodyT (by decide) (Nat.le_of_ble_eq_true rfl) ?_
  intro p e s m args below meth c C hnm
  have C : z_C p l s m args meth c RX4 cX4_swapFor 3 (some .int) D cA N0 zE := C
  show z_w p l e ({ frames := 2, cells := 0, slots := 0, locals := 41 } : Room) s m args below meth c D cA N0 3 0 0 (MQ below (z_Qc D cA N0 (fun v T' F' => ∃ r : Int32, v = some (.int r) ∧ T = T' ∧ F = F' ∧ Post r)) args s 0 0 (fun q => N0 ≤ q)) 0 [(0, .ref a0), (1, .int p1)] [] T F
  refine zr_aload_n C 0 dX4_swapFor_0 rfl rfl ?_
  obtain ⟨hT1, x3, hv2, h⟩ := h
  refine zr_get C fl_X4_23 hT1 hv2 dX4_swapFor_1 ?_
  refine zr_aload_n C 0 dX4_swapFor_4 rfl rfl ?_
  refine zr_iload_n C 1 dX4_swapFor_5 rfl rfl ?_
  refine zr_callV (As := [.int p1]) (r := (RX4, TX4, 4)) C (k_X4_bookingAt0 h) ok_X4_199 zq_377 zq_5 hT1 (by decide) rfl rfl ⟨by decide, (Nat.le_of_ble_eq_true rfl)⟩ ⟨(Nat.le_of_ble_eq_true rfl), (Nat.le_of_ble_eq_true rfl)⟩ (Nat.le_of_ble_eq_true rfl) dX4_swapFor_6 (fun v5 U6 G7 hq => ?_)
  clear h
  · obtain ⟨r4, rfl, rfl, rfl, h⟩ := hq
    exact h.elim
theorem dX4_offIn_0 : decode cX4_offIn 0 = .ok (.aload_n 0, 1) := by decide +kernel
theorem dX4_offIn_1 : decode cX4_offIn 1 = .ok (.iload_n 1, 1) := by decide +kernel
theorem dX4_offIn_2 : decode cX4_offIn 2 = .ok (.invokevirtual 199, 3) := by decide +kernel
def v_X4_offIn (a0 : Nat) (p1 : Int32) (T : zT) (F : zF) (Post : Int32 → Prop) (PX : String → Prop) : Prop :=
  (T a0 = some (7, 4) ∧ (v_X4_bookingAt a0 p1 T F (fun (r2 : Nat) => False) (fun (E9 : String) => PX E9)))
set_option maxRecDepth 100000 in
set_option maxHeartbeats 4000000 in
theorem k_X4_offIn {l : Launch} {D : va_G} {cA : Nat → ClassId} {N0 zE : Nat} {a0 : Nat} {p1 : Int32} {T : zT} {F : zF} {Post : Int32 → Prop} {PX : String → Prop} (h : v_X4_offIn a0 p1 T F Post PX) : z_Met l D cA N0 zE yX4_offIn cX4_offIn 5 (some .int) ({ frames := 7, cells := 1, slots := 6, locals := 111 } : Room) [.ref a0, .int p1] T F (fun v T' F' => ∃ r : Int32, v = some (.int r) ∧ T = T' ∧ F = F' ∧ Post r) (fun E T' F' => T = T' ∧ F = F' ∧ PX E) := by
  unfold v_X4_offIn at h
  refine z_body (by decide) (Nat.le_of_ble_eq_true rfl) ?_
  intro p e s m args below meth c C hxt hnm
  have C : z_C p l s m args meth c RX4 cX4_offIn 5 (some .int) D cA N0 zE := C
  show z_w p l e ({ frames := 7, cells := 1, slots := 6, locals := 111 } : Room) s m args below meth c D cA N0 5 0 0 (vx_MQ below (z_Qc D cA N0 (fun v T' F' => ∃ r : Int32, v = some (.int r) ∧ T = T' ∧ F = F' ∧ Post r)) (z_XC D cA N0 (fun E T' F' => T = T' ∧ F = F' ∧ PX E)) args s 1 6 (fun q => N0 ≤ q)) 0 [(0, .ref a0), (1, .int p1)] [] T F
  refine zr_aload_n C 0 dX4_offIn_0 rfl rfl ?_
  refine zr_iload_n C 1 dX4_offIn_1 rfl rfl ?_
  obtain ⟨hT1, h⟩ := h
  refine zr_callVX (As := [.int p1]) (r := (RX4, TX4, 4)) C (k_X4_bookingAt h) ok_X4_199 zq_377 zq_5 hT1 (by decide) rfl rfl ⟨by decide, (Nat.le_of_ble_eq_true rfl)⟩ ⟨(Nat.le_of_ble_eq_true rfl), (Nat.le_of_ble_eq_true rfl)⟩ (Nat.le_of_ble_eq_true rfl) dX4_offIn_2 (fun E9 T9 F9 hq => by obtain ⟨rfl, rfl, hq⟩ := hq; exact zr_out C (fun x hx => (hxt x hx).elim) ⟨rfl, rfl, hq⟩ (Nat.le_of_ble_eq_true rfl) (Nat.le_of_ble_eq_true rfl)) (fun v3 U4 G5 hq => ?_)
  clear h
  · obtain ⟨r2, rfl, rfl, rfl, h⟩ := hq
    exact h.elim
set_option maxRecDepth 100000 in
set_option maxHeartbeats 4000000 in
theorem k_X4_offIn0 {l : Launch} {D : va_G} {cA : Nat → ClassId} {N0 zE : Nat} {a0 : Nat} {p1 : Int32} {T : zT} {F : zF} {Post : Int32 → Prop} (h : v_X4_offIn a0 p1 T F Post (fun _ => False)) : z_Mt l D cA N0 zE yX4_offIn cX4_offIn 5 (some .int) ({ frames := 2, cells := 0, slots := 0, locals := 41 } : Room) [.ref a0, .int p1] T F (fun v T' F' => ∃ r : Int32, v = some (.int r) ∧ T = T' ∧ F = F' ∧ Post r) := by
  unfold v_X4_offIn at h
  refine z_bodyT (by decide) (Nat.le_of_ble_eq_true rfl) ?_
  intro p e s m args below meth c C hnm
  have C : z_C p l s m args meth c RX4 cX4_offIn 5 (some .int) D cA N0 zE := C
  show z_w p l e ({ frames := 2, cells := 0, slots := 0, locals := 41 } : Room) s m args below meth c D cA N0 5 0 0 (MQ below (z_Qc D cA N0 (fun v T' F' => ∃ r : Int32, v = some (.int r) ∧ T = T' ∧ F = F' ∧ Post r)) args s 0 0 (fun q => N0 ≤ q)) 0 [(0, .ref a0), (1, .int p1)] [] T F
  refine zr_aload_n C 0 dX4_offIn_0 rfl rfl ?_
  refine zr_iload_n C 1 dX4_offIn_1 rfl rfl ?_
  obtain ⟨hT1, h⟩ := h
  refine zr_callV (As := [.int p1]) (r := (RX4, TX4, 4)) C (k_X4_bookingAt0 h) ok_X4_199 zq_377 zq_5 hT1 (by decide) rfl rfl ⟨by decide, (Nat.le_of_ble_eq_true rfl)⟩ ⟨(Nat.le_of_ble_eq_true rfl), (Nat.le_of_ble_eq_true rfl)⟩ (Nat.le_of_ble_eq_true rfl) dX4_offIn_2 (fun v3 U4 G5 hq => ?_)
  clear h
  · obtain ⟨r2, rfl, rfl, rfl, h⟩ := hq
    exact h.elim
theorem dX3_copyFrom_0 : decode cX3_copyFrom 0 = .ok (.aload_n 0, 1) := by decide +kernel
theorem dX3_copyFrom_1 : decode cX3_copyFrom 1 = .ok (.aload_n 1, 1) := by decide +kernel
theorem dX3_copyFrom_2 : decode cX3_copyFrom 2 = .ok (.getfield 21, 3) := by decide +kernel
theorem dX3_copyFrom_5 : decode cX3_copyFrom 5 = .ok (.putfield 21, 3) := by decide +kernel
theorem dX3_copyFrom_8 : decode cX3_copyFrom 8 = .ok (.aload_n 0, 1) := by decide +kernel
theorem dX3_copyFrom_9 : decode cX3_copyFrom 9 = .ok (.aload_n 1, 1) := by decide +kernel
theorem dX3_copyFrom_10 : decode cX3_copyFrom 10 = .ok (.getfield 18, 3) := by decide +kernel
theorem dX3_copyFrom_13 : decode cX3_copyFrom 13 = .ok (.putfield 18, 3) := by decide +kernel
theorem dX3_copyFrom_16 : decode cX3_copyFrom 16 = .ok (.iconst 0, 1) := by decide +kernel
theorem dX3_copyFrom_17 : decode cX3_copyFrom 17 = .ok (.istore_n 2, 1) := by decide +kernel
theorem dX3_copyFrom_18 : decode cX3_copyFrom 18 = .ok (.iload_n 2, 1) := by decide +kernel
theorem dX3_copyFrom_19 : decode cX3_copyFrom 19 = .ok (.aload_n 1, 1) := by decide +kernel
theorem dX3_copyFrom_20 : decode cX3_copyFrom 20 = .ok (.getfield 12, 3) := by decide +kernel
theorem dX3_copyFrom_26 : decode cX3_copyFrom 26 = .ok (.if_icmp .ge 66, 3) := by decide +kernel
theorem dX3_copyFrom_92 : decode cX3_copyFrom 92 = .ok (.return_, 1) := by decide +kernel
theorem dX3_copyFrom_29 : decode cX3_copyFrom 29 = .ok (.aload_n 1, 1) := by decide +kernel
theorem dX3_copyFrom_30 : decode cX3_copyFrom 30 = .ok (.getfield 12, 3) := by decide +kernel
theorem dX3_copyFrom_33 : decode cX3_copyFrom 33 = .ok (.iload_n 2, 1) := by decide +kernel
theorem dX3_copyFrom_23 : decode cX3_copyFrom 23 = .ok (.invokevirtual 25, 3) := by decide +kernel
def v_X3_copyFrom (a0 : Nat) (a1 : Nat) (T : zT) (F : zF) (Post : zF → Prop) : Prop :=
  (T a1 = some (6, 3) ∧ ∃ x3 : Int32, F a1 2 = .int x3 ∧ T a0 = some (6, 3) ∧ ∃ x6 : Nat, (zu F a0 2 (.int x3)) a1 1 = .ref x6 ∧ ∃ x9 : Nat, (zu (zu F a0 2 (.int x3)) a0 1 (.ref x6)) a1 0 = .ref x9 ∧ T x9 = some (2, 3) ∧ (v_Jx4a65c_size_8abf5 x9 T (zu (zu F a0 2 (.int x3)) a0 1 (.ref x6)) (fun (r11 : Int32) => ((r11 ≤ (0 : Int32) → Post (zu (zu F a0 2 (.int x3)) a0 1 (.ref x6))) ∧ (¬ r11 ≤ (0 : Int32) → False)))))
set_option maxRecDepth 100000 in
set_option maxHeartbeats 4000000 in
theorem k_X3_copyFrom {l : Launch} {D : va_G} {cA : Nat → ClassId} {N0 zE : Nat} {a0 : Nat} {a1 : Nat} {T : zT} {F : zF} {Post : zF → Prop} (h : v_X3_copyFrom a0 a1 T F Post) : z_Mt l D cA N0 zE yX3_copyFrom cX3_copyFrom 4 none ({ frames := 1, cells := 0, slots := 0, locals := 20 } : Room) [.ref a0, .ref a1] T F (fun v T' F' => v = none ∧ T = T' ∧ Post F') := by
  unfold v_X3_copyFrom at h
  refine z_bodyT (by decide) (Nat.le_of_ble_eq_true rfl) ?_
  intro p e s m args below meth c C hnm
  have C : z_C p l s m args meth c RX3 cX3_copyFrom 4 none D cA N0 zE := C
  show z_w p l e ({ frames := 1, cells := 0, slots := 0, locals := 20 } : Room) s m args below meth c D cA N0 4 0 0 (MQ below (z_Qc D cA N0 (fun v T' F' => v = none ∧ T = T' ∧ Post F')) args s 0 0 (fun q => N0 ≤ q)) 0 [(0, .ref a0), (1, .ref a1)] [] T F
  refine zr_aload_n C 0 dX3_copyFrom_0 rfl rfl ?_
  refine zr_aload_n C 1 dX3_copyFrom_1 rfl rfl ?_
  obtain ⟨hT1, x3, hv2, h⟩ := h
  refine zr_get C fl_X3_21 hT1 hv2 dX3_copyFrom_2 ?_
  obtain ⟨hT4, h⟩ := h
  refine zr_put C fl_X3_21 hT4 rfl rfl dX3_copyFrom_5 ?_
  refine zr_aload_n C 0 dX3_copyFrom_8 rfl rfl ?_
  refine zr_aload_n C 1 dX3_copyFrom_9 rfl rfl ?_
  obtain ⟨x6, hv5, h⟩ := h
  refine zr_get C fl_X3_18 hT1 hv5 dX3_copyFrom_10 ?_
  refine zr_put C fl_X3_18 hT4 rfl rfl dX3_copyFrom_13 ?_
  refine zr_iconst C 0 dX3_copyFrom_16 (by decide) ?_
  refine zr_istore_n C [(2, .int 0), (0, .ref a0), (1, .ref a1)] dX3_copyFrom_17 rfl (by decide) rfl ?_
  refine zr_iload_n C 0 dX3_copyFrom_18 rfl rfl ?_
  refine zr_aload_n C 2 dX3_copyFrom_19 rfl rfl ?_
  obtain ⟨x9, hv8, h⟩ := h
  refine zr_get C fl_X3_12 hT1 hv8 dX3_copyFrom_20 ?_
  obtain ⟨hT10, h⟩ := h
  refine zr_callV (As := []) (r := (RJx4a65c, TJx4a65c, 3)) C (k_Jx4a65c_size_8abf5 h) ok_X3_25 zq_140 zq_141 hT10 (by decide) rfl rfl ⟨by decide, (Nat.le_of_ble_eq_true rfl)⟩ ⟨(Nat.le_of_ble_eq_true rfl), (Nat.le_of_ble_eq_true rfl)⟩ (Nat.le_of_ble_eq_true rfl) dX3_copyFrom_23 (fun v12 U13 G14 hq => ?_)
  clear h
  · obtain ⟨r11, rfl, rfl, rfl, h⟩ := hq
    obtain ⟨h1, h2⟩ := h
    refine zr_icmp_ge C 92 dX3_copyFrom_26 (by decide) (fun hc => ?_) (fun hc => ?_)
    · have h := h1 hc
      clear h1 h2
      exact zr_vret C rfl ⟨rfl, rfl, h⟩ (Nat.le_of_ble_eq_true rfl) (Nat.le_of_ble_eq_true rfl) dX3_copyFrom_92
    · have h := h2 hc
      clear h1 h2
      refine zr_aload_n C 2 dX3_copyFrom_29 rfl rfl ?_
      refine zr_get C fl_X3_12 hT1 hv8 dX3_copyFrom_30 ?_
      refine zr_iload_n C 0 dX3_copyFrom_33 rfl rfl ?_
      exact h.elim
theorem dX4_lostIn_0 : decode cX4_lostIn 0 = .ok (.iload_n 1, 1) := by decide +kernel
theorem dX4_lostIn_1 : decode cX4_lostIn 1 = .ok (.iconst 1, 1) := by decide +kernel
theorem dX4_lostIn_2 : decode cX4_lostIn 2 = .ok (.if_icmp .lt 9, 3) := by decide +kernel
theorem dX4_lostIn_11 : decode cX4_lostIn 11 = .ok (.new 56, 3) := by decide +kernel
theorem dX4_lostIn_14 : decode cX4_lostIn 14 = .ok (.dup, 1) := by decide +kernel
theorem dX4_lostIn_15 : decode cX4_lostIn 15 = .ok (.ldc_w 301, 3) := by decide +kernel
theorem dX4_lostIn_18 : decode cX4_lostIn 18 = .ok (.invokespecial 60, 3) := by decide +kernel
theorem dX4_lostIn_21 : decode cX4_lostIn 21 = .ok (.athrow, 1) := by decide +kernel
theorem dX4_lostIn_5 : decode cX4_lostIn 5 = .ok (.iload_n 1, 1) := by decide +kernel
theorem dX4_lostIn_6 : decode cX4_lostIn 6 = .ok (.bipush 30, 2) := by decide +kernel
theorem dX4_lostIn_8 : decode cX4_lostIn 8 = .ok (.if_icmp .le 14, 3) := by decide +kernel
theorem dX4_lostIn_22 : decode cX4_lostIn 22 = .ok (.aload_n 0, 1) := by decide +kernel
theorem dX4_lostIn_23 : decode cX4_lostIn 23 = .ok (.getfield 27, 3) := by decide +kernel
theorem dX4_lostIn_26 : decode cX4_lostIn 26 = .ok (.aload_n 0, 1) := by decide +kernel
theorem dX4_lostIn_27 : decode cX4_lostIn 27 = .ok (.getfield 23, 3) := by decide +kernel
theorem dX4_lostIn_33 : decode cX4_lostIn 33 = .ok (.iload_n 1, 1) := by decide +kernel
theorem dX4_lostIn_34 : decode cX4_lostIn 34 = .ok (.bipush 99, 2) := by decide +kernel
theorem dX4_lostIn_36 : decode cX4_lostIn 36 = .ok (.aload_n 0, 1) := by decide +kernel
theorem dX4_lostIn_37 : decode cX4_lostIn 37 = .ok (.getfield 23, 3) := by decide +kernel
theorem dX4_lostIn_40 : decode cX4_lostIn 40 = .ok (.getfield 52, 3) := by decide +kernel
theorem dX4_lostIn_43 : decode cX4_lostIn 43 = .ok (.isub, 1) := by decide +kernel
theorem dX4_lostIn_44 : decode cX4_lostIn 44 = .ok (.invokestatic 74, 3) := by decide +kernel
theorem dX4_lostIn_47 : decode cX4_lostIn 47 = .ok (.istore_n 2, 1) := by decide +kernel
theorem dX4_lostIn_48 : decode cX4_lostIn 48 = .ok (.iconst 0, 1) := by decide +kernel
theorem dX4_lostIn_49 : decode cX4_lostIn 49 = .ok (.istore_n 3, 1) := by decide +kernel
theorem dX4_lostIn_50 : decode cX4_lostIn 50 = .ok (.iload_n 3, 1) := by decide +kernel
theorem dX4_lostIn_51 : decode cX4_lostIn 51 = .ok (.iload_n 2, 1) := by decide +kernel
theorem dX4_lostIn_52 : decode cX4_lostIn 52 = .ok (.if_icmp .ge 17, 3) := by decide +kernel
theorem dX4_lostIn_69 : decode cX4_lostIn 69 = .ok (.aload_n 0, 1) := by decide +kernel
theorem dX4_lostIn_70 : decode cX4_lostIn 70 = .ok (.getfield 27, 3) := by decide +kernel
theorem dX4_lostIn_73 : decode cX4_lostIn 73 = .ok (.iconst 4, 1) := by decide +kernel
theorem dX4_lostIn_77 : decode cX4_lostIn 77 = .ok (.aload_n 0, 1) := by decide +kernel
theorem dX4_lostIn_78 : decode cX4_lostIn 78 = .ok (.getfield 23, 3) := by decide +kernel
theorem dX4_lostIn_81 : decode cX4_lostIn 81 = .ok (.iconst 4, 1) := by decide +kernel
theorem dX4_lostIn_85 : decode cX4_lostIn 85 = .ok (.isub, 1) := by decide +kernel
theorem dX4_lostIn_86 : decode cX4_lostIn 86 = .ok (.ireturn, 1) := by decide +kernel
theorem dX4_lostIn_82 : decode cX4_lostIn 82 = .ok (.invokevirtual 270, 3) := by decide +kernel
theorem dX4_lostIn_74 : decode cX4_lostIn 74 = .ok (.invokevirtual 270, 3) := by decide +kernel
theorem dX4_lostIn_55 : decode cX4_lostIn 55 = .ok (.aload_n 0, 1) := by decide +kernel
theorem dX4_lostIn_56 : decode cX4_lostIn 56 = .ok (.getfield 27, 3) := by decide +kernel
theorem dX4_lostIn_62 : decode cX4_lostIn 62 = .ok (.pop, 1) := by decide +kernel
theorem dX4_lostIn_63 : decode cX4_lostIn 63 = .ok (.iinc 3 1, 3) := by decide +kernel
theorem dX4_lostIn_66 : decode cX4_lostIn 66 = .ok (.goto (-16), 3) := by decide +kernel
theorem dX4_lostIn_59 : decode cX4_lostIn 59 = .ok (.invokevirtual 264, 3) := by decide +kernel
theorem dX4_lostIn_30 : decode cX4_lostIn 30 = .ok (.invokevirtual 303, 3) := by decide +kernel
def v_X4_lostIn (a0 : Nat) (p1 : Int32) (T : zT) (F : zF) (Post : Int32 → zF → Prop) (PX : String → zF → Prop) : Prop :=
  ((p1 < 1 → PX "java/lang/IllegalArgumentException" F) ∧ (¬ p1 < 1 → ((p1 ≤ 30 → (T a0 = some (7, 4) ∧ ∃ x3 : Nat, F a0 3 = .ref x3 ∧ ∃ x5 : Nat, F a0 2 = .ref x5 ∧ T x3 = some (6, 3) ∧ (v_X3_copyFrom x3 x5 T F (fun (F7 : zF) => (∃ x9 : Nat, F7 a0 2 = .ref x9 ∧ T x9 = some (6, 3) ∧ ∃ x12 : Int32, F7 x9 2 = .int x12 ∧ (∀ (y13 : Int32), y13 = (if ((99 : Int32) - x12) < p1 then ((99 : Int32) - x12) else p1) → (∃ I15 : Nat → Int32 → zF → Prop, (∃ n17 : Nat, I15 n17 0 F7) ∧ (∀ (n16 : Nat) (y18 : Int32) (F19 : zF), I15 n16 y18 F19 → ((y13 ≤ y18 → (∃ x23 : Nat, F19 a0 3 = .ref x23 ∧ T x23 = some (6, 3) ∧ (v_X3_countInState x23 4 T F19 (fun (r25 : Int32) => (∃ x27 : Nat, F19 a0 2 = .ref x27 ∧ T x27 = some (6, 3) ∧ (v_X3_countInState x27 4 T F19 (fun (r29 : Int32) => Post (r25 - r29) F19))))))) ∧ (¬ y13 ≤ y18 → (∃ x37 : Nat, F19 a0 3 = .ref x37 ∧ T x37 = some (6, 3) ∧ (v_X3_beginDay x37 T F19 (fun (r39 : Int32) (F40 : zF) => (∃ n41 : Nat, n41 < n16 ∧ I15 n41 (y18 + 1) F40)))))))))))))) ∧ (¬ p1 ≤ 30 → PX "java/lang/IllegalArgumentException" F))))
set_option maxRecDepth 100000 in
set_option maxHeartbeats 4000000 in
theorem k_X4_lostIn {l : Launch} {D : va_G} {cA : Nat → ClassId} {N0 zE : Nat} {a0 : Nat} {p1 : Int32} {T : zT} {F : zF} {Post : Int32 → zF → Prop} {PX : String → zF → Prop} (h : v_X4_lostIn a0 p1 T F Post PX) : z_Met l D cA N0 zE yX4_lostIn cX4_lostIn 4 (some .int) ({ frames := 6, cells := 1, slots := 6, locals := 90 } : Room) [.ref a0, .int p1] T F (fun v T' F' => ∃ r : Int32, v = some (.int r) ∧ T = T' ∧ Post r F') (fun E T' F' => T = T' ∧ PX E F') := by
  unfold v_X4_lostIn at h
  refine z_body (by decide) (Nat.le_of_ble_eq_true rfl) ?_
  intro p e s m args below meth c C hxt hnm
  have C : z_C p l s m args meth c RX4 cX4_lostIn 4 (some .int) D cA N0 zE := C
  show z_w p l e ({ frames := 6, cells := 1, slots := 6, locals := 90 } : Room) s m args below meth c D cA N0 4 0 0 (vx_MQ below (z_Qc D cA N0 (fun v T' F' => ∃ r : Int32, v = some (.int r) ∧ T = T' ∧ Post r F')) (z_XC D cA N0 (fun E T' F' => T = T' ∧ PX E F')) args s 1 6 (fun q => N0 ≤ q)) 0 [(0, .ref a0), (1, .int p1)] [] T F
  refine zr_iload_n C 1 dX4_lostIn_0 rfl rfl ?_
  refine zr_iconst C 1 dX4_lostIn_1 (by decide) ?_
  obtain ⟨h1, h2⟩ := h
  refine zr_icmp_lt C 11 dX4_lostIn_2 (by decide) (fun hc => ?_) (fun hc => ?_)
  · have h := h1 hc
    clear h1 h2
    exact zr_throwW C th_X4_56_60_301 (fun x hx => (hxt x hx).elim) ⟨rfl, h⟩ dX4_lostIn_11 dX4_lostIn_14 dX4_lostIn_15 dX4_lostIn_18 dX4_lostIn_21 (by decide) (Nat.le_of_ble_eq_true rfl) ⟨(Nat.le_of_ble_eq_true rfl), (Nat.le_of_ble_eq_true rfl)⟩ ⟨(Nat.le_of_ble_eq_true rfl), (Nat.le_of_ble_eq_true rfl)⟩
  · have h := h2 hc
    clear h1 h2
    refine zr_iload_n C 1 dX4_lostIn_5 rfl rfl ?_
    refine zr_bipush C 30 dX4_lostIn_6 (by decide) ?_
    obtain ⟨h1, h2⟩ := h
    refine zr_icmp_le C 22 dX4_lostIn_8 (by decide) (fun hc => ?_) (fun hc => ?_)
    · have h := h1 hc
      clear h1 h2
      refine zr_aload_n C 0 dX4_lostIn_22 rfl rfl ?_
      obtain ⟨hT1, x3, hv2, h⟩ := h
      refine zr_get C fl_X4_27 hT1 hv2 dX4_lostIn_23 ?_
      refine zr_aload_n C 0 dX4_lostIn_26 rfl rfl ?_
      obtain ⟨x5, hv4, h⟩ := h
      refine zr_get C fl_X4_23 hT1 hv4 dX4_lostIn_27 ?_
      obtain ⟨hT6, h⟩ := h
      refine zr_callV (As := [.ref x5]) (r := (RX3, TX3, 3)) C (k_X3_copyFrom h) ok_X4_303 zq_434 zq_435 hT6 (by decide) rfl rfl ⟨by decide, (Nat.le_of_ble_eq_true rfl)⟩ ⟨(Nat.le_of_ble_eq_true rfl), (Nat.le_of_ble_eq_true rfl)⟩ (Nat.le_of_ble_eq_true rfl) dX4_lostIn_30 (fun v48 U49 G50 hq => ?_)
      clear h
      · obtain ⟨rfl, rfl, h⟩ := hq
        refine zr_iload_n C 1 dX4_lostIn_33 rfl rfl ?_
        refine zr_bipush C 99 dX4_lostIn_34 (by decide) ?_
        refine zr_aload_n C 0 dX4_lostIn_36 rfl rfl ?_
        obtain ⟨x9, hv8, h⟩ := h
        refine zr_get C fl_X4_23 hT1 hv8 dX4_lostIn_37 ?_
        obtain ⟨hT10, x12, hv11, h⟩ := h
        refine zr_get C fl_X4_52 hT10 hv11 dX4_lostIn_40 ?_
        refine zr_isub C dX4_lostIn_43 ?_
        refine zr_min C zq_563 zq_334 zq_45 zq_335 (by decide) (Nat.le_of_ble_eq_true rfl) (Nat.le_of_ble_eq_true rfl) (Nat.le_of_ble_eq_true rfl) dX4_lostIn_44 ?_
        refine zr_topi (fun y13 hy14 => ?_)
        have h := h y13 hy14
        refine zr_istore_n C [(2, .int y13), (0, .ref a0), (1, .int p1)] dX4_lostIn_47 rfl (by decide) rfl ?_
        refine zr_iconst C 0 dX4_lostIn_48 (by decide) ?_
        refine zr_istore_n C [(3, .int 0), (2, .int y13), (0, .ref a0), (1, .int p1)] dX4_lostIn_49 rfl (by decide) rfl ?_
        obtain ⟨I15, ⟨n17, h046⟩, hI45⟩ := h
        have ky47 : ∀ (n16 : Nat) (y18 : Int32) (F19 : zF), I15 n16 y18 F19 → z_w p l e ({ frames := 6, cells := 1, slots := 6, locals := 90 } : Room) s m args below meth c D cA N0 4 0 0 (vx_MQ below (z_Qc D cA N0 (fun v T' F' => ∃ r : Int32, v = some (.int r) ∧ T = T' ∧ Post r F')) (z_XC D cA N0 (fun E T' F' => T = T' ∧ PX E F')) args s 1 6 (fun q => N0 ≤ q)) 50 [(0, .ref a0), (1, .int p1), (2, .int y13), (3, .int y18)] [] T F19 := by
          intro n16
          induction n16 using Nat.strongRecOn with
          | _ n16 ih20 =>
            intro y18 F19 hin
            have h := hI45 n16 y18 F19 hin
            refine zr_iload_n C 3 dX4_lostIn_50 rfl rfl ?_
            refine zr_iload_n C 2 dX4_lostIn_51 rfl rfl ?_
            obtain ⟨h1, h2⟩ := h
            refine zr_icmp_ge C 69 dX4_lostIn_52 (by decide) (fun hc => ?_) (fun hc => ?_)
            · have h := h1 hc
              clear h1 h2
              refine zr_aload_n C 0 dX4_lostIn_69 rfl rfl ?_
              obtain ⟨x23, hv22, h⟩ := h
              refine zr_get C fl_X4_27 hT1 hv22 dX4_lostIn_70 ?_
              refine zr_iconst C 4 dX4_lostIn_73 (by decide) ?_
              obtain ⟨hT24, h⟩ := h
              refine zr_callV (As := [.int 4]) (r := (RX3, TX3, 3)) C (k_X3_countInState h) ok_X4_270 zq_174 zq_175 hT24 (by decide) rfl rfl ⟨by decide, (Nat.le_of_ble_eq_true rfl)⟩ ⟨(Nat.le_of_ble_eq_true rfl), (Nat.le_of_ble_eq_true rfl)⟩ (Nat.le_of_ble_eq_true rfl) dX4_lostIn_74 (fun v33 U34 G35 hq => ?_)
              clear h
              · obtain ⟨r25, rfl, rfl, rfl, h⟩ := hq
                refine zr_aload_n C 0 dX4_lostIn_77 rfl rfl ?_
                obtain ⟨x27, hv26, h⟩ := h
                refine zr_get C fl_X4_23 hT1 hv26 dX4_lostIn_78 ?_
                refine zr_iconst C 4 dX4_lostIn_81 (by decide) ?_
                obtain ⟨hT28, h⟩ := h
                refine zr_callV (As := [.int 4]) (r := (RX3, TX3, 3)) C (k_X3_countInState h) ok_X4_270 zq_174 zq_175 hT28 (by decide) rfl rfl ⟨by decide, (Nat.le_of_ble_eq_true rfl)⟩ ⟨(Nat.le_of_ble_eq_true rfl), (Nat.le_of_ble_eq_true rfl)⟩ (Nat.le_of_ble_eq_true rfl) dX4_lostIn_82 (fun v30 U31 G32 hq => ?_)
                clear h
                · obtain ⟨r29, rfl, rfl, rfl, h⟩ := hq
                  refine zr_isub C dX4_lostIn_85 ?_
                  exact zr_X (zr_iret C rfl ⟨_, rfl, rfl, h⟩ (Nat.le_of_ble_eq_true rfl) (Nat.le_of_ble_eq_true rfl) dX4_lostIn_86)
            · have h := h2 hc
              clear h1 h2
              refine zr_aload_n C 0 dX4_lostIn_55 rfl rfl ?_
              obtain ⟨x37, hv36, h⟩ := h
              refine zr_get C fl_X4_27 hT1 hv36 dX4_lostIn_56 ?_
              obtain ⟨hT38, h⟩ := h
              refine zr_callV (As := []) (r := (RX3, TX3, 3)) C (k_X3_beginDay h) ok_X4_264 zq_565 zq_566 hT38 (by decide) rfl rfl ⟨by decide, (Nat.le_of_ble_eq_true rfl)⟩ ⟨(Nat.le_of_ble_eq_true rfl), (Nat.le_of_ble_eq_true rfl)⟩ (Nat.le_of_ble_eq_true rfl) dX4_lostIn_59 (fun v42 U43 G44 hq => ?_)
              clear h
              · obtain ⟨r39, rfl, rfl, h⟩ := hq
                refine zr_pop C dX4_lostIn_62 rfl ?_
                refine zr_iinc C [(3, .int (y18 + 1)), (0, .ref a0), (1, .int p1), (2, .int y13)] 3 dX4_lostIn_63 rfl rfl (by decide) rfl ?_
                refine zr_goto C 50 dX4_lostIn_66 (by decide) ?_
                obtain ⟨n41, hlt, h⟩ := h
                exact zr_sub [1, 2, 3, 0] rfl (ih20 n41 hlt (y18 + 1) G44 h)
        exact zr_sub [2, 3, 1, 0] rfl (ky47 n17 0 G50 h046)
    · have h := h2 hc
      clear h1 h2
      exact zr_throwW C th_X4_56_60_301 (fun x hx => (hxt x hx).elim) ⟨rfl, h⟩ dX4_lostIn_11 dX4_lostIn_14 dX4_lostIn_15 dX4_lostIn_18 dX4_lostIn_21 (by decide) (Nat.le_of_ble_eq_true rfl) ⟨(Nat.le_of_ble_eq_true rfl), (Nat.le_of_ble_eq_true rfl)⟩ ⟨(Nat.le_of_ble_eq_true rfl), (Nat.le_of_ble_eq_true rfl)⟩
set_option maxRecDepth 100000 in
set_option maxHeartbeats 4000000 in
theorem k_X4_lostIn0 {l : Launch} {D : va_G} {cA : Nat → ClassId} {N0 zE : Nat} {a0 : Nat} {p1 : Int32} {T : zT} {F : zF} {Post : Int32 → zF → Prop} (h : v_X4_lostIn a0 p1 T F Post (fun _ _ => False)) : z_Mt l D cA N0 zE yX4_lostIn cX4_lostIn 4 (some .int) ({ frames := 2, cells := 0, slots := 0, locals := 43 } : Room) [.ref a0, .int p1] T F (fun v T' F' => ∃ r : Int32, v = some (.int r) ∧ T = T' ∧ Post r F') := by
  unfold v_X4_lostIn at h
  refine z_bodyT (by decide) (Nat.le_of_ble_eq_true rfl) ?_
  intro p e s m args below meth c C hnm
  have C : z_C p l s m args meth c RX4 cX4_lostIn 4 (some .int) D cA N0 zE := C
  show z_w p l e ({ frames := 2, cells := 0, slots := 0, locals := 43 } : Room) s m args below meth c D cA N0 4 0 0 (MQ below (z_Qc D cA N0 (fun v T' F' => ∃ r : Int32, v = some (.int r) ∧ T = T' ∧ Post r F')) args s 0 0 (fun q => N0 ≤ q)) 0 [(0, .ref a0), (1, .int p1)] [] T F
  refine zr_iload_n C 1 dX4_lostIn_0 rfl rfl ?_
  refine zr_iconst C 1 dX4_lostIn_1 (by decide) ?_
  obtain ⟨h1, h2⟩ := h
  refine zr_icmp_lt C 11 dX4_lostIn_2 (by decide) (fun hc => ?_) (fun hc => ?_)
  · have h := h1 hc
    clear h1 h2
    exact h.elim
  · have h := h2 hc
    clear h1 h2
    refine zr_iload_n C 1 dX4_lostIn_5 rfl rfl ?_
    refine zr_bipush C 30 dX4_lostIn_6 (by decide) ?_
    obtain ⟨h1, h2⟩ := h
    refine zr_icmp_le C 22 dX4_lostIn_8 (by decide) (fun hc => ?_) (fun hc => ?_)
    · have h := h1 hc
      clear h1 h2
      refine zr_aload_n C 0 dX4_lostIn_22 rfl rfl ?_
      obtain ⟨hT1, x3, hv2, h⟩ := h
      refine zr_get C fl_X4_27 hT1 hv2 dX4_lostIn_23 ?_
      refine zr_aload_n C 0 dX4_lostIn_26 rfl rfl ?_
      obtain ⟨x5, hv4, h⟩ := h
      refine zr_get C fl_X4_23 hT1 hv4 dX4_lostIn_27 ?_
      obtain ⟨hT6, h⟩ := h
      refine zr_callV (As := [.ref x5]) (r := (RX3, TX3, 3)) C (k_X3_copyFrom h) ok_X4_303 zq_434 zq_435 hT6 (by decide) rfl rfl ⟨by decide, (Nat.le_of_ble_eq_true rfl)⟩ ⟨(Nat.le_of_ble_eq_true rfl), (Nat.le_of_ble_eq_true rfl)⟩ (Nat.le_of_ble_eq_true rfl) dX4_lostIn_30 (fun v48 U49 G50 hq => ?_)
      clear h
      · obtain ⟨rfl, rfl, h⟩ := hq
        refine zr_iload_n C 1 dX4_lostIn_33 rfl rfl ?_
        refine zr_bipush C 99 dX4_lostIn_34 (by decide) ?_
        refine zr_aload_n C 0 dX4_lostIn_36 rfl rfl ?_
        obtain ⟨x9, hv8, h⟩ := h
        refine zr_get C fl_X4_23 hT1 hv8 dX4_lostIn_37 ?_
        obtain ⟨hT10, x12, hv11, h⟩ := h
        refine zr_get C fl_X4_52 hT10 hv11 dX4_lostIn_40 ?_
        refine zr_isub C dX4_lostIn_43 ?_
        refine zr_min C zq_563 zq_334 zq_45 zq_335 (by decide) (Nat.le_of_ble_eq_true rfl) (Nat.le_of_ble_eq_true rfl) (Nat.le_of_ble_eq_true rfl) dX4_lostIn_44 ?_
        refine zr_topi (fun y13 hy14 => ?_)
        have h := h y13 hy14
        refine zr_istore_n C [(2, .int y13), (0, .ref a0), (1, .int p1)] dX4_lostIn_47 rfl (by decide) rfl ?_
        refine zr_iconst C 0 dX4_lostIn_48 (by decide) ?_
        refine zr_istore_n C [(3, .int 0), (2, .int y13), (0, .ref a0), (1, .int p1)] dX4_lostIn_49 rfl (by decide) rfl ?_
        obtain ⟨I15, ⟨n17, h046⟩, hI45⟩ := h
        have ky47 : ∀ (n16 : Nat) (y18 : Int32) (F19 : zF), I15 n16 y18 F19 → z_w p l e ({ frames := 2, cells := 0, slots := 0, locals := 43 } : Room) s m args below meth c D cA N0 4 0 0 (MQ below (z_Qc D cA N0 (fun v T' F' => ∃ r : Int32, v = some (.int r) ∧ T = T' ∧ Post r F')) args s 0 0 (fun q => N0 ≤ q)) 50 [(0, .ref a0), (1, .int p1), (2, .int y13), (3, .int y18)] [] T F19 := by
          intro n16
          induction n16 using Nat.strongRecOn with
          | _ n16 ih20 =>
            intro y18 F19 hin
            have h := hI45 n16 y18 F19 hin
            refine zr_iload_n C 3 dX4_lostIn_50 rfl rfl ?_
            refine zr_iload_n C 2 dX4_lostIn_51 rfl rfl ?_
            obtain ⟨h1, h2⟩ := h
            refine zr_icmp_ge C 69 dX4_lostIn_52 (by decide) (fun hc => ?_) (fun hc => ?_)
            · have h := h1 hc
              clear h1 h2
              refine zr_aload_n C 0 dX4_lostIn_69 rfl rfl ?_
              obtain ⟨x23, hv22, h⟩ := h
              refine zr_get C fl_X4_27 hT1 hv22 dX4_lostIn_70 ?_
              refine zr_iconst C 4 dX4_lostIn_73 (by decide) ?_
              obtain ⟨hT24, h⟩ := h
              refine zr_callV (As := [.int 4]) (r := (RX3, TX3, 3)) C (k_X3_countInState h) ok_X4_270 zq_174 zq_175 hT24 (by decide) rfl rfl ⟨by decide, (Nat.le_of_ble_eq_true rfl)⟩ ⟨(Nat.le_of_ble_eq_true rfl), (Nat.le_of_ble_eq_true rfl)⟩ (Nat.le_of_ble_eq_true rfl) dX4_lostIn_74 (fun v33 U34 G35 hq => ?_)
              clear h
              · obtain ⟨r25, rfl, rfl, rfl, h⟩ := hq
                refine zr_aload_n C 0 dX4_lostIn_77 rfl rfl ?_
                obtain ⟨x27, hv26, h⟩ := h
                refine zr_get C fl_X4_23 hT1 hv26 dX4_lostIn_78 ?_
                refine zr_iconst C 4 dX4_lostIn_81 (by decide) ?_
                obtain ⟨hT28, h⟩ := h
                refine zr_callV (As := [.int 4]) (r := (RX3, TX3, 3)) C (k_X3_countInState h) ok_X4_270 zq_174 zq_175 hT28 (by decide) rfl rfl ⟨by decide, (Nat.le_of_ble_eq_true rfl)⟩ ⟨(Nat.le_of_ble_eq_true rfl), (Nat.le_of_ble_eq_true rfl)⟩ (Nat.le_of_ble_eq_true rfl) dX4_lostIn_82 (fun v30 U31 G32 hq => ?_)
                clear h
                · obtain ⟨r29, rfl, rfl, rfl, h⟩ := hq
                  refine zr_isub C dX4_lostIn_85 ?_
                  exact zr_iret C rfl ⟨_, rfl, rfl, h⟩ (Nat.le_of_ble_eq_true rfl) (Nat.le_of_ble_eq_true rfl) dX4_lostIn_86
            · have h := h2 hc
              clear h1 h2
              refine zr_aload_n C 0 dX4_lostIn_55 rfl rfl ?_
              obtain ⟨x37, hv36, h⟩ := h
              refine zr_get C fl_X4_27 hT1 hv36 dX4_lostIn_56 ?_
              obtain ⟨hT38, h⟩ := h
              refine zr_callV (As := []) (r := (RX3, TX3, 3)) C (k_X3_beginDay h) ok_X4_264 zq_565 zq_566 hT38 (by decide) rfl rfl ⟨by decide, (Nat.le_of_ble_eq_true rfl)⟩ ⟨(Nat.le_of_ble_eq_true rfl), (Nat.le_of_ble_eq_true rfl)⟩ (Nat.le_of_ble_eq_true rfl) dX4_lostIn_59 (fun v42 U43 G44 hq => ?_)
              clear h
              · obtain ⟨r39, rfl, rfl, h⟩ := hq
                refine zr_pop C dX4_lostIn_62 rfl ?_
                refine zr_iinc C [(3, .int (y18 + 1)), (0, .ref a0), (1, .int p1), (2, .int y13)] 3 dX4_lostIn_63 rfl rfl (by decide) rfl ?_
                refine zr_goto C 50 dX4_lostIn_66 (by decide) ?_
                obtain ⟨n41, hlt, h⟩ := h
                exact zr_sub [1, 2, 3, 0] rfl (ih20 n41 hlt (y18 + 1) G44 h)
        exact zr_sub [2, 3, 1, 0] rfl (ky47 n17 0 G50 h046)
    · have h := h2 hc
      clear h1 h2
      exact h.elim
theorem dX4_reachWith_0 : decode cX4_reachWith 0 = .ok (.aload_n 0, 1) := by decide +kernel
theorem dX4_reachWith_1 : decode cX4_reachWith 1 = .ok (.iload_n 1, 1) := by decide +kernel
theorem dX4_reachWith_2 : decode cX4_reachWith 2 = .ok (.invokevirtual 199, 3) := by decide +kernel
def v_X4_reachWith (a0 : Nat) (p1 : Int32) (T : zT) (F : zF) (Post : Int32 → Prop) (PX : String → Prop) : Prop :=
  (T a0 = some (7, 4) ∧ (v_X4_bookingAt a0 p1 T F (fun (r2 : Nat) => False) (fun (E9 : String) => PX E9)))
set_option maxRecDepth 100000 in
set_option maxHeartbeats 4000000 in
theorem k_X4_reachWith {l : Launch} {D : va_G} {cA : Nat → ClassId} {N0 zE : Nat} {a0 : Nat} {p1 : Int32} {T : zT} {F : zF} {Post : Int32 → Prop} {PX : String → Prop} (h : v_X4_reachWith a0 p1 T F Post PX) : z_Met l D cA N0 zE yX4_reachWith cX4_reachWith 3 (some .int) ({ frames := 7, cells := 1, slots := 6, locals := 111 } : Room) [.ref a0, .int p1] T F (fun v T' F' => ∃ r : Int32, v = some (.int r) ∧ T = T' ∧ F = F' ∧ Post r) (fun E T' F' => T = T' ∧ F = F' ∧ PX E) := by
  unfold v_X4_reachWith at h
  refine z_body (by decide) (Nat.le_of_ble_eq_true rfl) ?_
  intro p e s m args below meth c C hxt hnm
  have C : z_C p l s m args meth c RX4 cX4_reachWith 3 (some .int) D cA N0 zE := C
  show z_w p l e ({ frames := 7, cells := 1, slots := 6, locals := 111 } : Room) s m args below meth c D cA N0 3 0 0 (vx_MQ below (z_Qc D cA N0 (fun v T' F' => ∃ r : Int32, v = some (.int r) ∧ T = T' ∧ F = F' ∧ Post r)) (z_XC D cA N0 (fun E T' F' => T = T' ∧ F = F' ∧ PX E)) args s 1 6 (fun q => N0 ≤ q)) 0 [(0, .ref a0), (1, .int p1)] [] T F
  refine zr_aload_n C 0 dX4_reachWith_0 rfl rfl ?_
  refine zr_iload_n C 1 dX4_reachWith_1 rfl rfl ?_
  obtain ⟨hT1, h⟩ := h
  refine zr_callVX (As := [.int p1]) (r := (RX4, TX4, 4)) C (k_X4_bookingAt h) ok_X4_199 zq_377 zq_5 hT1 (by decide) rfl rfl ⟨by decide, (Nat.le_of_ble_eq_true rfl)⟩ ⟨(Nat.le_of_ble_eq_true rfl), (Nat.le_of_ble_eq_true rfl)⟩ (Nat.le_of_ble_eq_true rfl) dX4_reachWith_2 (fun E9 T9 F9 hq => by obtain ⟨rfl, rfl, hq⟩ := hq; exact zr_out C (fun x hx => (hxt x hx).elim) ⟨rfl, rfl, hq⟩ (Nat.le_of_ble_eq_true rfl) (Nat.le_of_ble_eq_true rfl)) (fun v3 U4 G5 hq => ?_)
  clear h
  · obtain ⟨r2, rfl, rfl, rfl, h⟩ := hq
    exact h.elim
set_option maxRecDepth 100000 in
set_option maxHeartbeats 4000000 in
theorem k_X4_reachWith0 {l : Launch} {D : va_G} {cA : Nat → ClassId} {N0 zE : Nat} {a0 : Nat} {p1 : Int32} {T : zT} {F : zF} {Post : Int32 → Prop} (h : v_X4_reachWith a0 p1 T F Post (fun _ => False)) : z_Mt l D cA N0 zE yX4_reachWith cX4_reachWith 3 (some .int) ({ frames := 2, cells := 0, slots := 0, locals := 41 } : Room) [.ref a0, .int p1] T F (fun v T' F' => ∃ r : Int32, v = some (.int r) ∧ T = T' ∧ F = F' ∧ Post r) := by
  unfold v_X4_reachWith at h
  refine z_bodyT (by decide) (Nat.le_of_ble_eq_true rfl) ?_
  intro p e s m args below meth c C hnm
  have C : z_C p l s m args meth c RX4 cX4_reachWith 3 (some .int) D cA N0 zE := C
  show z_w p l e ({ frames := 2, cells := 0, slots := 0, locals := 41 } : Room) s m args below meth c D cA N0 3 0 0 (MQ below (z_Qc D cA N0 (fun v T' F' => ∃ r : Int32, v = some (.int r) ∧ T = T' ∧ F = F' ∧ Post r)) args s 0 0 (fun q => N0 ≤ q)) 0 [(0, .ref a0), (1, .int p1)] [] T F
  refine zr_aload_n C 0 dX4_reachWith_0 rfl rfl ?_
  refine zr_iload_n C 1 dX4_reachWith_1 rfl rfl ?_
  obtain ⟨hT1, h⟩ := h
  refine zr_callV (As := [.int p1]) (r := (RX4, TX4, 4)) C (k_X4_bookingAt0 h) ok_X4_199 zq_377 zq_5 hT1 (by decide) rfl rfl ⟨by decide, (Nat.le_of_ble_eq_true rfl)⟩ ⟨(Nat.le_of_ble_eq_true rfl), (Nat.le_of_ble_eq_true rfl)⟩ (Nat.le_of_ble_eq_true rfl) dX4_reachWith_2 (fun v3 U4 G5 hq => ?_)
  clear h
  · obtain ⟨r2, rfl, rfl, rfl, h⟩ := hq
    exact h.elim
theorem dX3_init_0 : decode cX3_init 0 = .ok (.aload_n 0, 1) := by decide +kernel
theorem dX3_init_1 : decode cX3_init 1 = .ok (.invokespecial 3, 3) := by decide +kernel
theorem dX3_init_4 : decode cX3_init 4 = .ok (.aload_n 0, 1) := by decide +kernel
theorem dX3_init_5 : decode cX3_init 5 = .ok (.new 9, 3) := by decide +kernel
theorem dX3_init_8 : decode cX3_init 8 = .ok (.dup, 1) := by decide +kernel
theorem dX3_init_12 : decode cX3_init 12 = .ok (.putfield 12, 3) := by decide +kernel
theorem dX3_init_15 : decode cX3_init 15 = .ok (.aload_n 0, 1) := by decide +kernel
theorem dX3_init_16 : decode cX3_init 16 = .ok (.new 9, 3) := by decide +kernel
theorem dX3_init_19 : decode cX3_init 19 = .ok (.dup, 1) := by decide +kernel
theorem dX3_init_23 : decode cX3_init 23 = .ok (.putfield 18, 3) := by decide +kernel
theorem dX3_init_26 : decode cX3_init 26 = .ok (.aload_n 0, 1) := by decide +kernel
theorem dX3_init_27 : decode cX3_init 27 = .ok (.iconst 0, 1) := by decide +kernel
theorem dX3_init_28 : decode cX3_init 28 = .ok (.putfield 21, 3) := by decide +kernel
theorem dX3_init_31 : decode cX3_init 31 = .ok (.return_, 1) := by decide +kernel
theorem dX3_init_20 : decode cX3_init 20 = .ok (.invokespecial 11, 3) := by decide +kernel
theorem dX3_init_9 : decode cX3_init 9 = .ok (.invokespecial 11, 3) := by decide +kernel
def v_X3_init (zE : Nat) (a0 : Nat) (T : zT) (F : zF) (Post : zT → zF → Prop) : Prop :=
  (∀ q1 : Nat, (∀ b, q1 ≤ b → T b = none) → (v_Jx4a65c_init_da8c8 zE q1 (zn T q1 (2, 3)) (zm F q1 (fun j => defaultValue (tyJx4a65c j))) (fun (F3 : zF) => (zn T q1 (2, 3) a0 = some (6, 3) ∧ (∀ q5 : Nat, (∀ b, q5 ≤ b → (zn T q1 (2, 3)) b = none) → (v_Jx4a65c_init_da8c8 zE q5 (zn (zn T q1 (2, 3)) q5 (2, 3)) (zm (zu F3 a0 0 (.ref q1)) q5 (fun j => defaultValue (tyJx4a65c j))) (fun (F7 : zF) => (zn (zn T q1 (2, 3)) q5 (2, 3) a0 = some (6, 3) ∧ Post (zn (zn T q1 (2, 3)) q5 (2, 3)) (zu (zu F7 a0 1 (.ref q5)) a0 2 (.int 0))))))))))
set_option maxRecDepth 100000 in
set_option maxHeartbeats 4000000 in
theorem k_X3_init {l : Launch} {D : va_G} {cA : Nat → ClassId} {N0 zE : Nat} {a0 : Nat} {T : zT} {F : zF} {Post : zT → zF → Prop} (h : v_X3_init zE a0 T F Post) : z_Mt l D cA N0 zE yX3_init cX3_init 1 none ({ frames := 4, cells := 2, slots := 6, locals := 80 } : Room) [.ref a0] T F (fun v T' F' => v = none ∧ Post T' F') := by
  unfold v_X3_init at h
  refine z_bodyT (by decide) (Nat.le_of_ble_eq_true rfl) ?_
  intro p e s m args below meth c C hnm
  have C : z_C p l s m args meth c RX3 cX3_init 1 none D cA N0 zE := C
  show z_w p l e ({ frames := 4, cells := 2, slots := 6, locals := 80 } : Room) s m args below meth c D cA N0 1 0 0 (MQ below (z_Qc D cA N0 (fun v T' F' => v = none ∧ Post T' F')) args s 2 6 (fun q => N0 ≤ q)) 0 [(0, .ref a0)] [] T F
  refine zr_aload_n C 0 dX3_init_0 rfl rfl ?_
  refine zr_objInit C zq_105 zq_69 zq_70 (by decide) (Nat.le_of_ble_eq_true rfl) dX3_init_1 ?_
  refine zr_aload_n C 0 dX3_init_4 rfl rfl ?_
  refine zr_new C nw_X3_9 (Nat.le_of_ble_eq_true rfl) (Nat.le_of_ble_eq_true rfl) dX3_init_5 (fun q1 hq2 => ?_)
  have h := h q1 hq2
  refine zr_dup C dX3_init_8 rfl ?_
  refine zr_callI (As := []) C (k_Jx4a65c_init_da8c8 h) ok_X3_11 zq_74 rfl rfl ⟨by decide, (Nat.le_of_ble_eq_true rfl)⟩ ⟨(Nat.le_of_ble_eq_true rfl), (Nat.le_of_ble_eq_true rfl)⟩ (Nat.le_of_ble_eq_true rfl) dX3_init_9 (fun v13 U14 G15 hq => ?_)
  clear h
  · obtain ⟨rfl, rfl, h⟩ := hq
    obtain ⟨hT4, h⟩ := h
    refine zr_putF C fl_X3_12 fd_X3_12 hT4 rfl rfl hnm dX3_init_12 ?_
    refine zr_aload_n C 0 dX3_init_15 rfl rfl ?_
    refine zr_new C nw_X3_9 (Nat.le_of_ble_eq_true rfl) (Nat.le_of_ble_eq_true rfl) dX3_init_16 (fun q5 hq6 => ?_)
    have h := h q5 hq6
    refine zr_dup C dX3_init_19 rfl ?_
    refine zr_callI (As := []) C (k_Jx4a65c_init_da8c8 h) ok_X3_11 zq_74 rfl rfl ⟨by decide, (Nat.le_of_ble_eq_true rfl)⟩ ⟨(Nat.le_of_ble_eq_true rfl), (Nat.le_of_ble_eq_true rfl)⟩ (Nat.le_of_ble_eq_true rfl) dX3_init_20 (fun v10 U11 G12 hq => ?_)
    clear h
    · obtain ⟨rfl, rfl, h⟩ := hq
      obtain ⟨hT8, h⟩ := h
      refine zr_put C fl_X3_18 hT8 rfl rfl dX3_init_23 ?_
      refine zr_aload_n C 0 dX3_init_26 rfl rfl ?_
      refine zr_iconst C 0 dX3_init_27 (by decide) ?_
      refine zr_put C fl_X3_21 hT8 rfl rfl dX3_init_28 ?_
      exact zr_vret C rfl ⟨rfl, h⟩ (Nat.le_of_ble_eq_true rfl) (Nat.le_of_ble_eq_true rfl) dX3_init_31
theorem dX4_init_0 : decode cX4_init 0 = .ok (.aload_n 0, 1) := by decide +kernel
theorem dX4_init_1 : decode cX4_init 1 = .ok (.invokespecial 1, 3) := by decide +kernel
theorem dX4_init_4 : decode cX4_init 4 = .ok (.aload_n 0, 1) := by decide +kernel
theorem dX4_init_5 : decode cX4_init 5 = .ok (.new 7, 3) := by decide +kernel
theorem dX4_init_8 : decode cX4_init 8 = .ok (.dup, 1) := by decide +kernel
theorem dX4_init_12 : decode cX4_init 12 = .ok (.putfield 10, 3) := by decide +kernel
theorem dX4_init_15 : decode cX4_init 15 = .ok (.aload_n 0, 1) := by decide +kernel
theorem dX4_init_16 : decode cX4_init 16 = .ok (.bipush 16, 2) := by decide +kernel
theorem dX4_init_18 : decode cX4_init 18 = .ok (.newarray .int, 2) := by decide +kernel
theorem dX4_init_20 : decode cX4_init 20 = .ok (.putfield 16, 3) := by decide +kernel
theorem dX4_init_23 : decode cX4_init 23 = .ok (.aload_n 0, 1) := by decide +kernel
theorem dX4_init_24 : decode cX4_init 24 = .ok (.new 20, 3) := by decide +kernel
theorem dX4_init_27 : decode cX4_init 27 = .ok (.dup, 1) := by decide +kernel
theorem dX4_init_31 : decode cX4_init 31 = .ok (.putfield 23, 3) := by decide +kernel
theorem dX4_init_34 : decode cX4_init 34 = .ok (.aload_n 0, 1) := by decide +kernel
theorem dX4_init_35 : decode cX4_init 35 = .ok (.new 20, 3) := by decide +kernel
theorem dX4_init_38 : decode cX4_init 38 = .ok (.dup, 1) := by decide +kernel
theorem dX4_init_42 : decode cX4_init 42 = .ok (.putfield 27, 3) := by decide +kernel
theorem dX4_init_45 : decode cX4_init 45 = .ok (.return_, 1) := by decide +kernel
theorem dX4_init_39 : decode cX4_init 39 = .ok (.invokespecial 22, 3) := by decide +kernel
theorem dX4_init_28 : decode cX4_init 28 = .ok (.invokespecial 22, 3) := by decide +kernel
theorem dX4_init_9 : decode cX4_init 9 = .ok (.invokespecial 9, 3) := by decide +kernel
def v_X4_init (zE : Nat) (a0 : Nat) (T : zT) (F : zF) (Post : zT → zF → Prop) : Prop :=
  (∀ q1 : Nat, (∀ b, q1 ≤ b → T b = none) → (v_Jx4a65c_init_da8c8 zE q1 (zn T q1 (2, 3)) (zm F q1 (fun j => defaultValue (tyJx4a65c j))) (fun (F3 : zF) => (zn T q1 (2, 3) a0 = some (7, 4) ∧ (∀ q5 : Nat, (∀ b, q5 ≤ b → (zn T q1 (2, 3)) b = none) → (zn (zn T q1 (2, 3)) q5 (100, 16) a0 = some (7, 4) ∧ (∀ q8 : Nat, (∀ b, q8 ≤ b → (zn (zn T q1 (2, 3)) q5 (100, 16)) b = none) → (v_X3_init zE q8 (zn (zn (zn T q1 (2, 3)) q5 (100, 16)) q8 (6, 3)) (zm (zu (zm (zu F3 a0 0 (.ref q1)) q5 (fun _ => .int 0)) a0 1 (.ref q5)) q8 (fun j => defaultValue (tyX3 j))) (fun (T10 : zT) (F11 : zF) => (T10 a0 = some (7, 4) ∧ (∀ q13 : Nat, (∀ b, q13 ≤ b → T10 b = none) → (v_X3_init zE q13 (zn T10 q13 (6, 3)) (zm (zu F11 a0 2 (.ref q8)) q13 (fun j => defaultValue (tyX3 j))) (fun (T15 : zT) (F16 : zF) => (T15 a0 = some (7, 4) ∧ Post T15 (zu F16 a0 3 (.ref q13))))))))))))))))
set_option maxRecDepth 100000 in
set_option maxHeartbeats 4000000 in
theorem k_X4_init {l : Launch} {D : va_G} {cA : Nat → ClassId} {N0 zE : Nat} {a0 : Nat} {T : zT} {F : zF} {Post : zT → zF → Prop} (h : v_X4_init zE a0 T F Post) : z_Mt l D cA N0 zE yX4_init cX4_init 1 none ({ frames := 5, cells := 8, slots := 37, locals := 100 } : Room) [.ref a0] T F (fun v T' F' => v = none ∧ Post T' F') := by
  unfold v_X4_init at h
  refine z_bodyT (by decide) (Nat.le_of_ble_eq_true rfl) ?_
  intro p e s m args below meth c C hnm
  have C : z_C p l s m args meth c RX4 cX4_init 1 none D cA N0 zE := C
  show z_w p l e ({ frames := 5, cells := 8, slots := 37, locals := 100 } : Room) s m args below meth c D cA N0 1 0 0 (MQ below (z_Qc D cA N0 (fun v T' F' => v = none ∧ Post T' F')) args s 8 37 (fun q => N0 ≤ q)) 0 [(0, .ref a0)] [] T F
  refine zr_aload_n C 0 dX4_init_0 rfl rfl ?_
  refine zr_objInit C zq_68 zq_69 zq_70 (by decide) (Nat.le_of_ble_eq_true rfl) dX4_init_1 ?_
  refine zr_aload_n C 0 dX4_init_4 rfl rfl ?_
  refine zr_new C nw_X4_7 (Nat.le_of_ble_eq_true rfl) (Nat.le_of_ble_eq_true rfl) dX4_init_5 (fun q1 hq2 => ?_)
  have h := h q1 hq2
  refine zr_dup C dX4_init_8 rfl ?_
  refine zr_callI (As := []) C (k_Jx4a65c_init_da8c8 h) ok_X4_9 zq_74 rfl rfl ⟨by decide, (Nat.le_of_ble_eq_true rfl)⟩ ⟨(Nat.le_of_ble_eq_true rfl), (Nat.le_of_ble_eq_true rfl)⟩ (Nat.le_of_ble_eq_true rfl) dX4_init_9 (fun v24 U25 G26 hq => ?_)
  clear h
  · obtain ⟨rfl, rfl, h⟩ := hq
    obtain ⟨hT4, h⟩ := h
    refine zr_putF C fl_X4_10 fd_X4_10 hT4 rfl rfl hnm dX4_init_12 ?_
    refine zr_aload_n C 0 dX4_init_15 rfl rfl ?_
    refine zr_bipush C 16 dX4_init_16 (by decide) ?_
    refine zr_newarr (n := 16) (atype := .int) C 0 rfl zq_121 (by decide) (by decide) (Nat.le_of_ble_eq_true rfl) (Nat.le_of_ble_eq_true rfl) dX4_init_18 (fun q5 hq6 => ?_)
    have h := h q5 hq6
    obtain ⟨hT7, h⟩ := h
    refine zr_putF C fl_X4_16 fd_X4_16 hT7 rfl rfl hnm dX4_init_20 ?_
    refine zr_aload_n C 0 dX4_init_23 rfl rfl ?_
    refine zr_new C nw_X4_20 (Nat.le_of_ble_eq_true rfl) (Nat.le_of_ble_eq_true rfl) dX4_init_24 (fun q8 hq9 => ?_)
    have h := h q8 hq9
    refine zr_dup C dX4_init_27 rfl ?_
    refine zr_callIN (As := []) C (k_X3_init h) ok_X4_22 zq_103 rfl rfl ⟨by decide, (Nat.le_of_ble_eq_true rfl)⟩ ⟨(Nat.le_of_ble_eq_true rfl), (Nat.le_of_ble_eq_true rfl)⟩ (Nat.le_of_ble_eq_true rfl) dX4_init_28 (fun v21 U22 G23 hq => ?_)
    clear h
    · obtain ⟨rfl, h⟩ := hq
      skip
      obtain ⟨hT12, h⟩ := h
      refine zr_putF C fl_X4_23 fd_X4_23 hT12 rfl rfl hnm dX4_init_31 ?_
      refine zr_aload_n C 0 dX4_init_34 rfl rfl ?_
      refine zr_new C nw_X4_20 (Nat.le_of_ble_eq_true rfl) (Nat.le_of_ble_eq_true rfl) dX4_init_35 (fun q13 hq14 => ?_)
      have h := h q13 hq14
      refine zr_dup C dX4_init_38 rfl ?_
      refine zr_callIN (As := []) C (k_X3_init h) ok_X4_22 zq_103 rfl rfl ⟨by decide, (Nat.le_of_ble_eq_true rfl)⟩ ⟨(Nat.le_of_ble_eq_true rfl), (Nat.le_of_ble_eq_true rfl)⟩ (Nat.le_of_ble_eq_true rfl) dX4_init_39 (fun v18 U19 G20 hq => ?_)
      clear h
      · obtain ⟨rfl, h⟩ := hq
        skip
        obtain ⟨hT17, h⟩ := h
        refine zr_putF C fl_X4_27 fd_X4_27 hT17 rfl rfl hnm dX4_init_42 ?_
        exact zr_vret C rfl ⟨rfl, h⟩ (Nat.le_of_ble_eq_true rfl) (Nat.le_of_ble_eq_true rfl) dX4_init_45
theorem dX4_meanPrice_0 : decode cX4_meanPrice 0 = .ok (.aload_n 0, 1) := by decide +kernel
theorem dX4_meanPrice_1 : decode cX4_meanPrice 1 = .ok (.getfield 23, 3) := by decide +kernel
theorem dX4_meanPrice_4 : decode cX4_meanPrice 4 = .ok (.getfield 179, 3) := by decide +kernel
theorem dX4_meanPrice_10 : decode cX4_meanPrice 10 = .ok (.istore_n 1, 1) := by decide +kernel
theorem dX4_meanPrice_11 : decode cX4_meanPrice 11 = .ok (.iload_n 1, 1) := by decide +kernel
theorem dX4_meanPrice_12 : decode cX4_meanPrice 12 = .ok (.ifCond .ne 5, 3) := by decide +kernel
theorem dX4_meanPrice_17 : decode cX4_meanPrice 17 = .ok (.aload_n 0, 1) := by decide +kernel
theorem dX4_meanPrice_18 : decode cX4_meanPrice 18 = .ok (.getfield 23, 3) := by decide +kernel
theorem dX4_meanPrice_15 : decode cX4_meanPrice 15 = .ok (.dconst 0, 1) := by decide +kernel
theorem dX4_meanPrice_16 : decode cX4_meanPrice 16 = .ok (.dreturn, 1) := by decide +kernel
theorem dX4_meanPrice_7 : decode cX4_meanPrice 7 = .ok (.invokevirtual 30, 3) := by decide +kernel
def v_X4_meanPrice (a0 : Nat) (T : zT) (F : zF) (Post : UInt64 → Prop) : Prop :=
  (T a0 = some (7, 4) ∧ ∃ x3 : Nat, F a0 2 = .ref x3 ∧ T x3 = some (6, 3) ∧ ∃ x6 : Nat, F x3 0 = .ref x6 ∧ T x6 = some (2, 3) ∧ (v_Jx4a65c_size_8abf5 x6 T F (fun (r8 : Int32) => ((¬ r8 = 0 → False) ∧ (r8 = 0 → Post FP.dconst0)))))
set_option maxRecDepth 100000 in
set_option maxHeartbeats 4000000 in
theorem k_X4_meanPrice {l : Launch} {D : va_G} {cA : Nat → ClassId} {N0 zE : Nat} {a0 : Nat} {T : zT} {F : zF} {Post : UInt64 → Prop} (h : v_X4_meanPrice a0 T F Post) : z_Mt l D cA N0 zE yX4_meanPrice cX4_meanPrice 2 (some .double) ({ frames := 1, cells := 0, slots := 0, locals := 20 } : Room) [.ref a0] T F (fun v T' F' => ∃ r : UInt64, v = some (.double r) ∧ T = T' ∧ F = F' ∧ Post r) := by
  unfold v_X4_meanPrice at h
  refine z_bodyT (by decide) (Nat.le_of_ble_eq_true rfl) ?_
  intro p e s m args below meth c C hnm
  have C : z_C p l s m args meth c RX4 cX4_meanPrice 2 (some .double) D cA N0 zE := C
  show z_w p l e ({ frames := 1, cells := 0, slots := 0, locals := 20 } : Room) s m args below meth c D cA N0 2 0 0 (MQ below (z_Qc D cA N0 (fun v T' F' => ∃ r : UInt64, v = some (.double r) ∧ T = T' ∧ F = F' ∧ Post r)) args s 0 0 (fun q => N0 ≤ q)) 0 [(0, .ref a0)] [] T F
  refine zr_aload_n C 0 dX4_meanPrice_0 rfl rfl ?_
  obtain ⟨hT1, x3, hv2, h⟩ := h
  refine zr_get C fl_X4_23 hT1 hv2 dX4_meanPrice_1 ?_
  obtain ⟨hT4, x6, hv5, h⟩ := h
  refine zr_get C fl_X4_179 hT4 hv5 dX4_meanPrice_4 ?_
  obtain ⟨hT7, h⟩ := h
  refine zr_callV (As := []) (r := (RJx4a65c, TJx4a65c, 3)) C (k_Jx4a65c_size_8abf5 h) ok_X4_30 zq_140 zq_141 hT7 (by decide) rfl rfl ⟨by decide, (Nat.le_of_ble_eq_true rfl)⟩ ⟨(Nat.le_of_ble_eq_true rfl), (Nat.le_of_ble_eq_true rfl)⟩ (Nat.le_of_ble_eq_true rfl) dX4_meanPrice_7 (fun v9 U10 G11 hq => ?_)
  clear h
  · obtain ⟨r8, rfl, rfl, rfl, h⟩ := hq
    refine zr_istore_n C [(1, .int r8), (0, .ref a0)] dX4_meanPrice_10 rfl (by decide) rfl ?_
    refine zr_iload_n C 0 dX4_meanPrice_11 rfl rfl ?_
    obtain ⟨h1, h2⟩ := h
    refine zr_if_ne C 17 dX4_meanPrice_12 (by decide) (fun hc => ?_) (fun hc => ?_)
    · have h := h1 hc
      clear h1 h2
      refine zr_aload_n C 1 dX4_meanPrice_17 rfl rfl ?_
      refine zr_get C fl_X4_23 hT1 hv2 dX4_meanPrice_18 ?_
      exact h.elim
    · have h := h2 hc
      clear h1 h2
      refine zr_dconst C dX4_meanPrice_15 ?_
      exact zr_dret C rfl ⟨_, rfl, rfl, rfl, h⟩ (Nat.le_of_ble_eq_true rfl) (Nat.le_of_ble_eq_true rfl) dX4_meanPrice_16
theorem dX4_digest_0 : decode cX4_digest 0 = .ok (.ldc2_w 313, 3) := by decide +kernel
theorem dX4_digest_3 : decode cX4_digest 3 = .ok (.lstore_n 1, 1) := by decide +kernel
theorem dX4_digest_4 : decode cX4_digest 4 = .ok (.iconst 0, 1) := by decide +kernel
theorem dX4_digest_5 : decode cX4_digest 5 = .ok (.istore_n 3, 1) := by decide +kernel
theorem dX4_digest_6 : decode cX4_digest 6 = .ok (.iload_n 3, 1) := by decide +kernel
theorem dX4_digest_7 : decode cX4_digest 7 = .ok (.bipush 10, 2) := by decide +kernel
theorem dX4_digest_9 : decode cX4_digest 9 = .ok (.if_icmp .gt 22, 3) := by decide +kernel
theorem dX4_digest_31 : decode cX4_digest 31 = .ok (.iconst 0, 1) := by decide +kernel
theorem dX4_digest_32 : decode cX4_digest 32 = .ok (.istore_n 3, 1) := by decide +kernel
theorem dX4_digest_33 : decode cX4_digest 33 = .ok (.iload_n 3, 1) := by decide +kernel
theorem dX4_digest_34 : decode cX4_digest 34 = .ok (.aload_n 0, 1) := by decide +kernel
theorem dX4_digest_35 : decode cX4_digest 35 = .ok (.getfield 10, 3) := by decide +kernel
theorem dX4_digest_41 : decode cX4_digest 41 = .ok (.if_icmp .ge 44, 3) := by decide +kernel
theorem dX4_digest_85 : decode cX4_digest 85 = .ok (.iconst 0, 1) := by decide +kernel
theorem dX4_digest_86 : decode cX4_digest 86 = .ok (.istore_n 3, 1) := by decide +kernel
theorem dX4_digest_87 : decode cX4_digest 87 = .ok (.iload_n 3, 1) := by decide +kernel
theorem dX4_digest_88 : decode cX4_digest 88 = .ok (.aload_n 0, 1) := by decide +kernel
theorem dX4_digest_89 : decode cX4_digest 89 = .ok (.getfield 23, 3) := by decide +kernel
theorem dX4_digest_92 : decode cX4_digest 92 = .ok (.getfield 112, 3) := by decide +kernel
theorem dX4_digest_98 : decode cX4_digest 98 = .ok (.if_icmp .ge 16, 3) := by decide +kernel
theorem dX4_digest_114 : decode cX4_digest 114 = .ok (.iconst 0, 1) := by decide +kernel
theorem dX4_digest_115 : decode cX4_digest 115 = .ok (.istore_n 3, 1) := by decide +kernel
theorem dX4_digest_116 : decode cX4_digest 116 = .ok (.iload_n 3, 1) := by decide +kernel
theorem dX4_digest_117 : decode cX4_digest 117 = .ok (.aload_n 0, 1) := by decide +kernel
theorem dX4_digest_118 : decode cX4_digest 118 = .ok (.getfield 23, 3) := by decide +kernel
theorem dX4_digest_121 : decode cX4_digest 121 = .ok (.getfield 179, 3) := by decide +kernel
theorem dX4_digest_127 : decode cX4_digest 127 = .ok (.if_icmp .ge 16, 3) := by decide +kernel
theorem dX4_digest_143 : decode cX4_digest 143 = .ok (.iconst 0, 1) := by decide +kernel
theorem dX4_digest_144 : decode cX4_digest 144 = .ok (.istore_n 3, 1) := by decide +kernel
theorem dX4_digest_145 : decode cX4_digest 145 = .ok (.iload_n 3, 1) := by decide +kernel
theorem dX4_digest_146 : decode cX4_digest 146 = .ok (.iconst 4, 1) := by decide +kernel
theorem dX4_digest_147 : decode cX4_digest 147 = .ok (.if_icmp .ge 22, 3) := by decide +kernel
theorem dX4_digest_169 : decode cX4_digest 169 = .ok (.lload_n 1, 1) := by decide +kernel
theorem dX4_digest_170 : decode cX4_digest 170 = .ok (.ldc2_w 315, 3) := by decide +kernel
theorem dX4_digest_173 : decode cX4_digest 173 = .ok (.lmul, 1) := by decide +kernel
theorem dX4_digest_174 : decode cX4_digest 174 = .ok (.aload_n 0, 1) := by decide +kernel
theorem dX4_digest_175 : decode cX4_digest 175 = .ok (.bipush 20, 2) := by decide +kernel
theorem dX4_digest_180 : decode cX4_digest 180 = .ok (.i2l, 1) := by decide +kernel
theorem dX4_digest_181 : decode cX4_digest 181 = .ok (.ladd, 1) := by decide +kernel
theorem dX4_digest_182 : decode cX4_digest 182 = .ok (.lreturn, 1) := by decide +kernel
theorem dX4_digest_177 : decode cX4_digest 177 = .ok (.invokevirtual 333, 3) := by decide +kernel
theorem dX4_digest_150 : decode cX4_digest 150 = .ok (.lload_n 1, 1) := by decide +kernel
theorem dX4_digest_151 : decode cX4_digest 151 = .ok (.ldc2_w 315, 3) := by decide +kernel
theorem dX4_digest_154 : decode cX4_digest 154 = .ok (.lmul, 1) := by decide +kernel
theorem dX4_digest_155 : decode cX4_digest 155 = .ok (.aload_n 0, 1) := by decide +kernel
theorem dX4_digest_156 : decode cX4_digest 156 = .ok (.iload_n 3, 1) := by decide +kernel
theorem dX4_digest_160 : decode cX4_digest 160 = .ok (.i2l, 1) := by decide +kernel
theorem dX4_digest_161 : decode cX4_digest 161 = .ok (.ladd, 1) := by decide +kernel
theorem dX4_digest_162 : decode cX4_digest 162 = .ok (.lstore_n 1, 1) := by decide +kernel
theorem dX4_digest_163 : decode cX4_digest 163 = .ok (.iinc 3 1, 3) := by decide +kernel
theorem dX4_digest_166 : decode cX4_digest 166 = .ok (.goto (-21), 3) := by decide +kernel
theorem dX4_digest_157 : decode cX4_digest 157 = .ok (.invokevirtual 330, 3) := by decide +kernel
theorem dX4_digest_130 : decode cX4_digest 130 = .ok (.aload_n 0, 1) := by decide +kernel
theorem dX4_digest_131 : decode cX4_digest 131 = .ok (.lload_n 1, 1) := by decide +kernel
theorem dX4_digest_132 : decode cX4_digest 132 = .ok (.iload_n 3, 1) := by decide +kernel
theorem dX4_digest_124 : decode cX4_digest 124 = .ok (.invokevirtual 30, 3) := by decide +kernel
theorem dX4_digest_101 : decode cX4_digest 101 = .ok (.aload_n 0, 1) := by decide +kernel
theorem dX4_digest_102 : decode cX4_digest 102 = .ok (.lload_n 1, 1) := by decide +kernel
theorem dX4_digest_103 : decode cX4_digest 103 = .ok (.iload_n 3, 1) := by decide +kernel
theorem dX4_digest_95 : decode cX4_digest 95 = .ok (.invokevirtual 30, 3) := by decide +kernel
theorem dX4_digest_44 : decode cX4_digest 44 = .ok (.lload_n 1, 1) := by decide +kernel
theorem dX4_digest_45 : decode cX4_digest 45 = .ok (.ldc2_w 315, 3) := by decide +kernel
theorem dX4_digest_48 : decode cX4_digest 48 = .ok (.lmul, 1) := by decide +kernel
theorem dX4_digest_49 : decode cX4_digest 49 = .ok (.aload_n 0, 1) := by decide +kernel
theorem dX4_digest_50 : decode cX4_digest 50 = .ok (.iload_n 3, 1) := by decide +kernel
theorem dX4_digest_51 : decode cX4_digest 51 = .ok (.aload_n 0, 1) := by decide +kernel
theorem dX4_digest_52 : decode cX4_digest 52 = .ok (.getfield 23, 3) := by decide +kernel
theorem dX4_digest_55 : decode cX4_digest 55 = .ok (.getfield 52, 3) := by decide +kernel
theorem dX4_digest_61 : decode cX4_digest 61 = .ok (.i2l, 1) := by decide +kernel
theorem dX4_digest_62 : decode cX4_digest 62 = .ok (.ladd, 1) := by decide +kernel
theorem dX4_digest_63 : decode cX4_digest 63 = .ok (.lstore_n 1, 1) := by decide +kernel
theorem dX4_digest_64 : decode cX4_digest 64 = .ok (.lload_n 1, 1) := by decide +kernel
theorem dX4_digest_65 : decode cX4_digest 65 = .ok (.ldc2_w 315, 3) := by decide +kernel
theorem dX4_digest_68 : decode cX4_digest 68 = .ok (.lmul, 1) := by decide +kernel
theorem dX4_digest_69 : decode cX4_digest 69 = .ok (.aload_n 0, 1) := by decide +kernel
theorem dX4_digest_70 : decode cX4_digest 70 = .ok (.iload_n 3, 1) := by decide +kernel
theorem dX4_digest_71 : decode cX4_digest 71 = .ok (.bipush 99, 2) := by decide +kernel
theorem dX4_digest_76 : decode cX4_digest 76 = .ok (.i2l, 1) := by decide +kernel
theorem dX4_digest_77 : decode cX4_digest 77 = .ok (.ladd, 1) := by decide +kernel
theorem dX4_digest_78 : decode cX4_digest 78 = .ok (.lstore_n 1, 1) := by decide +kernel
theorem dX4_digest_79 : decode cX4_digest 79 = .ok (.iinc 3 1, 3) := by decide +kernel
theorem dX4_digest_82 : decode cX4_digest 82 = .ok (.goto (-49), 3) := by decide +kernel
theorem dX4_digest_73 : decode cX4_digest 73 = .ok (.invokevirtual 320, 3) := by decide +kernel
theorem dX4_digest_58 : decode cX4_digest 58 = .ok (.invokevirtual 320, 3) := by decide +kernel
theorem dX4_digest_38 : decode cX4_digest 38 = .ok (.invokevirtual 30, 3) := by decide +kernel
theorem dX4_digest_12 : decode cX4_digest 12 = .ok (.lload_n 1, 1) := by decide +kernel
theorem dX4_digest_13 : decode cX4_digest 13 = .ok (.ldc2_w 315, 3) := by decide +kernel
theorem dX4_digest_16 : decode cX4_digest 16 = .ok (.lmul, 1) := by decide +kernel
theorem dX4_digest_17 : decode cX4_digest 17 = .ok (.aload_n 0, 1) := by decide +kernel
theorem dX4_digest_18 : decode cX4_digest 18 = .ok (.iload_n 3, 1) := by decide +kernel
theorem dX4_digest_22 : decode cX4_digest 22 = .ok (.i2l, 1) := by decide +kernel
theorem dX4_digest_23 : decode cX4_digest 23 = .ok (.ladd, 1) := by decide +kernel
theorem dX4_digest_24 : decode cX4_digest 24 = .ok (.lstore_n 1, 1) := by decide +kernel
theorem dX4_digest_25 : decode cX4_digest 25 = .ok (.iinc 3 1, 3) := by decide +kernel
theorem dX4_digest_28 : decode cX4_digest 28 = .ok (.goto (-22), 3) := by decide +kernel
theorem dX4_digest_19 : decode cX4_digest 19 = .ok (.invokevirtual 317, 3) := by decide +kernel
def v_X4_digest (a0 : Nat) (T : zT) (F : zF) (Post : Int64 → zF → Prop) : Prop :=
  (∃ I1 : Nat → Int64 → Int32 → Prop, (∃ n3 : Nat, I1 n3 5741 0) ∧ (∀ (n2 : Nat) (y4 : Int64) (y5 : Int32), I1 n2 y4 y5 → ((10 < y5 → (∃ I8 : Nat → Int64 → Int32 → Prop, (∃ n10 : Nat, I8 n10 y4 0) ∧ (∀ (n9 : Nat) (y11 : Int64) (y12 : Int32), I8 n9 y11 y12 → (T a0 = some (7, 4) ∧ ∃ x17 : Nat, F a0 0 = .ref x17 ∧ T x17 = some (2, 3) ∧ (v_Jx4a65c_size_8abf5 x17 T F (fun (r19 : Int32) => ((r19 ≤ y12 → (∃ x21 : Nat, F a0 2 = .ref x21 ∧ T x21 = some (6, 3) ∧ ∃ x24 : Nat, F x21 1 = .ref x24 ∧ T x24 = some (2, 3) ∧ (v_Jx4a65c_size_8abf5 x24 T F (fun (r26 : Int32) => ((r26 ≤ (0 : Int32) → (∃ x28 : Nat, F x21 0 = .ref x28 ∧ T x28 = some (2, 3) ∧ (v_Jx4a65c_size_8abf5 x28 T F (fun (r30 : Int32) => ((r30 ≤ (0 : Int32) → (∃ I31 : Nat → Int64 → Int32 → Prop, (∃ n33 : Nat, I31 n33 y11 0) ∧ (∀ (n32 : Nat) (y34 : Int64) (y35 : Int32), I31 n32 y34 y35 → ((4 ≤ y35 → (v_X4_lostIn a0 20 T F (fun (r38 : Int32) (F39 : zF) => Post ((y34 * 31) + r38.toInt64) F39) (fun _ _ => False))) ∧ (¬ 4 ≤ y35 → (v_X4_reach a0 y35 T F (fun (r43 : Int32) => (∃ n44 : Nat, n44 < n32 ∧ I31 n44 ((y34 * 31) + r43.toInt64) (y35 + 1))) (fun _ => False))))))) ∧ (¬ r30 ≤ (0 : Int32) → False)))))) ∧ (¬ r26 ≤ (0 : Int32) → False)))))) ∧ (¬ r19 ≤ y12 → (∃ x58 : Nat, F a0 2 = .ref x58 ∧ T x58 = some (6, 3) ∧ ∃ x61 : Int32, F x58 2 = .int x61 ∧ (v_X4_versionOn a0 y12 x61 T F (fun (r62 : Int32) => (v_X4_versionOn a0 y12 99 T F (fun (r63 : Int32) => (∃ n64 : Nat, n64 < n9 ∧ I8 n64 ((((y11 * 31) + r62.toInt64) * 31) + r63.toInt64) (y12 + 1))) (fun _ => False))) (fun _ => False))))))))))) ∧ (¬ 10 < y5 → (T a0 = some (7, 4) ∧ (v_X4_many a0 y5 T F (fun (r78 : Int32) => (∃ n79 : Nat, n79 < n2 ∧ I1 n79 ((y4 * 31) + r78.toInt64) (y5 + 1))) (fun _ => False)))))))
set_option maxRecDepth 100000 in
set_option maxHeartbeats 4000000 in
theorem k_X4_digest {l : Launch} {D : va_G} {cA : Nat → ClassId} {N0 zE : Nat} {a0 : Nat} {T : zT} {F : zF} {Post : Int64 → zF → Prop} (h : v_X4_digest a0 T F Post) : z_Mt l D cA N0 zE yX4_digest cX4_digest 4 (some .long) ({ frames := 3, cells := 0, slots := 0, locals := 66 } : Room) [.ref a0] T F (fun v T' F' => ∃ r : Int64, v = some (.long r) ∧ T = T' ∧ Post r F') := by
  unfold v_X4_digest at h
  refine z_bodyT (by decide) (Nat.le_of_ble_eq_true rfl) ?_
  intro p e s m args below meth c C hnm
  have C : z_C p l s m args meth c RX4 cX4_digest 4 (some .long) D cA N0 zE := C
  show z_w p l e ({ frames := 3, cells := 0, slots := 0, locals := 66 } : Room) s m args below meth c D cA N0 4 0 0 (MQ below (z_Qc D cA N0 (fun v T' F' => ∃ r : Int64, v = some (.long r) ∧ T = T' ∧ Post r F')) args s 0 0 (fun q => N0 ≤ q)) 0 [(0, .ref a0)] [] T F
  refine zr_ldc2 C 5741 dX4_digest_0 zq_167 ?_
  refine zr_lstore_n C [(1, .long 5741), (0, .ref a0)] dX4_digest_3 rfl (by decide) rfl ?_
  refine zr_iconst C 0 dX4_digest_4 (by decide) ?_
  refine zr_istore_n C [(3, .int 0), (1, .long 5741), (0, .ref a0)] dX4_digest_5 rfl (by decide) rfl ?_
  obtain ⟨I1, ⟨n3, h084⟩, hI83⟩ := h
  have ky85 : ∀ (n2 : Nat) (y4 : Int64) (y5 : Int32), I1 n2 y4 y5 → z_w p l e ({ frames := 3, cells := 0, slots := 0, locals := 66 } : Room) s m args below meth c D cA N0 4 0 0 (MQ below (z_Qc D cA N0 (fun v T' F' => ∃ r : Int64, v = some (.long r) ∧ T = T' ∧ Post r F')) args s 0 0 (fun q => N0 ≤ q)) 6 [(0, .ref a0), (1, .long y4), (3, .int y5)] [] T F := by
    intro n2
    induction n2 using Nat.strongRecOn with
    | _ n2 ih6 =>
      intro y4 y5 hin
      have h := hI83 n2 y4 y5 hin
      refine zr_iload_n C 2 dX4_digest_6 rfl rfl ?_
      refine zr_bipush C 10 dX4_digest_7 (by decide) ?_
      obtain ⟨h1, h2⟩ := h
      refine zr_icmp_gt C 31 dX4_digest_9 (by decide) (fun hc => ?_) (fun hc => ?_)
      · have h := h1 hc
        clear h1 h2
        refine zr_iconst C 0 dX4_digest_31 (by decide) ?_
        refine zr_istore_n C [(3, .int 0), (0, .ref a0), (1, .long y4)] dX4_digest_32 rfl (by decide) rfl ?_
        obtain ⟨I8, ⟨n10, h075⟩, hI74⟩ := h
        have ky76 : ∀ (n9 : Nat) (y11 : Int64) (y12 : Int32), I8 n9 y11 y12 → z_w p l e ({ frames := 3, cells := 0, slots := 0, locals := 66 } : Room) s m args below meth c D cA N0 4 0 0 (MQ below (z_Qc D cA N0 (fun v T' F' => ∃ r : Int64, v = some (.long r) ∧ T = T' ∧ Post r F')) args s 0 0 (fun q => N0 ≤ q)) 33 [(0, .ref a0), (1, .long y11), (3, .int y12)] [] T F := by
          intro n9
          induction n9 using Nat.strongRecOn with
          | _ n9 ih13 =>
            intro y11 y12 hin
            have h := hI74 n9 y11 y12 hin
            refine zr_iload_n C 2 dX4_digest_33 rfl rfl ?_
            refine zr_aload_n C 0 dX4_digest_34 rfl rfl ?_
            obtain ⟨hT15, x17, hv16, h⟩ := h
            refine zr_get C fl_X4_10 hT15 hv16 dX4_digest_35 ?_
            obtain ⟨hT18, h⟩ := h
            refine zr_callV (As := []) (r := (RJx4a65c, TJx4a65c, 3)) C (k_Jx4a65c_size_8abf5 h) ok_X4_30 zq_140 zq_141 hT18 (by decide) rfl rfl ⟨by decide, (Nat.le_of_ble_eq_true rfl)⟩ ⟨(Nat.le_of_ble_eq_true rfl), (Nat.le_of_ble_eq_true rfl)⟩ (Nat.le_of_ble_eq_true rfl) dX4_digest_38 (fun v71 U72 G73 hq => ?_)
            clear h
            · obtain ⟨r19, rfl, rfl, rfl, h⟩ := hq
              obtain ⟨h1, h2⟩ := h
              refine zr_icmp_ge C 85 dX4_digest_41 (by decide) (fun hc => ?_) (fun hc => ?_)
              · have h := h1 hc
                clear h1 h2
                refine zr_iconst C 0 dX4_digest_85 (by decide) ?_
                refine zr_istore_n C [(3, .int 0), (0, .ref a0), (1, .long y11)] dX4_digest_86 rfl (by decide) rfl ?_
                refine zr_iload_n C 0 dX4_digest_87 rfl rfl ?_
                refine zr_aload_n C 1 dX4_digest_88 rfl rfl ?_
                obtain ⟨x21, hv20, h⟩ := h
                refine zr_get C fl_X4_23 hT15 hv20 dX4_digest_89 ?_
                obtain ⟨hT22, x24, hv23, h⟩ := h
                refine zr_get C fl_X4_112 hT22 hv23 dX4_digest_92 ?_
                obtain ⟨hT25, h⟩ := h
                refine zr_callV (As := []) (r := (RJx4a65c, TJx4a65c, 3)) C (k_Jx4a65c_size_8abf5 h) ok_X4_30 zq_140 zq_141 hT25 (by decide) rfl rfl ⟨by decide, (Nat.le_of_ble_eq_true rfl)⟩ ⟨(Nat.le_of_ble_eq_true rfl), (Nat.le_of_ble_eq_true rfl)⟩ (Nat.le_of_ble_eq_true rfl) dX4_digest_95 (fun v54 U55 G56 hq => ?_)
                clear h
                · obtain ⟨r26, rfl, rfl, rfl, h⟩ := hq
                  obtain ⟨h1, h2⟩ := h
                  refine zr_icmp_ge C 114 dX4_digest_98 (by decide) (fun hc => ?_) (fun hc => ?_)
                  · have h := h1 hc
                    clear h1 h2
                    refine zr_iconst C 0 dX4_digest_114 (by decide) ?_
                    refine zr_istore_n C [(3, .int 0), (0, .ref a0), (1, .long y11)] dX4_digest_115 rfl (by decide) rfl ?_
                    refine zr_iload_n C 0 dX4_digest_116 rfl rfl ?_
                    refine zr_aload_n C 1 dX4_digest_117 rfl rfl ?_
                    refine zr_get C fl_X4_23 hT15 hv20 dX4_digest_118 ?_
                    obtain ⟨x28, hv27, h⟩ := h
                    refine zr_get C fl_X4_179 hT22 hv27 dX4_digest_121 ?_
                    obtain ⟨hT29, h⟩ := h
                    refine zr_callV (As := []) (r := (RJx4a65c, TJx4a65c, 3)) C (k_Jx4a65c_size_8abf5 h) ok_X4_30 zq_140 zq_141 hT29 (by decide) rfl rfl ⟨by decide, (Nat.le_of_ble_eq_true rfl)⟩ ⟨(Nat.le_of_ble_eq_true rfl), (Nat.le_of_ble_eq_true rfl)⟩ (Nat.le_of_ble_eq_true rfl) dX4_digest_124 (fun v51 U52 G53 hq => ?_)
                    clear h
                    · obtain ⟨r30, rfl, rfl, rfl, h⟩ := hq
                      obtain ⟨h1, h2⟩ := h
                      refine zr_icmp_ge C 143 dX4_digest_127 (by decide) (fun hc => ?_) (fun hc => ?_)
                      · have h := h1 hc
                        clear h1 h2
                        refine zr_iconst C 0 dX4_digest_143 (by decide) ?_
                        refine zr_istore_n C [(3, .int 0), (0, .ref a0), (1, .long y11)] dX4_digest_144 rfl (by decide) rfl ?_
                        obtain ⟨I31, ⟨n33, h049⟩, hI48⟩ := h
                        have ky50 : ∀ (n32 : Nat) (y34 : Int64) (y35 : Int32), I31 n32 y34 y35 → z_w p l e ({ frames := 3, cells := 0, slots := 0, locals := 66 } : Room) s m args below meth c D cA N0 4 0 0 (MQ below (z_Qc D cA N0 (fun v T' F' => ∃ r : Int64, v = some (.long r) ∧ T = T' ∧ Post r F')) args s 0 0 (fun q => N0 ≤ q)) 145 [(0, .ref a0), (1, .long y34), (3, .int y35)] [] T F := by
                          intro n32
                          induction n32 using Nat.strongRecOn with
                          | _ n32 ih36 =>
                            intro y34 y35 hin
                            have h := hI48 n32 y34 y35 hin
                            refine zr_iload_n C 2 dX4_digest_145 rfl rfl ?_
                            refine zr_iconst C 4 dX4_digest_146 (by decide) ?_
                            obtain ⟨h1, h2⟩ := h
                            refine zr_icmp_ge C 169 dX4_digest_147 (by decide) (fun hc => ?_) (fun hc => ?_)
                            · have h := h1 hc
                              clear h1 h2
                              refine zr_lload_n C 1 dX4_digest_169 rfl rfl ?_
                              refine zr_ldc2 C 31 dX4_digest_170 zq_168 ?_
                              refine zr_lmul C dX4_digest_173 ?_
                              refine zr_aload_n C 0 dX4_digest_174 rfl rfl ?_
                              refine zr_bipush C 20 dX4_digest_175 (by decide) ?_
                              refine zr_callV (As := [.int 20]) (r := (RX4, TX4, 4)) C (k_X4_lostIn0 h) ok_X4_333 zq_429 zq_430 hT15 (by decide) rfl rfl ⟨by decide, (Nat.le_of_ble_eq_true rfl)⟩ ⟨(Nat.le_of_ble_eq_true rfl), (Nat.le_of_ble_eq_true rfl)⟩ (Nat.le_of_ble_eq_true rfl) dX4_digest_177 (fun v40 U41 G42 hq => ?_)
                              clear h
                              · obtain ⟨r38, rfl, rfl, h⟩ := hq
                                refine zr_i2l C dX4_digest_180 ?_
                                refine zr_ladd C dX4_digest_181 ?_
                                exact zr_lret C rfl ⟨_, rfl, rfl, h⟩ (Nat.le_of_ble_eq_true rfl) (Nat.le_of_ble_eq_true rfl) dX4_digest_182
                            · have h := h2 hc
                              clear h1 h2
                              refine zr_lload_n C 1 dX4_digest_150 rfl rfl ?_
                              refine zr_ldc2 C 31 dX4_digest_151 zq_168 ?_
                              refine zr_lmul C dX4_digest_154 ?_
                              refine zr_aload_n C 0 dX4_digest_155 rfl rfl ?_
                              refine zr_iload_n C 2 dX4_digest_156 rfl rfl ?_
                              refine zr_callV (As := [.int y35]) (r := (RX4, TX4, 4)) C (k_X4_reach0 h) ok_X4_330 zq_408 zq_409 hT15 (by decide) rfl rfl ⟨by decide, (Nat.le_of_ble_eq_true rfl)⟩ ⟨(Nat.le_of_ble_eq_true rfl), (Nat.le_of_ble_eq_true rfl)⟩ (Nat.le_of_ble_eq_true rfl) dX4_digest_157 (fun v45 U46 G47 hq => ?_)
                              clear h
                              · obtain ⟨r43, rfl, rfl, rfl, h⟩ := hq
                                refine zr_i2l C dX4_digest_160 ?_
                                refine zr_ladd C dX4_digest_161 ?_
                                refine zr_lstore_n C [(1, .long ((y34 * 31) + r43.toInt64)), (0, .ref a0), (3, .int y35)] dX4_digest_162 rfl (by decide) rfl ?_
                                refine zr_iinc C [(3, .int (y35 + 1)), (1, .long ((y34 * 31) + r43.toInt64)), (0, .ref a0)] 2 dX4_digest_163 rfl rfl (by decide) rfl ?_
                                refine zr_goto C 145 dX4_digest_166 (by decide) ?_
                                obtain ⟨n44, hlt, h⟩ := h
                                exact zr_sub [2, 1, 0] rfl (ih36 n44 hlt ((y34 * 31) + r43.toInt64) (y35 + 1) h)
                        exact zr_sub [1, 2, 0] rfl (ky50 n33 y11 0 h049)
                      · have h := h2 hc
                        clear h1 h2
                        refine zr_aload_n C 1 dX4_digest_130 rfl rfl ?_
                        refine zr_lload_n C 2 dX4_digest_131 rfl rfl ?_
                        refine zr_iload_n C 0 dX4_digest_132 rfl rfl ?_
                        exact h.elim
                  · have h := h2 hc
                    clear h1 h2
                    refine zr_aload_n C 1 dX4_digest_101 rfl rfl ?_
                    refine zr_lload_n C 2 dX4_digest_102 rfl rfl ?_
                    refine zr_iload_n C 0 dX4_digest_103 rfl rfl ?_
                    exact h.elim
              · have h := h2 hc
                clear h1 h2
                refine zr_lload_n C 1 dX4_digest_44 rfl rfl ?_
                refine zr_ldc2 C 31 dX4_digest_45 zq_168 ?_
                refine zr_lmul C dX4_digest_48 ?_
                refine zr_aload_n C 0 dX4_digest_49 rfl rfl ?_
                refine zr_iload_n C 2 dX4_digest_50 rfl rfl ?_
                refine zr_aload_n C 0 dX4_digest_51 rfl rfl ?_
                obtain ⟨x58, hv57, h⟩ := h
                refine zr_get C fl_X4_23 hT15 hv57 dX4_digest_52 ?_
                obtain ⟨hT59, x61, hv60, h⟩ := h
                refine zr_get C fl_X4_52 hT59 hv60 dX4_digest_55 ?_
                refine zr_callV (As := [.int y12, .int x61]) (r := (RX4, TX4, 4)) C (k_X4_versionOn0 h) ok_X4_320 zq_258 zq_259 hT15 (by decide) rfl rfl ⟨by decide, (Nat.le_of_ble_eq_true rfl)⟩ ⟨(Nat.le_of_ble_eq_true rfl), (Nat.le_of_ble_eq_true rfl)⟩ (Nat.le_of_ble_eq_true rfl) dX4_digest_58 (fun v68 U69 G70 hq => ?_)
                clear h
                · obtain ⟨r62, rfl, rfl, rfl, h⟩ := hq
                  refine zr_i2l C dX4_digest_61 ?_
                  refine zr_ladd C dX4_digest_62 ?_
                  refine zr_lstore_n C [(1, .long ((y11 * 31) + r62.toInt64)), (0, .ref a0), (3, .int y12)] dX4_digest_63 rfl (by decide) rfl ?_
                  refine zr_lload_n C 0 dX4_digest_64 rfl rfl ?_
                  refine zr_ldc2 C 31 dX4_digest_65 zq_168 ?_
                  refine zr_lmul C dX4_digest_68 ?_
                  refine zr_aload_n C 1 dX4_digest_69 rfl rfl ?_
                  refine zr_iload_n C 2 dX4_digest_70 rfl rfl ?_
                  refine zr_bipush C 99 dX4_digest_71 (by decide) ?_
                  refine zr_callV (As := [.int y12, .int 99]) (r := (RX4, TX4, 4)) C (k_X4_versionOn0 h) ok_X4_320 zq_258 zq_259 hT15 (by decide) rfl rfl ⟨by decide, (Nat.le_of_ble_eq_true rfl)⟩ ⟨(Nat.le_of_ble_eq_true rfl), (Nat.le_of_ble_eq_true rfl)⟩ (Nat.le_of_ble_eq_true rfl) dX4_digest_73 (fun v65 U66 G67 hq => ?_)
                  clear h
                  · obtain ⟨r63, rfl, rfl, rfl, h⟩ := hq
                    refine zr_i2l C dX4_digest_76 ?_
                    refine zr_ladd C dX4_digest_77 ?_
                    refine zr_lstore_n C [(1, .long ((((y11 * 31) + r62.toInt64) * 31) + r63.toInt64)), (0, .ref a0), (3, .int y12)] dX4_digest_78 rfl (by decide) rfl ?_
                    refine zr_iinc C [(3, .int (y12 + 1)), (1, .long ((((y11 * 31) + r62.toInt64) * 31) + r63.toInt64)), (0, .ref a0)] 2 dX4_digest_79 rfl rfl (by decide) rfl ?_
                    refine zr_goto C 33 dX4_digest_82 (by decide) ?_
                    obtain ⟨n64, hlt, h⟩ := h
                    exact zr_sub [2, 1, 0] rfl (ih13 n64 hlt ((((y11 * 31) + r62.toInt64) * 31) + r63.toInt64) (y12 + 1) h)
        exact zr_sub [1, 2, 0] rfl (ky76 n10 y4 0 h075)
      · have h := h2 hc
        clear h1 h2
        refine zr_lload_n C 1 dX4_digest_12 rfl rfl ?_
        refine zr_ldc2 C 31 dX4_digest_13 zq_168 ?_
        refine zr_lmul C dX4_digest_16 ?_
        refine zr_aload_n C 0 dX4_digest_17 rfl rfl ?_
        refine zr_iload_n C 2 dX4_digest_18 rfl rfl ?_
        obtain ⟨hT77, h⟩ := h
        refine zr_callV (As := [.int y5]) (r := (RX4, TX4, 4)) C (k_X4_many0 h) ok_X4_317 zq_170 zq_171 hT77 (by decide) rfl rfl ⟨by decide, (Nat.le_of_ble_eq_true rfl)⟩ ⟨(Nat.le_of_ble_eq_true rfl), (Nat.le_of_ble_eq_true rfl)⟩ (Nat.le_of_ble_eq_true rfl) dX4_digest_19 (fun v80 U81 G82 hq => ?_)
        clear h
        · obtain ⟨r78, rfl, rfl, rfl, h⟩ := hq
          refine zr_i2l C dX4_digest_22 ?_
          refine zr_ladd C dX4_digest_23 ?_
          refine zr_lstore_n C [(1, .long ((y4 * 31) + r78.toInt64)), (0, .ref a0), (3, .int y5)] dX4_digest_24 rfl (by decide) rfl ?_
          refine zr_iinc C [(3, .int (y5 + 1)), (1, .long ((y4 * 31) + r78.toInt64)), (0, .ref a0)] 2 dX4_digest_25 rfl rfl (by decide) rfl ?_
          refine zr_goto C 6 dX4_digest_28 (by decide) ?_
          obtain ⟨n79, hlt, h⟩ := h
          exact zr_sub [2, 1, 0] rfl (ih6 n79 hlt ((y4 * 31) + r78.toInt64) (y5 + 1) h)
  exact zr_sub [2, 1, 0] rfl (ky85 n3 5741 0 h084)
