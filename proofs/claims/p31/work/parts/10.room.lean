theorem dX4_init_0 : decode cX4_init 0 = .ok (.aload_n 0, 1) := by decide +kernel
theorem dX4_init_1 : decode cX4_init 1 = .ok (.invokespecial 1, 3) := by decide +kernel
theorem dX4_init_4 : decode cX4_init 4 = .ok (.aload_n 0, 1) := by decide +kernel
theorem dX4_init_5 : decode cX4_init 5 = .ok (.new 7, 3) := by decide +kernel
theorem dX4_init_8 : decode cX4_init 8 = .ok (.dup, 1) := by decide +kernel
theorem dX4_init_12 : decode cX4_init 12 = .ok (.putfield 10, 3) := by decide +kernel
theorem dX4_init_15 : decode cX4_init 15 = .ok (.aload_n 0, 1) := by decide +kernel
theorem dX4_init_16 : decode cX4_init 16 = .ok (.bipush 16, 2) := by decide +kernel
theorem dX4_init_18 : decode cX4_init 18 = .ok (.newarray .int, 2) := by decide +kernel
theorem dX4_init_20 : decode cX4_init 20 = .ok (.putfield 16, 3) := by decide +kernel
theorem dX4_init_23 : decode cX4_init 23 = .ok (.aload_n 0, 1) := by decide +kernel
theorem dX4_init_24 : decode cX4_init 24 = .ok (.new 20, 3) := by decide +kernel
theorem dX4_init_27 : decode cX4_init 27 = .ok (.dup, 1) := by decide +kernel
theorem dX4_init_31 : decode cX4_init 31 = .ok (.putfield 23, 3) := by decide +kernel
theorem dX4_init_34 : decode cX4_init 34 = .ok (.aload_n 0, 1) := by decide +kernel
theorem dX4_init_35 : decode cX4_init 35 = .ok (.new 20, 3) := by decide +kernel
theorem dX4_init_38 : decode cX4_init 38 = .ok (.dup, 1) := by decide +kernel
theorem dX4_init_42 : decode cX4_init 42 = .ok (.putfield 27, 3) := by decide +kernel
theorem dX4_init_45 : decode cX4_init 45 = .ok (.return_, 1) := by decide +kernel
theorem dX4_init_39 : decode cX4_init 39 = .ok (.invokespecial 22, 3) := by decide +kernel
theorem dX4_init_28 : decode cX4_init 28 = .ok (.invokespecial 22, 3) := by decide +kernel
theorem dX4_init_9 : decode cX4_init 9 = .ok (.invokespecial 9, 3) := by decide +kernel
def v_X4_init (zE : Nat) (a0 : Nat) (T : zT) (F : zF) (Post : zT → zF → Prop) : Prop :=
  (∀ q1 : Nat, (∀ b, q1 ≤ b → T b = none) → (v_Jx4a65c_init_da8c8 zE q1 (zn T q1 (0, 3)) (zm F q1 (fun j => defaultValue (tyJx4a65c j))) (fun (F3 : zF) => (zn T q1 (0, 3) a0 = some (5, 4) ∧ (∀ q5 : Nat, (∀ b, q5 ≤ b → (zn T q1 (0, 3)) b = none) → (zn (zn T q1 (0, 3)) q5 (100, 16) a0 = some (5, 4) ∧ (∀ q8 : Nat, (∀ b, q8 ≤ b → (zn (zn T q1 (0, 3)) q5 (100, 16)) b = none) → (v_X3_init zE q8 (zn (zn (zn T q1 (0, 3)) q5 (100, 16)) q8 (4, 3)) (zm (zu (zm (zu F3 a0 0 (.ref q1)) q5 (fun _ => .int 0)) a0 1 (.ref q5)) q8 (fun j => defaultValue (tyX3 j))) (fun (T10 : zT) (F11 : zF) => (T10 a0 = some (5, 4) ∧ (∀ q13 : Nat, (∀ b, q13 ≤ b → T10 b = none) → (v_X3_init zE q13 (zn T10 q13 (4, 3)) (zm (zu F11 a0 2 (.ref q8)) q13 (fun j => defaultValue (tyX3 j))) (fun (T15 : zT) (F16 : zF) => (T15 a0 = some (5, 4) ∧ Post T15 (zu F16 a0 3 (.ref q13))))))))))))))))
set_option maxRecDepth 100000 in
set_option maxHeartbeats 4000000 in
theorem k_X4_init {l : Launch} {D : va_G} {cA : Nat → ClassId} {N0 zE : Nat} {a0 : Nat} {T : zT} {F : zF} {Post : zT → zF → Prop} (h : v_X4_init zE a0 T F Post) : z_Mt l D cA N0 zE yX4_init cX4_init 1 none ({ frames := 5, cells := 8, slots := 37, locals := 100 } : Room) [.ref a0] T F (fun v T' F' => v = none ∧ Post T' F') := by
  unfold v_X4_init at h
  refine z_bodyT (by decide) (Nat.le_of_ble_eq_true rfl) ?_
  intro p e s m args below meth c C hnm
  have C : z_C p l s m args meth c RX4 cX4_init 1 none D cA N0 zE := C
  show z_w p l e ({ frames := 5, cells := 8, slots := 37, locals := 100 } : Room) s m args below meth c D cA N0 1 0 0 (MQ below (z_Qc D cA N0 (fun v T' F' => v = none ∧ Post T' F')) args s 8 37 (fun q => N0 ≤ q)) 0 [(0, .ref a0)] [] T F
  refine zr_aload_n C 0 dX4_init_0 rfl rfl ?_
  refine zr_objInit C zq_43 zq_44 zq_45 (by decide) (Nat.le_of_ble_eq_true rfl) dX4_init_1 ?_
  refine zr_aload_n C 0 dX4_init_4 rfl rfl ?_
  refine zr_new C nw_X4_7 (Nat.le_of_ble_eq_true rfl) (Nat.le_of_ble_eq_true rfl) dX4_init_5 (fun q1 hq2 => ?_)
  have h := h q1 hq2
  refine zr_dup C dX4_init_8 rfl ?_
  refine zr_callI (As := []) C (k_Jx4a65c_init_da8c8 h) ok_X4_9 zq_49 rfl rfl ⟨by decide, (Nat.le_of_ble_eq_true rfl)⟩ ⟨(Nat.le_of_ble_eq_true rfl), (Nat.le_of_ble_eq_true rfl)⟩ (Nat.le_of_ble_eq_true rfl) dX4_init_9 (fun v24 U25 G26 hq => ?_)
  clear h
  · obtain ⟨rfl, rfl, h⟩ := hq
    obtain ⟨hT4, h⟩ := h
    refine zr_putF C fl_X4_10 fd_X4_10 hT4 rfl rfl hnm dX4_init_12 ?_
    refine zr_aload_n C 0 dX4_init_15 rfl rfl ?_
    refine zr_bipush C 16 dX4_init_16 (by decide) ?_
    refine zr_newarr (n := 16) (atype := .int) C 0 rfl zq_93 (by decide) (by decide) (Nat.le_of_ble_eq_true rfl) (Nat.le_of_ble_eq_true rfl) dX4_init_18 (fun q5 hq6 => ?_)
    have h := h q5 hq6
    obtain ⟨hT7, h⟩ := h
    refine zr_putF C fl_X4_16 fd_X4_16 hT7 rfl rfl hnm dX4_init_20 ?_
    refine zr_aload_n C 0 dX4_init_23 rfl rfl ?_
    refine zr_new C nw_X4_20 (Nat.le_of_ble_eq_true rfl) (Nat.le_of_ble_eq_true rfl) dX4_init_24 (fun q8 hq9 => ?_)
    have h := h q8 hq9
    refine zr_dup C dX4_init_27 rfl ?_
    refine zr_callIN (As := []) C (k_X3_init h) ok_X4_22 zq_75 rfl rfl ⟨by decide, (Nat.le_of_ble_eq_true rfl)⟩ ⟨(Nat.le_of_ble_eq_true rfl), (Nat.le_of_ble_eq_true rfl)⟩ (Nat.le_of_ble_eq_true rfl) dX4_init_28 (fun v21 U22 G23 hq => ?_)
    clear h
    · obtain ⟨rfl, h⟩ := hq
      skip
      obtain ⟨hT12, h⟩ := h
      refine zr_putF C fl_X4_23 fd_X4_23 hT12 rfl rfl hnm dX4_init_31 ?_
      refine zr_aload_n C 0 dX4_init_34 rfl rfl ?_
      refine zr_new C nw_X4_20 (Nat.le_of_ble_eq_true rfl) (Nat.le_of_ble_eq_true rfl) dX4_init_35 (fun q13 hq14 => ?_)
      have h := h q13 hq14
      refine zr_dup C dX4_init_38 rfl ?_
      refine zr_callIN (As := []) C (k_X3_init h) ok_X4_22 zq_75 rfl rfl ⟨by decide, (Nat.le_of_ble_eq_true rfl)⟩ ⟨(Nat.le_of_ble_eq_true rfl), (Nat.le_of_ble_eq_true rfl)⟩ (Nat.le_of_ble_eq_true rfl) dX4_init_39 (fun v18 U19 G20 hq => ?_)
      clear h
      · obtain ⟨rfl, h⟩ := hq
        skip
        obtain ⟨hT17, h⟩ := h
        refine zr_putF C fl_X4_27 fd_X4_27 hT17 rfl rfl hnm dX4_init_42 ?_
        exact zr_vret C rfl ⟨rfl, h⟩ (Nat.le_of_ble_eq_true rfl) (Nat.le_of_ble_eq_true rfl) dX4_init_45
theorem dX4_asset_0 : decode cX4_asset 0 = .ok (.aload_n 0, 1) := by decide +kernel
theorem dX4_asset_1 : decode cX4_asset 1 = .ok (.getfield 10, 3) := by decide +kernel
theorem dX4_asset_7 : decode cX4_asset 7 = .ok (.bipush 16, 2) := by decide +kernel
theorem dX4_asset_9 : decode cX4_asset 9 = .ok (.if_icmp .lt 13, 3) := by decide +kernel
theorem dX4_asset_22 : decode cX4_asset 22 = .ok (.aload_n 0, 1) := by decide +kernel
theorem dX4_asset_23 : decode cX4_asset 23 = .ok (.getfield 10, 3) := by decide +kernel
theorem dX4_asset_26 : decode cX4_asset 26 = .ok (.new 41, 3) := by decide +kernel
theorem dX4_asset_29 : decode cX4_asset 29 = .ok (.dup, 1) := by decide +kernel
theorem dX4_asset_36 : decode cX4_asset 36 = .ok (.pop, 1) := by decide +kernel
theorem dX4_asset_37 : decode cX4_asset 37 = .ok (.aload_n 0, 1) := by decide +kernel
theorem dX4_asset_38 : decode cX4_asset 38 = .ok (.getfield 10, 3) := by decide +kernel
theorem dX4_asset_44 : decode cX4_asset 44 = .ok (.iconst 1, 1) := by decide +kernel
theorem dX4_asset_45 : decode cX4_asset 45 = .ok (.isub, 1) := by decide +kernel
theorem dX4_asset_46 : decode cX4_asset 46 = .ok (.ireturn, 1) := by decide +kernel
theorem dX4_asset_41 : decode cX4_asset 41 = .ok (.invokevirtual 30, 3) := by decide +kernel
theorem dX4_asset_33 : decode cX4_asset 33 = .ok (.invokevirtual 44, 3) := by decide +kernel
theorem dX4_asset_30 : decode cX4_asset 30 = .ok (.invokespecial 43, 3) := by decide +kernel
theorem dX4_asset_12 : decode cX4_asset 12 = .ok (.new 34, 3) := by decide +kernel
theorem dX4_asset_15 : decode cX4_asset 15 = .ok (.dup, 1) := by decide +kernel
theorem dX4_asset_16 : decode cX4_asset 16 = .ok (.ldc 36, 2) := by decide +kernel
theorem dX4_asset_18 : decode cX4_asset 18 = .ok (.invokespecial 38, 3) := by decide +kernel
theorem dX4_asset_21 : decode cX4_asset 21 = .ok (.athrow, 1) := by decide +kernel
theorem dX4_asset_4 : decode cX4_asset 4 = .ok (.invokevirtual 30, 3) := by decide +kernel
def v_X4_asset (zE : Nat) (a0 : Nat) (T : zT) (F : zF) (Post : Int32 → zT → zF → Prop) (PX : String → zT → zF → Prop) : Prop :=
  (T a0 = some (5, 4) ∧ ∃ x3 : Nat, F a0 0 = .ref x3 ∧ T x3 = some (0, 3) ∧ (v_Jx4a65c_size_8abf5 x3 T F (fun (r5 : Int32) => ((r5 < 16 → (∀ q6 : Nat, (∀ b, q6 ≤ b → T b = none) → (v_X0_init q6 (zn T q6 (1, 5)) (zm F q6 (fun j => defaultValue (tyX0 j))) (fun (T8 : zT) (F9 : zF) => (T8 x3 = some (0, 3) ∧ (v_Jx4a65c_add_9ea2d zE x3 q6 T8 F9 (fun (r11 : Int32) (T12 : zT) (F13 : zF) => (T12 a0 = some (5, 4) ∧ ∃ x16 : Nat, F13 a0 0 = .ref x16 ∧ T12 x16 = some (0, 3) ∧ (v_Jx4a65c_size_8abf5 x16 T12 F13 (fun (r18 : Int32) => Post (r18 - 1) T12 F13)))))))))) ∧ (¬ r5 < 16 → PX "java/lang/IllegalStateException" T F)))))
set_option maxRecDepth 100000 in
set_option maxHeartbeats 4000000 in
theorem k_X4_asset {l : Launch} {D : va_G} {cA : Nat → ClassId} {N0 zE : Nat} {a0 : Nat} {T : zT} {F : zF} {Post : Int32 → zT → zF → Prop} {PX : String → zT → zF → Prop} (h : v_X4_asset zE a0 T F Post PX) : z_Met l D cA N0 zE yX4_asset cX4_asset 1 (some .int) ({ frames := 7, cells := 5, slots := 66, locals := 163 } : Room) [.ref a0] T F (fun v T' F' => ∃ r : Int32, v = some (.int r) ∧ Post r T' F') (fun E T' F' => PX E T' F') := by
  unfold v_X4_asset at h
  refine z_body (by decide) (Nat.le_of_ble_eq_true rfl) ?_
  intro p e s m args below meth c C hxt hnm
  have C : z_C p l s m args meth c RX4 cX4_asset 1 (some .int) D cA N0 zE := C
  show z_w p l e ({ frames := 7, cells := 5, slots := 66, locals := 163 } : Room) s m args below meth c D cA N0 1 0 0 (vx_MQ below (z_Qc D cA N0 (fun v T' F' => ∃ r : Int32, v = some (.int r) ∧ Post r T' F')) (z_XC D cA N0 (fun E T' F' => PX E T' F')) args s 5 66 (fun q => N0 ≤ q)) 0 [(0, .ref a0)] [] T F
  refine zr_aload_n C 0 dX4_asset_0 rfl rfl ?_
  obtain ⟨hT1, x3, hv2, h⟩ := h
  refine zr_get C fl_X4_10 hT1 hv2 dX4_asset_1 ?_
  obtain ⟨hT4, h⟩ := h
  refine zr_callV (As := []) (r := (RJx4a65c, TJx4a65c, 3)) C (k_Jx4a65c_size_8abf5 h) ok_X4_30 zq_112 zq_113 hT4 (by decide) rfl rfl ⟨by decide, (Nat.le_of_ble_eq_true rfl)⟩ ⟨(Nat.le_of_ble_eq_true rfl), (Nat.le_of_ble_eq_true rfl)⟩ (Nat.le_of_ble_eq_true rfl) dX4_asset_4 (fun v28 U29 G30 hq => ?_)
  clear h
  · obtain ⟨r5, rfl, rfl, rfl, h⟩ := hq
    refine zr_bipush C 16 dX4_asset_7 (by decide) ?_
    obtain ⟨h1, h2⟩ := h
    refine zr_icmp_lt C 22 dX4_asset_9 (by decide) (fun hc => ?_) (fun hc => ?_)
    · have h := h1 hc
      clear h1 h2
      refine zr_aload_n C 0 dX4_asset_22 rfl rfl ?_
      refine zr_get C fl_X4_10 hT1 hv2 dX4_asset_23 ?_
      refine zr_new C nw_X4_41 (Nat.le_of_ble_eq_true rfl) (Nat.le_of_ble_eq_true rfl) dX4_asset_26 (fun q6 hq7 => ?_)
      have h := h q6 hq7
      refine zr_dup C dX4_asset_29 rfl ?_
      refine zr_callI (As := []) C (k_X0_init h) ok_X4_43 zq_186 rfl rfl ⟨by decide, (Nat.le_of_ble_eq_true rfl)⟩ ⟨(Nat.le_of_ble_eq_true rfl), (Nat.le_of_ble_eq_true rfl)⟩ (Nat.le_of_ble_eq_true rfl) dX4_asset_30 (fun v25 U26 G27 hq => ?_)
      clear h
      · obtain ⟨rfl, h⟩ := hq
        skip
        obtain ⟨hT10, h⟩ := h
        refine zr_callV (As := [.ref q6]) (r := (RJx4a65c, TJx4a65c, 3)) C (k_Jx4a65c_add_9ea2d h) ok_X4_44 zq_210 zq_211 hT10 (by decide) rfl rfl ⟨by decide, (Nat.le_of_ble_eq_true rfl)⟩ ⟨(Nat.le_of_ble_eq_true rfl), (Nat.le_of_ble_eq_true rfl)⟩ (Nat.le_of_ble_eq_true rfl) dX4_asset_33 (fun v22 U23 G24 hq => ?_)
        clear h
        · obtain ⟨r11, rfl, h⟩ := hq
          skip
          refine zr_pop C dX4_asset_36 rfl ?_
          refine zr_aload_n C 0 dX4_asset_37 rfl rfl ?_
          obtain ⟨hT14, x16, hv15, h⟩ := h
          refine zr_get C fl_X4_10 hT14 hv15 dX4_asset_38 ?_
          obtain ⟨hT17, h⟩ := h
          refine zr_callV (As := []) (r := (RJx4a65c, TJx4a65c, 3)) C (k_Jx4a65c_size_8abf5 h) ok_X4_30 zq_112 zq_113 hT17 (by decide) rfl rfl ⟨by decide, (Nat.le_of_ble_eq_true rfl)⟩ ⟨(Nat.le_of_ble_eq_true rfl), (Nat.le_of_ble_eq_true rfl)⟩ (Nat.le_of_ble_eq_true rfl) dX4_asset_41 (fun v19 U20 G21 hq => ?_)
          clear h
          · obtain ⟨r18, rfl, rfl, rfl, h⟩ := hq
            refine zr_iconst C 1 dX4_asset_44 (by decide) ?_
            refine zr_isub C dX4_asset_45 ?_
            exact zr_X (zr_iret C rfl ⟨_, rfl, h⟩ (Nat.le_of_ble_eq_true rfl) (Nat.le_of_ble_eq_true rfl) dX4_asset_46)
    · have h := h2 hc
      clear h1 h2
      exact zr_throw C th_X4_34_38_36 (fun x hx => (hxt x hx).elim) h dX4_asset_12 dX4_asset_15 dX4_asset_16 dX4_asset_18 dX4_asset_21 (by decide) (Nat.le_of_ble_eq_true rfl) ⟨(Nat.le_of_ble_eq_true rfl), (Nat.le_of_ble_eq_true rfl)⟩ ⟨(Nat.le_of_ble_eq_true rfl), (Nat.le_of_ble_eq_true rfl)⟩
set_option maxRecDepth 100000 in
set_option maxHeartbeats 4000000 in
theorem k_X4_asset0 {l : Launch} {D : va_G} {cA : Nat → ClassId} {N0 zE : Nat} {a0 : Nat} {T : zT} {F : zF} {Post : Int32 → zT → zF → Prop} (h : v_X4_asset zE a0 T F Post (fun _ _ _ => False)) : z_Mt l D cA N0 zE yX4_asset cX4_asset 1 (some .int) ({ frames := 7, cells := 4, slots := 60, locals := 163 } : Room) [.ref a0] T F (fun v T' F' => ∃ r : Int32, v = some (.int r) ∧ Post r T' F') := by
  unfold v_X4_asset at h
  refine z_bodyT (by decide) (Nat.le_of_ble_eq_true rfl) ?_
  intro p e s m args below meth c C hnm
  have C : z_C p l s m args meth c RX4 cX4_asset 1 (some .int) D cA N0 zE := C
  show z_w p l e ({ frames := 7, cells := 4, slots := 60, locals := 163 } : Room) s m args below meth c D cA N0 1 0 0 (MQ below (z_Qc D cA N0 (fun v T' F' => ∃ r : Int32, v = some (.int r) ∧ Post r T' F')) args s 4 60 (fun q => N0 ≤ q)) 0 [(0, .ref a0)] [] T F
  refine zr_aload_n C 0 dX4_asset_0 rfl rfl ?_
  obtain ⟨hT1, x3, hv2, h⟩ := h
  refine zr_get C fl_X4_10 hT1 hv2 dX4_asset_1 ?_
  obtain ⟨hT4, h⟩ := h
  refine zr_callV (As := []) (r := (RJx4a65c, TJx4a65c, 3)) C (k_Jx4a65c_size_8abf5 h) ok_X4_30 zq_112 zq_113 hT4 (by decide) rfl rfl ⟨by decide, (Nat.le_of_ble_eq_true rfl)⟩ ⟨(Nat.le_of_ble_eq_true rfl), (Nat.le_of_ble_eq_true rfl)⟩ (Nat.le_of_ble_eq_true rfl) dX4_asset_4 (fun v28 U29 G30 hq => ?_)
  clear h
  · obtain ⟨r5, rfl, rfl, rfl, h⟩ := hq
    refine zr_bipush C 16 dX4_asset_7 (by decide) ?_
    obtain ⟨h1, h2⟩ := h
    refine zr_icmp_lt C 22 dX4_asset_9 (by decide) (fun hc => ?_) (fun hc => ?_)
    · have h := h1 hc
      clear h1 h2
      refine zr_aload_n C 0 dX4_asset_22 rfl rfl ?_
      refine zr_get C fl_X4_10 hT1 hv2 dX4_asset_23 ?_
      refine zr_new C nw_X4_41 (Nat.le_of_ble_eq_true rfl) (Nat.le_of_ble_eq_true rfl) dX4_asset_26 (fun q6 hq7 => ?_)
      have h := h q6 hq7
      refine zr_dup C dX4_asset_29 rfl ?_
      refine zr_callI (As := []) C (k_X0_init h) ok_X4_43 zq_186 rfl rfl ⟨by decide, (Nat.le_of_ble_eq_true rfl)⟩ ⟨(Nat.le_of_ble_eq_true rfl), (Nat.le_of_ble_eq_true rfl)⟩ (Nat.le_of_ble_eq_true rfl) dX4_asset_30 (fun v25 U26 G27 hq => ?_)
      clear h
      · obtain ⟨rfl, h⟩ := hq
        skip
        obtain ⟨hT10, h⟩ := h
        refine zr_callV (As := [.ref q6]) (r := (RJx4a65c, TJx4a65c, 3)) C (k_Jx4a65c_add_9ea2d h) ok_X4_44 zq_210 zq_211 hT10 (by decide) rfl rfl ⟨by decide, (Nat.le_of_ble_eq_true rfl)⟩ ⟨(Nat.le_of_ble_eq_true rfl), (Nat.le_of_ble_eq_true rfl)⟩ (Nat.le_of_ble_eq_true rfl) dX4_asset_33 (fun v22 U23 G24 hq => ?_)
        clear h
        · obtain ⟨r11, rfl, h⟩ := hq
          skip
          refine zr_pop C dX4_asset_36 rfl ?_
          refine zr_aload_n C 0 dX4_asset_37 rfl rfl ?_
          obtain ⟨hT14, x16, hv15, h⟩ := h
          refine zr_get C fl_X4_10 hT14 hv15 dX4_asset_38 ?_
          obtain ⟨hT17, h⟩ := h
          refine zr_callV (As := []) (r := (RJx4a65c, TJx4a65c, 3)) C (k_Jx4a65c_size_8abf5 h) ok_X4_30 zq_112 zq_113 hT17 (by decide) rfl rfl ⟨by decide, (Nat.le_of_ble_eq_true rfl)⟩ ⟨(Nat.le_of_ble_eq_true rfl), (Nat.le_of_ble_eq_true rfl)⟩ (Nat.le_of_ble_eq_true rfl) dX4_asset_41 (fun v19 U20 G21 hq => ?_)
          clear h
          · obtain ⟨r18, rfl, rfl, rfl, h⟩ := hq
            refine zr_iconst C 1 dX4_asset_44 (by decide) ?_
            refine zr_isub C dX4_asset_45 ?_
            exact zr_iret C rfl ⟨_, rfl, h⟩ (Nat.le_of_ble_eq_true rfl) (Nat.le_of_ble_eq_true rfl) dX4_asset_46
    · have h := h2 hc
      clear h1 h2
      exact h.elim
theorem dX4_assetAt_0 : decode cX4_assetAt 0 = .ok (.iload_n 1, 1) := by decide +kernel
theorem dX4_assetAt_1 : decode cX4_assetAt 1 = .ok (.ifCond .lt 14, 3) := by decide +kernel
theorem dX4_assetAt_15 : decode cX4_assetAt 15 = .ok (.new 307, 3) := by decide +kernel
theorem dX4_assetAt_18 : decode cX4_assetAt 18 = .ok (.dup, 1) := by decide +kernel
theorem dX4_assetAt_19 : decode cX4_assetAt 19 = .ok (.ldc_w 357, 3) := by decide +kernel
theorem dX4_assetAt_22 : decode cX4_assetAt 22 = .ok (.invokespecial 309, 3) := by decide +kernel
theorem dX4_assetAt_25 : decode cX4_assetAt 25 = .ok (.athrow, 1) := by decide +kernel
theorem dX4_assetAt_4 : decode cX4_assetAt 4 = .ok (.iload_n 1, 1) := by decide +kernel
theorem dX4_assetAt_5 : decode cX4_assetAt 5 = .ok (.aload_n 0, 1) := by decide +kernel
theorem dX4_assetAt_6 : decode cX4_assetAt 6 = .ok (.getfield 10, 3) := by decide +kernel
theorem dX4_assetAt_12 : decode cX4_assetAt 12 = .ok (.if_icmp .lt 14, 3) := by decide +kernel
theorem dX4_assetAt_26 : decode cX4_assetAt 26 = .ok (.aload_n 0, 1) := by decide +kernel
theorem dX4_assetAt_27 : decode cX4_assetAt 27 = .ok (.getfield 10, 3) := by decide +kernel
theorem dX4_assetAt_30 : decode cX4_assetAt 30 = .ok (.iload_n 1, 1) := by decide +kernel
theorem dX4_assetAt_34 : decode cX4_assetAt 34 = .ok (.checkcast 41, 3) := by decide +kernel
theorem dX4_assetAt_37 : decode cX4_assetAt 37 = .ok (.areturn, 1) := by decide +kernel
theorem dX4_assetAt_31 : decode cX4_assetAt 31 = .ok (.invokevirtual 124, 3) := by decide +kernel
theorem dX4_assetAt_9 : decode cX4_assetAt 9 = .ok (.invokevirtual 30, 3) := by decide +kernel
def v_X4_assetAt (a0 : Nat) (p1 : Int32) (T : zT) (F : zF) (Post : Nat → Prop) (PX : String → Prop) : Prop :=
  ((p1 < 0 → PX "java/lang/IndexOutOfBoundsException") ∧ (¬ p1 < 0 → (T a0 = some (5, 4) ∧ ∃ x3 : Nat, F a0 0 = .ref x3 ∧ T x3 = some (0, 3) ∧ (v_Jx4a65c_size_8abf5 x3 T F (fun (r5 : Int32) => ((p1 < r5 → (v_Jx4a65c_get_915e3 x3 p1 T F (fun (r6 : Nat) => (T r6 = some (1, 5) ∧ Post r6)))) ∧ (¬ p1 < r5 → PX "java/lang/IndexOutOfBoundsException")))))))
set_option maxRecDepth 100000 in
set_option maxHeartbeats 4000000 in
theorem k_X4_assetAt {l : Launch} {D : va_G} {cA : Nat → ClassId} {N0 zE : Nat} {a0 : Nat} {p1 : Int32} {T : zT} {F : zF} {Post : Nat → Prop} {PX : String → Prop} (h : v_X4_assetAt a0 p1 T F Post PX) : z_Met l D cA N0 zE yX4_assetAt cX4_assetAt 2 (some (.object "BrandRoom$Asset")) ({ frames := 6, cells := 1, slots := 6, locals := 90 } : Room) [.ref a0, .int p1] T F (fun v T' F' => ∃ r : Nat, v = some (.ref r) ∧ T = T' ∧ F = F' ∧ Post r) (fun E T' F' => T = T' ∧ F = F' ∧ PX E) := by
  unfold v_X4_assetAt at h
  refine z_body (by decide) (Nat.le_of_ble_eq_true rfl) ?_
  intro p e s m args below meth c C hxt hnm
  have C : z_C p l s m args meth c RX4 cX4_assetAt 2 (some (.object "BrandRoom$Asset")) D cA N0 zE := C
  show z_w p l e ({ frames := 6, cells := 1, slots := 6, locals := 90 } : Room) s m args below meth c D cA N0 2 0 0 (vx_MQ below (z_Qc D cA N0 (fun v T' F' => ∃ r : Nat, v = some (.ref r) ∧ T = T' ∧ F = F' ∧ Post r)) (z_XC D cA N0 (fun E T' F' => T = T' ∧ F = F' ∧ PX E)) args s 1 6 (fun q => N0 ≤ q)) 0 [(0, .ref a0), (1, .int p1)] [] T F
  refine zr_iload_n C 1 dX4_assetAt_0 rfl rfl ?_
  obtain ⟨h1, h2⟩ := h
  refine zr_if_lt C 15 dX4_assetAt_1 (by decide) (fun hc => ?_) (fun hc => ?_)
  · have h := h1 hc
    clear h1 h2
    exact zr_throwW C th_X4_307_309_357 (fun x hx => (hxt x hx).elim) ⟨rfl, rfl, h⟩ dX4_assetAt_15 dX4_assetAt_18 dX4_assetAt_19 dX4_assetAt_22 dX4_assetAt_25 (by decide) (Nat.le_of_ble_eq_true rfl) ⟨(Nat.le_of_ble_eq_true rfl), (Nat.le_of_ble_eq_true rfl)⟩ ⟨(Nat.le_of_ble_eq_true rfl), (Nat.le_of_ble_eq_true rfl)⟩
  · have h := h2 hc
    clear h1 h2
    refine zr_iload_n C 1 dX4_assetAt_4 rfl rfl ?_
    refine zr_aload_n C 0 dX4_assetAt_5 rfl rfl ?_
    obtain ⟨hT1, x3, hv2, h⟩ := h
    refine zr_get C fl_X4_10 hT1 hv2 dX4_assetAt_6 ?_
    obtain ⟨hT4, h⟩ := h
    refine zr_callV (As := []) (r := (RJx4a65c, TJx4a65c, 3)) C (k_Jx4a65c_size_8abf5 h) ok_X4_30 zq_112 zq_113 hT4 (by decide) rfl rfl ⟨by decide, (Nat.le_of_ble_eq_true rfl)⟩ ⟨(Nat.le_of_ble_eq_true rfl), (Nat.le_of_ble_eq_true rfl)⟩ (Nat.le_of_ble_eq_true rfl) dX4_assetAt_9 (fun v11 U12 G13 hq => ?_)
    clear h
    · obtain ⟨r5, rfl, rfl, rfl, h⟩ := hq
      obtain ⟨h1, h2⟩ := h
      refine zr_icmp_lt C 26 dX4_assetAt_12 (by decide) (fun hc => ?_) (fun hc => ?_)
      · have h := h1 hc
        clear h1 h2
        refine zr_aload_n C 0 dX4_assetAt_26 rfl rfl ?_
        refine zr_get C fl_X4_10 hT1 hv2 dX4_assetAt_27 ?_
        refine zr_iload_n C 1 dX4_assetAt_30 rfl rfl ?_
        refine zr_callV (As := [.int p1]) (r := (RJx4a65c, TJx4a65c, 3)) C (k_Jx4a65c_get_915e3 h) ok_X4_124 zq_290 zq_291 hT4 (by decide) rfl rfl ⟨by decide, (Nat.le_of_ble_eq_true rfl)⟩ ⟨(Nat.le_of_ble_eq_true rfl), (Nat.le_of_ble_eq_true rfl)⟩ (Nat.le_of_ble_eq_true rfl) dX4_assetAt_31 (fun v8 U9 G10 hq => ?_)
        clear h
        · obtain ⟨r6, rfl, rfl, rfl, h⟩ := hq
          obtain ⟨hT7, h⟩ := h
          refine zr_castS (r := (RX0, TX0, 5)) C hT7 (by decide) rfl zq_183 dX4_assetAt_34 ?_
          exact zr_X (zr_aret C rfl (Or.inl ⟨_, rfl⟩) (Or.inr ⟨_, rfl⟩) ⟨_, rfl, rfl, rfl, h⟩ (Nat.le_of_ble_eq_true rfl) (Nat.le_of_ble_eq_true rfl) dX4_assetAt_37)
      · have h := h2 hc
        clear h1 h2
        exact zr_throwW C th_X4_307_309_357 (fun x hx => (hxt x hx).elim) ⟨rfl, rfl, h⟩ dX4_assetAt_15 dX4_assetAt_18 dX4_assetAt_19 dX4_assetAt_22 dX4_assetAt_25 (by decide) (Nat.le_of_ble_eq_true rfl) ⟨(Nat.le_of_ble_eq_true rfl), (Nat.le_of_ble_eq_true rfl)⟩ ⟨(Nat.le_of_ble_eq_true rfl), (Nat.le_of_ble_eq_true rfl)⟩
set_option maxRecDepth 100000 in
set_option maxHeartbeats 4000000 in
theorem k_X4_assetAt0 {l : Launch} {D : va_G} {cA : Nat → ClassId} {N0 zE : Nat} {a0 : Nat} {p1 : Int32} {T : zT} {F : zF} {Post : Nat → Prop} (h : v_X4_assetAt a0 p1 T F Post (fun _ => False)) : z_Mt l D cA N0 zE yX4_assetAt cX4_assetAt 2 (some (.object "BrandRoom$Asset")) ({ frames := 3, cells := 0, slots := 0, locals := 64 } : Room) [.ref a0, .int p1] T F (fun v T' F' => ∃ r : Nat, v = some (.ref r) ∧ T = T' ∧ F = F' ∧ Post r) := by
  unfold v_X4_assetAt at h
  refine z_bodyT (by decide) (Nat.le_of_ble_eq_true rfl) ?_
  intro p e s m args below meth c C hnm
  have C : z_C p l s m args meth c RX4 cX4_assetAt 2 (some (.object "BrandRoom$Asset")) D cA N0 zE := C
  show z_w p l e ({ frames := 3, cells := 0, slots := 0, locals := 64 } : Room) s m args below meth c D cA N0 2 0 0 (MQ below (z_Qc D cA N0 (fun v T' F' => ∃ r : Nat, v = some (.ref r) ∧ T = T' ∧ F = F' ∧ Post r)) args s 0 0 (fun q => N0 ≤ q)) 0 [(0, .ref a0), (1, .int p1)] [] T F
  refine zr_iload_n C 1 dX4_assetAt_0 rfl rfl ?_
  obtain ⟨h1, h2⟩ := h
  refine zr_if_lt C 15 dX4_assetAt_1 (by decide) (fun hc => ?_) (fun hc => ?_)
  · have h := h1 hc
    clear h1 h2
    exact h.elim
  · have h := h2 hc
    clear h1 h2
    refine zr_iload_n C 1 dX4_assetAt_4 rfl rfl ?_
    refine zr_aload_n C 0 dX4_assetAt_5 rfl rfl ?_
    obtain ⟨hT1, x3, hv2, h⟩ := h
    refine zr_get C fl_X4_10 hT1 hv2 dX4_assetAt_6 ?_
    obtain ⟨hT4, h⟩ := h
    refine zr_callV (As := []) (r := (RJx4a65c, TJx4a65c, 3)) C (k_Jx4a65c_size_8abf5 h) ok_X4_30 zq_112 zq_113 hT4 (by decide) rfl rfl ⟨by decide, (Nat.le_of_ble_eq_true rfl)⟩ ⟨(Nat.le_of_ble_eq_true rfl), (Nat.le_of_ble_eq_true rfl)⟩ (Nat.le_of_ble_eq_true rfl) dX4_assetAt_9 (fun v11 U12 G13 hq => ?_)
    clear h
    · obtain ⟨r5, rfl, rfl, rfl, h⟩ := hq
      obtain ⟨h1, h2⟩ := h
      refine zr_icmp_lt C 26 dX4_assetAt_12 (by decide) (fun hc => ?_) (fun hc => ?_)
      · have h := h1 hc
        clear h1 h2
        refine zr_aload_n C 0 dX4_assetAt_26 rfl rfl ?_
        refine zr_get C fl_X4_10 hT1 hv2 dX4_assetAt_27 ?_
        refine zr_iload_n C 1 dX4_assetAt_30 rfl rfl ?_
        refine zr_callV (As := [.int p1]) (r := (RJx4a65c, TJx4a65c, 3)) C (k_Jx4a65c_get_915e3 h) ok_X4_124 zq_290 zq_291 hT4 (by decide) rfl rfl ⟨by decide, (Nat.le_of_ble_eq_true rfl)⟩ ⟨(Nat.le_of_ble_eq_true rfl), (Nat.le_of_ble_eq_true rfl)⟩ (Nat.le_of_ble_eq_true rfl) dX4_assetAt_31 (fun v8 U9 G10 hq => ?_)
        clear h
        · obtain ⟨r6, rfl, rfl, rfl, h⟩ := hq
          obtain ⟨hT7, h⟩ := h
          refine zr_castS (r := (RX0, TX0, 5)) C hT7 (by decide) rfl zq_183 dX4_assetAt_34 ?_
          exact zr_aret C rfl (Or.inl ⟨_, rfl⟩) (Or.inr ⟨_, rfl⟩) ⟨_, rfl, rfl, rfl, h⟩ (Nat.le_of_ble_eq_true rfl) (Nat.le_of_ble_eq_true rfl) dX4_assetAt_37
      · have h := h2 hc
        clear h1 h2
        exact h.elim
theorem dX4_version_0 : decode cX4_version 0 = .ok (.aload_n 0, 1) := by decide +kernel
theorem dX4_version_1 : decode cX4_version 1 = .ok (.iload_n 1, 1) := by decide +kernel
theorem dX4_version_5 : decode cX4_version 5 = .ok (.astore_n 3, 1) := by decide +kernel
theorem dX4_version_6 : decode cX4_version 6 = .ok (.iload_n 2, 1) := by decide +kernel
theorem dX4_version_7 : decode cX4_version 7 = .ok (.aload_n 0, 1) := by decide +kernel
theorem dX4_version_8 : decode cX4_version 8 = .ok (.getfield 23, 3) := by decide +kernel
theorem dX4_version_11 : decode cX4_version 11 = .ok (.getfield 52, 3) := by decide +kernel
theorem dX4_version_14 : decode cX4_version 14 = .ok (.if_icmp .lt 9, 3) := by decide +kernel
theorem dX4_version_23 : decode cX4_version 23 = .ok (.new 56, 3) := by decide +kernel
theorem dX4_version_26 : decode cX4_version 26 = .ok (.dup, 1) := by decide +kernel
theorem dX4_version_27 : decode cX4_version 27 = .ok (.ldc 58, 2) := by decide +kernel
theorem dX4_version_29 : decode cX4_version 29 = .ok (.invokespecial 60, 3) := by decide +kernel
theorem dX4_version_32 : decode cX4_version 32 = .ok (.athrow, 1) := by decide +kernel
theorem dX4_version_17 : decode cX4_version 17 = .ok (.iload_n 2, 1) := by decide +kernel
theorem dX4_version_18 : decode cX4_version 18 = .ok (.bipush 99, 2) := by decide +kernel
theorem dX4_version_20 : decode cX4_version 20 = .ok (.if_icmp .le 13, 3) := by decide +kernel
theorem dX4_version_33 : decode cX4_version 33 = .ok (.aload_n 3, 1) := by decide +kernel
theorem dX4_version_34 : decode cX4_version 34 = .ok (.iload_n 2, 1) := by decide +kernel
theorem dX4_version_38 : decode cX4_version 38 = .ok (.istore 4, 2) := by decide +kernel
theorem dX4_version_40 : decode cX4_version 40 = .ok (.iload 4, 2) := by decide +kernel
theorem dX4_version_42 : decode cX4_version 42 = .ok (.iconst (-1), 1) := by decide +kernel
theorem dX4_version_43 : decode cX4_version 43 = .ok (.if_icmp .ne 13, 3) := by decide +kernel
theorem dX4_version_56 : decode cX4_version 56 = .ok (.iload 4, 2) := by decide +kernel
theorem dX4_version_58 : decode cX4_version 58 = .ok (.ireturn, 1) := by decide +kernel
theorem dX4_version_46 : decode cX4_version 46 = .ok (.new 34, 3) := by decide +kernel
theorem dX4_version_49 : decode cX4_version 49 = .ok (.dup, 1) := by decide +kernel
theorem dX4_version_50 : decode cX4_version 50 = .ok (.ldc 65, 2) := by decide +kernel
theorem dX4_version_52 : decode cX4_version 52 = .ok (.invokespecial 38, 3) := by decide +kernel
theorem dX4_version_55 : decode cX4_version 55 = .ok (.athrow, 1) := by decide +kernel
theorem dX4_version_35 : decode cX4_version 35 = .ok (.invokevirtual 61, 3) := by decide +kernel
theorem dX4_version_2 : decode cX4_version 2 = .ok (.invokevirtual 48, 3) := by decide +kernel
def v_X4_version (a0 : Nat) (p1 : Int32) (p2 : Int32) (T : zT) (F : zF) (Post : Int32 → zF → Prop) (PX : String → zF → Prop) : Prop :=
  (T a0 = some (5, 4) ∧ (v_X4_assetAt a0 p1 T F (fun (r2 : Nat) => (∃ x4 : Nat, F a0 2 = .ref x4 ∧ T x4 = some (4, 3) ∧ ∃ x7 : Int32, F x4 2 = .int x7 ∧ ((p2 < x7 → PX "java/lang/IllegalArgumentException" F) ∧ (¬ p2 < x7 → ((p2 ≤ 99 → (T r2 = some (1, 5) ∧ (v_X0_addVersion r2 p2 T F (fun (r9 : Int32) (F10 : zF) => ((¬ r9 = ((-1)) → Post r9 F10) ∧ (r9 = ((-1)) → PX "java/lang/IllegalStateException" F10)))))) ∧ (¬ p2 ≤ 99 → PX "java/lang/IllegalArgumentException" F)))))) (fun (E9 : String) => PX E9 F)))
set_option maxRecDepth 100000 in
set_option maxHeartbeats 4000000 in
theorem k_X4_version {l : Launch} {D : va_G} {cA : Nat → ClassId} {N0 zE : Nat} {a0 : Nat} {p1 : Int32} {p2 : Int32} {T : zT} {F : zF} {Post : Int32 → zF → Prop} {PX : String → zF → Prop} (h : v_X4_version a0 p1 p2 T F Post PX) : z_Met l D cA N0 zE yX4_version cX4_version 5 (some .int) ({ frames := 7, cells := 2, slots := 12, locals := 111 } : Room) [.ref a0, .int p1, .int p2] T F (fun v T' F' => ∃ r : Int32, v = some (.int r) ∧ T = T' ∧ Post r F') (fun E T' F' => T = T' ∧ PX E F') := by
  unfold v_X4_version at h
  refine z_body (by decide) (Nat.le_of_ble_eq_true rfl) ?_
  intro p e s m args below meth c C hxt hnm
  have C : z_C p l s m args meth c RX4 cX4_version 5 (some .int) D cA N0 zE := C
  show z_w p l e ({ frames := 7, cells := 2, slots := 12, locals := 111 } : Room) s m args below meth c D cA N0 5 0 0 (vx_MQ below (z_Qc D cA N0 (fun v T' F' => ∃ r : Int32, v = some (.int r) ∧ T = T' ∧ Post r F')) (z_XC D cA N0 (fun E T' F' => T = T' ∧ PX E F')) args s 2 12 (fun q => N0 ≤ q)) 0 [(0, .ref a0), (1, .int p1), (2, .int p2)] [] T F
  refine zr_aload_n C 0 dX4_version_0 rfl rfl ?_
  refine zr_iload_n C 1 dX4_version_1 rfl rfl ?_
  obtain ⟨hT1, h⟩ := h
  refine zr_callVX (As := [.int p1]) (r := (RX4, TX4, 4)) C (k_X4_assetAt h) ok_X4_48 zq_271 zq_4 hT1 (by decide) rfl rfl ⟨by decide, (Nat.le_of_ble_eq_true rfl)⟩ ⟨(Nat.le_of_ble_eq_true rfl), (Nat.le_of_ble_eq_true rfl)⟩ (Nat.le_of_ble_eq_true rfl) dX4_version_2 (fun E9 T9 F9 hq => by obtain ⟨rfl, rfl, hq⟩ := hq; exact zr_out C (fun x hx => (hxt x hx).elim) ⟨rfl, hq⟩ (Nat.le_of_ble_eq_true rfl) (Nat.le_of_ble_eq_true rfl)) (fun v14 U15 G16 hq => ?_)
  clear h
  · obtain ⟨r2, rfl, rfl, rfl, h⟩ := hq
    refine zr_astore_n C [(3, .ref r2), (0, .ref a0), (1, .int p1), (2, .int p2)] dX4_version_5 rfl (by decide) rfl ?_
    refine zr_iload_n C 3 dX4_version_6 rfl rfl ?_
    refine zr_aload_n C 1 dX4_version_7 rfl rfl ?_
    obtain ⟨x4, hv3, h⟩ := h
    refine zr_get C fl_X4_23 hT1 hv3 dX4_version_8 ?_
    obtain ⟨hT5, x7, hv6, h⟩ := h
    refine zr_get C fl_X4_52 hT5 hv6 dX4_version_11 ?_
    obtain ⟨h1, h2⟩ := h
    refine zr_icmp_lt C 23 dX4_version_14 (by decide) (fun hc => ?_) (fun hc => ?_)
    · have h := h1 hc
      clear h1 h2
      exact zr_throw C th_X4_56_60_58 (fun x hx => (hxt x hx).elim) ⟨rfl, h⟩ dX4_version_23 dX4_version_26 dX4_version_27 dX4_version_29 dX4_version_32 (by decide) (Nat.le_of_ble_eq_true rfl) ⟨(Nat.le_of_ble_eq_true rfl), (Nat.le_of_ble_eq_true rfl)⟩ ⟨(Nat.le_of_ble_eq_true rfl), (Nat.le_of_ble_eq_true rfl)⟩
    · have h := h2 hc
      clear h1 h2
      refine zr_iload_n C 3 dX4_version_17 rfl rfl ?_
      refine zr_bipush C 99 dX4_version_18 (by decide) ?_
      obtain ⟨h1, h2⟩ := h
      refine zr_icmp_le C 33 dX4_version_20 (by decide) (fun hc => ?_) (fun hc => ?_)
      · have h := h1 hc
        clear h1 h2
        refine zr_aload_n C 0 dX4_version_33 rfl rfl ?_
        refine zr_iload_n C 3 dX4_version_34 rfl rfl ?_
        obtain ⟨hT8, h⟩ := h
        refine zr_callV (As := [.int p2]) (r := (RX0, TX0, 5)) C (k_X0_addVersion h) ok_X4_61 zq_320 zq_321 hT8 (by decide) rfl rfl ⟨by decide, (Nat.le_of_ble_eq_true rfl)⟩ ⟨(Nat.le_of_ble_eq_true rfl), (Nat.le_of_ble_eq_true rfl)⟩ (Nat.le_of_ble_eq_true rfl) dX4_version_35 (fun v11 U12 G13 hq => ?_)
        clear h
        · obtain ⟨r9, rfl, rfl, h⟩ := hq
          refine zr_istore C [(4, .int r9), (3, .ref r2), (0, .ref a0), (1, .int p1), (2, .int p2)] dX4_version_38 (by decide) rfl ?_
          refine zr_iload C 0 dX4_version_40 rfl ?_
          refine zr_iconst C (-1) dX4_version_42 (by decide) ?_
          obtain ⟨h1, h2⟩ := h
          refine zr_icmp_ne C 56 dX4_version_43 (by decide) (fun hc => ?_) (fun hc => ?_)
          · have h := h1 hc
            clear h1 h2
            refine zr_iload C 0 dX4_version_56 rfl ?_
            exact zr_X (zr_iret C rfl ⟨_, rfl, rfl, h⟩ (Nat.le_of_ble_eq_true rfl) (Nat.le_of_ble_eq_true rfl) dX4_version_58)
          · have h := h2 hc
            clear h1 h2
            exact zr_throw C th_X4_34_38_65 (fun x hx => (hxt x hx).elim) ⟨rfl, h⟩ dX4_version_46 dX4_version_49 dX4_version_50 dX4_version_52 dX4_version_55 (by decide) (Nat.le_of_ble_eq_true rfl) ⟨(Nat.le_of_ble_eq_true rfl), (Nat.le_of_ble_eq_true rfl)⟩ ⟨(Nat.le_of_ble_eq_true rfl), (Nat.le_of_ble_eq_true rfl)⟩
      · have h := h2 hc
        clear h1 h2
        exact zr_throw C th_X4_56_60_58 (fun x hx => (hxt x hx).elim) ⟨rfl, h⟩ dX4_version_23 dX4_version_26 dX4_version_27 dX4_version_29 dX4_version_32 (by decide) (Nat.le_of_ble_eq_true rfl) ⟨(Nat.le_of_ble_eq_true rfl), (Nat.le_of_ble_eq_true rfl)⟩ ⟨(Nat.le_of_ble_eq_true rfl), (Nat.le_of_ble_eq_true rfl)⟩
set_option maxRecDepth 100000 in
set_option maxHeartbeats 4000000 in
theorem k_X4_version0 {l : Launch} {D : va_G} {cA : Nat → ClassId} {N0 zE : Nat} {a0 : Nat} {p1 : Int32} {p2 : Int32} {T : zT} {F : zF} {Post : Int32 → zF → Prop} (h : v_X4_version a0 p1 p2 T F Post (fun _ _ => False)) : z_Mt l D cA N0 zE yX4_version cX4_version 5 (some .int) ({ frames := 4, cells := 0, slots := 0, locals := 85 } : Room) [.ref a0, .int p1, .int p2] T F (fun v T' F' => ∃ r : Int32, v = some (.int r) ∧ T = T' ∧ Post r F') := by
  unfold v_X4_version at h
  refine z_bodyT (by decide) (Nat.le_of_ble_eq_true rfl) ?_
  intro p e s m args below meth c C hnm
  have C : z_C p l s m args meth c RX4 cX4_version 5 (some .int) D cA N0 zE := C
  show z_w p l e ({ frames := 4, cells := 0, slots := 0, locals := 85 } : Room) s m args below meth c D cA N0 5 0 0 (MQ below (z_Qc D cA N0 (fun v T' F' => ∃ r : Int32, v = some (.int r) ∧ T = T' ∧ Post r F')) args s 0 0 (fun q => N0 ≤ q)) 0 [(0, .ref a0), (1, .int p1), (2, .int p2)] [] T F
  refine zr_aload_n C 0 dX4_version_0 rfl rfl ?_
  refine zr_iload_n C 1 dX4_version_1 rfl rfl ?_
  obtain ⟨hT1, h⟩ := h
  refine zr_callV (As := [.int p1]) (r := (RX4, TX4, 4)) C (k_X4_assetAt0 h) ok_X4_48 zq_271 zq_4 hT1 (by decide) rfl rfl ⟨by decide, (Nat.le_of_ble_eq_true rfl)⟩ ⟨(Nat.le_of_ble_eq_true rfl), (Nat.le_of_ble_eq_true rfl)⟩ (Nat.le_of_ble_eq_true rfl) dX4_version_2 (fun v14 U15 G16 hq => ?_)
  clear h
  · obtain ⟨r2, rfl, rfl, rfl, h⟩ := hq
    refine zr_astore_n C [(3, .ref r2), (0, .ref a0), (1, .int p1), (2, .int p2)] dX4_version_5 rfl (by decide) rfl ?_
    refine zr_iload_n C 3 dX4_version_6 rfl rfl ?_
    refine zr_aload_n C 1 dX4_version_7 rfl rfl ?_
    obtain ⟨x4, hv3, h⟩ := h
    refine zr_get C fl_X4_23 hT1 hv3 dX4_version_8 ?_
    obtain ⟨hT5, x7, hv6, h⟩ := h
    refine zr_get C fl_X4_52 hT5 hv6 dX4_version_11 ?_
    obtain ⟨h1, h2⟩ := h
    refine zr_icmp_lt C 23 dX4_version_14 (by decide) (fun hc => ?_) (fun hc => ?_)
    · have h := h1 hc
      clear h1 h2
      exact h.elim
    · have h := h2 hc
      clear h1 h2
      refine zr_iload_n C 3 dX4_version_17 rfl rfl ?_
      refine zr_bipush C 99 dX4_version_18 (by decide) ?_
      obtain ⟨h1, h2⟩ := h
      refine zr_icmp_le C 33 dX4_version_20 (by decide) (fun hc => ?_) (fun hc => ?_)
      · have h := h1 hc
        clear h1 h2
        refine zr_aload_n C 0 dX4_version_33 rfl rfl ?_
        refine zr_iload_n C 3 dX4_version_34 rfl rfl ?_
        obtain ⟨hT8, h⟩ := h
        refine zr_callV (As := [.int p2]) (r := (RX0, TX0, 5)) C (k_X0_addVersion h) ok_X4_61 zq_320 zq_321 hT8 (by decide) rfl rfl ⟨by decide, (Nat.le_of_ble_eq_true rfl)⟩ ⟨(Nat.le_of_ble_eq_true rfl), (Nat.le_of_ble_eq_true rfl)⟩ (Nat.le_of_ble_eq_true rfl) dX4_version_35 (fun v11 U12 G13 hq => ?_)
        clear h
        · obtain ⟨r9, rfl, rfl, h⟩ := hq
          refine zr_istore C [(4, .int r9), (3, .ref r2), (0, .ref a0), (1, .int p1), (2, .int p2)] dX4_version_38 (by decide) rfl ?_
          refine zr_iload C 0 dX4_version_40 rfl ?_
          refine zr_iconst C (-1) dX4_version_42 (by decide) ?_
          obtain ⟨h1, h2⟩ := h
          refine zr_icmp_ne C 56 dX4_version_43 (by decide) (fun hc => ?_) (fun hc => ?_)
          · have h := h1 hc
            clear h1 h2
            refine zr_iload C 0 dX4_version_56 rfl ?_
            exact zr_iret C rfl ⟨_, rfl, rfl, h⟩ (Nat.le_of_ble_eq_true rfl) (Nat.le_of_ble_eq_true rfl) dX4_version_58
          · have h := h2 hc
            clear h1 h2
            exact h.elim
      · have h := h2 hc
        clear h1 h2
        exact h.elim
theorem dX4_late_0 : decode cX4_late 0 = .ok (.aload_n 0, 1) := by decide +kernel
theorem dX4_late_1 : decode cX4_late 1 = .ok (.iload_n 1, 1) := by decide +kernel
theorem dX4_late_5 : decode cX4_late 5 = .ok (.astore_n 3, 1) := by decide +kernel
theorem dX4_late_6 : decode cX4_late 6 = .ok (.iload_n 2, 1) := by decide +kernel
theorem dX4_late_7 : decode cX4_late 7 = .ok (.iconst 1, 1) := by decide +kernel
theorem dX4_late_8 : decode cX4_late 8 = .ok (.if_icmp .lt 9, 3) := by decide +kernel
theorem dX4_late_17 : decode cX4_late 17 = .ok (.new 56, 3) := by decide +kernel
theorem dX4_late_20 : decode cX4_late 20 = .ok (.dup, 1) := by decide +kernel
theorem dX4_late_21 : decode cX4_late 21 = .ok (.ldc 67, 2) := by decide +kernel
theorem dX4_late_23 : decode cX4_late 23 = .ok (.invokespecial 60, 3) := by decide +kernel
theorem dX4_late_26 : decode cX4_late 26 = .ok (.athrow, 1) := by decide +kernel
theorem dX4_late_11 : decode cX4_late 11 = .ok (.iload_n 2, 1) := by decide +kernel
theorem dX4_late_12 : decode cX4_late 12 = .ok (.bipush 20, 2) := by decide +kernel
theorem dX4_late_14 : decode cX4_late 14 = .ok (.if_icmp .le 13, 3) := by decide +kernel
theorem dX4_late_27 : decode cX4_late 27 = .ok (.aload_n 3, 1) := by decide +kernel
theorem dX4_late_31 : decode cX4_late 31 = .ok (.istore 4, 2) := by decide +kernel
theorem dX4_late_33 : decode cX4_late 33 = .ok (.iload 4, 2) := by decide +kernel
theorem dX4_late_35 : decode cX4_late 35 = .ok (.iconst (-1), 1) := by decide +kernel
theorem dX4_late_36 : decode cX4_late 36 = .ok (.if_icmp .eq 15, 3) := by decide +kernel
theorem dX4_late_51 : decode cX4_late 51 = .ok (.new 34, 3) := by decide +kernel
theorem dX4_late_54 : decode cX4_late 54 = .ok (.dup, 1) := by decide +kernel
theorem dX4_late_55 : decode cX4_late 55 = .ok (.ldc 72, 2) := by decide +kernel
theorem dX4_late_57 : decode cX4_late 57 = .ok (.invokespecial 38, 3) := by decide +kernel
theorem dX4_late_60 : decode cX4_late 60 = .ok (.athrow, 1) := by decide +kernel
theorem dX4_late_39 : decode cX4_late 39 = .ok (.iload 4, 2) := by decide +kernel
theorem dX4_late_41 : decode cX4_late 41 = .ok (.aload_n 0, 1) := by decide +kernel
theorem dX4_late_42 : decode cX4_late 42 = .ok (.getfield 23, 3) := by decide +kernel
theorem dX4_late_45 : decode cX4_late 45 = .ok (.getfield 52, 3) := by decide +kernel
theorem dX4_late_48 : decode cX4_late 48 = .ok (.if_icmp .gt 13, 3) := by decide +kernel
theorem dX4_late_61 : decode cX4_late 61 = .ok (.iload 4, 2) := by decide +kernel
theorem dX4_late_63 : decode cX4_late 63 = .ok (.iload_n 2, 1) := by decide +kernel
theorem dX4_late_64 : decode cX4_late 64 = .ok (.iadd, 1) := by decide +kernel
theorem dX4_late_65 : decode cX4_late 65 = .ok (.bipush 99, 2) := by decide +kernel
theorem dX4_late_67 : decode cX4_late 67 = .ok (.invokestatic 74, 3) := by decide +kernel
theorem dX4_late_70 : decode cX4_late 70 = .ok (.istore 5, 2) := by decide +kernel
theorem dX4_late_72 : decode cX4_late 72 = .ok (.aload_n 3, 1) := by decide +kernel
theorem dX4_late_73 : decode cX4_late 73 = .ok (.iload 5, 2) := by decide +kernel
theorem dX4_late_78 : decode cX4_late 78 = .ok (.iload 5, 2) := by decide +kernel
theorem dX4_late_80 : decode cX4_late 80 = .ok (.ireturn, 1) := by decide +kernel
theorem dX4_late_75 : decode cX4_late 75 = .ok (.invokevirtual 80, 3) := by decide +kernel
theorem dX4_late_28 : decode cX4_late 28 = .ok (.invokevirtual 69, 3) := by decide +kernel
theorem dX4_late_2 : decode cX4_late 2 = .ok (.invokevirtual 48, 3) := by decide +kernel
def v_X4_late (a0 : Nat) (p1 : Int32) (p2 : Int32) (T : zT) (F : zF) (Post : Int32 → zF → Prop) (PX : String → zF → Prop) : Prop :=
  (T a0 = some (5, 4) ∧ (v_X4_assetAt a0 p1 T F (fun (r2 : Nat) => ((p2 < 1 → PX "java/lang/IllegalArgumentException" F) ∧ (¬ p2 < 1 → ((p2 ≤ 20 → (T r2 = some (1, 5) ∧ (v_X0_lastComes r2 T F (fun (r4 : Int32) => ((r4 = ((-1)) → PX "java/lang/IllegalStateException" F) ∧ (¬ r4 = ((-1)) → (∃ x6 : Nat, F a0 2 = .ref x6 ∧ T x6 = some (4, 3) ∧ ∃ x9 : Int32, F x6 2 = .int x9 ∧ ((x9 < r4 → (v_X0_putLast r2 (if 99 < (r4 + p2) then 99 else (r4 + p2)) T F (fun (F10 : zF) => Post (if 99 < (r4 + p2) then 99 else (r4 + p2)) F10))) ∧ (¬ x9 < r4 → PX "java/lang/IllegalStateException" F))))))))) ∧ (¬ p2 ≤ 20 → PX "java/lang/IllegalArgumentException" F))))) (fun (E9 : String) => PX E9 F)))
set_option maxRecDepth 100000 in
set_option maxHeartbeats 4000000 in
theorem k_X4_late {l : Launch} {D : va_G} {cA : Nat → ClassId} {N0 zE : Nat} {a0 : Nat} {p1 : Int32} {p2 : Int32} {T : zT} {F : zF} {Post : Int32 → zF → Prop} {PX : String → zF → Prop} (h : v_X4_late a0 p1 p2 T F Post PX) : z_Met l D cA N0 zE yX4_late cX4_late 6 (some .int) ({ frames := 7, cells := 2, slots := 12, locals := 111 } : Room) [.ref a0, .int p1, .int p2] T F (fun v T' F' => ∃ r : Int32, v = some (.int r) ∧ T = T' ∧ Post r F') (fun E T' F' => T = T' ∧ PX E F') := by
  unfold v_X4_late at h
  refine z_body (by decide) (Nat.le_of_ble_eq_true rfl) ?_
  intro p e s m args below meth c C hxt hnm
  have C : z_C p l s m args meth c RX4 cX4_late 6 (some .int) D cA N0 zE := C
  show z_w p l e ({ frames := 7, cells := 2, slots := 12, locals := 111 } : Room) s m args below meth c D cA N0 6 0 0 (vx_MQ below (z_Qc D cA N0 (fun v T' F' => ∃ r : Int32, v = some (.int r) ∧ T = T' ∧ Post r F')) (z_XC D cA N0 (fun E T' F' => T = T' ∧ PX E F')) args s 2 12 (fun q => N0 ≤ q)) 0 [(0, .ref a0), (1, .int p1), (2, .int p2)] [] T F
  refine zr_aload_n C 0 dX4_late_0 rfl rfl ?_
  refine zr_iload_n C 1 dX4_late_1 rfl rfl ?_
  obtain ⟨hT1, h⟩ := h
  refine zr_callVX (As := [.int p1]) (r := (RX4, TX4, 4)) C (k_X4_assetAt h) ok_X4_48 zq_271 zq_4 hT1 (by decide) rfl rfl ⟨by decide, (Nat.le_of_ble_eq_true rfl)⟩ ⟨(Nat.le_of_ble_eq_true rfl), (Nat.le_of_ble_eq_true rfl)⟩ (Nat.le_of_ble_eq_true rfl) dX4_late_2 (fun E9 T9 F9 hq => by obtain ⟨rfl, rfl, hq⟩ := hq; exact zr_out C (fun x hx => (hxt x hx).elim) ⟨rfl, hq⟩ (Nat.le_of_ble_eq_true rfl) (Nat.le_of_ble_eq_true rfl)) (fun v17 U18 G19 hq => ?_)
  clear h
  · obtain ⟨r2, rfl, rfl, rfl, h⟩ := hq
    refine zr_astore_n C [(3, .ref r2), (0, .ref a0), (1, .int p1), (2, .int p2)] dX4_late_5 rfl (by decide) rfl ?_
    refine zr_iload_n C 3 dX4_late_6 rfl rfl ?_
    refine zr_iconst C 1 dX4_late_7 (by decide) ?_
    obtain ⟨h1, h2⟩ := h
    refine zr_icmp_lt C 17 dX4_late_8 (by decide) (fun hc => ?_) (fun hc => ?_)
    · have h := h1 hc
      clear h1 h2
      exact zr_throw C th_X4_56_60_67 (fun x hx => (hxt x hx).elim) ⟨rfl, h⟩ dX4_late_17 dX4_late_20 dX4_late_21 dX4_late_23 dX4_late_26 (by decide) (Nat.le_of_ble_eq_true rfl) ⟨(Nat.le_of_ble_eq_true rfl), (Nat.le_of_ble_eq_true rfl)⟩ ⟨(Nat.le_of_ble_eq_true rfl), (Nat.le_of_ble_eq_true rfl)⟩
    · have h := h2 hc
      clear h1 h2
      refine zr_iload_n C 3 dX4_late_11 rfl rfl ?_
      refine zr_bipush C 20 dX4_late_12 (by decide) ?_
      obtain ⟨h1, h2⟩ := h
      refine zr_icmp_le C 27 dX4_late_14 (by decide) (fun hc => ?_) (fun hc => ?_)
      · have h := h1 hc
        clear h1 h2
        refine zr_aload_n C 0 dX4_late_27 rfl rfl ?_
        obtain ⟨hT3, h⟩ := h
        refine zr_callV (As := []) (r := (RX0, TX0, 5)) C (k_X0_lastComes h) ok_X4_69 zq_768 zq_769 hT3 (by decide) rfl rfl ⟨by decide, (Nat.le_of_ble_eq_true rfl)⟩ ⟨(Nat.le_of_ble_eq_true rfl), (Nat.le_of_ble_eq_true rfl)⟩ (Nat.le_of_ble_eq_true rfl) dX4_late_28 (fun v14 U15 G16 hq => ?_)
        clear h
        · obtain ⟨r4, rfl, rfl, rfl, h⟩ := hq
          refine zr_istore C [(4, .int r4), (3, .ref r2), (0, .ref a0), (1, .int p1), (2, .int p2)] dX4_late_31 (by decide) rfl ?_
          refine zr_iload C 0 dX4_late_33 rfl ?_
          refine zr_iconst C (-1) dX4_late_35 (by decide) ?_
          obtain ⟨h1, h2⟩ := h
          refine zr_icmp_eq C 51 dX4_late_36 (by decide) (fun hc => ?_) (fun hc => ?_)
          · have h := h1 hc
            clear h1 h2
            exact zr_throw C th_X4_34_38_72 (fun x hx => (hxt x hx).elim) ⟨rfl, h⟩ dX4_late_51 dX4_late_54 dX4_late_55 dX4_late_57 dX4_late_60 (by decide) (Nat.le_of_ble_eq_true rfl) ⟨(Nat.le_of_ble_eq_true rfl), (Nat.le_of_ble_eq_true rfl)⟩ ⟨(Nat.le_of_ble_eq_true rfl), (Nat.le_of_ble_eq_true rfl)⟩
          · have h := h2 hc
            clear h1 h2
            refine zr_iload C 0 dX4_late_39 rfl ?_
            refine zr_aload_n C 2 dX4_late_41 rfl rfl ?_
            obtain ⟨x6, hv5, h⟩ := h
            refine zr_get C fl_X4_23 hT1 hv5 dX4_late_42 ?_
            obtain ⟨hT7, x9, hv8, h⟩ := h
            refine zr_get C fl_X4_52 hT7 hv8 dX4_late_45 ?_
            obtain ⟨h1, h2⟩ := h
            refine zr_icmp_gt C 61 dX4_late_48 (by decide) (fun hc => ?_) (fun hc => ?_)
            · have h := h1 hc
              clear h1 h2
              refine zr_iload C 0 dX4_late_61 rfl ?_
              refine zr_iload_n C 4 dX4_late_63 rfl rfl ?_
              refine zr_iadd C dX4_late_64 ?_
              refine zr_bipush C 99 dX4_late_65 (by decide) ?_
              refine zr_min C zq_624 zq_258 zq_29 zq_259 (by decide) (Nat.le_of_ble_eq_true rfl) (Nat.le_of_ble_eq_true rfl) (Nat.le_of_ble_eq_true rfl) dX4_late_67 ?_
              refine zr_istore C [(5, .int (if 99 < (r4 + p2) then 99 else (r4 + p2))), (4, .int r4), (3, .ref r2), (0, .ref a0), (1, .int p1), (2, .int p2)] dX4_late_70 (by decide) rfl ?_
              refine zr_aload_n C 2 dX4_late_72 rfl rfl ?_
              refine zr_iload C 0 dX4_late_73 rfl ?_
              refine zr_callV (As := [.int (if 99 < (r4 + p2) then 99 else (r4 + p2))]) (r := (RX0, TX0, 5)) C (k_X0_putLast h) ok_X4_80 zq_777 zq_778 hT3 (by decide) rfl rfl ⟨by decide, (Nat.le_of_ble_eq_true rfl)⟩ ⟨(Nat.le_of_ble_eq_true rfl), (Nat.le_of_ble_eq_true rfl)⟩ (Nat.le_of_ble_eq_true rfl) dX4_late_75 (fun v11 U12 G13 hq => ?_)
              clear h
              · obtain ⟨rfl, rfl, h⟩ := hq
                refine zr_iload C 0 dX4_late_78 rfl ?_
                exact zr_X (zr_iret C rfl ⟨_, rfl, rfl, h⟩ (Nat.le_of_ble_eq_true rfl) (Nat.le_of_ble_eq_true rfl) dX4_late_80)
            · have h := h2 hc
              clear h1 h2
              exact zr_throw C th_X4_34_38_72 (fun x hx => (hxt x hx).elim) ⟨rfl, h⟩ dX4_late_51 dX4_late_54 dX4_late_55 dX4_late_57 dX4_late_60 (by decide) (Nat.le_of_ble_eq_true rfl) ⟨(Nat.le_of_ble_eq_true rfl), (Nat.le_of_ble_eq_true rfl)⟩ ⟨(Nat.le_of_ble_eq_true rfl), (Nat.le_of_ble_eq_true rfl)⟩
      · have h := h2 hc
        clear h1 h2
        exact zr_throw C th_X4_56_60_67 (fun x hx => (hxt x hx).elim) ⟨rfl, h⟩ dX4_late_17 dX4_late_20 dX4_late_21 dX4_late_23 dX4_late_26 (by decide) (Nat.le_of_ble_eq_true rfl) ⟨(Nat.le_of_ble_eq_true rfl), (Nat.le_of_ble_eq_true rfl)⟩ ⟨(Nat.le_of_ble_eq_true rfl), (Nat.le_of_ble_eq_true rfl)⟩
set_option maxRecDepth 100000 in
set_option maxHeartbeats 4000000 in
theorem k_X4_late0 {l : Launch} {D : va_G} {cA : Nat → ClassId} {N0 zE : Nat} {a0 : Nat} {p1 : Int32} {p2 : Int32} {T : zT} {F : zF} {Post : Int32 → zF → Prop} (h : v_X4_late a0 p1 p2 T F Post (fun _ _ => False)) : z_Mt l D cA N0 zE yX4_late cX4_late 6 (some .int) ({ frames := 4, cells := 0, slots := 0, locals := 85 } : Room) [.ref a0, .int p1, .int p2] T F (fun v T' F' => ∃ r : Int32, v = some (.int r) ∧ T = T' ∧ Post r F') := by
  unfold v_X4_late at h
  refine z_bodyT (by decide) (Nat.le_of_ble_eq_true rfl) ?_
  intro p e s m args below meth c C hnm
  have C : z_C p l s m args meth c RX4 cX4_late 6 (some .int) D cA N0 zE := C
  show z_w p l e ({ frames := 4, cells := 0, slots := 0, locals := 85 } : Room) s m args below meth c D cA N0 6 0 0 (MQ below (z_Qc D cA N0 (fun v T' F' => ∃ r : Int32, v = some (.int r) ∧ T = T' ∧ Post r F')) args s 0 0 (fun q => N0 ≤ q)) 0 [(0, .ref a0), (1, .int p1), (2, .int p2)] [] T F
  refine zr_aload_n C 0 dX4_late_0 rfl rfl ?_
  refine zr_iload_n C 1 dX4_late_1 rfl rfl ?_
  obtain ⟨hT1, h⟩ := h
  refine zr_callV (As := [.int p1]) (r := (RX4, TX4, 4)) C (k_X4_assetAt0 h) ok_X4_48 zq_271 zq_4 hT1 (by decide) rfl rfl ⟨by decide, (Nat.le_of_ble_eq_true rfl)⟩ ⟨(Nat.le_of_ble_eq_true rfl), (Nat.le_of_ble_eq_true rfl)⟩ (Nat.le_of_ble_eq_true rfl) dX4_late_2 (fun v17 U18 G19 hq => ?_)
  clear h
  · obtain ⟨r2, rfl, rfl, rfl, h⟩ := hq
    refine zr_astore_n C [(3, .ref r2), (0, .ref a0), (1, .int p1), (2, .int p2)] dX4_late_5 rfl (by decide) rfl ?_
    refine zr_iload_n C 3 dX4_late_6 rfl rfl ?_
    refine zr_iconst C 1 dX4_late_7 (by decide) ?_
    obtain ⟨h1, h2⟩ := h
    refine zr_icmp_lt C 17 dX4_late_8 (by decide) (fun hc => ?_) (fun hc => ?_)
    · have h := h1 hc
      clear h1 h2
      exact h.elim
    · have h := h2 hc
      clear h1 h2
      refine zr_iload_n C 3 dX4_late_11 rfl rfl ?_
      refine zr_bipush C 20 dX4_late_12 (by decide) ?_
      obtain ⟨h1, h2⟩ := h
      refine zr_icmp_le C 27 dX4_late_14 (by decide) (fun hc => ?_) (fun hc => ?_)
      · have h := h1 hc
        clear h1 h2
        refine zr_aload_n C 0 dX4_late_27 rfl rfl ?_
        obtain ⟨hT3, h⟩ := h
        refine zr_callV (As := []) (r := (RX0, TX0, 5)) C (k_X0_lastComes h) ok_X4_69 zq_768 zq_769 hT3 (by decide) rfl rfl ⟨by decide, (Nat.le_of_ble_eq_true rfl)⟩ ⟨(Nat.le_of_ble_eq_true rfl), (Nat.le_of_ble_eq_true rfl)⟩ (Nat.le_of_ble_eq_true rfl) dX4_late_28 (fun v14 U15 G16 hq => ?_)
        clear h
        · obtain ⟨r4, rfl, rfl, rfl, h⟩ := hq
          refine zr_istore C [(4, .int r4), (3, .ref r2), (0, .ref a0), (1, .int p1), (2, .int p2)] dX4_late_31 (by decide) rfl ?_
          refine zr_iload C 0 dX4_late_33 rfl ?_
          refine zr_iconst C (-1) dX4_late_35 (by decide) ?_
          obtain ⟨h1, h2⟩ := h
          refine zr_icmp_eq C 51 dX4_late_36 (by decide) (fun hc => ?_) (fun hc => ?_)
          · have h := h1 hc
            clear h1 h2
            exact h.elim
          · have h := h2 hc
            clear h1 h2
            refine zr_iload C 0 dX4_late_39 rfl ?_
            refine zr_aload_n C 2 dX4_late_41 rfl rfl ?_
            obtain ⟨x6, hv5, h⟩ := h
            refine zr_get C fl_X4_23 hT1 hv5 dX4_late_42 ?_
            obtain ⟨hT7, x9, hv8, h⟩ := h
            refine zr_get C fl_X4_52 hT7 hv8 dX4_late_45 ?_
            obtain ⟨h1, h2⟩ := h
            refine zr_icmp_gt C 61 dX4_late_48 (by decide) (fun hc => ?_) (fun hc => ?_)
            · have h := h1 hc
              clear h1 h2
              refine zr_iload C 0 dX4_late_61 rfl ?_
              refine zr_iload_n C 4 dX4_late_63 rfl rfl ?_
              refine zr_iadd C dX4_late_64 ?_
              refine zr_bipush C 99 dX4_late_65 (by decide) ?_
              refine zr_min C zq_624 zq_258 zq_29 zq_259 (by decide) (Nat.le_of_ble_eq_true rfl) (Nat.le_of_ble_eq_true rfl) (Nat.le_of_ble_eq_true rfl) dX4_late_67 ?_
              refine zr_istore C [(5, .int (if 99 < (r4 + p2) then 99 else (r4 + p2))), (4, .int r4), (3, .ref r2), (0, .ref a0), (1, .int p1), (2, .int p2)] dX4_late_70 (by decide) rfl ?_
              refine zr_aload_n C 2 dX4_late_72 rfl rfl ?_
              refine zr_iload C 0 dX4_late_73 rfl ?_
              refine zr_callV (As := [.int (if 99 < (r4 + p2) then 99 else (r4 + p2))]) (r := (RX0, TX0, 5)) C (k_X0_putLast h) ok_X4_80 zq_777 zq_778 hT3 (by decide) rfl rfl ⟨by decide, (Nat.le_of_ble_eq_true rfl)⟩ ⟨(Nat.le_of_ble_eq_true rfl), (Nat.le_of_ble_eq_true rfl)⟩ (Nat.le_of_ble_eq_true rfl) dX4_late_75 (fun v11 U12 G13 hq => ?_)
              clear h
              · obtain ⟨rfl, rfl, h⟩ := hq
                refine zr_iload C 0 dX4_late_78 rfl ?_
                exact zr_iret C rfl ⟨_, rfl, rfl, h⟩ (Nat.le_of_ble_eq_true rfl) (Nat.le_of_ble_eq_true rfl) dX4_late_80
            · have h := h2 hc
              clear h1 h2
              exact h.elim
      · have h := h2 hc
        clear h1 h2
        exact h.elim
theorem dX4_needDay_0 : decode cX4_needDay 0 = .ok (.iload_n 0, 1) := by decide +kernel
theorem dX4_needDay_1 : decode cX4_needDay 1 = .ok (.ifCond .lt 9, 3) := by decide +kernel
theorem dX4_needDay_10 : decode cX4_needDay 10 = .ok (.new 56, 3) := by decide +kernel
theorem dX4_needDay_13 : decode cX4_needDay 13 = .ok (.dup, 1) := by decide +kernel
theorem dX4_needDay_14 : decode cX4_needDay 14 = .ok (.ldc_w 373, 3) := by decide +kernel
theorem dX4_needDay_17 : decode cX4_needDay 17 = .ok (.invokespecial 60, 3) := by decide +kernel
theorem dX4_needDay_20 : decode cX4_needDay 20 = .ok (.athrow, 1) := by decide +kernel
theorem dX4_needDay_4 : decode cX4_needDay 4 = .ok (.iload_n 0, 1) := by decide +kernel
theorem dX4_needDay_5 : decode cX4_needDay 5 = .ok (.bipush 99, 2) := by decide +kernel
theorem dX4_needDay_7 : decode cX4_needDay 7 = .ok (.if_icmp .le 14, 3) := by decide +kernel
theorem dX4_needDay_21 : decode cX4_needDay 21 = .ok (.return_, 1) := by decide +kernel
def v_X4_needDay (p0 : Int32) (T : zT) (F : zF) (Post : Prop) (PX : String → Prop) : Prop :=
  ((p0 < 0 → PX "java/lang/IllegalArgumentException") ∧ (¬ p0 < 0 → ((p0 ≤ 99 → Post) ∧ (¬ p0 ≤ 99 → PX "java/lang/IllegalArgumentException"))))
set_option maxRecDepth 100000 in
set_option maxHeartbeats 4000000 in
theorem k_X4_needDay {l : Launch} {D : va_G} {cA : Nat → ClassId} {N0 zE : Nat} {p0 : Int32} {T : zT} {F : zF} {Post : Prop} {PX : String → Prop} (h : v_X4_needDay p0 T F Post PX) : z_Met l D cA N0 zE yX4_needDay cX4_needDay 1 none ({ frames := 6, cells := 1, slots := 6, locals := 90 } : Room) [.int p0] T F (fun v T' F' => v = none ∧ T = T' ∧ F = F' ∧ Post) (fun E T' F' => T = T' ∧ F = F' ∧ PX E) := by
  unfold v_X4_needDay at h
  refine z_body (by decide) (Nat.le_of_ble_eq_true rfl) ?_
  intro p e s m args below meth c C hxt hnm
  have C : z_C p l s m args meth c RX4 cX4_needDay 1 none D cA N0 zE := C
  show z_w p l e ({ frames := 6, cells := 1, slots := 6, locals := 90 } : Room) s m args below meth c D cA N0 1 0 0 (vx_MQ below (z_Qc D cA N0 (fun v T' F' => v = none ∧ T = T' ∧ F = F' ∧ Post)) (z_XC D cA N0 (fun E T' F' => T = T' ∧ F = F' ∧ PX E)) args s 1 6 (fun q => N0 ≤ q)) 0 [(0, .int p0)] [] T F
  refine zr_iload_n C 0 dX4_needDay_0 rfl rfl ?_
  obtain ⟨h1, h2⟩ := h
  refine zr_if_lt C 10 dX4_needDay_1 (by decide) (fun hc => ?_) (fun hc => ?_)
  · have h := h1 hc
    clear h1 h2
    exact zr_throwW C th_X4_56_60_373 (fun x hx => (hxt x hx).elim) ⟨rfl, rfl, h⟩ dX4_needDay_10 dX4_needDay_13 dX4_needDay_14 dX4_needDay_17 dX4_needDay_20 (by decide) (Nat.le_of_ble_eq_true rfl) ⟨(Nat.le_of_ble_eq_true rfl), (Nat.le_of_ble_eq_true rfl)⟩ ⟨(Nat.le_of_ble_eq_true rfl), (Nat.le_of_ble_eq_true rfl)⟩
  · have h := h2 hc
    clear h1 h2
    refine zr_iload_n C 0 dX4_needDay_4 rfl rfl ?_
    refine zr_bipush C 99 dX4_needDay_5 (by decide) ?_
    obtain ⟨h1, h2⟩ := h
    refine zr_icmp_le C 21 dX4_needDay_7 (by decide) (fun hc => ?_) (fun hc => ?_)
    · have h := h1 hc
      clear h1 h2
      exact zr_X (zr_vret C rfl ⟨rfl, rfl, rfl, h⟩ (Nat.le_of_ble_eq_true rfl) (Nat.le_of_ble_eq_true rfl) dX4_needDay_21)
    · have h := h2 hc
      clear h1 h2
      exact zr_throwW C th_X4_56_60_373 (fun x hx => (hxt x hx).elim) ⟨rfl, rfl, h⟩ dX4_needDay_10 dX4_needDay_13 dX4_needDay_14 dX4_needDay_17 dX4_needDay_20 (by decide) (Nat.le_of_ble_eq_true rfl) ⟨(Nat.le_of_ble_eq_true rfl), (Nat.le_of_ble_eq_true rfl)⟩ ⟨(Nat.le_of_ble_eq_true rfl), (Nat.le_of_ble_eq_true rfl)⟩
set_option maxRecDepth 100000 in
set_option maxHeartbeats 4000000 in
theorem k_X4_needDay0 {l : Launch} {D : va_G} {cA : Nat → ClassId} {N0 zE : Nat} {p0 : Int32} {T : zT} {F : zF} {Post : Prop} (h : v_X4_needDay p0 T F Post (fun _ => False)) : z_Mt l D cA N0 zE yX4_needDay cX4_needDay 1 none ({ frames := 0, cells := 0, slots := 0, locals := 0 } : Room) [.int p0] T F (fun v T' F' => v = none ∧ T = T' ∧ F = F' ∧ Post) := by
  unfold v_X4_needDay at h
  refine z_bodyT (by decide) (Nat.le_of_ble_eq_true rfl) ?_
  intro p e s m args below meth c C hnm
  have C : z_C p l s m args meth c RX4 cX4_needDay 1 none D cA N0 zE := C
  show z_w p l e ({ frames := 0, cells := 0, slots := 0, locals := 0 } : Room) s m args below meth c D cA N0 1 0 0 (MQ below (z_Qc D cA N0 (fun v T' F' => v = none ∧ T = T' ∧ F = F' ∧ Post)) args s 0 0 (fun q => N0 ≤ q)) 0 [(0, .int p0)] [] T F
  refine zr_iload_n C 0 dX4_needDay_0 rfl rfl ?_
  obtain ⟨h1, h2⟩ := h
  refine zr_if_lt C 10 dX4_needDay_1 (by decide) (fun hc => ?_) (fun hc => ?_)
  · have h := h1 hc
    clear h1 h2
    exact h.elim
  · have h := h2 hc
    clear h1 h2
    refine zr_iload_n C 0 dX4_needDay_4 rfl rfl ?_
    refine zr_bipush C 99 dX4_needDay_5 (by decide) ?_
    obtain ⟨h1, h2⟩ := h
    refine zr_icmp_le C 21 dX4_needDay_7 (by decide) (fun hc => ?_) (fun hc => ?_)
    · have h := h1 hc
      clear h1 h2
      exact zr_vret C rfl ⟨rfl, rfl, rfl, h⟩ (Nat.le_of_ble_eq_true rfl) (Nat.le_of_ble_eq_true rfl) dX4_needDay_21
    · have h := h2 hc
      clear h1 h2
      exact h.elim
theorem dX4_rights_0 : decode cX4_rights 0 = .ok (.aload_n 0, 1) := by decide +kernel
theorem dX4_rights_1 : decode cX4_rights 1 = .ok (.iload_n 1, 1) := by decide +kernel
theorem dX4_rights_5 : decode cX4_rights 5 = .ok (.astore 5, 2) := by decide +kernel
theorem dX4_rights_7 : decode cX4_rights 7 = .ok (.iload_n 2, 1) := by decide +kernel
theorem dX4_rights_8 : decode cX4_rights 8 = .ok (.ifCond .lt 9, 3) := by decide +kernel
theorem dX4_rights_17 : decode cX4_rights 17 = .ok (.new 56, 3) := by decide +kernel
theorem dX4_rights_20 : decode cX4_rights 20 = .ok (.dup, 1) := by decide +kernel
theorem dX4_rights_21 : decode cX4_rights 21 = .ok (.ldc 84, 2) := by decide +kernel
theorem dX4_rights_23 : decode cX4_rights 23 = .ok (.invokespecial 60, 3) := by decide +kernel
theorem dX4_rights_26 : decode cX4_rights 26 = .ok (.athrow, 1) := by decide +kernel
theorem dX4_rights_11 : decode cX4_rights 11 = .ok (.iload_n 2, 1) := by decide +kernel
theorem dX4_rights_12 : decode cX4_rights 12 = .ok (.bipush 15, 2) := by decide +kernel
theorem dX4_rights_14 : decode cX4_rights 14 = .ok (.if_icmp .le 13, 3) := by decide +kernel
theorem dX4_rights_27 : decode cX4_rights 27 = .ok (.iload_n 3, 1) := by decide +kernel
theorem dX4_rights_31 : decode cX4_rights 31 = .ok (.iload 4, 2) := by decide +kernel
theorem dX4_rights_36 : decode cX4_rights 36 = .ok (.iload 4, 2) := by decide +kernel
theorem dX4_rights_38 : decode cX4_rights 38 = .ok (.iload_n 3, 1) := by decide +kernel
theorem dX4_rights_39 : decode cX4_rights 39 = .ok (.if_icmp .ge 13, 3) := by decide +kernel
theorem dX4_rights_52 : decode cX4_rights 52 = .ok (.aload 5, 2) := by decide +kernel
theorem dX4_rights_54 : decode cX4_rights 54 = .ok (.getfield 91, 3) := by decide +kernel
theorem dX4_rights_57 : decode cX4_rights 57 = .ok (.istore 6, 2) := by decide +kernel
theorem dX4_rights_59 : decode cX4_rights 59 = .ok (.aload 5, 2) := by decide +kernel
theorem dX4_rights_61 : decode cX4_rights 61 = .ok (.iload_n 2, 1) := by decide +kernel
theorem dX4_rights_62 : decode cX4_rights 62 = .ok (.iload_n 3, 1) := by decide +kernel
theorem dX4_rights_63 : decode cX4_rights 63 = .ok (.iload 4, 2) := by decide +kernel
theorem dX4_rights_68 : decode cX4_rights 68 = .ok (.iload 6, 2) := by decide +kernel
theorem dX4_rights_70 : decode cX4_rights 70 = .ok (.ireturn, 1) := by decide +kernel
theorem dX4_rights_65 : decode cX4_rights 65 = .ok (.invokevirtual 94, 3) := by decide +kernel
theorem dX4_rights_42 : decode cX4_rights 42 = .ok (.new 56, 3) := by decide +kernel
theorem dX4_rights_45 : decode cX4_rights 45 = .ok (.dup, 1) := by decide +kernel
theorem dX4_rights_46 : decode cX4_rights 46 = .ok (.ldc 89, 2) := by decide +kernel
theorem dX4_rights_48 : decode cX4_rights 48 = .ok (.invokespecial 60, 3) := by decide +kernel
theorem dX4_rights_51 : decode cX4_rights 51 = .ok (.athrow, 1) := by decide +kernel
theorem dX4_rights_33 : decode cX4_rights 33 = .ok (.invokestatic 86, 3) := by decide +kernel
theorem dX4_rights_28 : decode cX4_rights 28 = .ok (.invokestatic 86, 3) := by decide +kernel
theorem dX4_rights_2 : decode cX4_rights 2 = .ok (.invokevirtual 48, 3) := by decide +kernel
def v_X4_rights (a0 : Nat) (p1 : Int32) (p2 : Int32) (p3 : Int32) (p4 : Int32) (T : zT) (F : zF) (Post : Int32 → zF → Prop) (PX : String → zF → Prop) : Prop :=
  (T a0 = some (5, 4) ∧ (v_X4_assetAt a0 p1 T F (fun (r2 : Nat) => ((p2 < 0 → PX "java/lang/IllegalArgumentException" F) ∧ (¬ p2 < 0 → ((p2 ≤ 15 → (v_X4_needDay p3 T F (v_X4_needDay p4 T F ((p3 ≤ p4 → (T r2 = some (1, 5) ∧ ∃ x5 : Int32, F r2 2 = .int x5 ∧ (v_X0_grant r2 p2 p3 p4 T F (fun (F6 : zF) => Post x5 F6)))) ∧ (¬ p3 ≤ p4 → PX "java/lang/IllegalArgumentException" F)) (fun (E9 : String) => PX E9 F)) (fun (E9 : String) => PX E9 F))) ∧ (¬ p2 ≤ 15 → PX "java/lang/IllegalArgumentException" F))))) (fun (E9 : String) => PX E9 F)))
set_option maxRecDepth 100000 in
set_option maxHeartbeats 4000000 in
theorem k_X4_rights {l : Launch} {D : va_G} {cA : Nat → ClassId} {N0 zE : Nat} {a0 : Nat} {p1 : Int32} {p2 : Int32} {p3 : Int32} {p4 : Int32} {T : zT} {F : zF} {Post : Int32 → zF → Prop} {PX : String → zF → Prop} (h : v_X4_rights a0 p1 p2 p3 p4 T F Post PX) : z_Met l D cA N0 zE yX4_rights cX4_rights 7 (some .int) ({ frames := 7, cells := 4, slots := 24, locals := 111 } : Room) [.ref a0, .int p1, .int p2, .int p3, .int p4] T F (fun v T' F' => ∃ r : Int32, v = some (.int r) ∧ T = T' ∧ Post r F') (fun E T' F' => T = T' ∧ PX E F') := by
  unfold v_X4_rights at h
  refine z_body (by decide) (Nat.le_of_ble_eq_true rfl) ?_
  intro p e s m args below meth c C hxt hnm
  have C : z_C p l s m args meth c RX4 cX4_rights 7 (some .int) D cA N0 zE := C
  show z_w p l e ({ frames := 7, cells := 4, slots := 24, locals := 111 } : Room) s m args below meth c D cA N0 7 0 0 (vx_MQ below (z_Qc D cA N0 (fun v T' F' => ∃ r : Int32, v = some (.int r) ∧ T = T' ∧ Post r F')) (z_XC D cA N0 (fun E T' F' => T = T' ∧ PX E F')) args s 4 24 (fun q => N0 ≤ q)) 0 [(0, .ref a0), (1, .int p1), (2, .int p2), (3, .int p3), (4, .int p4)] [] T F
  refine zr_aload_n C 0 dX4_rights_0 rfl rfl ?_
  refine zr_iload_n C 1 dX4_rights_1 rfl rfl ?_
  obtain ⟨hT1, h⟩ := h
  refine zr_callVX (As := [.int p1]) (r := (RX4, TX4, 4)) C (k_X4_assetAt h) ok_X4_48 zq_271 zq_4 hT1 (by decide) rfl rfl ⟨by decide, (Nat.le_of_ble_eq_true rfl)⟩ ⟨(Nat.le_of_ble_eq_true rfl), (Nat.le_of_ble_eq_true rfl)⟩ (Nat.le_of_ble_eq_true rfl) dX4_rights_2 (fun E9 T9 F9 hq => by obtain ⟨rfl, rfl, hq⟩ := hq; exact zr_out C (fun x hx => (hxt x hx).elim) ⟨rfl, hq⟩ (Nat.le_of_ble_eq_true rfl) (Nat.le_of_ble_eq_true rfl)) (fun v16 U17 G18 hq => ?_)
  clear h
  · obtain ⟨r2, rfl, rfl, rfl, h⟩ := hq
    refine zr_astore C [(5, .ref r2), (0, .ref a0), (1, .int p1), (2, .int p2), (3, .int p3), (4, .int p4)] dX4_rights_5 (by decide) rfl ?_
    refine zr_iload_n C 3 dX4_rights_7 rfl rfl ?_
    obtain ⟨h1, h2⟩ := h
    refine zr_if_lt C 17 dX4_rights_8 (by decide) (fun hc => ?_) (fun hc => ?_)
    · have h := h1 hc
      clear h1 h2
      exact zr_throw C th_X4_56_60_84 (fun x hx => (hxt x hx).elim) ⟨rfl, h⟩ dX4_rights_17 dX4_rights_20 dX4_rights_21 dX4_rights_23 dX4_rights_26 (by decide) (Nat.le_of_ble_eq_true rfl) ⟨(Nat.le_of_ble_eq_true rfl), (Nat.le_of_ble_eq_true rfl)⟩ ⟨(Nat.le_of_ble_eq_true rfl), (Nat.le_of_ble_eq_true rfl)⟩
    · have h := h2 hc
      clear h1 h2
      refine zr_iload_n C 3 dX4_rights_11 rfl rfl ?_
      refine zr_bipush C 15 dX4_rights_12 (by decide) ?_
      obtain ⟨h1, h2⟩ := h
      refine zr_icmp_le C 27 dX4_rights_14 (by decide) (fun hc => ?_) (fun hc => ?_)
      · have h := h1 hc
        clear h1 h2
        refine zr_iload_n C 4 dX4_rights_27 rfl rfl ?_
        refine zr_callSX (As := [.int p3]) C (k_X4_needDay h) ok_X4_86 zq_330 rfl ⟨by decide, (Nat.le_of_ble_eq_true rfl)⟩ ⟨(Nat.le_of_ble_eq_true rfl), (Nat.le_of_ble_eq_true rfl)⟩ (Nat.le_of_ble_eq_true rfl) dX4_rights_28 (fun E9 T9 F9 hq => by obtain ⟨rfl, rfl, hq⟩ := hq; exact zr_out C (fun x hx => (hxt x hx).elim) ⟨rfl, hq⟩ (Nat.le_of_ble_eq_true rfl) (Nat.le_of_ble_eq_true rfl)) (fun v13 U14 G15 hq => ?_)
        clear h
        · obtain ⟨rfl, rfl, rfl, h⟩ := hq
          refine zr_iload C 5 dX4_rights_31 rfl ?_
          refine zr_callSX (As := [.int p4]) C (k_X4_needDay h) ok_X4_86 zq_330 rfl ⟨by decide, (Nat.le_of_ble_eq_true rfl)⟩ ⟨(Nat.le_of_ble_eq_true rfl), (Nat.le_of_ble_eq_true rfl)⟩ (Nat.le_of_ble_eq_true rfl) dX4_rights_33 (fun E9 T9 F9 hq => by obtain ⟨rfl, rfl, hq⟩ := hq; exact zr_out C (fun x hx => (hxt x hx).elim) ⟨rfl, hq⟩ (Nat.le_of_ble_eq_true rfl) (Nat.le_of_ble_eq_true rfl)) (fun v10 U11 G12 hq => ?_)
          clear h
          · obtain ⟨rfl, rfl, rfl, h⟩ := hq
            refine zr_iload C 5 dX4_rights_36 rfl ?_
            refine zr_iload_n C 4 dX4_rights_38 rfl rfl ?_
            obtain ⟨h1, h2⟩ := h
            refine zr_icmp_ge C 52 dX4_rights_39 (by decide) (fun hc => ?_) (fun hc => ?_)
            · have h := h1 hc
              clear h1 h2
              refine zr_aload C 0 dX4_rights_52 rfl ?_
              obtain ⟨hT3, x5, hv4, h⟩ := h
              refine zr_get C fl_X4_91 hT3 hv4 dX4_rights_54 ?_
              refine zr_istore C [(6, .int x5), (5, .ref r2), (0, .ref a0), (1, .int p1), (2, .int p2), (3, .int p3), (4, .int p4)] dX4_rights_57 (by decide) rfl ?_
              refine zr_aload C 1 dX4_rights_59 rfl ?_
              refine zr_iload_n C 4 dX4_rights_61 rfl rfl ?_
              refine zr_iload_n C 5 dX4_rights_62 rfl rfl ?_
              refine zr_iload C 6 dX4_rights_63 rfl ?_
              refine zr_callV (As := [.int p2, .int p3, .int p4]) (r := (RX0, TX0, 5)) C (k_X0_grant h) ok_X4_94 zq_335 zq_336 hT3 (by decide) rfl rfl ⟨by decide, (Nat.le_of_ble_eq_true rfl)⟩ ⟨(Nat.le_of_ble_eq_true rfl), (Nat.le_of_ble_eq_true rfl)⟩ (Nat.le_of_ble_eq_true rfl) dX4_rights_65 (fun v7 U8 G9 hq => ?_)
              clear h
              · obtain ⟨rfl, rfl, h⟩ := hq
                refine zr_iload C 0 dX4_rights_68 rfl ?_
                exact zr_X (zr_iret C rfl ⟨_, rfl, rfl, h⟩ (Nat.le_of_ble_eq_true rfl) (Nat.le_of_ble_eq_true rfl) dX4_rights_70)
            · have h := h2 hc
              clear h1 h2
              exact zr_throw C th_X4_56_60_89 (fun x hx => (hxt x hx).elim) ⟨rfl, h⟩ dX4_rights_42 dX4_rights_45 dX4_rights_46 dX4_rights_48 dX4_rights_51 (by decide) (Nat.le_of_ble_eq_true rfl) ⟨(Nat.le_of_ble_eq_true rfl), (Nat.le_of_ble_eq_true rfl)⟩ ⟨(Nat.le_of_ble_eq_true rfl), (Nat.le_of_ble_eq_true rfl)⟩
      · have h := h2 hc
        clear h1 h2
        exact zr_throw C th_X4_56_60_84 (fun x hx => (hxt x hx).elim) ⟨rfl, h⟩ dX4_rights_17 dX4_rights_20 dX4_rights_21 dX4_rights_23 dX4_rights_26 (by decide) (Nat.le_of_ble_eq_true rfl) ⟨(Nat.le_of_ble_eq_true rfl), (Nat.le_of_ble_eq_true rfl)⟩ ⟨(Nat.le_of_ble_eq_true rfl), (Nat.le_of_ble_eq_true rfl)⟩
set_option maxRecDepth 100000 in
set_option maxHeartbeats 4000000 in
theorem k_X4_rights0 {l : Launch} {D : va_G} {cA : Nat → ClassId} {N0 zE : Nat} {a0 : Nat} {p1 : Int32} {p2 : Int32} {p3 : Int32} {p4 : Int32} {T : zT} {F : zF} {Post : Int32 → zF → Prop} (h : v_X4_rights a0 p1 p2 p3 p4 T F Post (fun _ _ => False)) : z_Mt l D cA N0 zE yX4_rights cX4_rights 7 (some .int) ({ frames := 4, cells := 0, slots := 0, locals := 85 } : Room) [.ref a0, .int p1, .int p2, .int p3, .int p4] T F (fun v T' F' => ∃ r : Int32, v = some (.int r) ∧ T = T' ∧ Post r F') := by
  unfold v_X4_rights at h
  refine z_bodyT (by decide) (Nat.le_of_ble_eq_true rfl) ?_
  intro p e s m args below meth c C hnm
  have C : z_C p l s m args meth c RX4 cX4_rights 7 (some .int) D cA N0 zE := C
  show z_w p l e ({ frames := 4, cells := 0, slots := 0, locals := 85 } : Room) s m args below meth c D cA N0 7 0 0 (MQ below (z_Qc D cA N0 (fun v T' F' => ∃ r : Int32, v = some (.int r) ∧ T = T' ∧ Post r F')) args s 0 0 (fun q => N0 ≤ q)) 0 [(0, .ref a0), (1, .int p1), (2, .int p2), (3, .int p3), (4, .int p4)] [] T F
  refine zr_aload_n C 0 dX4_rights_0 rfl rfl ?_
  refine zr_iload_n C 1 dX4_rights_1 rfl rfl ?_
  obtain ⟨hT1, h⟩ := h
  refine zr_callV (As := [.int p1]) (r := (RX4, TX4, 4)) C (k_X4_assetAt0 h) ok_X4_48 zq_271 zq_4 hT1 (by decide) rfl rfl ⟨by decide, (Nat.le_of_ble_eq_true rfl)⟩ ⟨(Nat.le_of_ble_eq_true rfl), (Nat.le_of_ble_eq_true rfl)⟩ (Nat.le_of_ble_eq_true rfl) dX4_rights_2 (fun v16 U17 G18 hq => ?_)
  clear h
  · obtain ⟨r2, rfl, rfl, rfl, h⟩ := hq
    refine zr_astore C [(5, .ref r2), (0, .ref a0), (1, .int p1), (2, .int p2), (3, .int p3), (4, .int p4)] dX4_rights_5 (by decide) rfl ?_
    refine zr_iload_n C 3 dX4_rights_7 rfl rfl ?_
    obtain ⟨h1, h2⟩ := h
    refine zr_if_lt C 17 dX4_rights_8 (by decide) (fun hc => ?_) (fun hc => ?_)
    · have h := h1 hc
      clear h1 h2
      exact h.elim
    · have h := h2 hc
      clear h1 h2
      refine zr_iload_n C 3 dX4_rights_11 rfl rfl ?_
      refine zr_bipush C 15 dX4_rights_12 (by decide) ?_
      obtain ⟨h1, h2⟩ := h
      refine zr_icmp_le C 27 dX4_rights_14 (by decide) (fun hc => ?_) (fun hc => ?_)
      · have h := h1 hc
        clear h1 h2
        refine zr_iload_n C 4 dX4_rights_27 rfl rfl ?_
        refine zr_callS (As := [.int p3]) C (k_X4_needDay0 h) ok_X4_86 zq_330 rfl ⟨by decide, (Nat.le_of_ble_eq_true rfl)⟩ ⟨(Nat.le_of_ble_eq_true rfl), (Nat.le_of_ble_eq_true rfl)⟩ (Nat.le_of_ble_eq_true rfl) dX4_rights_28 (fun v13 U14 G15 hq => ?_)
        clear h
        · obtain ⟨rfl, rfl, rfl, h⟩ := hq
          refine zr_iload C 5 dX4_rights_31 rfl ?_
          refine zr_callS (As := [.int p4]) C (k_X4_needDay0 h) ok_X4_86 zq_330 rfl ⟨by decide, (Nat.le_of_ble_eq_true rfl)⟩ ⟨(Nat.le_of_ble_eq_true rfl), (Nat.le_of_ble_eq_true rfl)⟩ (Nat.le_of_ble_eq_true rfl) dX4_rights_33 (fun v10 U11 G12 hq => ?_)
          clear h
          · obtain ⟨rfl, rfl, rfl, h⟩ := hq
            refine zr_iload C 5 dX4_rights_36 rfl ?_
            refine zr_iload_n C 4 dX4_rights_38 rfl rfl ?_
            obtain ⟨h1, h2⟩ := h
            refine zr_icmp_ge C 52 dX4_rights_39 (by decide) (fun hc => ?_) (fun hc => ?_)
            · have h := h1 hc
              clear h1 h2
              refine zr_aload C 0 dX4_rights_52 rfl ?_
              obtain ⟨hT3, x5, hv4, h⟩ := h
              refine zr_get C fl_X4_91 hT3 hv4 dX4_rights_54 ?_
              refine zr_istore C [(6, .int x5), (5, .ref r2), (0, .ref a0), (1, .int p1), (2, .int p2), (3, .int p3), (4, .int p4)] dX4_rights_57 (by decide) rfl ?_
              refine zr_aload C 1 dX4_rights_59 rfl ?_
              refine zr_iload_n C 4 dX4_rights_61 rfl rfl ?_
              refine zr_iload_n C 5 dX4_rights_62 rfl rfl ?_
              refine zr_iload C 6 dX4_rights_63 rfl ?_
              refine zr_callV (As := [.int p2, .int p3, .int p4]) (r := (RX0, TX0, 5)) C (k_X0_grant h) ok_X4_94 zq_335 zq_336 hT3 (by decide) rfl rfl ⟨by decide, (Nat.le_of_ble_eq_true rfl)⟩ ⟨(Nat.le_of_ble_eq_true rfl), (Nat.le_of_ble_eq_true rfl)⟩ (Nat.le_of_ble_eq_true rfl) dX4_rights_65 (fun v7 U8 G9 hq => ?_)
              clear h
              · obtain ⟨rfl, rfl, h⟩ := hq
                refine zr_iload C 0 dX4_rights_68 rfl ?_
                exact zr_iret C rfl ⟨_, rfl, rfl, h⟩ (Nat.le_of_ble_eq_true rfl) (Nat.le_of_ble_eq_true rfl) dX4_rights_70
            · have h := h2 hc
              clear h1 h2
              exact h.elim
      · have h := h2 hc
        clear h1 h2
        exact h.elim
theorem dX4_versionOn_0 : decode cX4_versionOn 0 = .ok (.aload_n 0, 1) := by decide +kernel
theorem dX4_versionOn_1 : decode cX4_versionOn 1 = .ok (.iload_n 1, 1) := by decide +kernel
theorem dX4_versionOn_5 : decode cX4_versionOn 5 = .ok (.astore_n 3, 1) := by decide +kernel
theorem dX4_versionOn_6 : decode cX4_versionOn 6 = .ok (.iload_n 2, 1) := by decide +kernel
theorem dX4_versionOn_10 : decode cX4_versionOn 10 = .ok (.aload_n 3, 1) := by decide +kernel
theorem dX4_versionOn_11 : decode cX4_versionOn 11 = .ok (.iload_n 2, 1) := by decide +kernel
theorem dX4_versionOn_15 : decode cX4_versionOn 15 = .ok (.ireturn, 1) := by decide +kernel
theorem dX4_versionOn_12 : decode cX4_versionOn 12 = .ok (.invokevirtual 98, 3) := by decide +kernel
theorem dX4_versionOn_7 : decode cX4_versionOn 7 = .ok (.invokestatic 86, 3) := by decide +kernel
theorem dX4_versionOn_2 : decode cX4_versionOn 2 = .ok (.invokevirtual 48, 3) := by decide +kernel
def v_X4_versionOn (a0 : Nat) (p1 : Int32) (p2 : Int32) (T : zT) (F : zF) (Post : Int32 → Prop) (PX : String → Prop) : Prop :=
  (T a0 = some (5, 4) ∧ (v_X4_assetAt a0 p1 T F (fun (r2 : Nat) => (v_X4_needDay p2 T F (T r2 = some (1, 5) ∧ (v_X0_versionAt r2 p2 T F (fun (r4 : Int32) => Post r4))) (fun (E9 : String) => PX E9))) (fun (E9 : String) => PX E9)))
set_option maxRecDepth 100000 in
set_option maxHeartbeats 4000000 in
theorem k_X4_versionOn {l : Launch} {D : va_G} {cA : Nat → ClassId} {N0 zE : Nat} {a0 : Nat} {p1 : Int32} {p2 : Int32} {T : zT} {F : zF} {Post : Int32 → Prop} {PX : String → Prop} (h : v_X4_versionOn a0 p1 p2 T F Post PX) : z_Met l D cA N0 zE yX4_versionOn cX4_versionOn 4 (some .int) ({ frames := 7, cells := 2, slots := 12, locals := 111 } : Room) [.ref a0, .int p1, .int p2] T F (fun v T' F' => ∃ r : Int32, v = some (.int r) ∧ T = T' ∧ F = F' ∧ Post r) (fun E T' F' => T = T' ∧ F = F' ∧ PX E) := by
  unfold v_X4_versionOn at h
  refine z_body (by decide) (Nat.le_of_ble_eq_true rfl) ?_
  intro p e s m args below meth c C hxt hnm
  have C : z_C p l s m args meth c RX4 cX4_versionOn 4 (some .int) D cA N0 zE := C
  show z_w p l e ({ frames := 7, cells := 2, slots := 12, locals := 111 } : Room) s m args below meth c D cA N0 4 0 0 (vx_MQ below (z_Qc D cA N0 (fun v T' F' => ∃ r : Int32, v = some (.int r) ∧ T = T' ∧ F = F' ∧ Post r)) (z_XC D cA N0 (fun E T' F' => T = T' ∧ F = F' ∧ PX E)) args s 2 12 (fun q => N0 ≤ q)) 0 [(0, .ref a0), (1, .int p1), (2, .int p2)] [] T F
  refine zr_aload_n C 0 dX4_versionOn_0 rfl rfl ?_
  refine zr_iload_n C 1 dX4_versionOn_1 rfl rfl ?_
  obtain ⟨hT1, h⟩ := h
  refine zr_callVX (As := [.int p1]) (r := (RX4, TX4, 4)) C (k_X4_assetAt h) ok_X4_48 zq_271 zq_4 hT1 (by decide) rfl rfl ⟨by decide, (Nat.le_of_ble_eq_true rfl)⟩ ⟨(Nat.le_of_ble_eq_true rfl), (Nat.le_of_ble_eq_true rfl)⟩ (Nat.le_of_ble_eq_true rfl) dX4_versionOn_2 (fun E9 T9 F9 hq => by obtain ⟨rfl, rfl, hq⟩ := hq; exact zr_out C (fun x hx => (hxt x hx).elim) ⟨rfl, rfl, hq⟩ (Nat.le_of_ble_eq_true rfl) (Nat.le_of_ble_eq_true rfl)) (fun v11 U12 G13 hq => ?_)
  clear h
  · obtain ⟨r2, rfl, rfl, rfl, h⟩ := hq
    refine zr_astore_n C [(3, .ref r2), (0, .ref a0), (1, .int p1), (2, .int p2)] dX4_versionOn_5 rfl (by decide) rfl ?_
    refine zr_iload_n C 3 dX4_versionOn_6 rfl rfl ?_
    refine zr_callSX (As := [.int p2]) C (k_X4_needDay h) ok_X4_86 zq_330 rfl ⟨by decide, (Nat.le_of_ble_eq_true rfl)⟩ ⟨(Nat.le_of_ble_eq_true rfl), (Nat.le_of_ble_eq_true rfl)⟩ (Nat.le_of_ble_eq_true rfl) dX4_versionOn_7 (fun E9 T9 F9 hq => by obtain ⟨rfl, rfl, hq⟩ := hq; exact zr_out C (fun x hx => (hxt x hx).elim) ⟨rfl, rfl, hq⟩ (Nat.le_of_ble_eq_true rfl) (Nat.le_of_ble_eq_true rfl)) (fun v8 U9 G10 hq => ?_)
    clear h
    · obtain ⟨rfl, rfl, rfl, h⟩ := hq
      refine zr_aload_n C 0 dX4_versionOn_10 rfl rfl ?_
      refine zr_iload_n C 3 dX4_versionOn_11 rfl rfl ?_
      obtain ⟨hT3, h⟩ := h
      refine zr_callV (As := [.int p2]) (r := (RX0, TX0, 5)) C (k_X0_versionAt h) ok_X4_98 zq_425 zq_426 hT3 (by decide) rfl rfl ⟨by decide, (Nat.le_of_ble_eq_true rfl)⟩ ⟨(Nat.le_of_ble_eq_true rfl), (Nat.le_of_ble_eq_true rfl)⟩ (Nat.le_of_ble_eq_true rfl) dX4_versionOn_12 (fun v5 U6 G7 hq => ?_)
      clear h
      · obtain ⟨r4, rfl, rfl, rfl, h⟩ := hq
        exact zr_X (zr_iret C rfl ⟨_, rfl, rfl, rfl, h⟩ (Nat.le_of_ble_eq_true rfl) (Nat.le_of_ble_eq_true rfl) dX4_versionOn_15)
set_option maxRecDepth 100000 in
set_option maxHeartbeats 4000000 in
theorem k_X4_versionOn0 {l : Launch} {D : va_G} {cA : Nat → ClassId} {N0 zE : Nat} {a0 : Nat} {p1 : Int32} {p2 : Int32} {T : zT} {F : zF} {Post : Int32 → Prop} (h : v_X4_versionOn a0 p1 p2 T F Post (fun _ => False)) : z_Mt l D cA N0 zE yX4_versionOn cX4_versionOn 4 (some .int) ({ frames := 4, cells := 0, slots := 0, locals := 85 } : Room) [.ref a0, .int p1, .int p2] T F (fun v T' F' => ∃ r : Int32, v = some (.int r) ∧ T = T' ∧ F = F' ∧ Post r) := by
  unfold v_X4_versionOn at h
  refine z_bodyT (by decide) (Nat.le_of_ble_eq_true rfl) ?_
  intro p e s m args below meth c C hnm
  have C : z_C p l s m args meth c RX4 cX4_versionOn 4 (some .int) D cA N0 zE := C
  show z_w p l e ({ frames := 4, cells := 0, slots := 0, locals := 85 } : Room) s m args below meth c D cA N0 4 0 0 (MQ below (z_Qc D cA N0 (fun v T' F' => ∃ r : Int32, v = some (.int r) ∧ T = T' ∧ F = F' ∧ Post r)) args s 0 0 (fun q => N0 ≤ q)) 0 [(0, .ref a0), (1, .int p1), (2, .int p2)] [] T F
  refine zr_aload_n C 0 dX4_versionOn_0 rfl rfl ?_
  refine zr_iload_n C 1 dX4_versionOn_1 rfl rfl ?_
  obtain ⟨hT1, h⟩ := h
  refine zr_callV (As := [.int p1]) (r := (RX4, TX4, 4)) C (k_X4_assetAt0 h) ok_X4_48 zq_271 zq_4 hT1 (by decide) rfl rfl ⟨by decide, (Nat.le_of_ble_eq_true rfl)⟩ ⟨(Nat.le_of_ble_eq_true rfl), (Nat.le_of_ble_eq_true rfl)⟩ (Nat.le_of_ble_eq_true rfl) dX4_versionOn_2 (fun v11 U12 G13 hq => ?_)
  clear h
  · obtain ⟨r2, rfl, rfl, rfl, h⟩ := hq
    refine zr_astore_n C [(3, .ref r2), (0, .ref a0), (1, .int p1), (2, .int p2)] dX4_versionOn_5 rfl (by decide) rfl ?_
    refine zr_iload_n C 3 dX4_versionOn_6 rfl rfl ?_
    refine zr_callS (As := [.int p2]) C (k_X4_needDay0 h) ok_X4_86 zq_330 rfl ⟨by decide, (Nat.le_of_ble_eq_true rfl)⟩ ⟨(Nat.le_of_ble_eq_true rfl), (Nat.le_of_ble_eq_true rfl)⟩ (Nat.le_of_ble_eq_true rfl) dX4_versionOn_7 (fun v8 U9 G10 hq => ?_)
    clear h
    · obtain ⟨rfl, rfl, rfl, h⟩ := hq
      refine zr_aload_n C 0 dX4_versionOn_10 rfl rfl ?_
      refine zr_iload_n C 3 dX4_versionOn_11 rfl rfl ?_
      obtain ⟨hT3, h⟩ := h
      refine zr_callV (As := [.int p2]) (r := (RX0, TX0, 5)) C (k_X0_versionAt h) ok_X4_98 zq_425 zq_426 hT3 (by decide) rfl rfl ⟨by decide, (Nat.le_of_ble_eq_true rfl)⟩ ⟨(Nat.le_of_ble_eq_true rfl), (Nat.le_of_ble_eq_true rfl)⟩ (Nat.le_of_ble_eq_true rfl) dX4_versionOn_12 (fun v5 U6 G7 hq => ?_)
      clear h
      · obtain ⟨r4, rfl, rfl, rfl, h⟩ := hq
        exact zr_iret C rfl ⟨_, rfl, rfl, rfl, h⟩ (Nat.le_of_ble_eq_true rfl) (Nat.le_of_ble_eq_true rfl) dX4_versionOn_15
theorem dX4_isLand_0 : decode cX4_isLand 0 = .ok (.iload_n 0, 1) := by decide +kernel
theorem dX4_isLand_1 : decode cX4_isLand 1 = .ok (.ifCond .lt 12, 3) := by decide +kernel
theorem dX4_isLand_13 : decode cX4_isLand 13 = .ok (.iconst 0, 1) := by decide +kernel
theorem dX4_isLand_14 : decode cX4_isLand 14 = .ok (.ireturn, 1) := by decide +kernel
theorem dX4_isLand_4 : decode cX4_isLand 4 = .ok (.iload_n 0, 1) := by decide +kernel
theorem dX4_isLand_5 : decode cX4_isLand 5 = .ok (.iconst 4, 1) := by decide +kernel
theorem dX4_isLand_6 : decode cX4_isLand 6 = .ok (.if_icmp .ge 7, 3) := by decide +kernel
theorem dX4_isLand_9 : decode cX4_isLand 9 = .ok (.iconst 1, 1) := by decide +kernel
theorem dX4_isLand_10 : decode cX4_isLand 10 = .ok (.goto 4, 3) := by decide +kernel
def v_X4_isLand (p0 : Int32) (T : zT) (F : zF) (Post : Int32 → Prop) : Prop :=
  ((p0 < 0 → Post 0) ∧ (¬ p0 < 0 → ((4 ≤ p0 → Post 0) ∧ (¬ 4 ≤ p0 → Post 1))))
set_option maxRecDepth 100000 in
set_option maxHeartbeats 4000000 in
theorem k_X4_isLand {l : Launch} {D : va_G} {cA : Nat → ClassId} {N0 zE : Nat} {p0 : Int32} {T : zT} {F : zF} {Post : Int32 → Prop} (h : v_X4_isLand p0 T F Post) : z_Mt l D cA N0 zE yX4_isLand cX4_isLand 1 (some .boolean) ({ frames := 0, cells := 0, slots := 0, locals := 0 } : Room) [.int p0] T F (fun v T' F' => ∃ r : Int32, v = some (.int r) ∧ T = T' ∧ F = F' ∧ Post r) := by
  unfold v_X4_isLand at h
  refine z_bodyT (by decide) (Nat.le_of_ble_eq_true rfl) ?_
  intro p e s m args below meth c C hnm
  have C : z_C p l s m args meth c RX4 cX4_isLand 1 (some .boolean) D cA N0 zE := C
  show z_w p l e ({ frames := 0, cells := 0, slots := 0, locals := 0 } : Room) s m args below meth c D cA N0 1 0 0 (MQ below (z_Qc D cA N0 (fun v T' F' => ∃ r : Int32, v = some (.int r) ∧ T = T' ∧ F = F' ∧ Post r)) args s 0 0 (fun q => N0 ≤ q)) 0 [(0, .int p0)] [] T F
  refine zr_iload_n C 0 dX4_isLand_0 rfl rfl ?_
  obtain ⟨h1, h2⟩ := h
  refine zr_if_lt C 13 dX4_isLand_1 (by decide) (fun hc => ?_) (fun hc => ?_)
  · have h := h1 hc
    clear h1 h2
    refine zr_iconst C 0 dX4_isLand_13 (by decide) ?_
    exact zr_zret C rfl (Or.inl rfl) ⟨_, rfl, rfl, rfl, h⟩ (Nat.le_of_ble_eq_true rfl) (Nat.le_of_ble_eq_true rfl) dX4_isLand_14
  · have h := h2 hc
    clear h1 h2
    refine zr_iload_n C 0 dX4_isLand_4 rfl rfl ?_
    refine zr_iconst C 4 dX4_isLand_5 (by decide) ?_
    obtain ⟨h1, h2⟩ := h
    refine zr_icmp_ge C 13 dX4_isLand_6 (by decide) (fun hc => ?_) (fun hc => ?_)
    · have h := h1 hc
      clear h1 h2
      refine zr_iconst C 0 dX4_isLand_13 (by decide) ?_
      exact zr_zret C rfl (Or.inl rfl) ⟨_, rfl, rfl, rfl, h⟩ (Nat.le_of_ble_eq_true rfl) (Nat.le_of_ble_eq_true rfl) dX4_isLand_14
    · have h := h2 hc
      clear h1 h2
      refine zr_iconst C 1 dX4_isLand_9 (by decide) ?_
      refine zr_goto C 14 dX4_isLand_10 (by decide) ?_
      exact zr_zret C rfl (Or.inr rfl) ⟨_, rfl, rfl, rfl, h⟩ (Nat.le_of_ble_eq_true rfl) (Nat.le_of_ble_eq_true rfl) dX4_isLand_14
theorem dX4_needLand_0 : decode cX4_needLand 0 = .ok (.iload_n 0, 1) := by decide +kernel
theorem dX4_needLand_4 : decode cX4_needLand 4 = .ok (.ifCond .ne 14, 3) := by decide +kernel
theorem dX4_needLand_18 : decode cX4_needLand 18 = .ok (.return_, 1) := by decide +kernel
theorem dX4_needLand_7 : decode cX4_needLand 7 = .ok (.new 307, 3) := by decide +kernel
theorem dX4_needLand_10 : decode cX4_needLand 10 = .ok (.dup, 1) := by decide +kernel
theorem dX4_needLand_11 : decode cX4_needLand 11 = .ok (.ldc_w 369, 3) := by decide +kernel
theorem dX4_needLand_14 : decode cX4_needLand 14 = .ok (.invokespecial 309, 3) := by decide +kernel
theorem dX4_needLand_17 : decode cX4_needLand 17 = .ok (.athrow, 1) := by decide +kernel
theorem dX4_needLand_1 : decode cX4_needLand 1 = .ok (.invokestatic 354, 3) := by decide +kernel
def v_X4_needLand (p0 : Int32) (T : zT) (F : zF) (Post : Prop) (PX : String → Prop) : Prop :=
  (v_X4_isLand p0 T F (fun (r1 : Int32) => ((¬ r1 = 0 → Post) ∧ (r1 = 0 → PX "java/lang/IndexOutOfBoundsException"))))
set_option maxRecDepth 100000 in
set_option maxHeartbeats 4000000 in
theorem k_X4_needLand {l : Launch} {D : va_G} {cA : Nat → ClassId} {N0 zE : Nat} {p0 : Int32} {T : zT} {F : zF} {Post : Prop} {PX : String → Prop} (h : v_X4_needLand p0 T F Post PX) : z_Met l D cA N0 zE yX4_needLand cX4_needLand 1 none ({ frames := 6, cells := 1, slots := 6, locals := 90 } : Room) [.int p0] T F (fun v T' F' => v = none ∧ T = T' ∧ F = F' ∧ Post) (fun E T' F' => T = T' ∧ F = F' ∧ PX E) := by
  unfold v_X4_needLand at h
  refine z_body (by decide) (Nat.le_of_ble_eq_true rfl) ?_
  intro p e s m args below meth c C hxt hnm
  have C : z_C p l s m args meth c RX4 cX4_needLand 1 none D cA N0 zE := C
  show z_w p l e ({ frames := 6, cells := 1, slots := 6, locals := 90 } : Room) s m args below meth c D cA N0 1 0 0 (vx_MQ below (z_Qc D cA N0 (fun v T' F' => v = none ∧ T = T' ∧ F = F' ∧ Post)) (z_XC D cA N0 (fun E T' F' => T = T' ∧ F = F' ∧ PX E)) args s 1 6 (fun q => N0 ≤ q)) 0 [(0, .int p0)] [] T F
  refine zr_iload_n C 0 dX4_needLand_0 rfl rfl ?_
  refine zr_callS (As := [.int p0]) C (k_X4_isLand h) ok_X4_354 zq_480 rfl ⟨by decide, (Nat.le_of_ble_eq_true rfl)⟩ ⟨(Nat.le_of_ble_eq_true rfl), (Nat.le_of_ble_eq_true rfl)⟩ (Nat.le_of_ble_eq_true rfl) dX4_needLand_1 (fun v2 U3 G4 hq => ?_)
  clear h
  · obtain ⟨r1, rfl, rfl, rfl, h⟩ := hq
    obtain ⟨h1, h2⟩ := h
    refine zr_if_ne C 18 dX4_needLand_4 (by decide) (fun hc => ?_) (fun hc => ?_)
    · have h := h1 hc
      clear h1 h2
      exact zr_X (zr_vret C rfl ⟨rfl, rfl, rfl, h⟩ (Nat.le_of_ble_eq_true rfl) (Nat.le_of_ble_eq_true rfl) dX4_needLand_18)
    · have h := h2 hc
      clear h1 h2
      exact zr_throwW C th_X4_307_309_369 (fun x hx => (hxt x hx).elim) ⟨rfl, rfl, h⟩ dX4_needLand_7 dX4_needLand_10 dX4_needLand_11 dX4_needLand_14 dX4_needLand_17 (by decide) (Nat.le_of_ble_eq_true rfl) ⟨(Nat.le_of_ble_eq_true rfl), (Nat.le_of_ble_eq_true rfl)⟩ ⟨(Nat.le_of_ble_eq_true rfl), (Nat.le_of_ble_eq_true rfl)⟩
set_option maxRecDepth 100000 in
set_option maxHeartbeats 4000000 in
theorem k_X4_needLand0 {l : Launch} {D : va_G} {cA : Nat → ClassId} {N0 zE : Nat} {p0 : Int32} {T : zT} {F : zF} {Post : Prop} (h : v_X4_needLand p0 T F Post (fun _ => False)) : z_Mt l D cA N0 zE yX4_needLand cX4_needLand 1 none ({ frames := 1, cells := 0, slots := 0, locals := 20 } : Room) [.int p0] T F (fun v T' F' => v = none ∧ T = T' ∧ F = F' ∧ Post) := by
  unfold v_X4_needLand at h
  refine z_bodyT (by decide) (Nat.le_of_ble_eq_true rfl) ?_
  intro p e s m args below meth c C hnm
  have C : z_C p l s m args meth c RX4 cX4_needLand 1 none D cA N0 zE := C
  show z_w p l e ({ frames := 1, cells := 0, slots := 0, locals := 20 } : Room) s m args below meth c D cA N0 1 0 0 (MQ below (z_Qc D cA N0 (fun v T' F' => v = none ∧ T = T' ∧ F = F' ∧ Post)) args s 0 0 (fun q => N0 ≤ q)) 0 [(0, .int p0)] [] T F
  refine zr_iload_n C 0 dX4_needLand_0 rfl rfl ?_
  refine zr_callS (As := [.int p0]) C (k_X4_isLand h) ok_X4_354 zq_480 rfl ⟨by decide, (Nat.le_of_ble_eq_true rfl)⟩ ⟨(Nat.le_of_ble_eq_true rfl), (Nat.le_of_ble_eq_true rfl)⟩ (Nat.le_of_ble_eq_true rfl) dX4_needLand_1 (fun v2 U3 G4 hq => ?_)
  clear h
  · obtain ⟨r1, rfl, rfl, rfl, h⟩ := hq
    obtain ⟨h1, h2⟩ := h
    refine zr_if_ne C 18 dX4_needLand_4 (by decide) (fun hc => ?_) (fun hc => ?_)
    · have h := h1 hc
      clear h1 h2
      exact zr_vret C rfl ⟨rfl, rfl, rfl, h⟩ (Nat.le_of_ble_eq_true rfl) (Nat.le_of_ble_eq_true rfl) dX4_needLand_18
    · have h := h2 hc
      clear h1 h2
      exact h.elim
theorem dX4_hasRights_0 : decode cX4_hasRights 0 = .ok (.aload_n 0, 1) := by decide +kernel
theorem dX4_hasRights_1 : decode cX4_hasRights 1 = .ok (.iload_n 1, 1) := by decide +kernel
theorem dX4_hasRights_5 : decode cX4_hasRights 5 = .ok (.astore 4, 2) := by decide +kernel
theorem dX4_hasRights_7 : decode cX4_hasRights 7 = .ok (.iload_n 2, 1) := by decide +kernel
theorem dX4_hasRights_11 : decode cX4_hasRights 11 = .ok (.iload_n 3, 1) := by decide +kernel
theorem dX4_hasRights_15 : decode cX4_hasRights 15 = .ok (.aload 4, 2) := by decide +kernel
theorem dX4_hasRights_17 : decode cX4_hasRights 17 = .ok (.iload_n 2, 1) := by decide +kernel
theorem dX4_hasRights_18 : decode cX4_hasRights 18 = .ok (.iload_n 3, 1) := by decide +kernel
theorem dX4_hasRights_19 : decode cX4_hasRights 19 = .ok (.iload_n 3, 1) := by decide +kernel
theorem dX4_hasRights_23 : decode cX4_hasRights 23 = .ok (.ireturn, 1) := by decide +kernel
theorem dX4_hasRights_20 : decode cX4_hasRights 20 = .ok (.invokevirtual 104, 3) := by decide +kernel
theorem dX4_hasRights_12 : decode cX4_hasRights 12 = .ok (.invokestatic 86, 3) := by decide +kernel
theorem dX4_hasRights_8 : decode cX4_hasRights 8 = .ok (.invokestatic 101, 3) := by decide +kernel
theorem dX4_hasRights_2 : decode cX4_hasRights 2 = .ok (.invokevirtual 48, 3) := by decide +kernel
def v_X4_hasRights (a0 : Nat) (p1 : Int32) (p2 : Int32) (p3 : Int32) (T : zT) (F : zF) (Post : Int32 → Prop) (PX : String → Prop) : Prop :=
  (T a0 = some (5, 4) ∧ (v_X4_assetAt a0 p1 T F (fun (r2 : Nat) => (v_X4_needLand p2 T F (v_X4_needDay p3 T F (T r2 = some (1, 5) ∧ (v_X0_isGranted r2 p2 p3 p3 T F (fun (r4 : Int32) => ((r4 = 0 ∨ r4 = 1) ∧ Post r4)))) (fun (E9 : String) => PX E9)) (fun (E9 : String) => PX E9))) (fun (E9 : String) => PX E9)))
set_option maxRecDepth 100000 in
set_option maxHeartbeats 4000000 in
theorem k_X4_hasRights {l : Launch} {D : va_G} {cA : Nat → ClassId} {N0 zE : Nat} {a0 : Nat} {p1 : Int32} {p2 : Int32} {p3 : Int32} {T : zT} {F : zF} {Post : Int32 → Prop} {PX : String → Prop} (h : v_X4_hasRights a0 p1 p2 p3 T F Post PX) : z_Met l D cA N0 zE yX4_hasRights cX4_hasRights 5 (some .boolean) ({ frames := 7, cells := 3, slots := 18, locals := 111 } : Room) [.ref a0, .int p1, .int p2, .int p3] T F (fun v T' F' => ∃ r : Int32, v = some (.int r) ∧ T = T' ∧ F = F' ∧ Post r) (fun E T' F' => T = T' ∧ F = F' ∧ PX E) := by
  unfold v_X4_hasRights at h
  refine z_body (by decide) (Nat.le_of_ble_eq_true rfl) ?_
  intro p e s m args below meth c C hxt hnm
  have C : z_C p l s m args meth c RX4 cX4_hasRights 5 (some .boolean) D cA N0 zE := C
  show z_w p l e ({ frames := 7, cells := 3, slots := 18, locals := 111 } : Room) s m args below meth c D cA N0 5 0 0 (vx_MQ below (z_Qc D cA N0 (fun v T' F' => ∃ r : Int32, v = some (.int r) ∧ T = T' ∧ F = F' ∧ Post r)) (z_XC D cA N0 (fun E T' F' => T = T' ∧ F = F' ∧ PX E)) args s 3 18 (fun q => N0 ≤ q)) 0 [(0, .ref a0), (1, .int p1), (2, .int p2), (3, .int p3)] [] T F
  refine zr_aload_n C 0 dX4_hasRights_0 rfl rfl ?_
  refine zr_iload_n C 1 dX4_hasRights_1 rfl rfl ?_
  obtain ⟨hT1, h⟩ := h
  refine zr_callVX (As := [.int p1]) (r := (RX4, TX4, 4)) C (k_X4_assetAt h) ok_X4_48 zq_271 zq_4 hT1 (by decide) rfl rfl ⟨by decide, (Nat.le_of_ble_eq_true rfl)⟩ ⟨(Nat.le_of_ble_eq_true rfl), (Nat.le_of_ble_eq_true rfl)⟩ (Nat.le_of_ble_eq_true rfl) dX4_hasRights_2 (fun E9 T9 F9 hq => by obtain ⟨rfl, rfl, hq⟩ := hq; exact zr_out C (fun x hx => (hxt x hx).elim) ⟨rfl, rfl, hq⟩ (Nat.le_of_ble_eq_true rfl) (Nat.le_of_ble_eq_true rfl)) (fun v14 U15 G16 hq => ?_)
  clear h
  · obtain ⟨r2, rfl, rfl, rfl, h⟩ := hq
    refine zr_astore C [(4, .ref r2), (0, .ref a0), (1, .int p1), (2, .int p2), (3, .int p3)] dX4_hasRights_5 (by decide) rfl ?_
    refine zr_iload_n C 3 dX4_hasRights_7 rfl rfl ?_
    refine zr_callSX (As := [.int p2]) C (k_X4_needLand h) ok_X4_101 zq_477 rfl ⟨by decide, (Nat.le_of_ble_eq_true rfl)⟩ ⟨(Nat.le_of_ble_eq_true rfl), (Nat.le_of_ble_eq_true rfl)⟩ (Nat.le_of_ble_eq_true rfl) dX4_hasRights_8 (fun E9 T9 F9 hq => by obtain ⟨rfl, rfl, hq⟩ := hq; exact zr_out C (fun x hx => (hxt x hx).elim) ⟨rfl, rfl, hq⟩ (Nat.le_of_ble_eq_true rfl) (Nat.le_of_ble_eq_true rfl)) (fun v11 U12 G13 hq => ?_)
    clear h
    · obtain ⟨rfl, rfl, rfl, h⟩ := hq
      refine zr_iload_n C 4 dX4_hasRights_11 rfl rfl ?_
      refine zr_callSX (As := [.int p3]) C (k_X4_needDay h) ok_X4_86 zq_330 rfl ⟨by decide, (Nat.le_of_ble_eq_true rfl)⟩ ⟨(Nat.le_of_ble_eq_true rfl), (Nat.le_of_ble_eq_true rfl)⟩ (Nat.le_of_ble_eq_true rfl) dX4_hasRights_12 (fun E9 T9 F9 hq => by obtain ⟨rfl, rfl, hq⟩ := hq; exact zr_out C (fun x hx => (hxt x hx).elim) ⟨rfl, rfl, hq⟩ (Nat.le_of_ble_eq_true rfl) (Nat.le_of_ble_eq_true rfl)) (fun v8 U9 G10 hq => ?_)
      clear h
      · obtain ⟨rfl, rfl, rfl, h⟩ := hq
        refine zr_aload C 0 dX4_hasRights_15 rfl ?_
        refine zr_iload_n C 3 dX4_hasRights_17 rfl rfl ?_
        refine zr_iload_n C 4 dX4_hasRights_18 rfl rfl ?_
        refine zr_iload_n C 4 dX4_hasRights_19 rfl rfl ?_
        obtain ⟨hT3, h⟩ := h
        refine zr_callV (As := [.int p2, .int p3, .int p3]) (r := (RX0, TX0, 5)) C (k_X0_isGranted h) ok_X4_104 zq_496 zq_497 hT3 (by decide) rfl rfl ⟨by decide, (Nat.le_of_ble_eq_true rfl)⟩ ⟨(Nat.le_of_ble_eq_true rfl), (Nat.le_of_ble_eq_true rfl)⟩ (Nat.le_of_ble_eq_true rfl) dX4_hasRights_20 (fun v5 U6 G7 hq => ?_)
        clear h
        · obtain ⟨r4, rfl, rfl, rfl, h⟩ := hq
          obtain ⟨hb, h⟩ := h
          exact zr_X (zr_zret C rfl hb ⟨_, rfl, rfl, rfl, h⟩ (Nat.le_of_ble_eq_true rfl) (Nat.le_of_ble_eq_true rfl) dX4_hasRights_23)
set_option maxRecDepth 100000 in
set_option maxHeartbeats 4000000 in
theorem k_X4_hasRights0 {l : Launch} {D : va_G} {cA : Nat → ClassId} {N0 zE : Nat} {a0 : Nat} {p1 : Int32} {p2 : Int32} {p3 : Int32} {T : zT} {F : zF} {Post : Int32 → Prop} (h : v_X4_hasRights a0 p1 p2 p3 T F Post (fun _ => False)) : z_Mt l D cA N0 zE yX4_hasRights cX4_hasRights 5 (some .boolean) ({ frames := 4, cells := 0, slots := 0, locals := 85 } : Room) [.ref a0, .int p1, .int p2, .int p3] T F (fun v T' F' => ∃ r : Int32, v = some (.int r) ∧ T = T' ∧ F = F' ∧ Post r) := by
  unfold v_X4_hasRights at h
  refine z_bodyT (by decide) (Nat.le_of_ble_eq_true rfl) ?_
  intro p e s m args below meth c C hnm
  have C : z_C p l s m args meth c RX4 cX4_hasRights 5 (some .boolean) D cA N0 zE := C
  show z_w p l e ({ frames := 4, cells := 0, slots := 0, locals := 85 } : Room) s m args below meth c D cA N0 5 0 0 (MQ below (z_Qc D cA N0 (fun v T' F' => ∃ r : Int32, v = some (.int r) ∧ T = T' ∧ F = F' ∧ Post r)) args s 0 0 (fun q => N0 ≤ q)) 0 [(0, .ref a0), (1, .int p1), (2, .int p2), (3, .int p3)] [] T F
  refine zr_aload_n C 0 dX4_hasRights_0 rfl rfl ?_
  refine zr_iload_n C 1 dX4_hasRights_1 rfl rfl ?_
  obtain ⟨hT1, h⟩ := h
  refine zr_callV (As := [.int p1]) (r := (RX4, TX4, 4)) C (k_X4_assetAt0 h) ok_X4_48 zq_271 zq_4 hT1 (by decide) rfl rfl ⟨by decide, (Nat.le_of_ble_eq_true rfl)⟩ ⟨(Nat.le_of_ble_eq_true rfl), (Nat.le_of_ble_eq_true rfl)⟩ (Nat.le_of_ble_eq_true rfl) dX4_hasRights_2 (fun v14 U15 G16 hq => ?_)
  clear h
  · obtain ⟨r2, rfl, rfl, rfl, h⟩ := hq
    refine zr_astore C [(4, .ref r2), (0, .ref a0), (1, .int p1), (2, .int p2), (3, .int p3)] dX4_hasRights_5 (by decide) rfl ?_
    refine zr_iload_n C 3 dX4_hasRights_7 rfl rfl ?_
    refine zr_callS (As := [.int p2]) C (k_X4_needLand0 h) ok_X4_101 zq_477 rfl ⟨by decide, (Nat.le_of_ble_eq_true rfl)⟩ ⟨(Nat.le_of_ble_eq_true rfl), (Nat.le_of_ble_eq_true rfl)⟩ (Nat.le_of_ble_eq_true rfl) dX4_hasRights_8 (fun v11 U12 G13 hq => ?_)
    clear h
    · obtain ⟨rfl, rfl, rfl, h⟩ := hq
      refine zr_iload_n C 4 dX4_hasRights_11 rfl rfl ?_
      refine zr_callS (As := [.int p3]) C (k_X4_needDay0 h) ok_X4_86 zq_330 rfl ⟨by decide, (Nat.le_of_ble_eq_true rfl)⟩ ⟨(Nat.le_of_ble_eq_true rfl), (Nat.le_of_ble_eq_true rfl)⟩ (Nat.le_of_ble_eq_true rfl) dX4_hasRights_12 (fun v8 U9 G10 hq => ?_)
      clear h
      · obtain ⟨rfl, rfl, rfl, h⟩ := hq
        refine zr_aload C 0 dX4_hasRights_15 rfl ?_
        refine zr_iload_n C 3 dX4_hasRights_17 rfl rfl ?_
        refine zr_iload_n C 4 dX4_hasRights_18 rfl rfl ?_
        refine zr_iload_n C 4 dX4_hasRights_19 rfl rfl ?_
        obtain ⟨hT3, h⟩ := h
        refine zr_callV (As := [.int p2, .int p3, .int p3]) (r := (RX0, TX0, 5)) C (k_X0_isGranted h) ok_X4_104 zq_496 zq_497 hT3 (by decide) rfl rfl ⟨by decide, (Nat.le_of_ble_eq_true rfl)⟩ ⟨(Nat.le_of_ble_eq_true rfl), (Nat.le_of_ble_eq_true rfl)⟩ (Nat.le_of_ble_eq_true rfl) dX4_hasRights_20 (fun v5 U6 G7 hq => ?_)
        clear h
        · obtain ⟨r4, rfl, rfl, rfl, h⟩ := hq
          obtain ⟨hb, h⟩ := h
          exact zr_zret C rfl hb ⟨_, rfl, rfl, rfl, h⟩ (Nat.le_of_ble_eq_true rfl) (Nat.le_of_ble_eq_true rfl) dX4_hasRights_23
theorem dX4_piece_0 : decode cX4_piece 0 = .ok (.iload_n 1, 1) := by decide +kernel
theorem dX4_piece_1 : decode cX4_piece 1 = .ok (.ifCond .lt 8, 3) := by decide +kernel
theorem dX4_piece_9 : decode cX4_piece 9 = .ok (.new 56, 3) := by decide +kernel
theorem dX4_piece_12 : decode cX4_piece 12 = .ok (.dup, 1) := by decide +kernel
theorem dX4_piece_13 : decode cX4_piece 13 = .ok (.ldc 108, 2) := by decide +kernel
theorem dX4_piece_15 : decode cX4_piece 15 = .ok (.invokespecial 60, 3) := by decide +kernel
theorem dX4_piece_18 : decode cX4_piece 18 = .ok (.athrow, 1) := by decide +kernel
theorem dX4_piece_4 : decode cX4_piece 4 = .ok (.iload_n 1, 1) := by decide +kernel
theorem dX4_piece_5 : decode cX4_piece 5 = .ok (.iconst 3, 1) := by decide +kernel
theorem dX4_piece_6 : decode cX4_piece 6 = .ok (.if_icmp .lt 13, 3) := by decide +kernel
theorem dX4_piece_19 : decode cX4_piece 19 = .ok (.iload_n 2, 1) := by decide +kernel
theorem dX4_piece_20 : decode cX4_piece 20 = .ok (.iconst 1, 1) := by decide +kernel
theorem dX4_piece_21 : decode cX4_piece 21 = .ok (.if_icmp .lt 15, 3) := by decide +kernel
theorem dX4_piece_36 : decode cX4_piece 36 = .ok (.new 56, 3) := by decide +kernel
theorem dX4_piece_39 : decode cX4_piece 39 = .ok (.dup, 1) := by decide +kernel
theorem dX4_piece_40 : decode cX4_piece 40 = .ok (.ldc 110, 2) := by decide +kernel
theorem dX4_piece_42 : decode cX4_piece 42 = .ok (.invokespecial 60, 3) := by decide +kernel
theorem dX4_piece_45 : decode cX4_piece 45 = .ok (.athrow, 1) := by decide +kernel
theorem dX4_piece_24 : decode cX4_piece 24 = .ok (.iload_n 2, 1) := by decide +kernel
theorem dX4_piece_25 : decode cX4_piece 25 = .ok (.aload_n 0, 1) := by decide +kernel
theorem dX4_piece_26 : decode cX4_piece 26 = .ok (.getfield 10, 3) := by decide +kernel
theorem dX4_piece_32 : decode cX4_piece 32 = .ok (.ishr, 1) := by decide +kernel
theorem dX4_piece_33 : decode cX4_piece 33 = .ok (.ifCond .eq 13, 3) := by decide +kernel
theorem dX4_piece_46 : decode cX4_piece 46 = .ok (.aload_n 0, 1) := by decide +kernel
theorem dX4_piece_47 : decode cX4_piece 47 = .ok (.getfield 23, 3) := by decide +kernel
theorem dX4_piece_50 : decode cX4_piece 50 = .ok (.getfield 112, 3) := by decide +kernel
theorem dX4_piece_56 : decode cX4_piece 56 = .ok (.bipush 12, 2) := by decide +kernel
theorem dX4_piece_58 : decode cX4_piece 58 = .ok (.if_icmp .lt 13, 3) := by decide +kernel
theorem dX4_piece_71 : decode cX4_piece 71 = .ok (.new 117, 3) := by decide +kernel
theorem dX4_piece_74 : decode cX4_piece 74 = .ok (.dup, 1) := by decide +kernel
theorem dX4_piece_75 : decode cX4_piece 75 = .ok (.aload_n 0, 1) := by decide +kernel
theorem dX4_piece_76 : decode cX4_piece 76 = .ok (.getfield 23, 3) := by decide +kernel
theorem dX4_piece_79 : decode cX4_piece 79 = .ok (.getfield 112, 3) := by decide +kernel
theorem dX4_piece_85 : decode cX4_piece 85 = .ok (.iload_n 1, 1) := by decide +kernel
theorem dX4_piece_86 : decode cX4_piece 86 = .ok (.iload_n 2, 1) := by decide +kernel
theorem dX4_piece_90 : decode cX4_piece 90 = .ok (.astore_n 3, 1) := by decide +kernel
theorem dX4_piece_91 : decode cX4_piece 91 = .ok (.iconst 0, 1) := by decide +kernel
theorem dX4_piece_92 : decode cX4_piece 92 = .ok (.istore 4, 2) := by decide +kernel
theorem dX4_piece_94 : decode cX4_piece 94 = .ok (.iload 4, 2) := by decide +kernel
theorem dX4_piece_96 : decode cX4_piece 96 = .ok (.aload_n 0, 1) := by decide +kernel
theorem dX4_piece_97 : decode cX4_piece 97 = .ok (.getfield 10, 3) := by decide +kernel
theorem dX4_piece_103 : decode cX4_piece 103 = .ok (.if_icmp .ge 38, 3) := by decide +kernel
theorem dX4_piece_141 : decode cX4_piece 141 = .ok (.aload_n 0, 1) := by decide +kernel
theorem dX4_piece_142 : decode cX4_piece 142 = .ok (.getfield 23, 3) := by decide +kernel
theorem dX4_piece_145 : decode cX4_piece 145 = .ok (.getfield 112, 3) := by decide +kernel
theorem dX4_piece_148 : decode cX4_piece 148 = .ok (.aload_n 3, 1) := by decide +kernel
theorem dX4_piece_152 : decode cX4_piece 152 = .ok (.pop, 1) := by decide +kernel
theorem dX4_piece_153 : decode cX4_piece 153 = .ok (.aload_n 3, 1) := by decide +kernel
theorem dX4_piece_154 : decode cX4_piece 154 = .ok (.getfield 128, 3) := by decide +kernel
theorem dX4_piece_157 : decode cX4_piece 157 = .ok (.ireturn, 1) := by decide +kernel
theorem dX4_piece_149 : decode cX4_piece 149 = .ok (.invokevirtual 44, 3) := by decide +kernel
theorem dX4_piece_106 : decode cX4_piece 106 = .ok (.iload_n 2, 1) := by decide +kernel
theorem dX4_piece_107 : decode cX4_piece 107 = .ok (.iload 4, 2) := by decide +kernel
theorem dX4_piece_109 : decode cX4_piece 109 = .ok (.ishr, 1) := by decide +kernel
theorem dX4_piece_110 : decode cX4_piece 110 = .ok (.iconst 1, 1) := by decide +kernel
theorem dX4_piece_111 : decode cX4_piece 111 = .ok (.iand, 1) := by decide +kernel
theorem dX4_piece_112 : decode cX4_piece 112 = .ok (.ifCond .eq 23, 3) := by decide +kernel
theorem dX4_piece_135 : decode cX4_piece 135 = .ok (.iinc 4 1, 3) := by decide +kernel
theorem dX4_piece_138 : decode cX4_piece 138 = .ok (.goto (-44), 3) := by decide +kernel
theorem dX4_piece_115 : decode cX4_piece 115 = .ok (.aload_n 3, 1) := by decide +kernel
theorem dX4_piece_116 : decode cX4_piece 116 = .ok (.getfield 121, 3) := by decide +kernel
theorem dX4_piece_119 : decode cX4_piece 119 = .ok (.aload_n 0, 1) := by decide +kernel
theorem dX4_piece_120 : decode cX4_piece 120 = .ok (.getfield 10, 3) := by decide +kernel
theorem dX4_piece_123 : decode cX4_piece 123 = .ok (.iload 4, 2) := by decide +kernel
theorem dX4_piece_128 : decode cX4_piece 128 = .ok (.checkcast 41, 3) := by decide +kernel
theorem dX4_piece_134 : decode cX4_piece 134 = .ok (.pop, 1) := by decide +kernel
theorem dX4_piece_131 : decode cX4_piece 131 = .ok (.invokevirtual 44, 3) := by decide +kernel
theorem dX4_piece_125 : decode cX4_piece 125 = .ok (.invokevirtual 124, 3) := by decide +kernel
theorem dX4_piece_100 : decode cX4_piece 100 = .ok (.invokevirtual 30, 3) := by decide +kernel
theorem dX4_piece_87 : decode cX4_piece 87 = .ok (.invokespecial 119, 3) := by decide +kernel
theorem dX4_piece_82 : decode cX4_piece 82 = .ok (.invokevirtual 30, 3) := by decide +kernel
theorem dX4_piece_61 : decode cX4_piece 61 = .ok (.new 34, 3) := by decide +kernel
theorem dX4_piece_64 : decode cX4_piece 64 = .ok (.dup, 1) := by decide +kernel
theorem dX4_piece_65 : decode cX4_piece 65 = .ok (.ldc 115, 2) := by decide +kernel
theorem dX4_piece_67 : decode cX4_piece 67 = .ok (.invokespecial 38, 3) := by decide +kernel
theorem dX4_piece_70 : decode cX4_piece 70 = .ok (.athrow, 1) := by decide +kernel
theorem dX4_piece_53 : decode cX4_piece 53 = .ok (.invokevirtual 30, 3) := by decide +kernel
theorem dX4_piece_29 : decode cX4_piece 29 = .ok (.invokevirtual 30, 3) := by decide +kernel
def v_X4_piece (zE : Nat) (a0 : Nat) (p1 : Int32) (p2 : Int32) (T : zT) (F : zF) (Post : Int32 → zT → zF → Prop) (PX : String → zT → zF → Prop) : Prop :=
  ((p1 < 0 → PX "java/lang/IllegalArgumentException" T F) ∧ (¬ p1 < 0 → ((p1 < 3 → ((p2 < 1 → PX "java/lang/IllegalArgumentException" T F) ∧ (¬ p2 < 1 → (T a0 = some (5, 4) ∧ ∃ x3 : Nat, F a0 0 = .ref x3 ∧ T x3 = some (0, 3) ∧ (v_Jx4a65c_size_8abf5 x3 T F (fun (r5 : Int32) => (((p2 >>> (r5 &&& 31)) = 0 → (∃ x7 : Nat, F a0 2 = .ref x7 ∧ T x7 = some (4, 3) ∧ ∃ x10 : Nat, F x7 1 = .ref x10 ∧ T x10 = some (0, 3) ∧ (v_Jx4a65c_size_8abf5 x10 T F (fun (r12 : Int32) => ((r12 < 12 → (∀ q13 : Nat, (∀ b, q13 ≤ b → T b = none) → (zn T q13 (3, 5) a0 = some (5, 4) ∧ ∃ x17 : Nat, (zm F q13 (fun j => defaultValue (tyX2 j))) a0 2 = .ref x17 ∧ zn T q13 (3, 5) x17 = some (4, 3) ∧ ∃ x20 : Nat, (zm F q13 (fun j => defaultValue (tyX2 j))) x17 1 = .ref x20 ∧ zn T q13 (3, 5) x20 = some (0, 3) ∧ (v_Jx4a65c_size_8abf5 x20 (zn T q13 (3, 5)) (zm F q13 (fun j => defaultValue (tyX2 j))) (fun (r22 : Int32) => (v_X2_init zE q13 r22 p1 p2 (zn T q13 (3, 5)) (zm F q13 (fun j => defaultValue (tyX2 j))) (fun (T23 : zT) (F24 : zF) => (∃ I25 : Nat → Int32 → zT → zF → Prop, (∃ n27 : Nat, n27 ≤ 16 ∧ I25 n27 0 T23 F24) ∧ (∀ (n26 : Nat) (y28 : Int32) (T29 : zT) (F30 : zF), n26 ≤ 16 → I25 n26 y28 T29 F30 → (T29 a0 = some (5, 4) ∧ ∃ x35 : Nat, F30 a0 0 = .ref x35 ∧ T29 x35 = some (0, 3) ∧ (v_Jx4a65c_size_8abf5 x35 T29 F30 (fun (r37 : Int32) => ((r37 ≤ y28 → (∃ x39 : Nat, F30 a0 2 = .ref x39 ∧ T29 x39 = some (4, 3) ∧ ∃ x42 : Nat, F30 x39 1 = .ref x42 ∧ T29 x42 = some (0, 3) ∧ (v_Jx4a65c_add_9ea2d zE x42 q13 T29 F30 (fun (r44 : Int32) (T45 : zT) (F46 : zF) => (T45 q13 = some (3, 5) ∧ ∃ x49 : Int32, F46 q13 0 = .int x49 ∧ Post x49 T45 F46))))) ∧ (¬ r37 ≤ y28 → ((((p2 >>> (y28 &&& 31)) &&& 1) = 0 → (∃ n53 : Nat, n53 < n26 ∧ I25 n53 (y28 + 1) T29 F30)) ∧ (¬ ((p2 >>> (y28 &&& 31)) &&& 1) = 0 → (T29 q13 = some (3, 5) ∧ ∃ x56 : Nat, F30 q13 3 = .ref x56 ∧ (v_Jx4a65c_get_915e3 x35 y28 T29 F30 (fun (r57 : Nat) => (T29 r57 = some (1, 5) ∧ T29 x56 = some (0, 3) ∧ (v_Jx4a65c_add_9ea2d zE x56 r57 T29 F30 (fun (r60 : Int32) (T61 : zT) (F62 : zF) => (∃ n63 : Nat, n63 < n26 ∧ I25 n63 (y28 + 1) T61 F62))))))))))))))))))))))) ∧ (¬ r12 < 12 → PX "java/lang/IllegalStateException" T F)))))) ∧ (¬ (p2 >>> (r5 &&& 31)) = 0 → PX "java/lang/IllegalArgumentException" T F)))))))) ∧ (¬ p1 < 3 → PX "java/lang/IllegalArgumentException" T F))))
set_option maxRecDepth 100000 in
set_option maxHeartbeats 4000000 in
theorem k_X4_piece {l : Launch} {D : va_G} {cA : Nat → ClassId} {N0 zE : Nat} {a0 : Nat} {p1 : Int32} {p2 : Int32} {T : zT} {F : zF} {Post : Int32 → zT → zF → Prop} {PX : String → zT → zF → Prop} (h : v_X4_piece zE a0 p1 p2 T F Post PX) : z_Met l D cA N0 zE yX4_piece cX4_piece 5 (some .int) ({ frames := 7, cells := 44, slots := 982, locals := 163 } : Room) [.ref a0, .int p1, .int p2] T F (fun v T' F' => ∃ r : Int32, v = some (.int r) ∧ Post r T' F') (fun E T' F' => PX E T' F') := by
  unfold v_X4_piece at h
  refine z_body (by decide) (Nat.le_of_ble_eq_true rfl) ?_
  intro p e s m args below meth c C hxt hnm
  have C : z_C p l s m args meth c RX4 cX4_piece 5 (some .int) D cA N0 zE := C
  show z_w p l e ({ frames := 7, cells := 44, slots := 982, locals := 163 } : Room) s m args below meth c D cA N0 5 0 0 (vx_MQ below (z_Qc D cA N0 (fun v T' F' => ∃ r : Int32, v = some (.int r) ∧ Post r T' F')) (z_XC D cA N0 (fun E T' F' => PX E T' F')) args s 44 982 (fun q => N0 ≤ q)) 0 [(0, .ref a0), (1, .int p1), (2, .int p2)] [] T F
  refine zr_iload_n C 1 dX4_piece_0 rfl rfl ?_
  obtain ⟨h1, h2⟩ := h
  refine zr_if_lt C 9 dX4_piece_1 (by decide) (fun hc => ?_) (fun hc => ?_)
  · have h := h1 hc
    clear h1 h2
    exact zr_throw C th_X4_56_60_108 (fun x hx => (hxt x hx).elim) h dX4_piece_9 dX4_piece_12 dX4_piece_13 dX4_piece_15 dX4_piece_18 (by decide) (Nat.le_of_ble_eq_true rfl) ⟨(Nat.le_of_ble_eq_true rfl), (Nat.le_of_ble_eq_true rfl)⟩ ⟨(Nat.le_of_ble_eq_true rfl), (Nat.le_of_ble_eq_true rfl)⟩
  · have h := h2 hc
    clear h1 h2
    refine zr_iload_n C 1 dX4_piece_4 rfl rfl ?_
    refine zr_iconst C 3 dX4_piece_5 (by decide) ?_
    obtain ⟨h1, h2⟩ := h
    refine zr_icmp_lt C 19 dX4_piece_6 (by decide) (fun hc => ?_) (fun hc => ?_)
    · have h := h1 hc
      clear h1 h2
      refine zr_iload_n C 2 dX4_piece_19 rfl rfl ?_
      refine zr_iconst C 1 dX4_piece_20 (by decide) ?_
      obtain ⟨h1, h2⟩ := h
      refine zr_icmp_lt C 36 dX4_piece_21 (by decide) (fun hc => ?_) (fun hc => ?_)
      · have h := h1 hc
        clear h1 h2
        exact zr_throw C th_X4_56_60_110 (fun x hx => (hxt x hx).elim) h dX4_piece_36 dX4_piece_39 dX4_piece_40 dX4_piece_42 dX4_piece_45 (by decide) (Nat.le_of_ble_eq_true rfl) ⟨(Nat.le_of_ble_eq_true rfl), (Nat.le_of_ble_eq_true rfl)⟩ ⟨(Nat.le_of_ble_eq_true rfl), (Nat.le_of_ble_eq_true rfl)⟩
      · have h := h2 hc
        clear h1 h2
        refine zr_iload_n C 2 dX4_piece_24 rfl rfl ?_
        refine zr_aload_n C 0 dX4_piece_25 rfl rfl ?_
        obtain ⟨hT1, x3, hv2, h⟩ := h
        refine zr_get C fl_X4_10 hT1 hv2 dX4_piece_26 ?_
        obtain ⟨hT4, h⟩ := h
        refine zr_callV (As := []) (r := (RJx4a65c, TJx4a65c, 3)) C (k_Jx4a65c_size_8abf5 h) ok_X4_30 zq_112 zq_113 hT4 (by decide) rfl rfl ⟨by decide, (Nat.le_of_ble_eq_true rfl)⟩ ⟨(Nat.le_of_ble_eq_true rfl), (Nat.le_of_ble_eq_true rfl)⟩ (Nat.le_of_ble_eq_true rfl) dX4_piece_29 (fun v85 U86 G87 hq => ?_)
        clear h
        · obtain ⟨r5, rfl, rfl, rfl, h⟩ := hq
          refine zr_ishr C dX4_piece_32 ?_
          obtain ⟨h1, h2⟩ := h
          refine zr_if_eq C 46 dX4_piece_33 (by decide) (fun hc => ?_) (fun hc => ?_)
          · have h := h1 hc
            clear h1 h2
            refine zr_aload_n C 0 dX4_piece_46 rfl rfl ?_
            obtain ⟨x7, hv6, h⟩ := h
            refine zr_get C fl_X4_23 hT1 hv6 dX4_piece_47 ?_
            obtain ⟨hT8, x10, hv9, h⟩ := h
            refine zr_get C fl_X4_112 hT8 hv9 dX4_piece_50 ?_
            obtain ⟨hT11, h⟩ := h
            refine zr_callV (As := []) (r := (RJx4a65c, TJx4a65c, 3)) C (k_Jx4a65c_size_8abf5 h) ok_X4_30 zq_112 zq_113 hT11 (by decide) rfl rfl ⟨by decide, (Nat.le_of_ble_eq_true rfl)⟩ ⟨(Nat.le_of_ble_eq_true rfl), (Nat.le_of_ble_eq_true rfl)⟩ (Nat.le_of_ble_eq_true rfl) dX4_piece_53 (fun v82 U83 G84 hq => ?_)
            clear h
            · obtain ⟨r12, rfl, rfl, rfl, h⟩ := hq
              refine zr_bipush C 12 dX4_piece_56 (by decide) ?_
              obtain ⟨h1, h2⟩ := h
              refine zr_icmp_lt C 71 dX4_piece_58 (by decide) (fun hc => ?_) (fun hc => ?_)
              · have h := h1 hc
                clear h1 h2
                refine zr_new C nw_X4_117 (Nat.le_of_ble_eq_true rfl) (Nat.le_of_ble_eq_true rfl) dX4_piece_71 (fun q13 hq14 => ?_)
                have h := h q13 hq14
                refine zr_dup C dX4_piece_74 rfl ?_
                refine zr_aload_n C 0 dX4_piece_75 rfl rfl ?_
                obtain ⟨hT15, x17, hv16, h⟩ := h
                refine zr_get C fl_X4_23 hT15 hv16 dX4_piece_76 ?_
                obtain ⟨hT18, x20, hv19, h⟩ := h
                refine zr_get C fl_X4_112 hT18 hv19 dX4_piece_79 ?_
                obtain ⟨hT21, h⟩ := h
                refine zr_callV (As := []) (r := (RJx4a65c, TJx4a65c, 3)) C (k_Jx4a65c_size_8abf5 h) ok_X4_30 zq_112 zq_113 hT21 (by decide) rfl rfl ⟨by decide, (Nat.le_of_ble_eq_true rfl)⟩ ⟨(Nat.le_of_ble_eq_true rfl), (Nat.le_of_ble_eq_true rfl)⟩ (Nat.le_of_ble_eq_true rfl) dX4_piece_82 (fun v79 U80 G81 hq => ?_)
                clear h
                · obtain ⟨r22, rfl, rfl, rfl, h⟩ := hq
                  refine zr_iload_n C 1 dX4_piece_85 rfl rfl ?_
                  refine zr_iload_n C 2 dX4_piece_86 rfl rfl ?_
                  refine zr_callI (As := [.int r22, .int p1, .int p2]) C (k_X2_init h) ok_X4_119 zq_348 rfl rfl ⟨by decide, (Nat.le_of_ble_eq_true rfl)⟩ ⟨(Nat.le_of_ble_eq_true rfl), (Nat.le_of_ble_eq_true rfl)⟩ (Nat.le_of_ble_eq_true rfl) dX4_piece_87 (fun v76 U77 G78 hq => ?_)
                  clear h
                  · obtain ⟨rfl, h⟩ := hq
                    skip
                    refine zr_astore_n C [(3, .ref q13), (0, .ref a0), (1, .int p1), (2, .int p2)] dX4_piece_90 rfl (by decide) rfl ?_
                    refine zr_iconst C 0 dX4_piece_91 (by decide) ?_
                    refine zr_istore C [(4, .int 0), (3, .ref q13), (0, .ref a0), (1, .int p1), (2, .int p2)] dX4_piece_92 (by decide) rfl ?_
                    obtain ⟨I25, ⟨n27, hb32, h074⟩, hI73⟩ := h
                    have ky75 : ∀ (n26 : Nat) (y28 : Int32) (T29 : zT) (F30 : zF), n26 ≤ 16 → I25 n26 y28 T29 F30 → z_w p l e ({ frames := 7, cells := 44, slots := 982, locals := 163 } : Room) s m args below meth c D cA N0 5 (7 + (16 - n26) * 2) (76 + (16 - n26) * 50) (vx_MQ below (z_Qc D cA N0 (fun v T' F' => ∃ r : Int32, v = some (.int r) ∧ Post r T' F')) (z_XC D cA N0 (fun E T' F' => PX E T' F')) args s 44 982 (fun q => N0 ≤ q)) 94 [(0, .ref a0), (1, .int p1), (2, .int p2), (3, .ref q13), (4, .int y28)] [] T29 F30 := by
                      intro n26
                      induction n26 using Nat.strongRecOn with
                      | _ n26 ih31 =>
                        intro y28 T29 F30 hb32 hin
                        have h := hI73 n26 y28 T29 F30 hb32 hin
                        refine zr_iload C 4 dX4_piece_94 rfl ?_
                        refine zr_aload_n C 0 dX4_piece_96 rfl rfl ?_
                        obtain ⟨hT33, x35, hv34, h⟩ := h
                        refine zr_get C fl_X4_10 hT33 hv34 dX4_piece_97 ?_
                        obtain ⟨hT36, h⟩ := h
                        refine zr_callV (As := []) (r := (RJx4a65c, TJx4a65c, 3)) C (k_Jx4a65c_size_8abf5 h) ok_X4_30 zq_112 zq_113 hT36 (by decide) rfl rfl ⟨by decide, (Nat.le_of_ble_eq_true rfl)⟩ ⟨(by show 7 + (16 - n26) * 2 + 0 ≤ 44; omega), (by show 76 + (16 - n26) * 50 + 0 ≤ 982; omega)⟩ (Nat.le_of_ble_eq_true rfl) dX4_piece_100 (fun v70 U71 G72 hq => ?_)
                        clear h
                        · obtain ⟨r37, rfl, rfl, rfl, h⟩ := hq
                          obtain ⟨h1, h2⟩ := h
                          refine zr_icmp_ge C 141 dX4_piece_103 (by decide) (fun hc => ?_) (fun hc => ?_)
                          · have h := h1 hc
                            clear h1 h2
                            refine zr_aload_n C 0 dX4_piece_141 rfl rfl ?_
                            obtain ⟨x39, hv38, h⟩ := h
                            refine zr_get C fl_X4_23 hT33 hv38 dX4_piece_142 ?_
                            obtain ⟨hT40, x42, hv41, h⟩ := h
                            refine zr_get C fl_X4_112 hT40 hv41 dX4_piece_145 ?_
                            refine zr_aload_n C 3 dX4_piece_148 rfl rfl ?_
                            obtain ⟨hT43, h⟩ := h
                            refine zr_callV (As := [.ref q13]) (r := (RJx4a65c, TJx4a65c, 3)) C (k_Jx4a65c_add_9ea2d h) ok_X4_44 zq_210 zq_211 hT43 (by decide) rfl rfl ⟨by decide, (Nat.le_of_ble_eq_true rfl)⟩ ⟨(by show 7 + (16 - n26) * 2 + 0 + 2 ≤ 44; omega), (by show 76 + (16 - n26) * 50 + 0 + 50 ≤ 982; omega)⟩ (Nat.le_of_ble_eq_true rfl) dX4_piece_149 (fun v50 U51 G52 hq => ?_)
                            clear h
                            · obtain ⟨r44, rfl, h⟩ := hq
                              skip
                              refine zr_pop C dX4_piece_152 rfl ?_
                              refine zr_aload_n C 3 dX4_piece_153 rfl rfl ?_
                              obtain ⟨hT47, x49, hv48, h⟩ := h
                              refine zr_get C fl_X4_128 hT47 hv48 dX4_piece_154 ?_
                              exact zr_X (zr_iret C rfl ⟨_, rfl, h⟩ (by show 7 + (16 - n26) * 2 + 0 + 2 ≤ 44; omega) (by show 76 + (16 - n26) * 50 + 0 + 50 ≤ 982; omega) dX4_piece_157)
                          · have h := h2 hc
                            clear h1 h2
                            refine zr_iload_n C 2 dX4_piece_106 rfl rfl ?_
                            refine zr_iload C 4 dX4_piece_107 rfl ?_
                            refine zr_ishr C dX4_piece_109 ?_
                            refine zr_iconst C 1 dX4_piece_110 (by decide) ?_
                            refine zr_iand C dX4_piece_111 ?_
                            obtain ⟨h1, h2⟩ := h
                            refine zr_if_eq C 135 dX4_piece_112 (by decide) (fun hc => ?_) (fun hc => ?_)
                            · have h := h1 hc
                              clear h1 h2
                              refine zr_iinc C [(4, .int (y28 + 1)), (0, .ref a0), (1, .int p1), (2, .int p2), (3, .ref q13)] 4 dX4_piece_135 rfl rfl (by decide) rfl ?_
                              refine zr_goto C 94 dX4_piece_138 (by decide) ?_
                              obtain ⟨n53, hlt, h⟩ := h
                              exact zr_widen (by show 7 + (16 - n26) * 2 + 0 ≤ 7 + (16 - n53) * 2; omega) (by show 76 + (16 - n26) * 50 + 0 ≤ 76 + (16 - n53) * 50; omega) (zr_sub [1, 2, 3, 4, 0] rfl (ih31 n53 hlt (y28 + 1) T29 F30 (by omega) h))
                            · have h := h2 hc
                              clear h1 h2
                              refine zr_aload_n C 3 dX4_piece_115 rfl rfl ?_
                              obtain ⟨hT54, x56, hv55, h⟩ := h
                              refine zr_get C fl_X4_121 hT54 hv55 dX4_piece_116 ?_
                              refine zr_aload_n C 0 dX4_piece_119 rfl rfl ?_
                              refine zr_get C fl_X4_10 hT33 hv34 dX4_piece_120 ?_
                              refine zr_iload C 4 dX4_piece_123 rfl ?_
                              refine zr_callV (As := [.int y28]) (r := (RJx4a65c, TJx4a65c, 3)) C (k_Jx4a65c_get_915e3 h) ok_X4_124 zq_290 zq_291 hT36 (by decide) rfl rfl ⟨by decide, (Nat.le_of_ble_eq_true rfl)⟩ ⟨(by show 7 + (16 - n26) * 2 + 0 + 0 ≤ 44; omega), (by show 76 + (16 - n26) * 50 + 0 + 0 ≤ 982; omega)⟩ (Nat.le_of_ble_eq_true rfl) dX4_piece_125 (fun v67 U68 G69 hq => ?_)
                              clear h
                              · obtain ⟨r57, rfl, rfl, rfl, h⟩ := hq
                                obtain ⟨hT58, h⟩ := h
                                refine zr_castS (r := (RX0, TX0, 5)) C hT58 (by decide) rfl zq_183 dX4_piece_128 ?_
                                obtain ⟨hT59, h⟩ := h
                                refine zr_callV (As := [.ref r57]) (r := (RJx4a65c, TJx4a65c, 3)) C (k_Jx4a65c_add_9ea2d h) ok_X4_44 zq_210 zq_211 hT59 (by decide) rfl rfl ⟨by decide, (Nat.le_of_ble_eq_true rfl)⟩ ⟨(by show 7 + (16 - n26) * 2 + 0 + 0 + 2 ≤ 44; omega), (by show 76 + (16 - n26) * 50 + 0 + 0 + 50 ≤ 982; omega)⟩ (Nat.le_of_ble_eq_true rfl) dX4_piece_131 (fun v64 U65 G66 hq => ?_)
                                clear h
                                · obtain ⟨r60, rfl, h⟩ := hq
                                  skip
                                  refine zr_pop C dX4_piece_134 rfl ?_
                                  refine zr_iinc C [(4, .int (y28 + 1)), (0, .ref a0), (1, .int p1), (2, .int p2), (3, .ref q13)] 4 dX4_piece_135 rfl rfl (by decide) rfl ?_
                                  refine zr_goto C 94 dX4_piece_138 (by decide) ?_
                                  obtain ⟨n63, hlt, h⟩ := h
                                  exact zr_widen (by show 7 + (16 - n26) * 2 + 0 + 0 + 2 ≤ 7 + (16 - n63) * 2; omega) (by show 76 + (16 - n26) * 50 + 0 + 0 + 50 ≤ 76 + (16 - n63) * 50; omega) (zr_sub [1, 2, 3, 4, 0] rfl (ih31 n63 hlt (y28 + 1) U65 G66 (by omega) h))
                    exact zr_widen (by show 7 ≤ 7 + (16 - n27) * 2; omega) (by show 76 ≤ 76 + (16 - n27) * 50; omega) (zr_sub [2, 3, 4, 1, 0] rfl (ky75 n27 0 U77 G78 hb32 h074))
              · have h := h2 hc
                clear h1 h2
                exact zr_throw C th_X4_34_38_115 (fun x hx => (hxt x hx).elim) h dX4_piece_61 dX4_piece_64 dX4_piece_65 dX4_piece_67 dX4_piece_70 (by decide) (Nat.le_of_ble_eq_true rfl) ⟨(Nat.le_of_ble_eq_true rfl), (Nat.le_of_ble_eq_true rfl)⟩ ⟨(Nat.le_of_ble_eq_true rfl), (Nat.le_of_ble_eq_true rfl)⟩
          · have h := h2 hc
            clear h1 h2
            exact zr_throw C th_X4_56_60_110 (fun x hx => (hxt x hx).elim) h dX4_piece_36 dX4_piece_39 dX4_piece_40 dX4_piece_42 dX4_piece_45 (by decide) (Nat.le_of_ble_eq_true rfl) ⟨(Nat.le_of_ble_eq_true rfl), (Nat.le_of_ble_eq_true rfl)⟩ ⟨(Nat.le_of_ble_eq_true rfl), (Nat.le_of_ble_eq_true rfl)⟩
    · have h := h2 hc
      clear h1 h2
      exact zr_throw C th_X4_56_60_108 (fun x hx => (hxt x hx).elim) h dX4_piece_9 dX4_piece_12 dX4_piece_13 dX4_piece_15 dX4_piece_18 (by decide) (Nat.le_of_ble_eq_true rfl) ⟨(Nat.le_of_ble_eq_true rfl), (Nat.le_of_ble_eq_true rfl)⟩ ⟨(Nat.le_of_ble_eq_true rfl), (Nat.le_of_ble_eq_true rfl)⟩
set_option maxRecDepth 100000 in
set_option maxHeartbeats 4000000 in
theorem k_X4_piece0 {l : Launch} {D : va_G} {cA : Nat → ClassId} {N0 zE : Nat} {a0 : Nat} {p1 : Int32} {p2 : Int32} {T : zT} {F : zF} {Post : Int32 → zT → zF → Prop} (h : v_X4_piece zE a0 p1 p2 T F Post (fun _ _ _ => False)) : z_Mt l D cA N0 zE yX4_piece cX4_piece 5 (some .int) ({ frames := 7, cells := 43, slots := 976, locals := 163 } : Room) [.ref a0, .int p1, .int p2] T F (fun v T' F' => ∃ r : Int32, v = some (.int r) ∧ Post r T' F') := by
  unfold v_X4_piece at h
  refine z_bodyT (by decide) (Nat.le_of_ble_eq_true rfl) ?_
  intro p e s m args below meth c C hnm
  have C : z_C p l s m args meth c RX4 cX4_piece 5 (some .int) D cA N0 zE := C
  show z_w p l e ({ frames := 7, cells := 43, slots := 976, locals := 163 } : Room) s m args below meth c D cA N0 5 0 0 (MQ below (z_Qc D cA N0 (fun v T' F' => ∃ r : Int32, v = some (.int r) ∧ Post r T' F')) args s 43 976 (fun q => N0 ≤ q)) 0 [(0, .ref a0), (1, .int p1), (2, .int p2)] [] T F
  refine zr_iload_n C 1 dX4_piece_0 rfl rfl ?_
  obtain ⟨h1, h2⟩ := h
  refine zr_if_lt C 9 dX4_piece_1 (by decide) (fun hc => ?_) (fun hc => ?_)
  · have h := h1 hc
    clear h1 h2
    exact h.elim
  · have h := h2 hc
    clear h1 h2
    refine zr_iload_n C 1 dX4_piece_4 rfl rfl ?_
    refine zr_iconst C 3 dX4_piece_5 (by decide) ?_
    obtain ⟨h1, h2⟩ := h
    refine zr_icmp_lt C 19 dX4_piece_6 (by decide) (fun hc => ?_) (fun hc => ?_)
    · have h := h1 hc
      clear h1 h2
      refine zr_iload_n C 2 dX4_piece_19 rfl rfl ?_
      refine zr_iconst C 1 dX4_piece_20 (by decide) ?_
      obtain ⟨h1, h2⟩ := h
      refine zr_icmp_lt C 36 dX4_piece_21 (by decide) (fun hc => ?_) (fun hc => ?_)
      · have h := h1 hc
        clear h1 h2
        exact h.elim
      · have h := h2 hc
        clear h1 h2
        refine zr_iload_n C 2 dX4_piece_24 rfl rfl ?_
        refine zr_aload_n C 0 dX4_piece_25 rfl rfl ?_
        obtain ⟨hT1, x3, hv2, h⟩ := h
        refine zr_get C fl_X4_10 hT1 hv2 dX4_piece_26 ?_
        obtain ⟨hT4, h⟩ := h
        refine zr_callV (As := []) (r := (RJx4a65c, TJx4a65c, 3)) C (k_Jx4a65c_size_8abf5 h) ok_X4_30 zq_112 zq_113 hT4 (by decide) rfl rfl ⟨by decide, (Nat.le_of_ble_eq_true rfl)⟩ ⟨(Nat.le_of_ble_eq_true rfl), (Nat.le_of_ble_eq_true rfl)⟩ (Nat.le_of_ble_eq_true rfl) dX4_piece_29 (fun v85 U86 G87 hq => ?_)
        clear h
        · obtain ⟨r5, rfl, rfl, rfl, h⟩ := hq
          refine zr_ishr C dX4_piece_32 ?_
          obtain ⟨h1, h2⟩ := h
          refine zr_if_eq C 46 dX4_piece_33 (by decide) (fun hc => ?_) (fun hc => ?_)
          · have h := h1 hc
            clear h1 h2
            refine zr_aload_n C 0 dX4_piece_46 rfl rfl ?_
            obtain ⟨x7, hv6, h⟩ := h
            refine zr_get C fl_X4_23 hT1 hv6 dX4_piece_47 ?_
            obtain ⟨hT8, x10, hv9, h⟩ := h
            refine zr_get C fl_X4_112 hT8 hv9 dX4_piece_50 ?_
            obtain ⟨hT11, h⟩ := h
            refine zr_callV (As := []) (r := (RJx4a65c, TJx4a65c, 3)) C (k_Jx4a65c_size_8abf5 h) ok_X4_30 zq_112 zq_113 hT11 (by decide) rfl rfl ⟨by decide, (Nat.le_of_ble_eq_true rfl)⟩ ⟨(Nat.le_of_ble_eq_true rfl), (Nat.le_of_ble_eq_true rfl)⟩ (Nat.le_of_ble_eq_true rfl) dX4_piece_53 (fun v82 U83 G84 hq => ?_)
            clear h
            · obtain ⟨r12, rfl, rfl, rfl, h⟩ := hq
              refine zr_bipush C 12 dX4_piece_56 (by decide) ?_
              obtain ⟨h1, h2⟩ := h
              refine zr_icmp_lt C 71 dX4_piece_58 (by decide) (fun hc => ?_) (fun hc => ?_)
              · have h := h1 hc
                clear h1 h2
                refine zr_new C nw_X4_117 (Nat.le_of_ble_eq_true rfl) (Nat.le_of_ble_eq_true rfl) dX4_piece_71 (fun q13 hq14 => ?_)
                have h := h q13 hq14
                refine zr_dup C dX4_piece_74 rfl ?_
                refine zr_aload_n C 0 dX4_piece_75 rfl rfl ?_
                obtain ⟨hT15, x17, hv16, h⟩ := h
                refine zr_get C fl_X4_23 hT15 hv16 dX4_piece_76 ?_
                obtain ⟨hT18, x20, hv19, h⟩ := h
                refine zr_get C fl_X4_112 hT18 hv19 dX4_piece_79 ?_
                obtain ⟨hT21, h⟩ := h
                refine zr_callV (As := []) (r := (RJx4a65c, TJx4a65c, 3)) C (k_Jx4a65c_size_8abf5 h) ok_X4_30 zq_112 zq_113 hT21 (by decide) rfl rfl ⟨by decide, (Nat.le_of_ble_eq_true rfl)⟩ ⟨(Nat.le_of_ble_eq_true rfl), (Nat.le_of_ble_eq_true rfl)⟩ (Nat.le_of_ble_eq_true rfl) dX4_piece_82 (fun v79 U80 G81 hq => ?_)
                clear h
                · obtain ⟨r22, rfl, rfl, rfl, h⟩ := hq
                  refine zr_iload_n C 1 dX4_piece_85 rfl rfl ?_
                  refine zr_iload_n C 2 dX4_piece_86 rfl rfl ?_
                  refine zr_callI (As := [.int r22, .int p1, .int p2]) C (k_X2_init h) ok_X4_119 zq_348 rfl rfl ⟨by decide, (Nat.le_of_ble_eq_true rfl)⟩ ⟨(Nat.le_of_ble_eq_true rfl), (Nat.le_of_ble_eq_true rfl)⟩ (Nat.le_of_ble_eq_true rfl) dX4_piece_87 (fun v76 U77 G78 hq => ?_)
                  clear h
                  · obtain ⟨rfl, h⟩ := hq
                    skip
                    refine zr_astore_n C [(3, .ref q13), (0, .ref a0), (1, .int p1), (2, .int p2)] dX4_piece_90 rfl (by decide) rfl ?_
                    refine zr_iconst C 0 dX4_piece_91 (by decide) ?_
                    refine zr_istore C [(4, .int 0), (3, .ref q13), (0, .ref a0), (1, .int p1), (2, .int p2)] dX4_piece_92 (by decide) rfl ?_
                    obtain ⟨I25, ⟨n27, hb32, h074⟩, hI73⟩ := h
                    have ky75 : ∀ (n26 : Nat) (y28 : Int32) (T29 : zT) (F30 : zF), n26 ≤ 16 → I25 n26 y28 T29 F30 → z_w p l e ({ frames := 7, cells := 43, slots := 976, locals := 163 } : Room) s m args below meth c D cA N0 5 (7 + (16 - n26) * 2) (76 + (16 - n26) * 50) (MQ below (z_Qc D cA N0 (fun v T' F' => ∃ r : Int32, v = some (.int r) ∧ Post r T' F')) args s 43 976 (fun q => N0 ≤ q)) 94 [(0, .ref a0), (1, .int p1), (2, .int p2), (3, .ref q13), (4, .int y28)] [] T29 F30 := by
                      intro n26
                      induction n26 using Nat.strongRecOn with
                      | _ n26 ih31 =>
                        intro y28 T29 F30 hb32 hin
                        have h := hI73 n26 y28 T29 F30 hb32 hin
                        refine zr_iload C 4 dX4_piece_94 rfl ?_
                        refine zr_aload_n C 0 dX4_piece_96 rfl rfl ?_
                        obtain ⟨hT33, x35, hv34, h⟩ := h
                        refine zr_get C fl_X4_10 hT33 hv34 dX4_piece_97 ?_
                        obtain ⟨hT36, h⟩ := h
                        refine zr_callV (As := []) (r := (RJx4a65c, TJx4a65c, 3)) C (k_Jx4a65c_size_8abf5 h) ok_X4_30 zq_112 zq_113 hT36 (by decide) rfl rfl ⟨by decide, (Nat.le_of_ble_eq_true rfl)⟩ ⟨(by show 7 + (16 - n26) * 2 + 0 ≤ 43; omega), (by show 76 + (16 - n26) * 50 + 0 ≤ 976; omega)⟩ (Nat.le_of_ble_eq_true rfl) dX4_piece_100 (fun v70 U71 G72 hq => ?_)
                        clear h
                        · obtain ⟨r37, rfl, rfl, rfl, h⟩ := hq
                          obtain ⟨h1, h2⟩ := h
                          refine zr_icmp_ge C 141 dX4_piece_103 (by decide) (fun hc => ?_) (fun hc => ?_)
                          · have h := h1 hc
                            clear h1 h2
                            refine zr_aload_n C 0 dX4_piece_141 rfl rfl ?_
                            obtain ⟨x39, hv38, h⟩ := h
                            refine zr_get C fl_X4_23 hT33 hv38 dX4_piece_142 ?_
                            obtain ⟨hT40, x42, hv41, h⟩ := h
                            refine zr_get C fl_X4_112 hT40 hv41 dX4_piece_145 ?_
                            refine zr_aload_n C 3 dX4_piece_148 rfl rfl ?_
                            obtain ⟨hT43, h⟩ := h
                            refine zr_callV (As := [.ref q13]) (r := (RJx4a65c, TJx4a65c, 3)) C (k_Jx4a65c_add_9ea2d h) ok_X4_44 zq_210 zq_211 hT43 (by decide) rfl rfl ⟨by decide, (Nat.le_of_ble_eq_true rfl)⟩ ⟨(by show 7 + (16 - n26) * 2 + 0 + 2 ≤ 43; omega), (by show 76 + (16 - n26) * 50 + 0 + 50 ≤ 976; omega)⟩ (Nat.le_of_ble_eq_true rfl) dX4_piece_149 (fun v50 U51 G52 hq => ?_)
                            clear h
                            · obtain ⟨r44, rfl, h⟩ := hq
                              skip
                              refine zr_pop C dX4_piece_152 rfl ?_
                              refine zr_aload_n C 3 dX4_piece_153 rfl rfl ?_
                              obtain ⟨hT47, x49, hv48, h⟩ := h
                              refine zr_get C fl_X4_128 hT47 hv48 dX4_piece_154 ?_
                              exact zr_iret C rfl ⟨_, rfl, h⟩ (by show 7 + (16 - n26) * 2 + 0 + 2 ≤ 43; omega) (by show 76 + (16 - n26) * 50 + 0 + 50 ≤ 976; omega) dX4_piece_157
                          · have h := h2 hc
                            clear h1 h2
                            refine zr_iload_n C 2 dX4_piece_106 rfl rfl ?_
                            refine zr_iload C 4 dX4_piece_107 rfl ?_
                            refine zr_ishr C dX4_piece_109 ?_
                            refine zr_iconst C 1 dX4_piece_110 (by decide) ?_
                            refine zr_iand C dX4_piece_111 ?_
                            obtain ⟨h1, h2⟩ := h
                            refine zr_if_eq C 135 dX4_piece_112 (by decide) (fun hc => ?_) (fun hc => ?_)
                            · have h := h1 hc
                              clear h1 h2
                              refine zr_iinc C [(4, .int (y28 + 1)), (0, .ref a0), (1, .int p1), (2, .int p2), (3, .ref q13)] 4 dX4_piece_135 rfl rfl (by decide) rfl ?_
                              refine zr_goto C 94 dX4_piece_138 (by decide) ?_
                              obtain ⟨n53, hlt, h⟩ := h
                              exact zr_widen (by show 7 + (16 - n26) * 2 + 0 ≤ 7 + (16 - n53) * 2; omega) (by show 76 + (16 - n26) * 50 + 0 ≤ 76 + (16 - n53) * 50; omega) (zr_sub [1, 2, 3, 4, 0] rfl (ih31 n53 hlt (y28 + 1) T29 F30 (by omega) h))
                            · have h := h2 hc
                              clear h1 h2
                              refine zr_aload_n C 3 dX4_piece_115 rfl rfl ?_
                              obtain ⟨hT54, x56, hv55, h⟩ := h
                              refine zr_get C fl_X4_121 hT54 hv55 dX4_piece_116 ?_
                              refine zr_aload_n C 0 dX4_piece_119 rfl rfl ?_
                              refine zr_get C fl_X4_10 hT33 hv34 dX4_piece_120 ?_
                              refine zr_iload C 4 dX4_piece_123 rfl ?_
                              refine zr_callV (As := [.int y28]) (r := (RJx4a65c, TJx4a65c, 3)) C (k_Jx4a65c_get_915e3 h) ok_X4_124 zq_290 zq_291 hT36 (by decide) rfl rfl ⟨by decide, (Nat.le_of_ble_eq_true rfl)⟩ ⟨(by show 7 + (16 - n26) * 2 + 0 + 0 ≤ 43; omega), (by show 76 + (16 - n26) * 50 + 0 + 0 ≤ 976; omega)⟩ (Nat.le_of_ble_eq_true rfl) dX4_piece_125 (fun v67 U68 G69 hq => ?_)
                              clear h
                              · obtain ⟨r57, rfl, rfl, rfl, h⟩ := hq
                                obtain ⟨hT58, h⟩ := h
                                refine zr_castS (r := (RX0, TX0, 5)) C hT58 (by decide) rfl zq_183 dX4_piece_128 ?_
                                obtain ⟨hT59, h⟩ := h
                                refine zr_callV (As := [.ref r57]) (r := (RJx4a65c, TJx4a65c, 3)) C (k_Jx4a65c_add_9ea2d h) ok_X4_44 zq_210 zq_211 hT59 (by decide) rfl rfl ⟨by decide, (Nat.le_of_ble_eq_true rfl)⟩ ⟨(by show 7 + (16 - n26) * 2 + 0 + 0 + 2 ≤ 43; omega), (by show 76 + (16 - n26) * 50 + 0 + 0 + 50 ≤ 976; omega)⟩ (Nat.le_of_ble_eq_true rfl) dX4_piece_131 (fun v64 U65 G66 hq => ?_)
                                clear h
                                · obtain ⟨r60, rfl, h⟩ := hq
                                  skip
                                  refine zr_pop C dX4_piece_134 rfl ?_
                                  refine zr_iinc C [(4, .int (y28 + 1)), (0, .ref a0), (1, .int p1), (2, .int p2), (3, .ref q13)] 4 dX4_piece_135 rfl rfl (by decide) rfl ?_
                                  refine zr_goto C 94 dX4_piece_138 (by decide) ?_
                                  obtain ⟨n63, hlt, h⟩ := h
                                  exact zr_widen (by show 7 + (16 - n26) * 2 + 0 + 0 + 2 ≤ 7 + (16 - n63) * 2; omega) (by show 76 + (16 - n26) * 50 + 0 + 0 + 50 ≤ 76 + (16 - n63) * 50; omega) (zr_sub [1, 2, 3, 4, 0] rfl (ih31 n63 hlt (y28 + 1) U65 G66 (by omega) h))
                    exact zr_widen (by show 7 ≤ 7 + (16 - n27) * 2; omega) (by show 76 ≤ 76 + (16 - n27) * 50; omega) (zr_sub [2, 3, 4, 1, 0] rfl (ky75 n27 0 U77 G78 hb32 h074))
              · have h := h2 hc
                clear h1 h2
                exact h.elim
          · have h := h2 hc
            clear h1 h2
            exact h.elim
    · have h := h2 hc
      clear h1 h2
      exact h.elim
theorem dX4_pieceAt_0 : decode cX4_pieceAt 0 = .ok (.iload_n 1, 1) := by decide +kernel
theorem dX4_pieceAt_1 : decode cX4_pieceAt 1 = .ok (.ifCond .lt 17, 3) := by decide +kernel
theorem dX4_pieceAt_18 : decode cX4_pieceAt 18 = .ok (.new 307, 3) := by decide +kernel
theorem dX4_pieceAt_21 : decode cX4_pieceAt 21 = .ok (.dup, 1) := by decide +kernel
theorem dX4_pieceAt_22 : decode cX4_pieceAt 22 = .ok (.ldc_w 359, 3) := by decide +kernel
theorem dX4_pieceAt_25 : decode cX4_pieceAt 25 = .ok (.invokespecial 309, 3) := by decide +kernel
theorem dX4_pieceAt_28 : decode cX4_pieceAt 28 = .ok (.athrow, 1) := by decide +kernel
theorem dX4_pieceAt_4 : decode cX4_pieceAt 4 = .ok (.iload_n 1, 1) := by decide +kernel
theorem dX4_pieceAt_5 : decode cX4_pieceAt 5 = .ok (.aload_n 0, 1) := by decide +kernel
theorem dX4_pieceAt_6 : decode cX4_pieceAt 6 = .ok (.getfield 23, 3) := by decide +kernel
theorem dX4_pieceAt_9 : decode cX4_pieceAt 9 = .ok (.getfield 112, 3) := by decide +kernel
theorem dX4_pieceAt_15 : decode cX4_pieceAt 15 = .ok (.if_icmp .lt 14, 3) := by decide +kernel
theorem dX4_pieceAt_29 : decode cX4_pieceAt 29 = .ok (.aload_n 0, 1) := by decide +kernel
theorem dX4_pieceAt_30 : decode cX4_pieceAt 30 = .ok (.getfield 23, 3) := by decide +kernel
theorem dX4_pieceAt_33 : decode cX4_pieceAt 33 = .ok (.getfield 112, 3) := by decide +kernel
theorem dX4_pieceAt_36 : decode cX4_pieceAt 36 = .ok (.iload_n 1, 1) := by decide +kernel
theorem dX4_pieceAt_40 : decode cX4_pieceAt 40 = .ok (.checkcast 117, 3) := by decide +kernel
theorem dX4_pieceAt_43 : decode cX4_pieceAt 43 = .ok (.areturn, 1) := by decide +kernel
theorem dX4_pieceAt_37 : decode cX4_pieceAt 37 = .ok (.invokevirtual 124, 3) := by decide +kernel
theorem dX4_pieceAt_12 : decode cX4_pieceAt 12 = .ok (.invokevirtual 30, 3) := by decide +kernel
def v_X4_pieceAt (a0 : Nat) (p1 : Int32) (T : zT) (F : zF) (Post : Nat → Prop) (PX : String → Prop) : Prop :=
  ((p1 < 0 → PX "java/lang/IndexOutOfBoundsException") ∧ (¬ p1 < 0 → (T a0 = some (5, 4) ∧ ∃ x3 : Nat, F a0 2 = .ref x3 ∧ T x3 = some (4, 3) ∧ ∃ x6 : Nat, F x3 1 = .ref x6 ∧ T x6 = some (0, 3) ∧ (v_Jx4a65c_size_8abf5 x6 T F (fun (r8 : Int32) => ((p1 < r8 → (v_Jx4a65c_get_915e3 x6 p1 T F (fun (r9 : Nat) => (T r9 = some (3, 5) ∧ Post r9)))) ∧ (¬ p1 < r8 → PX "java/lang/IndexOutOfBoundsException")))))))
set_option maxRecDepth 100000 in
set_option maxHeartbeats 4000000 in
theorem k_X4_pieceAt {l : Launch} {D : va_G} {cA : Nat → ClassId} {N0 zE : Nat} {a0 : Nat} {p1 : Int32} {T : zT} {F : zF} {Post : Nat → Prop} {PX : String → Prop} (h : v_X4_pieceAt a0 p1 T F Post PX) : z_Met l D cA N0 zE yX4_pieceAt cX4_pieceAt 2 (some (.object "BrandRoom$Piece")) ({ frames := 6, cells := 1, slots := 6, locals := 90 } : Room) [.ref a0, .int p1] T F (fun v T' F' => ∃ r : Nat, v = some (.ref r) ∧ T = T' ∧ F = F' ∧ Post r) (fun E T' F' => T = T' ∧ F = F' ∧ PX E) := by
  unfold v_X4_pieceAt at h
  refine z_body (by decide) (Nat.le_of_ble_eq_true rfl) ?_
  intro p e s m args below meth c C hxt hnm
  have C : z_C p l s m args meth c RX4 cX4_pieceAt 2 (some (.object "BrandRoom$Piece")) D cA N0 zE := C
  show z_w p l e ({ frames := 6, cells := 1, slots := 6, locals := 90 } : Room) s m args below meth c D cA N0 2 0 0 (vx_MQ below (z_Qc D cA N0 (fun v T' F' => ∃ r : Nat, v = some (.ref r) ∧ T = T' ∧ F = F' ∧ Post r)) (z_XC D cA N0 (fun E T' F' => T = T' ∧ F = F' ∧ PX E)) args s 1 6 (fun q => N0 ≤ q)) 0 [(0, .ref a0), (1, .int p1)] [] T F
  refine zr_iload_n C 1 dX4_pieceAt_0 rfl rfl ?_
  obtain ⟨h1, h2⟩ := h
  refine zr_if_lt C 18 dX4_pieceAt_1 (by decide) (fun hc => ?_) (fun hc => ?_)
  · have h := h1 hc
    clear h1 h2
    exact zr_throwW C th_X4_307_309_359 (fun x hx => (hxt x hx).elim) ⟨rfl, rfl, h⟩ dX4_pieceAt_18 dX4_pieceAt_21 dX4_pieceAt_22 dX4_pieceAt_25 dX4_pieceAt_28 (by decide) (Nat.le_of_ble_eq_true rfl) ⟨(Nat.le_of_ble_eq_true rfl), (Nat.le_of_ble_eq_true rfl)⟩ ⟨(Nat.le_of_ble_eq_true rfl), (Nat.le_of_ble_eq_true rfl)⟩
  · have h := h2 hc
    clear h1 h2
    refine zr_iload_n C 1 dX4_pieceAt_4 rfl rfl ?_
    refine zr_aload_n C 0 dX4_pieceAt_5 rfl rfl ?_
    obtain ⟨hT1, x3, hv2, h⟩ := h
    refine zr_get C fl_X4_23 hT1 hv2 dX4_pieceAt_6 ?_
    obtain ⟨hT4, x6, hv5, h⟩ := h
    refine zr_get C fl_X4_112 hT4 hv5 dX4_pieceAt_9 ?_
    obtain ⟨hT7, h⟩ := h
    refine zr_callV (As := []) (r := (RJx4a65c, TJx4a65c, 3)) C (k_Jx4a65c_size_8abf5 h) ok_X4_30 zq_112 zq_113 hT7 (by decide) rfl rfl ⟨by decide, (Nat.le_of_ble_eq_true rfl)⟩ ⟨(Nat.le_of_ble_eq_true rfl), (Nat.le_of_ble_eq_true rfl)⟩ (Nat.le_of_ble_eq_true rfl) dX4_pieceAt_12 (fun v14 U15 G16 hq => ?_)
    clear h
    · obtain ⟨r8, rfl, rfl, rfl, h⟩ := hq
      obtain ⟨h1, h2⟩ := h
      refine zr_icmp_lt C 29 dX4_pieceAt_15 (by decide) (fun hc => ?_) (fun hc => ?_)
      · have h := h1 hc
        clear h1 h2
        refine zr_aload_n C 0 dX4_pieceAt_29 rfl rfl ?_
        refine zr_get C fl_X4_23 hT1 hv2 dX4_pieceAt_30 ?_
        refine zr_get C fl_X4_112 hT4 hv5 dX4_pieceAt_33 ?_
        refine zr_iload_n C 1 dX4_pieceAt_36 rfl rfl ?_
        refine zr_callV (As := [.int p1]) (r := (RJx4a65c, TJx4a65c, 3)) C (k_Jx4a65c_get_915e3 h) ok_X4_124 zq_290 zq_291 hT7 (by decide) rfl rfl ⟨by decide, (Nat.le_of_ble_eq_true rfl)⟩ ⟨(Nat.le_of_ble_eq_true rfl), (Nat.le_of_ble_eq_true rfl)⟩ (Nat.le_of_ble_eq_true rfl) dX4_pieceAt_37 (fun v11 U12 G13 hq => ?_)
        clear h
        · obtain ⟨r9, rfl, rfl, rfl, h⟩ := hq
          obtain ⟨hT10, h⟩ := h
          refine zr_castS (r := (RX2, TX2, 5)) C hT10 (by decide) rfl zq_345 dX4_pieceAt_40 ?_
          exact zr_X (zr_aret C rfl (Or.inl ⟨_, rfl⟩) (Or.inr ⟨_, rfl⟩) ⟨_, rfl, rfl, rfl, h⟩ (Nat.le_of_ble_eq_true rfl) (Nat.le_of_ble_eq_true rfl) dX4_pieceAt_43)
      · have h := h2 hc
        clear h1 h2
        exact zr_throwW C th_X4_307_309_359 (fun x hx => (hxt x hx).elim) ⟨rfl, rfl, h⟩ dX4_pieceAt_18 dX4_pieceAt_21 dX4_pieceAt_22 dX4_pieceAt_25 dX4_pieceAt_28 (by decide) (Nat.le_of_ble_eq_true rfl) ⟨(Nat.le_of_ble_eq_true rfl), (Nat.le_of_ble_eq_true rfl)⟩ ⟨(Nat.le_of_ble_eq_true rfl), (Nat.le_of_ble_eq_true rfl)⟩
set_option maxRecDepth 100000 in
set_option maxHeartbeats 4000000 in
theorem k_X4_pieceAt0 {l : Launch} {D : va_G} {cA : Nat → ClassId} {N0 zE : Nat} {a0 : Nat} {p1 : Int32} {T : zT} {F : zF} {Post : Nat → Prop} (h : v_X4_pieceAt a0 p1 T F Post (fun _ => False)) : z_Mt l D cA N0 zE yX4_pieceAt cX4_pieceAt 2 (some (.object "BrandRoom$Piece")) ({ frames := 3, cells := 0, slots := 0, locals := 64 } : Room) [.ref a0, .int p1] T F (fun v T' F' => ∃ r : Nat, v = some (.ref r) ∧ T = T' ∧ F = F' ∧ Post r) := by
  unfold v_X4_pieceAt at h
  refine z_bodyT (by decide) (Nat.le_of_ble_eq_true rfl) ?_
  intro p e s m args below meth c C hnm
  have C : z_C p l s m args meth c RX4 cX4_pieceAt 2 (some (.object "BrandRoom$Piece")) D cA N0 zE := C
  show z_w p l e ({ frames := 3, cells := 0, slots := 0, locals := 64 } : Room) s m args below meth c D cA N0 2 0 0 (MQ below (z_Qc D cA N0 (fun v T' F' => ∃ r : Nat, v = some (.ref r) ∧ T = T' ∧ F = F' ∧ Post r)) args s 0 0 (fun q => N0 ≤ q)) 0 [(0, .ref a0), (1, .int p1)] [] T F
  refine zr_iload_n C 1 dX4_pieceAt_0 rfl rfl ?_
  obtain ⟨h1, h2⟩ := h
  refine zr_if_lt C 18 dX4_pieceAt_1 (by decide) (fun hc => ?_) (fun hc => ?_)
  · have h := h1 hc
    clear h1 h2
    exact h.elim
  · have h := h2 hc
    clear h1 h2
    refine zr_iload_n C 1 dX4_pieceAt_4 rfl rfl ?_
    refine zr_aload_n C 0 dX4_pieceAt_5 rfl rfl ?_
    obtain ⟨hT1, x3, hv2, h⟩ := h
    refine zr_get C fl_X4_23 hT1 hv2 dX4_pieceAt_6 ?_
    obtain ⟨hT4, x6, hv5, h⟩ := h
    refine zr_get C fl_X4_112 hT4 hv5 dX4_pieceAt_9 ?_
    obtain ⟨hT7, h⟩ := h
    refine zr_callV (As := []) (r := (RJx4a65c, TJx4a65c, 3)) C (k_Jx4a65c_size_8abf5 h) ok_X4_30 zq_112 zq_113 hT7 (by decide) rfl rfl ⟨by decide, (Nat.le_of_ble_eq_true rfl)⟩ ⟨(Nat.le_of_ble_eq_true rfl), (Nat.le_of_ble_eq_true rfl)⟩ (Nat.le_of_ble_eq_true rfl) dX4_pieceAt_12 (fun v14 U15 G16 hq => ?_)
    clear h
    · obtain ⟨r8, rfl, rfl, rfl, h⟩ := hq
      obtain ⟨h1, h2⟩ := h
      refine zr_icmp_lt C 29 dX4_pieceAt_15 (by decide) (fun hc => ?_) (fun hc => ?_)
      · have h := h1 hc
        clear h1 h2
        refine zr_aload_n C 0 dX4_pieceAt_29 rfl rfl ?_
        refine zr_get C fl_X4_23 hT1 hv2 dX4_pieceAt_30 ?_
        refine zr_get C fl_X4_112 hT4 hv5 dX4_pieceAt_33 ?_
        refine zr_iload_n C 1 dX4_pieceAt_36 rfl rfl ?_
        refine zr_callV (As := [.int p1]) (r := (RJx4a65c, TJx4a65c, 3)) C (k_Jx4a65c_get_915e3 h) ok_X4_124 zq_290 zq_291 hT7 (by decide) rfl rfl ⟨by decide, (Nat.le_of_ble_eq_true rfl)⟩ ⟨(Nat.le_of_ble_eq_true rfl), (Nat.le_of_ble_eq_true rfl)⟩ (Nat.le_of_ble_eq_true rfl) dX4_pieceAt_37 (fun v11 U12 G13 hq => ?_)
        clear h
        · obtain ⟨r9, rfl, rfl, rfl, h⟩ := hq
          obtain ⟨hT10, h⟩ := h
          refine zr_castS (r := (RX2, TX2, 5)) C hT10 (by decide) rfl zq_345 dX4_pieceAt_40 ?_
          exact zr_aret C rfl (Or.inl ⟨_, rfl⟩) (Or.inr ⟨_, rfl⟩) ⟨_, rfl, rfl, rfl, h⟩ (Nat.le_of_ble_eq_true rfl) (Nat.le_of_ble_eq_true rfl) dX4_pieceAt_43
      · have h := h2 hc
        clear h1 h2
        exact h.elim
theorem dX4_approve_0 : decode cX4_approve 0 = .ok (.aload_n 0, 1) := by decide +kernel
theorem dX4_approve_1 : decode cX4_approve 1 = .ok (.iload_n 1, 1) := by decide +kernel
theorem dX4_approve_5 : decode cX4_approve 5 = .ok (.astore_n 3, 1) := by decide +kernel
theorem dX4_approve_6 : decode cX4_approve 6 = .ok (.iload_n 2, 1) := by decide +kernel
theorem dX4_approve_10 : decode cX4_approve 10 = .ok (.aload_n 3, 1) := by decide +kernel
theorem dX4_approve_11 : decode cX4_approve 11 = .ok (.aload_n 0, 1) := by decide +kernel
theorem dX4_approve_12 : decode cX4_approve 12 = .ok (.getfield 23, 3) := by decide +kernel
theorem dX4_approve_15 : decode cX4_approve 15 = .ok (.getfield 52, 3) := by decide +kernel
theorem dX4_approve_21 : decode cX4_approve 21 = .ok (.ifCond .ne 13, 3) := by decide +kernel
theorem dX4_approve_34 : decode cX4_approve 34 = .ok (.aload_n 3, 1) := by decide +kernel
theorem dX4_approve_35 : decode cX4_approve 35 = .ok (.iload_n 2, 1) := by decide +kernel
theorem dX4_approve_36 : decode cX4_approve 36 = .ok (.aload_n 0, 1) := by decide +kernel
theorem dX4_approve_37 : decode cX4_approve 37 = .ok (.getfield 23, 3) := by decide +kernel
theorem dX4_approve_40 : decode cX4_approve 40 = .ok (.getfield 52, 3) := by decide +kernel
theorem dX4_approve_46 : decode cX4_approve 46 = .ok (.istore 4, 2) := by decide +kernel
theorem dX4_approve_48 : decode cX4_approve 48 = .ok (.aload_n 3, 1) := by decide +kernel
theorem dX4_approve_49 : decode cX4_approve 49 = .ok (.iload_n 2, 1) := by decide +kernel
theorem dX4_approve_50 : decode cX4_approve 50 = .ok (.aload_n 0, 1) := by decide +kernel
theorem dX4_approve_51 : decode cX4_approve 51 = .ok (.getfield 23, 3) := by decide +kernel
theorem dX4_approve_54 : decode cX4_approve 54 = .ok (.getfield 52, 3) := by decide +kernel
theorem dX4_approve_60 : decode cX4_approve 60 = .ok (.iload 4, 2) := by decide +kernel
theorem dX4_approve_62 : decode cX4_approve 62 = .ok (.ireturn, 1) := by decide +kernel
theorem dX4_approve_57 : decode cX4_approve 57 = .ok (.invokevirtual 145, 3) := by decide +kernel
theorem dX4_approve_43 : decode cX4_approve 43 = .ok (.invokevirtual 141, 3) := by decide +kernel
theorem dX4_approve_24 : decode cX4_approve 24 = .ok (.new 34, 3) := by decide +kernel
theorem dX4_approve_27 : decode cX4_approve 27 = .ok (.dup, 1) := by decide +kernel
theorem dX4_approve_28 : decode cX4_approve 28 = .ok (.ldc 139, 2) := by decide +kernel
theorem dX4_approve_30 : decode cX4_approve 30 = .ok (.invokespecial 38, 3) := by decide +kernel
theorem dX4_approve_33 : decode cX4_approve 33 = .ok (.athrow, 1) := by decide +kernel
theorem dX4_approve_18 : decode cX4_approve 18 = .ok (.invokevirtual 135, 3) := by decide +kernel
theorem dX4_approve_7 : decode cX4_approve 7 = .ok (.invokestatic 101, 3) := by decide +kernel
theorem dX4_approve_2 : decode cX4_approve 2 = .ok (.invokevirtual 131, 3) := by decide +kernel
def v_X4_approve (a0 : Nat) (p1 : Int32) (p2 : Int32) (T : zT) (F : zF) (Post : Int32 → zF → Prop) (PX : String → zF → Prop) : Prop :=
  (T a0 = some (5, 4) ∧ (v_X4_pieceAt a0 p1 T F (fun (r2 : Nat) => (v_X4_needLand p2 T F (∃ x4 : Nat, F a0 2 = .ref x4 ∧ T x4 = some (4, 3) ∧ ∃ x7 : Int32, F x4 2 = .int x7 ∧ T r2 = some (3, 5) ∧ (v_X2_isLaidOn r2 x7 T F (fun (r9 : Int32) => ((¬ r9 = 0 → (v_X2_isFitOn r2 p2 x7 T F (fun (r10 : Int32) => (v_X2_approveLook r2 p2 x7 T F (fun (F11 : zF) => ((r10 = 0 ∨ r10 = 1) ∧ Post r10 F11)))))) ∧ (r9 = 0 → PX "java/lang/IllegalStateException" F))))) (fun (E9 : String) => PX E9 F))) (fun (E9 : String) => PX E9 F)))
set_option maxRecDepth 100000 in
set_option maxHeartbeats 4000000 in
theorem k_X4_approve {l : Launch} {D : va_G} {cA : Nat → ClassId} {N0 zE : Nat} {a0 : Nat} {p1 : Int32} {p2 : Int32} {T : zT} {F : zF} {Post : Int32 → zF → Prop} {PX : String → zF → Prop} (h : v_X4_approve a0 p1 p2 T F Post PX) : z_Met l D cA N0 zE yX4_approve cX4_approve 5 (some .boolean) ({ frames := 7, cells := 3, slots := 18, locals := 111 } : Room) [.ref a0, .int p1, .int p2] T F (fun v T' F' => ∃ r : Int32, v = some (.int r) ∧ T = T' ∧ Post r F') (fun E T' F' => T = T' ∧ PX E F') := by
  unfold v_X4_approve at h
  refine z_body (by decide) (Nat.le_of_ble_eq_true rfl) ?_
  intro p e s m args below meth c C hxt hnm
  have C : z_C p l s m args meth c RX4 cX4_approve 5 (some .boolean) D cA N0 zE := C
  show z_w p l e ({ frames := 7, cells := 3, slots := 18, locals := 111 } : Room) s m args below meth c D cA N0 5 0 0 (vx_MQ below (z_Qc D cA N0 (fun v T' F' => ∃ r : Int32, v = some (.int r) ∧ T = T' ∧ Post r F')) (z_XC D cA N0 (fun E T' F' => T = T' ∧ PX E F')) args s 3 18 (fun q => N0 ≤ q)) 0 [(0, .ref a0), (1, .int p1), (2, .int p2)] [] T F
  refine zr_aload_n C 0 dX4_approve_0 rfl rfl ?_
  refine zr_iload_n C 1 dX4_approve_1 rfl rfl ?_
  obtain ⟨hT1, h⟩ := h
  refine zr_callVX (As := [.int p1]) (r := (RX4, TX4, 4)) C (k_X4_pieceAt h) ok_X4_131 zq_438 zq_7 hT1 (by decide) rfl rfl ⟨by decide, (Nat.le_of_ble_eq_true rfl)⟩ ⟨(Nat.le_of_ble_eq_true rfl), (Nat.le_of_ble_eq_true rfl)⟩ (Nat.le_of_ble_eq_true rfl) dX4_approve_2 (fun E9 T9 F9 hq => by obtain ⟨rfl, rfl, hq⟩ := hq; exact zr_out C (fun x hx => (hxt x hx).elim) ⟨rfl, hq⟩ (Nat.le_of_ble_eq_true rfl) (Nat.le_of_ble_eq_true rfl)) (fun v24 U25 G26 hq => ?_)
  clear h
  · obtain ⟨r2, rfl, rfl, rfl, h⟩ := hq
    refine zr_astore_n C [(3, .ref r2), (0, .ref a0), (1, .int p1), (2, .int p2)] dX4_approve_5 rfl (by decide) rfl ?_
    refine zr_iload_n C 3 dX4_approve_6 rfl rfl ?_
    refine zr_callSX (As := [.int p2]) C (k_X4_needLand h) ok_X4_101 zq_477 rfl ⟨by decide, (Nat.le_of_ble_eq_true rfl)⟩ ⟨(Nat.le_of_ble_eq_true rfl), (Nat.le_of_ble_eq_true rfl)⟩ (Nat.le_of_ble_eq_true rfl) dX4_approve_7 (fun E9 T9 F9 hq => by obtain ⟨rfl, rfl, hq⟩ := hq; exact zr_out C (fun x hx => (hxt x hx).elim) ⟨rfl, hq⟩ (Nat.le_of_ble_eq_true rfl) (Nat.le_of_ble_eq_true rfl)) (fun v21 U22 G23 hq => ?_)
    clear h
    · obtain ⟨rfl, rfl, rfl, h⟩ := hq
      refine zr_aload_n C 0 dX4_approve_10 rfl rfl ?_
      refine zr_aload_n C 1 dX4_approve_11 rfl rfl ?_
      obtain ⟨x4, hv3, h⟩ := h
      refine zr_get C fl_X4_23 hT1 hv3 dX4_approve_12 ?_
      obtain ⟨hT5, x7, hv6, h⟩ := h
      refine zr_get C fl_X4_52 hT5 hv6 dX4_approve_15 ?_
      obtain ⟨hT8, h⟩ := h
      refine zr_callV (As := [.int x7]) (r := (RX2, TX2, 5)) C (k_X2_isLaidOn h) ok_X4_135 zq_488 zq_489 hT8 (by decide) rfl rfl ⟨by decide, (Nat.le_of_ble_eq_true rfl)⟩ ⟨(Nat.le_of_ble_eq_true rfl), (Nat.le_of_ble_eq_true rfl)⟩ (Nat.le_of_ble_eq_true rfl) dX4_approve_18 (fun v18 U19 G20 hq => ?_)
      clear h
      · obtain ⟨r9, rfl, rfl, rfl, h⟩ := hq
        obtain ⟨h1, h2⟩ := h
        refine zr_if_ne C 34 dX4_approve_21 (by decide) (fun hc => ?_) (fun hc => ?_)
        · have h := h1 hc
          clear h1 h2
          refine zr_aload_n C 0 dX4_approve_34 rfl rfl ?_
          refine zr_iload_n C 3 dX4_approve_35 rfl rfl ?_
          refine zr_aload_n C 1 dX4_approve_36 rfl rfl ?_
          refine zr_get C fl_X4_23 hT1 hv3 dX4_approve_37 ?_
          refine zr_get C fl_X4_52 hT5 hv6 dX4_approve_40 ?_
          refine zr_callV (As := [.int p2, .int x7]) (r := (RX2, TX2, 5)) C (k_X2_isFitOn h) ok_X4_141 zq_446 zq_447 hT8 (by decide) rfl rfl ⟨by decide, (Nat.le_of_ble_eq_true rfl)⟩ ⟨(Nat.le_of_ble_eq_true rfl), (Nat.le_of_ble_eq_true rfl)⟩ (Nat.le_of_ble_eq_true rfl) dX4_approve_43 (fun v15 U16 G17 hq => ?_)
          clear h
          · obtain ⟨r10, rfl, rfl, rfl, h⟩ := hq
            refine zr_istore C [(4, .int r10), (3, .ref r2), (0, .ref a0), (1, .int p1), (2, .int p2)] dX4_approve_46 (by decide) rfl ?_
            refine zr_aload_n C 1 dX4_approve_48 rfl rfl ?_
            refine zr_iload_n C 4 dX4_approve_49 rfl rfl ?_
            refine zr_aload_n C 2 dX4_approve_50 rfl rfl ?_
            refine zr_get C fl_X4_23 hT1 hv3 dX4_approve_51 ?_
            refine zr_get C fl_X4_52 hT5 hv6 dX4_approve_54 ?_
            refine zr_callV (As := [.int p2, .int x7]) (r := (RX2, TX2, 5)) C (k_X2_approveLook h) ok_X4_145 zq_698 zq_699 hT8 (by decide) rfl rfl ⟨by decide, (Nat.le_of_ble_eq_true rfl)⟩ ⟨(Nat.le_of_ble_eq_true rfl), (Nat.le_of_ble_eq_true rfl)⟩ (Nat.le_of_ble_eq_true rfl) dX4_approve_57 (fun v12 U13 G14 hq => ?_)
            clear h
            · obtain ⟨rfl, rfl, h⟩ := hq
              refine zr_iload C 0 dX4_approve_60 rfl ?_
              obtain ⟨hb, h⟩ := h
              exact zr_X (zr_zret C rfl hb ⟨_, rfl, rfl, h⟩ (Nat.le_of_ble_eq_true rfl) (Nat.le_of_ble_eq_true rfl) dX4_approve_62)
        · have h := h2 hc
          clear h1 h2
          exact zr_throw C th_X4_34_38_139 (fun x hx => (hxt x hx).elim) ⟨rfl, h⟩ dX4_approve_24 dX4_approve_27 dX4_approve_28 dX4_approve_30 dX4_approve_33 (by decide) (Nat.le_of_ble_eq_true rfl) ⟨(Nat.le_of_ble_eq_true rfl), (Nat.le_of_ble_eq_true rfl)⟩ ⟨(Nat.le_of_ble_eq_true rfl), (Nat.le_of_ble_eq_true rfl)⟩
set_option maxRecDepth 100000 in
set_option maxHeartbeats 4000000 in
theorem k_X4_approve0 {l : Launch} {D : va_G} {cA : Nat → ClassId} {N0 zE : Nat} {a0 : Nat} {p1 : Int32} {p2 : Int32} {T : zT} {F : zF} {Post : Int32 → zF → Prop} (h : v_X4_approve a0 p1 p2 T F Post (fun _ _ => False)) : z_Mt l D cA N0 zE yX4_approve cX4_approve 5 (some .boolean) ({ frames := 4, cells := 0, slots := 0, locals := 89 } : Room) [.ref a0, .int p1, .int p2] T F (fun v T' F' => ∃ r : Int32, v = some (.int r) ∧ T = T' ∧ Post r F') := by
  unfold v_X4_approve at h
  refine z_bodyT (by decide) (Nat.le_of_ble_eq_true rfl) ?_
  intro p e s m args below meth c C hnm
  have C : z_C p l s m args meth c RX4 cX4_approve 5 (some .boolean) D cA N0 zE := C
  show z_w p l e ({ frames := 4, cells := 0, slots := 0, locals := 89 } : Room) s m args below meth c D cA N0 5 0 0 (MQ below (z_Qc D cA N0 (fun v T' F' => ∃ r : Int32, v = some (.int r) ∧ T = T' ∧ Post r F')) args s 0 0 (fun q => N0 ≤ q)) 0 [(0, .ref a0), (1, .int p1), (2, .int p2)] [] T F
  refine zr_aload_n C 0 dX4_approve_0 rfl rfl ?_
  refine zr_iload_n C 1 dX4_approve_1 rfl rfl ?_
  obtain ⟨hT1, h⟩ := h
  refine zr_callV (As := [.int p1]) (r := (RX4, TX4, 4)) C (k_X4_pieceAt0 h) ok_X4_131 zq_438 zq_7 hT1 (by decide) rfl rfl ⟨by decide, (Nat.le_of_ble_eq_true rfl)⟩ ⟨(Nat.le_of_ble_eq_true rfl), (Nat.le_of_ble_eq_true rfl)⟩ (Nat.le_of_ble_eq_true rfl) dX4_approve_2 (fun v24 U25 G26 hq => ?_)
  clear h
  · obtain ⟨r2, rfl, rfl, rfl, h⟩ := hq
    refine zr_astore_n C [(3, .ref r2), (0, .ref a0), (1, .int p1), (2, .int p2)] dX4_approve_5 rfl (by decide) rfl ?_
    refine zr_iload_n C 3 dX4_approve_6 rfl rfl ?_
    refine zr_callS (As := [.int p2]) C (k_X4_needLand0 h) ok_X4_101 zq_477 rfl ⟨by decide, (Nat.le_of_ble_eq_true rfl)⟩ ⟨(Nat.le_of_ble_eq_true rfl), (Nat.le_of_ble_eq_true rfl)⟩ (Nat.le_of_ble_eq_true rfl) dX4_approve_7 (fun v21 U22 G23 hq => ?_)
    clear h
    · obtain ⟨rfl, rfl, rfl, h⟩ := hq
      refine zr_aload_n C 0 dX4_approve_10 rfl rfl ?_
      refine zr_aload_n C 1 dX4_approve_11 rfl rfl ?_
      obtain ⟨x4, hv3, h⟩ := h
      refine zr_get C fl_X4_23 hT1 hv3 dX4_approve_12 ?_
      obtain ⟨hT5, x7, hv6, h⟩ := h
      refine zr_get C fl_X4_52 hT5 hv6 dX4_approve_15 ?_
      obtain ⟨hT8, h⟩ := h
      refine zr_callV (As := [.int x7]) (r := (RX2, TX2, 5)) C (k_X2_isLaidOn h) ok_X4_135 zq_488 zq_489 hT8 (by decide) rfl rfl ⟨by decide, (Nat.le_of_ble_eq_true rfl)⟩ ⟨(Nat.le_of_ble_eq_true rfl), (Nat.le_of_ble_eq_true rfl)⟩ (Nat.le_of_ble_eq_true rfl) dX4_approve_18 (fun v18 U19 G20 hq => ?_)
      clear h
      · obtain ⟨r9, rfl, rfl, rfl, h⟩ := hq
        obtain ⟨h1, h2⟩ := h
        refine zr_if_ne C 34 dX4_approve_21 (by decide) (fun hc => ?_) (fun hc => ?_)
        · have h := h1 hc
          clear h1 h2
          refine zr_aload_n C 0 dX4_approve_34 rfl rfl ?_
          refine zr_iload_n C 3 dX4_approve_35 rfl rfl ?_
          refine zr_aload_n C 1 dX4_approve_36 rfl rfl ?_
          refine zr_get C fl_X4_23 hT1 hv3 dX4_approve_37 ?_
          refine zr_get C fl_X4_52 hT5 hv6 dX4_approve_40 ?_
          refine zr_callV (As := [.int p2, .int x7]) (r := (RX2, TX2, 5)) C (k_X2_isFitOn h) ok_X4_141 zq_446 zq_447 hT8 (by decide) rfl rfl ⟨by decide, (Nat.le_of_ble_eq_true rfl)⟩ ⟨(Nat.le_of_ble_eq_true rfl), (Nat.le_of_ble_eq_true rfl)⟩ (Nat.le_of_ble_eq_true rfl) dX4_approve_43 (fun v15 U16 G17 hq => ?_)
          clear h
          · obtain ⟨r10, rfl, rfl, rfl, h⟩ := hq
            refine zr_istore C [(4, .int r10), (3, .ref r2), (0, .ref a0), (1, .int p1), (2, .int p2)] dX4_approve_46 (by decide) rfl ?_
            refine zr_aload_n C 1 dX4_approve_48 rfl rfl ?_
            refine zr_iload_n C 4 dX4_approve_49 rfl rfl ?_
            refine zr_aload_n C 2 dX4_approve_50 rfl rfl ?_
            refine zr_get C fl_X4_23 hT1 hv3 dX4_approve_51 ?_
            refine zr_get C fl_X4_52 hT5 hv6 dX4_approve_54 ?_
            refine zr_callV (As := [.int p2, .int x7]) (r := (RX2, TX2, 5)) C (k_X2_approveLook h) ok_X4_145 zq_698 zq_699 hT8 (by decide) rfl rfl ⟨by decide, (Nat.le_of_ble_eq_true rfl)⟩ ⟨(Nat.le_of_ble_eq_true rfl), (Nat.le_of_ble_eq_true rfl)⟩ (Nat.le_of_ble_eq_true rfl) dX4_approve_57 (fun v12 U13 G14 hq => ?_)
            clear h
            · obtain ⟨rfl, rfl, h⟩ := hq
              refine zr_iload C 0 dX4_approve_60 rfl ?_
              obtain ⟨hb, h⟩ := h
              exact zr_zret C rfl hb ⟨_, rfl, rfl, h⟩ (Nat.le_of_ble_eq_true rfl) (Nat.le_of_ble_eq_true rfl) dX4_approve_62
        · have h := h2 hc
          clear h1 h2
          exact h.elim
theorem dX4_hold_0 : decode cX4_hold 0 = .ok (.aload_n 0, 1) := by decide +kernel
theorem dX4_hold_1 : decode cX4_hold 1 = .ok (.iload_n 1, 1) := by decide +kernel
theorem dX4_hold_5 : decode cX4_hold 5 = .ok (.astore_n 3, 1) := by decide +kernel
theorem dX4_hold_6 : decode cX4_hold 6 = .ok (.iload_n 2, 1) := by decide +kernel
theorem dX4_hold_10 : decode cX4_hold 10 = .ok (.aload_n 3, 1) := by decide +kernel
theorem dX4_hold_11 : decode cX4_hold 11 = .ok (.iload_n 2, 1) := by decide +kernel
theorem dX4_hold_12 : decode cX4_hold 12 = .ok (.aload_n 0, 1) := by decide +kernel
theorem dX4_hold_13 : decode cX4_hold 13 = .ok (.getfield 23, 3) := by decide +kernel
theorem dX4_hold_16 : decode cX4_hold 16 = .ok (.getfield 52, 3) := by decide +kernel
theorem dX4_hold_22 : decode cX4_hold 22 = .ok (.istore 4, 2) := by decide +kernel
theorem dX4_hold_24 : decode cX4_hold 24 = .ok (.aload_n 3, 1) := by decide +kernel
theorem dX4_hold_25 : decode cX4_hold 25 = .ok (.iload_n 2, 1) := by decide +kernel
theorem dX4_hold_29 : decode cX4_hold 29 = .ok (.iload 4, 2) := by decide +kernel
theorem dX4_hold_31 : decode cX4_hold 31 = .ok (.ireturn, 1) := by decide +kernel
theorem dX4_hold_26 : decode cX4_hold 26 = .ok (.invokevirtual 149, 3) := by decide +kernel
theorem dX4_hold_19 : decode cX4_hold 19 = .ok (.invokevirtual 141, 3) := by decide +kernel
theorem dX4_hold_7 : decode cX4_hold 7 = .ok (.invokestatic 101, 3) := by decide +kernel
theorem dX4_hold_2 : decode cX4_hold 2 = .ok (.invokevirtual 131, 3) := by decide +kernel
def v_X4_hold (a0 : Nat) (p1 : Int32) (p2 : Int32) (T : zT) (F : zF) (Post : Int32 → zF → Prop) (PX : String → zF → Prop) : Prop :=
  (T a0 = some (5, 4) ∧ (v_X4_pieceAt a0 p1 T F (fun (r2 : Nat) => (v_X4_needLand p2 T F (∃ x4 : Nat, F a0 2 = .ref x4 ∧ T x4 = some (4, 3) ∧ ∃ x7 : Int32, F x4 2 = .int x7 ∧ T r2 = some (3, 5) ∧ (v_X2_isFitOn r2 p2 x7 T F (fun (r9 : Int32) => (v_X2_dropApproval r2 p2 T F (fun (F10 : zF) => ((r9 = 0 ∨ r9 = 1) ∧ Post r9 F10)))))) (fun (E9 : String) => PX E9 F))) (fun (E9 : String) => PX E9 F)))
set_option maxRecDepth 100000 in
set_option maxHeartbeats 4000000 in
theorem k_X4_hold {l : Launch} {D : va_G} {cA : Nat → ClassId} {N0 zE : Nat} {a0 : Nat} {p1 : Int32} {p2 : Int32} {T : zT} {F : zF} {Post : Int32 → zF → Prop} {PX : String → zF → Prop} (h : v_X4_hold a0 p1 p2 T F Post PX) : z_Met l D cA N0 zE yX4_hold cX4_hold 5 (some .boolean) ({ frames := 7, cells := 2, slots := 12, locals := 111 } : Room) [.ref a0, .int p1, .int p2] T F (fun v T' F' => ∃ r : Int32, v = some (.int r) ∧ T = T' ∧ Post r F') (fun E T' F' => T = T' ∧ PX E F') := by
  unfold v_X4_hold at h
  refine z_body (by decide) (Nat.le_of_ble_eq_true rfl) ?_
  intro p e s m args below meth c C hxt hnm
  have C : z_C p l s m args meth c RX4 cX4_hold 5 (some .boolean) D cA N0 zE := C
  show z_w p l e ({ frames := 7, cells := 2, slots := 12, locals := 111 } : Room) s m args below meth c D cA N0 5 0 0 (vx_MQ below (z_Qc D cA N0 (fun v T' F' => ∃ r : Int32, v = some (.int r) ∧ T = T' ∧ Post r F')) (z_XC D cA N0 (fun E T' F' => T = T' ∧ PX E F')) args s 2 12 (fun q => N0 ≤ q)) 0 [(0, .ref a0), (1, .int p1), (2, .int p2)] [] T F
  refine zr_aload_n C 0 dX4_hold_0 rfl rfl ?_
  refine zr_iload_n C 1 dX4_hold_1 rfl rfl ?_
  obtain ⟨hT1, h⟩ := h
  refine zr_callVX (As := [.int p1]) (r := (RX4, TX4, 4)) C (k_X4_pieceAt h) ok_X4_131 zq_438 zq_7 hT1 (by decide) rfl rfl ⟨by decide, (Nat.le_of_ble_eq_true rfl)⟩ ⟨(Nat.le_of_ble_eq_true rfl), (Nat.le_of_ble_eq_true rfl)⟩ (Nat.le_of_ble_eq_true rfl) dX4_hold_2 (fun E9 T9 F9 hq => by obtain ⟨rfl, rfl, hq⟩ := hq; exact zr_out C (fun x hx => (hxt x hx).elim) ⟨rfl, hq⟩ (Nat.le_of_ble_eq_true rfl) (Nat.le_of_ble_eq_true rfl)) (fun v20 U21 G22 hq => ?_)
  clear h
  · obtain ⟨r2, rfl, rfl, rfl, h⟩ := hq
    refine zr_astore_n C [(3, .ref r2), (0, .ref a0), (1, .int p1), (2, .int p2)] dX4_hold_5 rfl (by decide) rfl ?_
    refine zr_iload_n C 3 dX4_hold_6 rfl rfl ?_
    refine zr_callSX (As := [.int p2]) C (k_X4_needLand h) ok_X4_101 zq_477 rfl ⟨by decide, (Nat.le_of_ble_eq_true rfl)⟩ ⟨(Nat.le_of_ble_eq_true rfl), (Nat.le_of_ble_eq_true rfl)⟩ (Nat.le_of_ble_eq_true rfl) dX4_hold_7 (fun E9 T9 F9 hq => by obtain ⟨rfl, rfl, hq⟩ := hq; exact zr_out C (fun x hx => (hxt x hx).elim) ⟨rfl, hq⟩ (Nat.le_of_ble_eq_true rfl) (Nat.le_of_ble_eq_true rfl)) (fun v17 U18 G19 hq => ?_)
    clear h
    · obtain ⟨rfl, rfl, rfl, h⟩ := hq
      refine zr_aload_n C 0 dX4_hold_10 rfl rfl ?_
      refine zr_iload_n C 3 dX4_hold_11 rfl rfl ?_
      refine zr_aload_n C 1 dX4_hold_12 rfl rfl ?_
      obtain ⟨x4, hv3, h⟩ := h
      refine zr_get C fl_X4_23 hT1 hv3 dX4_hold_13 ?_
      obtain ⟨hT5, x7, hv6, h⟩ := h
      refine zr_get C fl_X4_52 hT5 hv6 dX4_hold_16 ?_
      obtain ⟨hT8, h⟩ := h
      refine zr_callV (As := [.int p2, .int x7]) (r := (RX2, TX2, 5)) C (k_X2_isFitOn h) ok_X4_141 zq_446 zq_447 hT8 (by decide) rfl rfl ⟨by decide, (Nat.le_of_ble_eq_true rfl)⟩ ⟨(Nat.le_of_ble_eq_true rfl), (Nat.le_of_ble_eq_true rfl)⟩ (Nat.le_of_ble_eq_true rfl) dX4_hold_19 (fun v14 U15 G16 hq => ?_)
      clear h
      · obtain ⟨r9, rfl, rfl, rfl, h⟩ := hq
        refine zr_istore C [(4, .int r9), (3, .ref r2), (0, .ref a0), (1, .int p1), (2, .int p2)] dX4_hold_22 (by decide) rfl ?_
        refine zr_aload_n C 1 dX4_hold_24 rfl rfl ?_
        refine zr_iload_n C 4 dX4_hold_25 rfl rfl ?_
        refine zr_callV (As := [.int p2]) (r := (RX2, TX2, 5)) C (k_X2_dropApproval h) ok_X4_149 zq_710 zq_711 hT8 (by decide) rfl rfl ⟨by decide, (Nat.le_of_ble_eq_true rfl)⟩ ⟨(Nat.le_of_ble_eq_true rfl), (Nat.le_of_ble_eq_true rfl)⟩ (Nat.le_of_ble_eq_true rfl) dX4_hold_26 (fun v11 U12 G13 hq => ?_)
        clear h
        · obtain ⟨rfl, rfl, h⟩ := hq
          refine zr_iload C 0 dX4_hold_29 rfl ?_
          obtain ⟨hb, h⟩ := h
          exact zr_X (zr_zret C rfl hb ⟨_, rfl, rfl, h⟩ (Nat.le_of_ble_eq_true rfl) (Nat.le_of_ble_eq_true rfl) dX4_hold_31)
set_option maxRecDepth 100000 in
set_option maxHeartbeats 4000000 in
theorem k_X4_hold0 {l : Launch} {D : va_G} {cA : Nat → ClassId} {N0 zE : Nat} {a0 : Nat} {p1 : Int32} {p2 : Int32} {T : zT} {F : zF} {Post : Int32 → zF → Prop} (h : v_X4_hold a0 p1 p2 T F Post (fun _ _ => False)) : z_Mt l D cA N0 zE yX4_hold cX4_hold 5 (some .boolean) ({ frames := 4, cells := 0, slots := 0, locals := 89 } : Room) [.ref a0, .int p1, .int p2] T F (fun v T' F' => ∃ r : Int32, v = some (.int r) ∧ T = T' ∧ Post r F') := by
  unfold v_X4_hold at h
  refine z_bodyT (by decide) (Nat.le_of_ble_eq_true rfl) ?_
  intro p e s m args below meth c C hnm
  have C : z_C p l s m args meth c RX4 cX4_hold 5 (some .boolean) D cA N0 zE := C
  show z_w p l e ({ frames := 4, cells := 0, slots := 0, locals := 89 } : Room) s m args below meth c D cA N0 5 0 0 (MQ below (z_Qc D cA N0 (fun v T' F' => ∃ r : Int32, v = some (.int r) ∧ T = T' ∧ Post r F')) args s 0 0 (fun q => N0 ≤ q)) 0 [(0, .ref a0), (1, .int p1), (2, .int p2)] [] T F
  refine zr_aload_n C 0 dX4_hold_0 rfl rfl ?_
  refine zr_iload_n C 1 dX4_hold_1 rfl rfl ?_
  obtain ⟨hT1, h⟩ := h
  refine zr_callV (As := [.int p1]) (r := (RX4, TX4, 4)) C (k_X4_pieceAt0 h) ok_X4_131 zq_438 zq_7 hT1 (by decide) rfl rfl ⟨by decide, (Nat.le_of_ble_eq_true rfl)⟩ ⟨(Nat.le_of_ble_eq_true rfl), (Nat.le_of_ble_eq_true rfl)⟩ (Nat.le_of_ble_eq_true rfl) dX4_hold_2 (fun v20 U21 G22 hq => ?_)
  clear h
  · obtain ⟨r2, rfl, rfl, rfl, h⟩ := hq
    refine zr_astore_n C [(3, .ref r2), (0, .ref a0), (1, .int p1), (2, .int p2)] dX4_hold_5 rfl (by decide) rfl ?_
    refine zr_iload_n C 3 dX4_hold_6 rfl rfl ?_
    refine zr_callS (As := [.int p2]) C (k_X4_needLand0 h) ok_X4_101 zq_477 rfl ⟨by decide, (Nat.le_of_ble_eq_true rfl)⟩ ⟨(Nat.le_of_ble_eq_true rfl), (Nat.le_of_ble_eq_true rfl)⟩ (Nat.le_of_ble_eq_true rfl) dX4_hold_7 (fun v17 U18 G19 hq => ?_)
    clear h
    · obtain ⟨rfl, rfl, rfl, h⟩ := hq
      refine zr_aload_n C 0 dX4_hold_10 rfl rfl ?_
      refine zr_iload_n C 3 dX4_hold_11 rfl rfl ?_
      refine zr_aload_n C 1 dX4_hold_12 rfl rfl ?_
      obtain ⟨x4, hv3, h⟩ := h
      refine zr_get C fl_X4_23 hT1 hv3 dX4_hold_13 ?_
      obtain ⟨hT5, x7, hv6, h⟩ := h
      refine zr_get C fl_X4_52 hT5 hv6 dX4_hold_16 ?_
      obtain ⟨hT8, h⟩ := h
      refine zr_callV (As := [.int p2, .int x7]) (r := (RX2, TX2, 5)) C (k_X2_isFitOn h) ok_X4_141 zq_446 zq_447 hT8 (by decide) rfl rfl ⟨by decide, (Nat.le_of_ble_eq_true rfl)⟩ ⟨(Nat.le_of_ble_eq_true rfl), (Nat.le_of_ble_eq_true rfl)⟩ (Nat.le_of_ble_eq_true rfl) dX4_hold_19 (fun v14 U15 G16 hq => ?_)
      clear h
      · obtain ⟨r9, rfl, rfl, rfl, h⟩ := hq
        refine zr_istore C [(4, .int r9), (3, .ref r2), (0, .ref a0), (1, .int p1), (2, .int p2)] dX4_hold_22 (by decide) rfl ?_
        refine zr_aload_n C 1 dX4_hold_24 rfl rfl ?_
        refine zr_iload_n C 4 dX4_hold_25 rfl rfl ?_
        refine zr_callV (As := [.int p2]) (r := (RX2, TX2, 5)) C (k_X2_dropApproval h) ok_X4_149 zq_710 zq_711 hT8 (by decide) rfl rfl ⟨by decide, (Nat.le_of_ble_eq_true rfl)⟩ ⟨(Nat.le_of_ble_eq_true rfl), (Nat.le_of_ble_eq_true rfl)⟩ (Nat.le_of_ble_eq_true rfl) dX4_hold_26 (fun v11 U12 G13 hq => ?_)
        clear h
        · obtain ⟨rfl, rfl, h⟩ := hq
          refine zr_iload C 0 dX4_hold_29 rfl ?_
          obtain ⟨hb, h⟩ := h
          exact zr_zret C rfl hb ⟨_, rfl, rfl, h⟩ (Nat.le_of_ble_eq_true rfl) (Nat.le_of_ble_eq_true rfl) dX4_hold_31
theorem dX4_reason_0 : decode cX4_reason 0 = .ok (.aload_n 0, 1) := by decide +kernel
theorem dX4_reason_1 : decode cX4_reason 1 = .ok (.iload_n 1, 1) := by decide +kernel
theorem dX4_reason_5 : decode cX4_reason 5 = .ok (.astore 4, 2) := by decide +kernel
theorem dX4_reason_7 : decode cX4_reason 7 = .ok (.iload_n 2, 1) := by decide +kernel
theorem dX4_reason_11 : decode cX4_reason 11 = .ok (.iload_n 3, 1) := by decide +kernel
theorem dX4_reason_15 : decode cX4_reason 15 = .ok (.aload 4, 2) := by decide +kernel
theorem dX4_reason_17 : decode cX4_reason 17 = .ok (.iload_n 2, 1) := by decide +kernel
theorem dX4_reason_18 : decode cX4_reason 18 = .ok (.iload_n 3, 1) := by decide +kernel
theorem dX4_reason_22 : decode cX4_reason 22 = .ok (.ireturn, 1) := by decide +kernel
theorem dX4_reason_19 : decode cX4_reason 19 = .ok (.invokevirtual 152, 3) := by decide +kernel
theorem dX4_reason_12 : decode cX4_reason 12 = .ok (.invokestatic 86, 3) := by decide +kernel
theorem dX4_reason_8 : decode cX4_reason 8 = .ok (.invokestatic 101, 3) := by decide +kernel
theorem dX4_reason_2 : decode cX4_reason 2 = .ok (.invokevirtual 131, 3) := by decide +kernel
def v_X4_reason (a0 : Nat) (p1 : Int32) (p2 : Int32) (p3 : Int32) (T : zT) (F : zF) (Post : Int32 → Prop) (PX : String → Prop) : Prop :=
  (T a0 = some (5, 4) ∧ (v_X4_pieceAt a0 p1 T F (fun (r2 : Nat) => (v_X4_needLand p2 T F (v_X4_needDay p3 T F (T r2 = some (3, 5) ∧ (v_X2_reasonOn r2 p2 p3 T F (fun (r4 : Int32) => Post r4))) (fun (E9 : String) => PX E9)) (fun (E9 : String) => PX E9))) (fun (E9 : String) => PX E9)))
set_option maxRecDepth 100000 in
set_option maxHeartbeats 4000000 in
theorem k_X4_reason {l : Launch} {D : va_G} {cA : Nat → ClassId} {N0 zE : Nat} {a0 : Nat} {p1 : Int32} {p2 : Int32} {p3 : Int32} {T : zT} {F : zF} {Post : Int32 → Prop} {PX : String → Prop} (h : v_X4_reason a0 p1 p2 p3 T F Post PX) : z_Met l D cA N0 zE yX4_reason cX4_reason 5 (some .int) ({ frames := 7, cells := 3, slots := 18, locals := 111 } : Room) [.ref a0, .int p1, .int p2, .int p3] T F (fun v T' F' => ∃ r : Int32, v = some (.int r) ∧ T = T' ∧ F = F' ∧ Post r) (fun E T' F' => T = T' ∧ F = F' ∧ PX E) := by
  unfold v_X4_reason at h
  refine z_body (by decide) (Nat.le_of_ble_eq_true rfl) ?_
  intro p e s m args below meth c C hxt hnm
  have C : z_C p l s m args meth c RX4 cX4_reason 5 (some .int) D cA N0 zE := C
  show z_w p l e ({ frames := 7, cells := 3, slots := 18, locals := 111 } : Room) s m args below meth c D cA N0 5 0 0 (vx_MQ below (z_Qc D cA N0 (fun v T' F' => ∃ r : Int32, v = some (.int r) ∧ T = T' ∧ F = F' ∧ Post r)) (z_XC D cA N0 (fun E T' F' => T = T' ∧ F = F' ∧ PX E)) args s 3 18 (fun q => N0 ≤ q)) 0 [(0, .ref a0), (1, .int p1), (2, .int p2), (3, .int p3)] [] T F
  refine zr_aload_n C 0 dX4_reason_0 rfl rfl ?_
  refine zr_iload_n C 1 dX4_reason_1 rfl rfl ?_
  obtain ⟨hT1, h⟩ := h
  refine zr_callVX (As := [.int p1]) (r := (RX4, TX4, 4)) C (k_X4_pieceAt h) ok_X4_131 zq_438 zq_7 hT1 (by decide) rfl rfl ⟨by decide, (Nat.le_of_ble_eq_true rfl)⟩ ⟨(Nat.le_of_ble_eq_true rfl), (Nat.le_of_ble_eq_true rfl)⟩ (Nat.le_of_ble_eq_true rfl) dX4_reason_2 (fun E9 T9 F9 hq => by obtain ⟨rfl, rfl, hq⟩ := hq; exact zr_out C (fun x hx => (hxt x hx).elim) ⟨rfl, rfl, hq⟩ (Nat.le_of_ble_eq_true rfl) (Nat.le_of_ble_eq_true rfl)) (fun v14 U15 G16 hq => ?_)
  clear h
  · obtain ⟨r2, rfl, rfl, rfl, h⟩ := hq
    refine zr_astore C [(4, .ref r2), (0, .ref a0), (1, .int p1), (2, .int p2), (3, .int p3)] dX4_reason_5 (by decide) rfl ?_
    refine zr_iload_n C 3 dX4_reason_7 rfl rfl ?_
    refine zr_callSX (As := [.int p2]) C (k_X4_needLand h) ok_X4_101 zq_477 rfl ⟨by decide, (Nat.le_of_ble_eq_true rfl)⟩ ⟨(Nat.le_of_ble_eq_true rfl), (Nat.le_of_ble_eq_true rfl)⟩ (Nat.le_of_ble_eq_true rfl) dX4_reason_8 (fun E9 T9 F9 hq => by obtain ⟨rfl, rfl, hq⟩ := hq; exact zr_out C (fun x hx => (hxt x hx).elim) ⟨rfl, rfl, hq⟩ (Nat.le_of_ble_eq_true rfl) (Nat.le_of_ble_eq_true rfl)) (fun v11 U12 G13 hq => ?_)
    clear h
    · obtain ⟨rfl, rfl, rfl, h⟩ := hq
      refine zr_iload_n C 4 dX4_reason_11 rfl rfl ?_
      refine zr_callSX (As := [.int p3]) C (k_X4_needDay h) ok_X4_86 zq_330 rfl ⟨by decide, (Nat.le_of_ble_eq_true rfl)⟩ ⟨(Nat.le_of_ble_eq_true rfl), (Nat.le_of_ble_eq_true rfl)⟩ (Nat.le_of_ble_eq_true rfl) dX4_reason_12 (fun E9 T9 F9 hq => by obtain ⟨rfl, rfl, hq⟩ := hq; exact zr_out C (fun x hx => (hxt x hx).elim) ⟨rfl, rfl, hq⟩ (Nat.le_of_ble_eq_true rfl) (Nat.le_of_ble_eq_true rfl)) (fun v8 U9 G10 hq => ?_)
      clear h
      · obtain ⟨rfl, rfl, rfl, h⟩ := hq
        refine zr_aload C 0 dX4_reason_15 rfl ?_
        refine zr_iload_n C 3 dX4_reason_17 rfl rfl ?_
        refine zr_iload_n C 4 dX4_reason_18 rfl rfl ?_
        obtain ⟨hT3, h⟩ := h
        refine zr_callV (As := [.int p2, .int p3]) (r := (RX2, TX2, 5)) C (k_X2_reasonOn h) ok_X4_152 zq_484 zq_485 hT3 (by decide) rfl rfl ⟨by decide, (Nat.le_of_ble_eq_true rfl)⟩ ⟨(Nat.le_of_ble_eq_true rfl), (Nat.le_of_ble_eq_true rfl)⟩ (Nat.le_of_ble_eq_true rfl) dX4_reason_19 (fun v5 U6 G7 hq => ?_)
        clear h
        · obtain ⟨r4, rfl, rfl, rfl, h⟩ := hq
          exact zr_X (zr_iret C rfl ⟨_, rfl, rfl, rfl, h⟩ (Nat.le_of_ble_eq_true rfl) (Nat.le_of_ble_eq_true rfl) dX4_reason_22)
set_option maxRecDepth 100000 in
set_option maxHeartbeats 4000000 in
theorem k_X4_reason0 {l : Launch} {D : va_G} {cA : Nat → ClassId} {N0 zE : Nat} {a0 : Nat} {p1 : Int32} {p2 : Int32} {p3 : Int32} {T : zT} {F : zF} {Post : Int32 → Prop} (h : v_X4_reason a0 p1 p2 p3 T F Post (fun _ => False)) : z_Mt l D cA N0 zE yX4_reason cX4_reason 5 (some .int) ({ frames := 5, cells := 0, slots := 0, locals := 111 } : Room) [.ref a0, .int p1, .int p2, .int p3] T F (fun v T' F' => ∃ r : Int32, v = some (.int r) ∧ T = T' ∧ F = F' ∧ Post r) := by
  unfold v_X4_reason at h
  refine z_bodyT (by decide) (Nat.le_of_ble_eq_true rfl) ?_
  intro p e s m args below meth c C hnm
  have C : z_C p l s m args meth c RX4 cX4_reason 5 (some .int) D cA N0 zE := C
  show z_w p l e ({ frames := 5, cells := 0, slots := 0, locals := 111 } : Room) s m args below meth c D cA N0 5 0 0 (MQ below (z_Qc D cA N0 (fun v T' F' => ∃ r : Int32, v = some (.int r) ∧ T = T' ∧ F = F' ∧ Post r)) args s 0 0 (fun q => N0 ≤ q)) 0 [(0, .ref a0), (1, .int p1), (2, .int p2), (3, .int p3)] [] T F
  refine zr_aload_n C 0 dX4_reason_0 rfl rfl ?_
  refine zr_iload_n C 1 dX4_reason_1 rfl rfl ?_
  obtain ⟨hT1, h⟩ := h
  refine zr_callV (As := [.int p1]) (r := (RX4, TX4, 4)) C (k_X4_pieceAt0 h) ok_X4_131 zq_438 zq_7 hT1 (by decide) rfl rfl ⟨by decide, (Nat.le_of_ble_eq_true rfl)⟩ ⟨(Nat.le_of_ble_eq_true rfl), (Nat.le_of_ble_eq_true rfl)⟩ (Nat.le_of_ble_eq_true rfl) dX4_reason_2 (fun v14 U15 G16 hq => ?_)
  clear h
  · obtain ⟨r2, rfl, rfl, rfl, h⟩ := hq
    refine zr_astore C [(4, .ref r2), (0, .ref a0), (1, .int p1), (2, .int p2), (3, .int p3)] dX4_reason_5 (by decide) rfl ?_
    refine zr_iload_n C 3 dX4_reason_7 rfl rfl ?_
    refine zr_callS (As := [.int p2]) C (k_X4_needLand0 h) ok_X4_101 zq_477 rfl ⟨by decide, (Nat.le_of_ble_eq_true rfl)⟩ ⟨(Nat.le_of_ble_eq_true rfl), (Nat.le_of_ble_eq_true rfl)⟩ (Nat.le_of_ble_eq_true rfl) dX4_reason_8 (fun v11 U12 G13 hq => ?_)
    clear h
    · obtain ⟨rfl, rfl, rfl, h⟩ := hq
      refine zr_iload_n C 4 dX4_reason_11 rfl rfl ?_
      refine zr_callS (As := [.int p3]) C (k_X4_needDay0 h) ok_X4_86 zq_330 rfl ⟨by decide, (Nat.le_of_ble_eq_true rfl)⟩ ⟨(Nat.le_of_ble_eq_true rfl), (Nat.le_of_ble_eq_true rfl)⟩ (Nat.le_of_ble_eq_true rfl) dX4_reason_12 (fun v8 U9 G10 hq => ?_)
      clear h
      · obtain ⟨rfl, rfl, rfl, h⟩ := hq
        refine zr_aload C 0 dX4_reason_15 rfl ?_
        refine zr_iload_n C 3 dX4_reason_17 rfl rfl ?_
        refine zr_iload_n C 4 dX4_reason_18 rfl rfl ?_
        obtain ⟨hT3, h⟩ := h
        refine zr_callV (As := [.int p2, .int p3]) (r := (RX2, TX2, 5)) C (k_X2_reasonOn h) ok_X4_152 zq_484 zq_485 hT3 (by decide) rfl rfl ⟨by decide, (Nat.le_of_ble_eq_true rfl)⟩ ⟨(Nat.le_of_ble_eq_true rfl), (Nat.le_of_ble_eq_true rfl)⟩ (Nat.le_of_ble_eq_true rfl) dX4_reason_19 (fun v5 U6 G7 hq => ?_)
        clear h
        · obtain ⟨r4, rfl, rfl, rfl, h⟩ := hq
          exact zr_iret C rfl ⟨_, rfl, rfl, rfl, h⟩ (Nat.le_of_ble_eq_true rfl) (Nat.le_of_ble_eq_true rfl) dX4_reason_22
theorem dX4_isFit_0 : decode cX4_isFit 0 = .ok (.aload_n 0, 1) := by decide +kernel
theorem dX4_isFit_1 : decode cX4_isFit 1 = .ok (.iload_n 1, 1) := by decide +kernel
theorem dX4_isFit_5 : decode cX4_isFit 5 = .ok (.astore 4, 2) := by decide +kernel
theorem dX4_isFit_7 : decode cX4_isFit 7 = .ok (.iload_n 2, 1) := by decide +kernel
theorem dX4_isFit_11 : decode cX4_isFit 11 = .ok (.iload_n 3, 1) := by decide +kernel
theorem dX4_isFit_15 : decode cX4_isFit 15 = .ok (.aload 4, 2) := by decide +kernel
theorem dX4_isFit_17 : decode cX4_isFit 17 = .ok (.iload_n 2, 1) := by decide +kernel
theorem dX4_isFit_18 : decode cX4_isFit 18 = .ok (.iload_n 3, 1) := by decide +kernel
theorem dX4_isFit_22 : decode cX4_isFit 22 = .ok (.ireturn, 1) := by decide +kernel
theorem dX4_isFit_19 : decode cX4_isFit 19 = .ok (.invokevirtual 141, 3) := by decide +kernel
theorem dX4_isFit_12 : decode cX4_isFit 12 = .ok (.invokestatic 86, 3) := by decide +kernel
theorem dX4_isFit_8 : decode cX4_isFit 8 = .ok (.invokestatic 101, 3) := by decide +kernel
theorem dX4_isFit_2 : decode cX4_isFit 2 = .ok (.invokevirtual 131, 3) := by decide +kernel
def v_X4_isFit (a0 : Nat) (p1 : Int32) (p2 : Int32) (p3 : Int32) (T : zT) (F : zF) (Post : Int32 → Prop) (PX : String → Prop) : Prop :=
  (T a0 = some (5, 4) ∧ (v_X4_pieceAt a0 p1 T F (fun (r2 : Nat) => (v_X4_needLand p2 T F (v_X4_needDay p3 T F (T r2 = some (3, 5) ∧ (v_X2_isFitOn r2 p2 p3 T F (fun (r4 : Int32) => ((r4 = 0 ∨ r4 = 1) ∧ Post r4)))) (fun (E9 : String) => PX E9)) (fun (E9 : String) => PX E9))) (fun (E9 : String) => PX E9)))
set_option maxRecDepth 100000 in
set_option maxHeartbeats 4000000 in
theorem k_X4_isFit {l : Launch} {D : va_G} {cA : Nat → ClassId} {N0 zE : Nat} {a0 : Nat} {p1 : Int32} {p2 : Int32} {p3 : Int32} {T : zT} {F : zF} {Post : Int32 → Prop} {PX : String → Prop} (h : v_X4_isFit a0 p1 p2 p3 T F Post PX) : z_Met l D cA N0 zE yX4_isFit cX4_isFit 5 (some .boolean) ({ frames := 7, cells := 3, slots := 18, locals := 111 } : Room) [.ref a0, .int p1, .int p2, .int p3] T F (fun v T' F' => ∃ r : Int32, v = some (.int r) ∧ T = T' ∧ F = F' ∧ Post r) (fun E T' F' => T = T' ∧ F = F' ∧ PX E) := by
  unfold v_X4_isFit at h
  refine z_body (by decide) (Nat.le_of_ble_eq_true rfl) ?_
  intro p e s m args below meth c C hxt hnm
  have C : z_C p l s m args meth c RX4 cX4_isFit 5 (some .boolean) D cA N0 zE := C
  show z_w p l e ({ frames := 7, cells := 3, slots := 18, locals := 111 } : Room) s m args below meth c D cA N0 5 0 0 (vx_MQ below (z_Qc D cA N0 (fun v T' F' => ∃ r : Int32, v = some (.int r) ∧ T = T' ∧ F = F' ∧ Post r)) (z_XC D cA N0 (fun E T' F' => T = T' ∧ F = F' ∧ PX E)) args s 3 18 (fun q => N0 ≤ q)) 0 [(0, .ref a0), (1, .int p1), (2, .int p2), (3, .int p3)] [] T F
  refine zr_aload_n C 0 dX4_isFit_0 rfl rfl ?_
  refine zr_iload_n C 1 dX4_isFit_1 rfl rfl ?_
  obtain ⟨hT1, h⟩ := h
  refine zr_callVX (As := [.int p1]) (r := (RX4, TX4, 4)) C (k_X4_pieceAt h) ok_X4_131 zq_438 zq_7 hT1 (by decide) rfl rfl ⟨by decide, (Nat.le_of_ble_eq_true rfl)⟩ ⟨(Nat.le_of_ble_eq_true rfl), (Nat.le_of_ble_eq_true rfl)⟩ (Nat.le_of_ble_eq_true rfl) dX4_isFit_2 (fun E9 T9 F9 hq => by obtain ⟨rfl, rfl, hq⟩ := hq; exact zr_out C (fun x hx => (hxt x hx).elim) ⟨rfl, rfl, hq⟩ (Nat.le_of_ble_eq_true rfl) (Nat.le_of_ble_eq_true rfl)) (fun v14 U15 G16 hq => ?_)
  clear h
  · obtain ⟨r2, rfl, rfl, rfl, h⟩ := hq
    refine zr_astore C [(4, .ref r2), (0, .ref a0), (1, .int p1), (2, .int p2), (3, .int p3)] dX4_isFit_5 (by decide) rfl ?_
    refine zr_iload_n C 3 dX4_isFit_7 rfl rfl ?_
    refine zr_callSX (As := [.int p2]) C (k_X4_needLand h) ok_X4_101 zq_477 rfl ⟨by decide, (Nat.le_of_ble_eq_true rfl)⟩ ⟨(Nat.le_of_ble_eq_true rfl), (Nat.le_of_ble_eq_true rfl)⟩ (Nat.le_of_ble_eq_true rfl) dX4_isFit_8 (fun E9 T9 F9 hq => by obtain ⟨rfl, rfl, hq⟩ := hq; exact zr_out C (fun x hx => (hxt x hx).elim) ⟨rfl, rfl, hq⟩ (Nat.le_of_ble_eq_true rfl) (Nat.le_of_ble_eq_true rfl)) (fun v11 U12 G13 hq => ?_)
    clear h
    · obtain ⟨rfl, rfl, rfl, h⟩ := hq
      refine zr_iload_n C 4 dX4_isFit_11 rfl rfl ?_
      refine zr_callSX (As := [.int p3]) C (k_X4_needDay h) ok_X4_86 zq_330 rfl ⟨by decide, (Nat.le_of_ble_eq_true rfl)⟩ ⟨(Nat.le_of_ble_eq_true rfl), (Nat.le_of_ble_eq_true rfl)⟩ (Nat.le_of_ble_eq_true rfl) dX4_isFit_12 (fun E9 T9 F9 hq => by obtain ⟨rfl, rfl, hq⟩ := hq; exact zr_out C (fun x hx => (hxt x hx).elim) ⟨rfl, rfl, hq⟩ (Nat.le_of_ble_eq_true rfl) (Nat.le_of_ble_eq_true rfl)) (fun v8 U9 G10 hq => ?_)
      clear h
      · obtain ⟨rfl, rfl, rfl, h⟩ := hq
        refine zr_aload C 0 dX4_isFit_15 rfl ?_
        refine zr_iload_n C 3 dX4_isFit_17 rfl rfl ?_
        refine zr_iload_n C 4 dX4_isFit_18 rfl rfl ?_
        obtain ⟨hT3, h⟩ := h
        refine zr_callV (As := [.int p2, .int p3]) (r := (RX2, TX2, 5)) C (k_X2_isFitOn h) ok_X4_141 zq_446 zq_447 hT3 (by decide) rfl rfl ⟨by decide, (Nat.le_of_ble_eq_true rfl)⟩ ⟨(Nat.le_of_ble_eq_true rfl), (Nat.le_of_ble_eq_true rfl)⟩ (Nat.le_of_ble_eq_true rfl) dX4_isFit_19 (fun v5 U6 G7 hq => ?_)
        clear h
        · obtain ⟨r4, rfl, rfl, rfl, h⟩ := hq
          obtain ⟨hb, h⟩ := h
          exact zr_X (zr_zret C rfl hb ⟨_, rfl, rfl, rfl, h⟩ (Nat.le_of_ble_eq_true rfl) (Nat.le_of_ble_eq_true rfl) dX4_isFit_22)
set_option maxRecDepth 100000 in
set_option maxHeartbeats 4000000 in
theorem k_X4_isFit0 {l : Launch} {D : va_G} {cA : Nat → ClassId} {N0 zE : Nat} {a0 : Nat} {p1 : Int32} {p2 : Int32} {p3 : Int32} {T : zT} {F : zF} {Post : Int32 → Prop} (h : v_X4_isFit a0 p1 p2 p3 T F Post (fun _ => False)) : z_Mt l D cA N0 zE yX4_isFit cX4_isFit 5 (some .boolean) ({ frames := 4, cells := 0, slots := 0, locals := 89 } : Room) [.ref a0, .int p1, .int p2, .int p3] T F (fun v T' F' => ∃ r : Int32, v = some (.int r) ∧ T = T' ∧ F = F' ∧ Post r) := by
  unfold v_X4_isFit at h
  refine z_bodyT (by decide) (Nat.le_of_ble_eq_true rfl) ?_
  intro p e s m args below meth c C hnm
  have C : z_C p l s m args meth c RX4 cX4_isFit 5 (some .boolean) D cA N0 zE := C
  show z_w p l e ({ frames := 4, cells := 0, slots := 0, locals := 89 } : Room) s m args below meth c D cA N0 5 0 0 (MQ below (z_Qc D cA N0 (fun v T' F' => ∃ r : Int32, v = some (.int r) ∧ T = T' ∧ F = F' ∧ Post r)) args s 0 0 (fun q => N0 ≤ q)) 0 [(0, .ref a0), (1, .int p1), (2, .int p2), (3, .int p3)] [] T F
  refine zr_aload_n C 0 dX4_isFit_0 rfl rfl ?_
  refine zr_iload_n C 1 dX4_isFit_1 rfl rfl ?_
  obtain ⟨hT1, h⟩ := h
  refine zr_callV (As := [.int p1]) (r := (RX4, TX4, 4)) C (k_X4_pieceAt0 h) ok_X4_131 zq_438 zq_7 hT1 (by decide) rfl rfl ⟨by decide, (Nat.le_of_ble_eq_true rfl)⟩ ⟨(Nat.le_of_ble_eq_true rfl), (Nat.le_of_ble_eq_true rfl)⟩ (Nat.le_of_ble_eq_true rfl) dX4_isFit_2 (fun v14 U15 G16 hq => ?_)
  clear h
  · obtain ⟨r2, rfl, rfl, rfl, h⟩ := hq
    refine zr_astore C [(4, .ref r2), (0, .ref a0), (1, .int p1), (2, .int p2), (3, .int p3)] dX4_isFit_5 (by decide) rfl ?_
    refine zr_iload_n C 3 dX4_isFit_7 rfl rfl ?_
    refine zr_callS (As := [.int p2]) C (k_X4_needLand0 h) ok_X4_101 zq_477 rfl ⟨by decide, (Nat.le_of_ble_eq_true rfl)⟩ ⟨(Nat.le_of_ble_eq_true rfl), (Nat.le_of_ble_eq_true rfl)⟩ (Nat.le_of_ble_eq_true rfl) dX4_isFit_8 (fun v11 U12 G13 hq => ?_)
    clear h
    · obtain ⟨rfl, rfl, rfl, h⟩ := hq
      refine zr_iload_n C 4 dX4_isFit_11 rfl rfl ?_
      refine zr_callS (As := [.int p3]) C (k_X4_needDay0 h) ok_X4_86 zq_330 rfl ⟨by decide, (Nat.le_of_ble_eq_true rfl)⟩ ⟨(Nat.le_of_ble_eq_true rfl), (Nat.le_of_ble_eq_true rfl)⟩ (Nat.le_of_ble_eq_true rfl) dX4_isFit_12 (fun v8 U9 G10 hq => ?_)
      clear h
      · obtain ⟨rfl, rfl, rfl, h⟩ := hq
        refine zr_aload C 0 dX4_isFit_15 rfl ?_
        refine zr_iload_n C 3 dX4_isFit_17 rfl rfl ?_
        refine zr_iload_n C 4 dX4_isFit_18 rfl rfl ?_
        obtain ⟨hT3, h⟩ := h
        refine zr_callV (As := [.int p2, .int p3]) (r := (RX2, TX2, 5)) C (k_X2_isFitOn h) ok_X4_141 zq_446 zq_447 hT3 (by decide) rfl rfl ⟨by decide, (Nat.le_of_ble_eq_true rfl)⟩ ⟨(Nat.le_of_ble_eq_true rfl), (Nat.le_of_ble_eq_true rfl)⟩ (Nat.le_of_ble_eq_true rfl) dX4_isFit_19 (fun v5 U6 G7 hq => ?_)
        clear h
        · obtain ⟨r4, rfl, rfl, rfl, h⟩ := hq
          obtain ⟨hb, h⟩ := h
          exact zr_zret C rfl hb ⟨_, rfl, rfl, rfl, h⟩ (Nat.le_of_ble_eq_true rfl) (Nat.le_of_ble_eq_true rfl) dX4_isFit_22
theorem dX4_ofPiece_0 : decode cX4_ofPiece 0 = .ok (.aload_n 0, 1) := by decide +kernel
theorem dX4_ofPiece_1 : decode cX4_ofPiece 1 = .ok (.iload_n 1, 1) := by decide +kernel
theorem dX4_ofPiece_5 : decode cX4_ofPiece 5 = .ok (.astore_n 3, 1) := by decide +kernel
theorem dX4_ofPiece_6 : decode cX4_ofPiece 6 = .ok (.iload_n 2, 1) := by decide +kernel
theorem dX4_ofPiece_76 : decode cX4_ofPiece 76 = .ok (.new 56, 3) := by decide +kernel
theorem dX4_ofPiece_79 : decode cX4_ofPiece 79 = .ok (.dup, 1) := by decide +kernel
theorem dX4_ofPiece_80 : decode cX4_ofPiece 80 = .ok (.ldc 171, 2) := by decide +kernel
theorem dX4_ofPiece_82 : decode cX4_ofPiece 82 = .ok (.invokespecial 60, 3) := by decide +kernel
theorem dX4_ofPiece_85 : decode cX4_ofPiece 85 = .ok (.athrow, 1) := by decide +kernel
theorem dX4_ofPiece_40 : decode cX4_ofPiece 40 = .ok (.aload_n 3, 1) := by decide +kernel
theorem dX4_ofPiece_41 : decode cX4_ofPiece 41 = .ok (.getfield 155, 3) := by decide +kernel
theorem dX4_ofPiece_44 : decode cX4_ofPiece 44 = .ok (.ireturn, 1) := by decide +kernel
theorem dX4_ofPiece_45 : decode cX4_ofPiece 45 = .ok (.aload_n 3, 1) := by decide +kernel
theorem dX4_ofPiece_46 : decode cX4_ofPiece 46 = .ok (.getfield 158, 3) := by decide +kernel
theorem dX4_ofPiece_49 : decode cX4_ofPiece 49 = .ok (.ireturn, 1) := by decide +kernel
theorem dX4_ofPiece_50 : decode cX4_ofPiece 50 = .ok (.aload_n 3, 1) := by decide +kernel
theorem dX4_ofPiece_51 : decode cX4_ofPiece 51 = .ok (.aload_n 0, 1) := by decide +kernel
theorem dX4_ofPiece_52 : decode cX4_ofPiece 52 = .ok (.getfield 23, 3) := by decide +kernel
theorem dX4_ofPiece_55 : decode cX4_ofPiece 55 = .ok (.getfield 52, 3) := by decide +kernel
theorem dX4_ofPiece_61 : decode cX4_ofPiece 61 = .ok (.ireturn, 1) := by decide +kernel
theorem dX4_ofPiece_58 : decode cX4_ofPiece 58 = .ok (.invokevirtual 161, 3) := by decide +kernel
theorem dX4_ofPiece_62 : decode cX4_ofPiece 62 = .ok (.aload_n 0, 1) := by decide +kernel
theorem dX4_ofPiece_63 : decode cX4_ofPiece 63 = .ok (.getfield 23, 3) := by decide +kernel
theorem dX4_ofPiece_66 : decode cX4_ofPiece 66 = .ok (.aload_n 3, 1) := by decide +kernel
theorem dX4_ofPiece_70 : decode cX4_ofPiece 70 = .ok (.ireturn, 1) := by decide +kernel
theorem dX4_ofPiece_67 : decode cX4_ofPiece 67 = .ok (.invokevirtual 164, 3) := by decide +kernel
theorem dX4_ofPiece_71 : decode cX4_ofPiece 71 = .ok (.aload_n 3, 1) := by decide +kernel
theorem dX4_ofPiece_75 : decode cX4_ofPiece 75 = .ok (.ireturn, 1) := by decide +kernel
theorem dX4_ofPiece_72 : decode cX4_ofPiece 72 = .ok (.invokevirtual 168, 3) := by decide +kernel
theorem dX4_ofPiece_7 : decode cX4_ofPiece 7 = .ok (.tableswitch 69 0 4 #[33, 38, 43, 55, 64], 33) := by decide +kernel
theorem dX4_ofPiece_2 : decode cX4_ofPiece 2 = .ok (.invokevirtual 131, 3) := by decide +kernel
def v_X4_ofPiece (a0 : Nat) (p1 : Int32) (p2 : Int32) (T : zT) (F : zF) (Post : Int32 → Prop) (PX : String → Prop) : Prop :=
  (T a0 = some (5, 4) ∧ (v_X4_pieceAt a0 p1 T F (fun (r2 : Nat) => (((p2.toInt < 0 ∨ 4 < p2.toInt) → PX "java/lang/IllegalArgumentException") ∧ (p2 = 0 → (T r2 = some (3, 5) ∧ ∃ x6 : Int32, F r2 1 = .int x6 ∧ Post x6)) ∧ (p2 = 1 → (T r2 = some (3, 5) ∧ ∃ x10 : Int32, F r2 2 = .int x10 ∧ Post x10)) ∧ (p2 = 2 → (∃ x13 : Nat, F a0 2 = .ref x13 ∧ T x13 = some (4, 3) ∧ ∃ x16 : Int32, F x13 2 = .int x16 ∧ T r2 = some (3, 5) ∧ (v_X2_landsFitOn r2 x16 T F (fun (r18 : Int32) => Post r18)))) ∧ (p2 = 3 → (∃ x24 : Nat, F a0 2 = .ref x24 ∧ T x24 = some (4, 3) ∧ (v_X3_openBookingsOf x24 r2 T F (fun (r26 : Int32) => Post r26)))) ∧ (p2 = 4 → (T r2 = some (3, 5) ∧ (v_X2_firstLaidDay r2 T F (fun (r32 : Int32) => Post r32)))))) (fun (E9 : String) => PX E9)))
set_option maxRecDepth 100000 in
set_option maxHeartbeats 4000000 in
theorem k_X4_ofPiece {l : Launch} {D : va_G} {cA : Nat → ClassId} {N0 zE : Nat} {a0 : Nat} {p1 : Int32} {p2 : Int32} {T : zT} {F : zF} {Post : Int32 → Prop} {PX : String → Prop} (h : v_X4_ofPiece a0 p1 p2 T F Post PX) : z_Met l D cA N0 zE yX4_ofPiece cX4_ofPiece 4 (some .int) ({ frames := 7, cells := 2, slots := 12, locals := 112 } : Room) [.ref a0, .int p1, .int p2] T F (fun v T' F' => ∃ r : Int32, v = some (.int r) ∧ T = T' ∧ F = F' ∧ Post r) (fun E T' F' => T = T' ∧ F = F' ∧ PX E) := by
  unfold v_X4_ofPiece at h
  refine z_body (by decide) (Nat.le_of_ble_eq_true rfl) ?_
  intro p e s m args below meth c C hxt hnm
  have C : z_C p l s m args meth c RX4 cX4_ofPiece 4 (some .int) D cA N0 zE := C
  show z_w p l e ({ frames := 7, cells := 2, slots := 12, locals := 112 } : Room) s m args below meth c D cA N0 4 0 0 (vx_MQ below (z_Qc D cA N0 (fun v T' F' => ∃ r : Int32, v = some (.int r) ∧ T = T' ∧ F = F' ∧ Post r)) (z_XC D cA N0 (fun E T' F' => T = T' ∧ F = F' ∧ PX E)) args s 2 12 (fun q => N0 ≤ q)) 0 [(0, .ref a0), (1, .int p1), (2, .int p2)] [] T F
  refine zr_aload_n C 0 dX4_ofPiece_0 rfl rfl ?_
  refine zr_iload_n C 1 dX4_ofPiece_1 rfl rfl ?_
  obtain ⟨hT1, h⟩ := h
  refine zr_callVX (As := [.int p1]) (r := (RX4, TX4, 4)) C (k_X4_pieceAt h) ok_X4_131 zq_438 zq_7 hT1 (by decide) rfl rfl ⟨by decide, (Nat.le_of_ble_eq_true rfl)⟩ ⟨(Nat.le_of_ble_eq_true rfl), (Nat.le_of_ble_eq_true rfl)⟩ (Nat.le_of_ble_eq_true rfl) dX4_ofPiece_2 (fun E9 T9 F9 hq => by obtain ⟨rfl, rfl, hq⟩ := hq; exact zr_out C (fun x hx => (hxt x hx).elim) ⟨rfl, rfl, hq⟩ (Nat.le_of_ble_eq_true rfl) (Nat.le_of_ble_eq_true rfl)) (fun v37 U38 G39 hq => ?_)
  clear h
  · obtain ⟨r2, rfl, rfl, rfl, h⟩ := hq
    refine zr_astore_n C [(3, .ref r2), (0, .ref a0), (1, .int p1), (2, .int p2)] dX4_ofPiece_5 rfl (by decide) rfl ?_
    refine zr_iload_n C 3 dX4_ofPiece_6 rfl rfl ?_
    obtain ⟨hs3, hs7, hs11, hs22, hs30, hs36⟩ := h
    by_cases hw : (p2).toInt < 0 ∨ 4 < (p2).toInt
    · have h := hs3 hw
      refine zr_tableOut C 76 dX4_ofPiece_7 hw (by decide) ?_
      exact zr_throw C th_X4_56_60_171 (fun x hx => (hxt x hx).elim) ⟨rfl, rfl, h⟩ dX4_ofPiece_76 dX4_ofPiece_79 dX4_ofPiece_80 dX4_ofPiece_82 dX4_ofPiece_85 (by decide) (Nat.le_of_ble_eq_true rfl) ⟨(Nat.le_of_ble_eq_true rfl), (Nat.le_of_ble_eq_true rfl)⟩ ⟨(Nat.le_of_ble_eq_true rfl), (Nat.le_of_ble_eq_true rfl)⟩
    by_cases hk0 : p2 = 0
    · have h := hs7 hk0
      refine zr_tableIn C 40 dX4_ofPiece_7 (by rw [hk0]; decide) (by rw [hk0]; decide) (by rw [hk0]; rfl) (by decide) ?_
      refine zr_aload_n C 0 dX4_ofPiece_40 rfl rfl ?_
      obtain ⟨hT4, x6, hv5, h⟩ := h
      refine zr_get C fl_X4_155 hT4 hv5 dX4_ofPiece_41 ?_
      exact zr_X (zr_iret C rfl ⟨_, rfl, rfl, rfl, h⟩ (Nat.le_of_ble_eq_true rfl) (Nat.le_of_ble_eq_true rfl) dX4_ofPiece_44)
    by_cases hk1 : p2 = 1
    · have h := hs11 hk1
      refine zr_tableIn C 45 dX4_ofPiece_7 (by rw [hk1]; decide) (by rw [hk1]; decide) (by rw [hk1]; rfl) (by decide) ?_
      refine zr_aload_n C 0 dX4_ofPiece_45 rfl rfl ?_
      obtain ⟨hT8, x10, hv9, h⟩ := h
      refine zr_get C fl_X4_158 hT8 hv9 dX4_ofPiece_46 ?_
      exact zr_X (zr_iret C rfl ⟨_, rfl, rfl, rfl, h⟩ (Nat.le_of_ble_eq_true rfl) (Nat.le_of_ble_eq_true rfl) dX4_ofPiece_49)
    by_cases hk2 : p2 = 2
    · have h := hs22 hk2
      refine zr_tableIn C 50 dX4_ofPiece_7 (by rw [hk2]; decide) (by rw [hk2]; decide) (by rw [hk2]; rfl) (by decide) ?_
      refine zr_aload_n C 0 dX4_ofPiece_50 rfl rfl ?_
      refine zr_aload_n C 1 dX4_ofPiece_51 rfl rfl ?_
      obtain ⟨x13, hv12, h⟩ := h
      refine zr_get C fl_X4_23 hT1 hv12 dX4_ofPiece_52 ?_
      obtain ⟨hT14, x16, hv15, h⟩ := h
      refine zr_get C fl_X4_52 hT14 hv15 dX4_ofPiece_55 ?_
      obtain ⟨hT17, h⟩ := h
      refine zr_callV (As := [.int x16]) (r := (RX2, TX2, 5)) C (k_X2_landsFitOn h) ok_X4_161 zq_442 zq_443 hT17 (by decide) rfl rfl ⟨by decide, (Nat.le_of_ble_eq_true rfl)⟩ ⟨(Nat.le_of_ble_eq_true rfl), (Nat.le_of_ble_eq_true rfl)⟩ (Nat.le_of_ble_eq_true rfl) dX4_ofPiece_58 (fun v19 U20 G21 hq => ?_)
      clear h
      · obtain ⟨r18, rfl, rfl, rfl, h⟩ := hq
        exact zr_X (zr_iret C rfl ⟨_, rfl, rfl, rfl, h⟩ (Nat.le_of_ble_eq_true rfl) (Nat.le_of_ble_eq_true rfl) dX4_ofPiece_61)
    by_cases hk3 : p2 = 3
    · have h := hs30 hk3
      refine zr_tableIn C 62 dX4_ofPiece_7 (by rw [hk3]; decide) (by rw [hk3]; decide) (by rw [hk3]; rfl) (by decide) ?_
      refine zr_aload_n C 1 dX4_ofPiece_62 rfl rfl ?_
      obtain ⟨x24, hv23, h⟩ := h
      refine zr_get C fl_X4_23 hT1 hv23 dX4_ofPiece_63 ?_
      refine zr_aload_n C 0 dX4_ofPiece_66 rfl rfl ?_
      obtain ⟨hT25, h⟩ := h
      refine zr_callV (As := [.ref r2]) (r := (RX3, TX3, 3)) C (k_X3_openBookingsOf h) ok_X4_164 zq_454 zq_455 hT25 (by decide) rfl rfl ⟨by decide, (Nat.le_of_ble_eq_true rfl)⟩ ⟨(Nat.le_of_ble_eq_true rfl), (Nat.le_of_ble_eq_true rfl)⟩ (Nat.le_of_ble_eq_true rfl) dX4_ofPiece_67 (fun v27 U28 G29 hq => ?_)
      clear h
      · obtain ⟨r26, rfl, rfl, rfl, h⟩ := hq
        exact zr_X (zr_iret C rfl ⟨_, rfl, rfl, rfl, h⟩ (Nat.le_of_ble_eq_true rfl) (Nat.le_of_ble_eq_true rfl) dX4_ofPiece_70)
    by_cases hk4 : p2 = 4
    · have h := hs36 hk4
      refine zr_tableIn C 71 dX4_ofPiece_7 (by rw [hk4]; decide) (by rw [hk4]; decide) (by rw [hk4]; rfl) (by decide) ?_
      refine zr_aload_n C 0 dX4_ofPiece_71 rfl rfl ?_
      obtain ⟨hT31, h⟩ := h
      refine zr_callV (As := []) (r := (RX2, TX2, 5)) C (k_X2_firstLaidDay h) ok_X4_168 zq_462 zq_463 hT31 (by decide) rfl rfl ⟨by decide, (Nat.le_of_ble_eq_true rfl)⟩ ⟨(Nat.le_of_ble_eq_true rfl), (Nat.le_of_ble_eq_true rfl)⟩ (Nat.le_of_ble_eq_true rfl) dX4_ofPiece_72 (fun v33 U34 G35 hq => ?_)
      clear h
      · obtain ⟨r32, rfl, rfl, rfl, h⟩ := hq
        exact zr_X (zr_iret C rfl ⟨_, rfl, rfl, rfl, h⟩ (Nat.le_of_ble_eq_true rfl) (Nat.le_of_ble_eq_true rfl) dX4_ofPiece_75)
    obtain ⟨j9, hj9, e9⟩ := z_sw 4 hw
    have hc9 : j9 = 0 ∨ j9 = 1 ∨ j9 = 2 ∨ j9 = 3 ∨ j9 = 4 := by omega
    rcases hc9 with rfl | rfl | rfl | rfl | rfl
    · exact absurd (e9.trans (by decide)) hk0
    · exact absurd (e9.trans (by decide)) hk1
    · exact absurd (e9.trans (by decide)) hk2
    · exact absurd (e9.trans (by decide)) hk3
    · exact absurd (e9.trans (by decide)) hk4
set_option maxRecDepth 100000 in
set_option maxHeartbeats 4000000 in
theorem k_X4_ofPiece0 {l : Launch} {D : va_G} {cA : Nat → ClassId} {N0 zE : Nat} {a0 : Nat} {p1 : Int32} {p2 : Int32} {T : zT} {F : zF} {Post : Int32 → Prop} (h : v_X4_ofPiece a0 p1 p2 T F Post (fun _ => False)) : z_Mt l D cA N0 zE yX4_ofPiece cX4_ofPiece 4 (some .int) ({ frames := 5, cells := 0, slots := 0, locals := 112 } : Room) [.ref a0, .int p1, .int p2] T F (fun v T' F' => ∃ r : Int32, v = some (.int r) ∧ T = T' ∧ F = F' ∧ Post r) := by
  unfold v_X4_ofPiece at h
  refine z_bodyT (by decide) (Nat.le_of_ble_eq_true rfl) ?_
  intro p e s m args below meth c C hnm
  have C : z_C p l s m args meth c RX4 cX4_ofPiece 4 (some .int) D cA N0 zE := C
  show z_w p l e ({ frames := 5, cells := 0, slots := 0, locals := 112 } : Room) s m args below meth c D cA N0 4 0 0 (MQ below (z_Qc D cA N0 (fun v T' F' => ∃ r : Int32, v = some (.int r) ∧ T = T' ∧ F = F' ∧ Post r)) args s 0 0 (fun q => N0 ≤ q)) 0 [(0, .ref a0), (1, .int p1), (2, .int p2)] [] T F
  refine zr_aload_n C 0 dX4_ofPiece_0 rfl rfl ?_
  refine zr_iload_n C 1 dX4_ofPiece_1 rfl rfl ?_
  obtain ⟨hT1, h⟩ := h
  refine zr_callV (As := [.int p1]) (r := (RX4, TX4, 4)) C (k_X4_pieceAt0 h) ok_X4_131 zq_438 zq_7 hT1 (by decide) rfl rfl ⟨by decide, (Nat.le_of_ble_eq_true rfl)⟩ ⟨(Nat.le_of_ble_eq_true rfl), (Nat.le_of_ble_eq_true rfl)⟩ (Nat.le_of_ble_eq_true rfl) dX4_ofPiece_2 (fun v37 U38 G39 hq => ?_)
  clear h
  · obtain ⟨r2, rfl, rfl, rfl, h⟩ := hq
    refine zr_astore_n C [(3, .ref r2), (0, .ref a0), (1, .int p1), (2, .int p2)] dX4_ofPiece_5 rfl (by decide) rfl ?_
    refine zr_iload_n C 3 dX4_ofPiece_6 rfl rfl ?_
    obtain ⟨hs3, hs7, hs11, hs22, hs30, hs36⟩ := h
    by_cases hw : (p2).toInt < 0 ∨ 4 < (p2).toInt
    · have h := hs3 hw
      refine zr_tableOut C 76 dX4_ofPiece_7 hw (by decide) ?_
      exact h.elim
    by_cases hk0 : p2 = 0
    · have h := hs7 hk0
      refine zr_tableIn C 40 dX4_ofPiece_7 (by rw [hk0]; decide) (by rw [hk0]; decide) (by rw [hk0]; rfl) (by decide) ?_
      refine zr_aload_n C 0 dX4_ofPiece_40 rfl rfl ?_
      obtain ⟨hT4, x6, hv5, h⟩ := h
      refine zr_get C fl_X4_155 hT4 hv5 dX4_ofPiece_41 ?_
      exact zr_iret C rfl ⟨_, rfl, rfl, rfl, h⟩ (Nat.le_of_ble_eq_true rfl) (Nat.le_of_ble_eq_true rfl) dX4_ofPiece_44
    by_cases hk1 : p2 = 1
    · have h := hs11 hk1
      refine zr_tableIn C 45 dX4_ofPiece_7 (by rw [hk1]; decide) (by rw [hk1]; decide) (by rw [hk1]; rfl) (by decide) ?_
      refine zr_aload_n C 0 dX4_ofPiece_45 rfl rfl ?_
      obtain ⟨hT8, x10, hv9, h⟩ := h
      refine zr_get C fl_X4_158 hT8 hv9 dX4_ofPiece_46 ?_
      exact zr_iret C rfl ⟨_, rfl, rfl, rfl, h⟩ (Nat.le_of_ble_eq_true rfl) (Nat.le_of_ble_eq_true rfl) dX4_ofPiece_49
    by_cases hk2 : p2 = 2
    · have h := hs22 hk2
      refine zr_tableIn C 50 dX4_ofPiece_7 (by rw [hk2]; decide) (by rw [hk2]; decide) (by rw [hk2]; rfl) (by decide) ?_
      refine zr_aload_n C 0 dX4_ofPiece_50 rfl rfl ?_
      refine zr_aload_n C 1 dX4_ofPiece_51 rfl rfl ?_
      obtain ⟨x13, hv12, h⟩ := h
      refine zr_get C fl_X4_23 hT1 hv12 dX4_ofPiece_52 ?_
      obtain ⟨hT14, x16, hv15, h⟩ := h
      refine zr_get C fl_X4_52 hT14 hv15 dX4_ofPiece_55 ?_
      obtain ⟨hT17, h⟩ := h
      refine zr_callV (As := [.int x16]) (r := (RX2, TX2, 5)) C (k_X2_landsFitOn h) ok_X4_161 zq_442 zq_443 hT17 (by decide) rfl rfl ⟨by decide, (Nat.le_of_ble_eq_true rfl)⟩ ⟨(Nat.le_of_ble_eq_true rfl), (Nat.le_of_ble_eq_true rfl)⟩ (Nat.le_of_ble_eq_true rfl) dX4_ofPiece_58 (fun v19 U20 G21 hq => ?_)
      clear h
      · obtain ⟨r18, rfl, rfl, rfl, h⟩ := hq
        exact zr_iret C rfl ⟨_, rfl, rfl, rfl, h⟩ (Nat.le_of_ble_eq_true rfl) (Nat.le_of_ble_eq_true rfl) dX4_ofPiece_61
    by_cases hk3 : p2 = 3
    · have h := hs30 hk3
      refine zr_tableIn C 62 dX4_ofPiece_7 (by rw [hk3]; decide) (by rw [hk3]; decide) (by rw [hk3]; rfl) (by decide) ?_
      refine zr_aload_n C 1 dX4_ofPiece_62 rfl rfl ?_
      obtain ⟨x24, hv23, h⟩ := h
      refine zr_get C fl_X4_23 hT1 hv23 dX4_ofPiece_63 ?_
      refine zr_aload_n C 0 dX4_ofPiece_66 rfl rfl ?_
      obtain ⟨hT25, h⟩ := h
      refine zr_callV (As := [.ref r2]) (r := (RX3, TX3, 3)) C (k_X3_openBookingsOf h) ok_X4_164 zq_454 zq_455 hT25 (by decide) rfl rfl ⟨by decide, (Nat.le_of_ble_eq_true rfl)⟩ ⟨(Nat.le_of_ble_eq_true rfl), (Nat.le_of_ble_eq_true rfl)⟩ (Nat.le_of_ble_eq_true rfl) dX4_ofPiece_67 (fun v27 U28 G29 hq => ?_)
      clear h
      · obtain ⟨r26, rfl, rfl, rfl, h⟩ := hq
        exact zr_iret C rfl ⟨_, rfl, rfl, rfl, h⟩ (Nat.le_of_ble_eq_true rfl) (Nat.le_of_ble_eq_true rfl) dX4_ofPiece_70
    by_cases hk4 : p2 = 4
    · have h := hs36 hk4
      refine zr_tableIn C 71 dX4_ofPiece_7 (by rw [hk4]; decide) (by rw [hk4]; decide) (by rw [hk4]; rfl) (by decide) ?_
      refine zr_aload_n C 0 dX4_ofPiece_71 rfl rfl ?_
      obtain ⟨hT31, h⟩ := h
      refine zr_callV (As := []) (r := (RX2, TX2, 5)) C (k_X2_firstLaidDay h) ok_X4_168 zq_462 zq_463 hT31 (by decide) rfl rfl ⟨by decide, (Nat.le_of_ble_eq_true rfl)⟩ ⟨(Nat.le_of_ble_eq_true rfl), (Nat.le_of_ble_eq_true rfl)⟩ (Nat.le_of_ble_eq_true rfl) dX4_ofPiece_72 (fun v33 U34 G35 hq => ?_)
      clear h
      · obtain ⟨r32, rfl, rfl, rfl, h⟩ := hq
        exact zr_iret C rfl ⟨_, rfl, rfl, rfl, h⟩ (Nat.le_of_ble_eq_true rfl) (Nat.le_of_ble_eq_true rfl) dX4_ofPiece_75
    obtain ⟨j9, hj9, e9⟩ := z_sw 4 hw
    have hc9 : j9 = 0 ∨ j9 = 1 ∨ j9 = 2 ∨ j9 = 3 ∨ j9 = 4 := by omega
    rcases hc9 with rfl | rfl | rfl | rfl | rfl
    · exact absurd (e9.trans (by decide)) hk0
    · exact absurd (e9.trans (by decide)) hk1
    · exact absurd (e9.trans (by decide)) hk2
    · exact absurd (e9.trans (by decide)) hk3
    · exact absurd (e9.trans (by decide)) hk4
theorem dX4_isMedium_0 : decode cX4_isMedium 0 = .ok (.iload_n 0, 1) := by decide +kernel
theorem dX4_isMedium_1 : decode cX4_isMedium 1 = .ok (.ifCond .lt 12, 3) := by decide +kernel
theorem dX4_isMedium_13 : decode cX4_isMedium 13 = .ok (.iconst 0, 1) := by decide +kernel
theorem dX4_isMedium_14 : decode cX4_isMedium 14 = .ok (.ireturn, 1) := by decide +kernel
theorem dX4_isMedium_4 : decode cX4_isMedium 4 = .ok (.iload_n 0, 1) := by decide +kernel
theorem dX4_isMedium_5 : decode cX4_isMedium 5 = .ok (.iconst 4, 1) := by decide +kernel
theorem dX4_isMedium_6 : decode cX4_isMedium 6 = .ok (.if_icmp .ge 7, 3) := by decide +kernel
theorem dX4_isMedium_9 : decode cX4_isMedium 9 = .ok (.iconst 1, 1) := by decide +kernel
theorem dX4_isMedium_10 : decode cX4_isMedium 10 = .ok (.goto 4, 3) := by decide +kernel
def v_X4_isMedium (p0 : Int32) (T : zT) (F : zF) (Post : Int32 → Prop) : Prop :=
  ((p0 < 0 → Post 0) ∧ (¬ p0 < 0 → ((4 ≤ p0 → Post 0) ∧ (¬ 4 ≤ p0 → Post 1))))
set_option maxRecDepth 100000 in
set_option maxHeartbeats 4000000 in
theorem k_X4_isMedium {l : Launch} {D : va_G} {cA : Nat → ClassId} {N0 zE : Nat} {p0 : Int32} {T : zT} {F : zF} {Post : Int32 → Prop} (h : v_X4_isMedium p0 T F Post) : z_Mt l D cA N0 zE yX4_isMedium cX4_isMedium 1 (some .boolean) ({ frames := 0, cells := 0, slots := 0, locals := 0 } : Room) [.int p0] T F (fun v T' F' => ∃ r : Int32, v = some (.int r) ∧ T = T' ∧ F = F' ∧ Post r) := by
  unfold v_X4_isMedium at h
  refine z_bodyT (by decide) (Nat.le_of_ble_eq_true rfl) ?_
  intro p e s m args below meth c C hnm
  have C : z_C p l s m args meth c RX4 cX4_isMedium 1 (some .boolean) D cA N0 zE := C
  show z_w p l e ({ frames := 0, cells := 0, slots := 0, locals := 0 } : Room) s m args below meth c D cA N0 1 0 0 (MQ below (z_Qc D cA N0 (fun v T' F' => ∃ r : Int32, v = some (.int r) ∧ T = T' ∧ F = F' ∧ Post r)) args s 0 0 (fun q => N0 ≤ q)) 0 [(0, .int p0)] [] T F
  refine zr_iload_n C 0 dX4_isMedium_0 rfl rfl ?_
  obtain ⟨h1, h2⟩ := h
  refine zr_if_lt C 13 dX4_isMedium_1 (by decide) (fun hc => ?_) (fun hc => ?_)
  · have h := h1 hc
    clear h1 h2
    refine zr_iconst C 0 dX4_isMedium_13 (by decide) ?_
    exact zr_zret C rfl (Or.inl rfl) ⟨_, rfl, rfl, rfl, h⟩ (Nat.le_of_ble_eq_true rfl) (Nat.le_of_ble_eq_true rfl) dX4_isMedium_14
  · have h := h2 hc
    clear h1 h2
    refine zr_iload_n C 0 dX4_isMedium_4 rfl rfl ?_
    refine zr_iconst C 4 dX4_isMedium_5 (by decide) ?_
    obtain ⟨h1, h2⟩ := h
    refine zr_icmp_ge C 13 dX4_isMedium_6 (by decide) (fun hc => ?_) (fun hc => ?_)
    · have h := h1 hc
      clear h1 h2
      refine zr_iconst C 0 dX4_isMedium_13 (by decide) ?_
      exact zr_zret C rfl (Or.inl rfl) ⟨_, rfl, rfl, rfl, h⟩ (Nat.le_of_ble_eq_true rfl) (Nat.le_of_ble_eq_true rfl) dX4_isMedium_14
    · have h := h2 hc
      clear h1 h2
      refine zr_iconst C 1 dX4_isMedium_9 (by decide) ?_
      refine zr_goto C 14 dX4_isMedium_10 (by decide) ?_
      exact zr_zret C rfl (Or.inr rfl) ⟨_, rfl, rfl, rfl, h⟩ (Nat.le_of_ble_eq_true rfl) (Nat.le_of_ble_eq_true rfl) dX4_isMedium_14
theorem dX4_needMedium_0 : decode cX4_needMedium 0 = .ok (.iload_n 0, 1) := by decide +kernel
theorem dX4_needMedium_4 : decode cX4_needMedium 4 = .ok (.ifCond .ne 14, 3) := by decide +kernel
theorem dX4_needMedium_18 : decode cX4_needMedium 18 = .ok (.return_, 1) := by decide +kernel
theorem dX4_needMedium_7 : decode cX4_needMedium 7 = .ok (.new 307, 3) := by decide +kernel
theorem dX4_needMedium_10 : decode cX4_needMedium 10 = .ok (.dup, 1) := by decide +kernel
theorem dX4_needMedium_11 : decode cX4_needMedium 11 = .ok (.ldc_w 371, 3) := by decide +kernel
theorem dX4_needMedium_14 : decode cX4_needMedium 14 = .ok (.invokespecial 309, 3) := by decide +kernel
theorem dX4_needMedium_17 : decode cX4_needMedium 17 = .ok (.athrow, 1) := by decide +kernel
theorem dX4_needMedium_1 : decode cX4_needMedium 1 = .ok (.invokestatic 351, 3) := by decide +kernel
def v_X4_needMedium (p0 : Int32) (T : zT) (F : zF) (Post : Prop) (PX : String → Prop) : Prop :=
  (v_X4_isMedium p0 T F (fun (r1 : Int32) => ((¬ r1 = 0 → Post) ∧ (r1 = 0 → PX "java/lang/IndexOutOfBoundsException"))))
set_option maxRecDepth 100000 in
set_option maxHeartbeats 4000000 in
theorem k_X4_needMedium {l : Launch} {D : va_G} {cA : Nat → ClassId} {N0 zE : Nat} {p0 : Int32} {T : zT} {F : zF} {Post : Prop} {PX : String → Prop} (h : v_X4_needMedium p0 T F Post PX) : z_Met l D cA N0 zE yX4_needMedium cX4_needMedium 1 none ({ frames := 6, cells := 1, slots := 6, locals := 90 } : Room) [.int p0] T F (fun v T' F' => v = none ∧ T = T' ∧ F = F' ∧ Post) (fun E T' F' => T = T' ∧ F = F' ∧ PX E) := by
  unfold v_X4_needMedium at h
  refine z_body (by decide) (Nat.le_of_ble_eq_true rfl) ?_
  intro p e s m args below meth c C hxt hnm
  have C : z_C p l s m args meth c RX4 cX4_needMedium 1 none D cA N0 zE := C
  show z_w p l e ({ frames := 6, cells := 1, slots := 6, locals := 90 } : Room) s m args below meth c D cA N0 1 0 0 (vx_MQ below (z_Qc D cA N0 (fun v T' F' => v = none ∧ T = T' ∧ F = F' ∧ Post)) (z_XC D cA N0 (fun E T' F' => T = T' ∧ F = F' ∧ PX E)) args s 1 6 (fun q => N0 ≤ q)) 0 [(0, .int p0)] [] T F
  refine zr_iload_n C 0 dX4_needMedium_0 rfl rfl ?_
  refine zr_callS (As := [.int p0]) C (k_X4_isMedium h) ok_X4_351 zq_541 rfl ⟨by decide, (Nat.le_of_ble_eq_true rfl)⟩ ⟨(Nat.le_of_ble_eq_true rfl), (Nat.le_of_ble_eq_true rfl)⟩ (Nat.le_of_ble_eq_true rfl) dX4_needMedium_1 (fun v2 U3 G4 hq => ?_)
  clear h
  · obtain ⟨r1, rfl, rfl, rfl, h⟩ := hq
    obtain ⟨h1, h2⟩ := h
    refine zr_if_ne C 18 dX4_needMedium_4 (by decide) (fun hc => ?_) (fun hc => ?_)
    · have h := h1 hc
      clear h1 h2
      exact zr_X (zr_vret C rfl ⟨rfl, rfl, rfl, h⟩ (Nat.le_of_ble_eq_true rfl) (Nat.le_of_ble_eq_true rfl) dX4_needMedium_18)
    · have h := h2 hc
      clear h1 h2
      exact zr_throwW C th_X4_307_309_371 (fun x hx => (hxt x hx).elim) ⟨rfl, rfl, h⟩ dX4_needMedium_7 dX4_needMedium_10 dX4_needMedium_11 dX4_needMedium_14 dX4_needMedium_17 (by decide) (Nat.le_of_ble_eq_true rfl) ⟨(Nat.le_of_ble_eq_true rfl), (Nat.le_of_ble_eq_true rfl)⟩ ⟨(Nat.le_of_ble_eq_true rfl), (Nat.le_of_ble_eq_true rfl)⟩
set_option maxRecDepth 100000 in
set_option maxHeartbeats 4000000 in
theorem k_X4_needMedium0 {l : Launch} {D : va_G} {cA : Nat → ClassId} {N0 zE : Nat} {p0 : Int32} {T : zT} {F : zF} {Post : Prop} (h : v_X4_needMedium p0 T F Post (fun _ => False)) : z_Mt l D cA N0 zE yX4_needMedium cX4_needMedium 1 none ({ frames := 1, cells := 0, slots := 0, locals := 20 } : Room) [.int p0] T F (fun v T' F' => v = none ∧ T = T' ∧ F = F' ∧ Post) := by
  unfold v_X4_needMedium at h
  refine z_bodyT (by decide) (Nat.le_of_ble_eq_true rfl) ?_
  intro p e s m args below meth c C hnm
  have C : z_C p l s m args meth c RX4 cX4_needMedium 1 none D cA N0 zE := C
  show z_w p l e ({ frames := 1, cells := 0, slots := 0, locals := 20 } : Room) s m args below meth c D cA N0 1 0 0 (MQ below (z_Qc D cA N0 (fun v T' F' => v = none ∧ T = T' ∧ F = F' ∧ Post)) args s 0 0 (fun q => N0 ≤ q)) 0 [(0, .int p0)] [] T F
  refine zr_iload_n C 0 dX4_needMedium_0 rfl rfl ?_
  refine zr_callS (As := [.int p0]) C (k_X4_isMedium h) ok_X4_351 zq_541 rfl ⟨by decide, (Nat.le_of_ble_eq_true rfl)⟩ ⟨(Nat.le_of_ble_eq_true rfl), (Nat.le_of_ble_eq_true rfl)⟩ (Nat.le_of_ble_eq_true rfl) dX4_needMedium_1 (fun v2 U3 G4 hq => ?_)
  clear h
  · obtain ⟨r1, rfl, rfl, rfl, h⟩ := hq
    obtain ⟨h1, h2⟩ := h
    refine zr_if_ne C 18 dX4_needMedium_4 (by decide) (fun hc => ?_) (fun hc => ?_)
    · have h := h1 hc
      clear h1 h2
      exact zr_vret C rfl ⟨rfl, rfl, rfl, h⟩ (Nat.le_of_ble_eq_true rfl) (Nat.le_of_ble_eq_true rfl) dX4_needMedium_18
    · have h := h2 hc
      clear h1 h2
      exact h.elim
theorem dX4_needOffer_0 : decode cX4_needOffer 0 = .ok (.iload_n 1, 1) := by decide +kernel
theorem dX4_needOffer_1 : decode cX4_needOffer 1 = .ok (.aload_n 0, 1) := by decide +kernel
theorem dX4_needOffer_2 : decode cX4_needOffer 2 = .ok (.getfield 23, 3) := by decide +kernel
theorem dX4_needOffer_5 : decode cX4_needOffer 5 = .ok (.getfield 52, 3) := by decide +kernel
theorem dX4_needOffer_8 : decode cX4_needOffer 8 = .ok (.if_icmp .gt 14, 3) := by decide +kernel
theorem dX4_needOffer_22 : decode cX4_needOffer 22 = .ok (.iload_n 2, 1) := by decide +kernel
theorem dX4_needOffer_23 : decode cX4_needOffer 23 = .ok (.iload_n 1, 1) := by decide +kernel
theorem dX4_needOffer_24 : decode cX4_needOffer 24 = .ok (.if_icmp .lt 9, 3) := by decide +kernel
theorem dX4_needOffer_33 : decode cX4_needOffer 33 = .ok (.new 56, 3) := by decide +kernel
theorem dX4_needOffer_36 : decode cX4_needOffer 36 = .ok (.dup, 1) := by decide +kernel
theorem dX4_needOffer_37 : decode cX4_needOffer 37 = .ok (.ldc_w 365, 3) := by decide +kernel
theorem dX4_needOffer_40 : decode cX4_needOffer 40 = .ok (.invokespecial 60, 3) := by decide +kernel
theorem dX4_needOffer_43 : decode cX4_needOffer 43 = .ok (.athrow, 1) := by decide +kernel
theorem dX4_needOffer_27 : decode cX4_needOffer 27 = .ok (.iload_n 2, 1) := by decide +kernel
theorem dX4_needOffer_28 : decode cX4_needOffer 28 = .ok (.bipush 99, 2) := by decide +kernel
theorem dX4_needOffer_30 : decode cX4_needOffer 30 = .ok (.if_icmp .le 14, 3) := by decide +kernel
theorem dX4_needOffer_44 : decode cX4_needOffer 44 = .ok (.iload_n 3, 1) := by decide +kernel
theorem dX4_needOffer_45 : decode cX4_needOffer 45 = .ok (.iconst 1, 1) := by decide +kernel
theorem dX4_needOffer_46 : decode cX4_needOffer 46 = .ok (.if_icmp .lt 10, 3) := by decide +kernel
theorem dX4_needOffer_56 : decode cX4_needOffer 56 = .ok (.new 56, 3) := by decide +kernel
theorem dX4_needOffer_59 : decode cX4_needOffer 59 = .ok (.dup, 1) := by decide +kernel
theorem dX4_needOffer_60 : decode cX4_needOffer 60 = .ok (.ldc_w 367, 3) := by decide +kernel
theorem dX4_needOffer_63 : decode cX4_needOffer 63 = .ok (.invokespecial 60, 3) := by decide +kernel
theorem dX4_needOffer_66 : decode cX4_needOffer 66 = .ok (.athrow, 1) := by decide +kernel
theorem dX4_needOffer_49 : decode cX4_needOffer 49 = .ok (.iload_n 3, 1) := by decide +kernel
theorem dX4_needOffer_50 : decode cX4_needOffer 50 = .ok (.sipush 999, 3) := by decide +kernel
theorem dX4_needOffer_53 : decode cX4_needOffer 53 = .ok (.if_icmp .le 14, 3) := by decide +kernel
theorem dX4_needOffer_67 : decode cX4_needOffer 67 = .ok (.return_, 1) := by decide +kernel
theorem dX4_needOffer_11 : decode cX4_needOffer 11 = .ok (.new 56, 3) := by decide +kernel
theorem dX4_needOffer_14 : decode cX4_needOffer 14 = .ok (.dup, 1) := by decide +kernel
theorem dX4_needOffer_15 : decode cX4_needOffer 15 = .ok (.ldc_w 363, 3) := by decide +kernel
theorem dX4_needOffer_18 : decode cX4_needOffer 18 = .ok (.invokespecial 60, 3) := by decide +kernel
theorem dX4_needOffer_21 : decode cX4_needOffer 21 = .ok (.athrow, 1) := by decide +kernel
def v_X4_needOffer (a0 : Nat) (p1 : Int32) (p2 : Int32) (p3 : Int32) (T : zT) (F : zF) (Post : Prop) (PX : String → Prop) : Prop :=
  (T a0 = some (5, 4) ∧ ∃ x3 : Nat, F a0 2 = .ref x3 ∧ T x3 = some (4, 3) ∧ ∃ x6 : Int32, F x3 2 = .int x6 ∧ ((x6 < p1 → ((p2 < p1 → PX "java/lang/IllegalArgumentException") ∧ (¬ p2 < p1 → ((p2 ≤ 99 → ((p3 < 1 → PX "java/lang/IllegalArgumentException") ∧ (¬ p3 < 1 → ((p3 ≤ 999 → Post) ∧ (¬ p3 ≤ 999 → PX "java/lang/IllegalArgumentException"))))) ∧ (¬ p2 ≤ 99 → PX "java/lang/IllegalArgumentException"))))) ∧ (¬ x6 < p1 → PX "java/lang/IllegalArgumentException")))
set_option maxRecDepth 100000 in
set_option maxHeartbeats 4000000 in
theorem k_X4_needOffer {l : Launch} {D : va_G} {cA : Nat → ClassId} {N0 zE : Nat} {a0 : Nat} {p1 : Int32} {p2 : Int32} {p3 : Int32} {T : zT} {F : zF} {Post : Prop} {PX : String → Prop} (h : v_X4_needOffer a0 p1 p2 p3 T F Post PX) : z_Met l D cA N0 zE yX4_needOffer cX4_needOffer 4 none ({ frames := 6, cells := 1, slots := 6, locals := 90 } : Room) [.ref a0, .int p1, .int p2, .int p3] T F (fun v T' F' => v = none ∧ T = T' ∧ F = F' ∧ Post) (fun E T' F' => T = T' ∧ F = F' ∧ PX E) := by
  unfold v_X4_needOffer at h
  refine z_body (by decide) (Nat.le_of_ble_eq_true rfl) ?_
  intro p e s m args below meth c C hxt hnm
  have C : z_C p l s m args meth c RX4 cX4_needOffer 4 none D cA N0 zE := C
  show z_w p l e ({ frames := 6, cells := 1, slots := 6, locals := 90 } : Room) s m args below meth c D cA N0 4 0 0 (vx_MQ below (z_Qc D cA N0 (fun v T' F' => v = none ∧ T = T' ∧ F = F' ∧ Post)) (z_XC D cA N0 (fun E T' F' => T = T' ∧ F = F' ∧ PX E)) args s 1 6 (fun q => N0 ≤ q)) 0 [(0, .ref a0), (1, .int p1), (2, .int p2), (3, .int p3)] [] T F
  refine zr_iload_n C 1 dX4_needOffer_0 rfl rfl ?_
  refine zr_aload_n C 0 dX4_needOffer_1 rfl rfl ?_
  obtain ⟨hT1, x3, hv2, h⟩ := h
  refine zr_get C fl_X4_23 hT1 hv2 dX4_needOffer_2 ?_
  obtain ⟨hT4, x6, hv5, h⟩ := h
  refine zr_get C fl_X4_52 hT4 hv5 dX4_needOffer_5 ?_
  obtain ⟨h1, h2⟩ := h
  refine zr_icmp_gt C 22 dX4_needOffer_8 (by decide) (fun hc => ?_) (fun hc => ?_)
  · have h := h1 hc
    clear h1 h2
    refine zr_iload_n C 2 dX4_needOffer_22 rfl rfl ?_
    refine zr_iload_n C 1 dX4_needOffer_23 rfl rfl ?_
    obtain ⟨h1, h2⟩ := h
    refine zr_icmp_lt C 33 dX4_needOffer_24 (by decide) (fun hc => ?_) (fun hc => ?_)
    · have h := h1 hc
      clear h1 h2
      exact zr_throwW C th_X4_56_60_365 (fun x hx => (hxt x hx).elim) ⟨rfl, rfl, h⟩ dX4_needOffer_33 dX4_needOffer_36 dX4_needOffer_37 dX4_needOffer_40 dX4_needOffer_43 (by decide) (Nat.le_of_ble_eq_true rfl) ⟨(Nat.le_of_ble_eq_true rfl), (Nat.le_of_ble_eq_true rfl)⟩ ⟨(Nat.le_of_ble_eq_true rfl), (Nat.le_of_ble_eq_true rfl)⟩
    · have h := h2 hc
      clear h1 h2
      refine zr_iload_n C 2 dX4_needOffer_27 rfl rfl ?_
      refine zr_bipush C 99 dX4_needOffer_28 (by decide) ?_
      obtain ⟨h1, h2⟩ := h
      refine zr_icmp_le C 44 dX4_needOffer_30 (by decide) (fun hc => ?_) (fun hc => ?_)
      · have h := h1 hc
        clear h1 h2
        refine zr_iload_n C 3 dX4_needOffer_44 rfl rfl ?_
        refine zr_iconst C 1 dX4_needOffer_45 (by decide) ?_
        obtain ⟨h1, h2⟩ := h
        refine zr_icmp_lt C 56 dX4_needOffer_46 (by decide) (fun hc => ?_) (fun hc => ?_)
        · have h := h1 hc
          clear h1 h2
          exact zr_throwW C th_X4_56_60_367 (fun x hx => (hxt x hx).elim) ⟨rfl, rfl, h⟩ dX4_needOffer_56 dX4_needOffer_59 dX4_needOffer_60 dX4_needOffer_63 dX4_needOffer_66 (by decide) (Nat.le_of_ble_eq_true rfl) ⟨(Nat.le_of_ble_eq_true rfl), (Nat.le_of_ble_eq_true rfl)⟩ ⟨(Nat.le_of_ble_eq_true rfl), (Nat.le_of_ble_eq_true rfl)⟩
        · have h := h2 hc
          clear h1 h2
          refine zr_iload_n C 3 dX4_needOffer_49 rfl rfl ?_
          refine zr_sipush C 999 dX4_needOffer_50 (by decide) ?_
          obtain ⟨h1, h2⟩ := h
          refine zr_icmp_le C 67 dX4_needOffer_53 (by decide) (fun hc => ?_) (fun hc => ?_)
          · have h := h1 hc
            clear h1 h2
            exact zr_X (zr_vret C rfl ⟨rfl, rfl, rfl, h⟩ (Nat.le_of_ble_eq_true rfl) (Nat.le_of_ble_eq_true rfl) dX4_needOffer_67)
          · have h := h2 hc
            clear h1 h2
            exact zr_throwW C th_X4_56_60_367 (fun x hx => (hxt x hx).elim) ⟨rfl, rfl, h⟩ dX4_needOffer_56 dX4_needOffer_59 dX4_needOffer_60 dX4_needOffer_63 dX4_needOffer_66 (by decide) (Nat.le_of_ble_eq_true rfl) ⟨(Nat.le_of_ble_eq_true rfl), (Nat.le_of_ble_eq_true rfl)⟩ ⟨(Nat.le_of_ble_eq_true rfl), (Nat.le_of_ble_eq_true rfl)⟩
      · have h := h2 hc
        clear h1 h2
        exact zr_throwW C th_X4_56_60_365 (fun x hx => (hxt x hx).elim) ⟨rfl, rfl, h⟩ dX4_needOffer_33 dX4_needOffer_36 dX4_needOffer_37 dX4_needOffer_40 dX4_needOffer_43 (by decide) (Nat.le_of_ble_eq_true rfl) ⟨(Nat.le_of_ble_eq_true rfl), (Nat.le_of_ble_eq_true rfl)⟩ ⟨(Nat.le_of_ble_eq_true rfl), (Nat.le_of_ble_eq_true rfl)⟩
  · have h := h2 hc
    clear h1 h2
    exact zr_throwW C th_X4_56_60_363 (fun x hx => (hxt x hx).elim) ⟨rfl, rfl, h⟩ dX4_needOffer_11 dX4_needOffer_14 dX4_needOffer_15 dX4_needOffer_18 dX4_needOffer_21 (by decide) (Nat.le_of_ble_eq_true rfl) ⟨(Nat.le_of_ble_eq_true rfl), (Nat.le_of_ble_eq_true rfl)⟩ ⟨(Nat.le_of_ble_eq_true rfl), (Nat.le_of_ble_eq_true rfl)⟩
set_option maxRecDepth 100000 in
set_option maxHeartbeats 4000000 in
theorem k_X4_needOffer0 {l : Launch} {D : va_G} {cA : Nat → ClassId} {N0 zE : Nat} {a0 : Nat} {p1 : Int32} {p2 : Int32} {p3 : Int32} {T : zT} {F : zF} {Post : Prop} (h : v_X4_needOffer a0 p1 p2 p3 T F Post (fun _ => False)) : z_Mt l D cA N0 zE yX4_needOffer cX4_needOffer 4 none ({ frames := 0, cells := 0, slots := 0, locals := 0 } : Room) [.ref a0, .int p1, .int p2, .int p3] T F (fun v T' F' => v = none ∧ T = T' ∧ F = F' ∧ Post) := by
  unfold v_X4_needOffer at h
  refine z_bodyT (by decide) (Nat.le_of_ble_eq_true rfl) ?_
  intro p e s m args below meth c C hnm
  have C : z_C p l s m args meth c RX4 cX4_needOffer 4 none D cA N0 zE := C
  show z_w p l e ({ frames := 0, cells := 0, slots := 0, locals := 0 } : Room) s m args below meth c D cA N0 4 0 0 (MQ below (z_Qc D cA N0 (fun v T' F' => v = none ∧ T = T' ∧ F = F' ∧ Post)) args s 0 0 (fun q => N0 ≤ q)) 0 [(0, .ref a0), (1, .int p1), (2, .int p2), (3, .int p3)] [] T F
  refine zr_iload_n C 1 dX4_needOffer_0 rfl rfl ?_
  refine zr_aload_n C 0 dX4_needOffer_1 rfl rfl ?_
  obtain ⟨hT1, x3, hv2, h⟩ := h
  refine zr_get C fl_X4_23 hT1 hv2 dX4_needOffer_2 ?_
  obtain ⟨hT4, x6, hv5, h⟩ := h
  refine zr_get C fl_X4_52 hT4 hv5 dX4_needOffer_5 ?_
  obtain ⟨h1, h2⟩ := h
  refine zr_icmp_gt C 22 dX4_needOffer_8 (by decide) (fun hc => ?_) (fun hc => ?_)
  · have h := h1 hc
    clear h1 h2
    refine zr_iload_n C 2 dX4_needOffer_22 rfl rfl ?_
    refine zr_iload_n C 1 dX4_needOffer_23 rfl rfl ?_
    obtain ⟨h1, h2⟩ := h
    refine zr_icmp_lt C 33 dX4_needOffer_24 (by decide) (fun hc => ?_) (fun hc => ?_)
    · have h := h1 hc
      clear h1 h2
      exact h.elim
    · have h := h2 hc
      clear h1 h2
      refine zr_iload_n C 2 dX4_needOffer_27 rfl rfl ?_
      refine zr_bipush C 99 dX4_needOffer_28 (by decide) ?_
      obtain ⟨h1, h2⟩ := h
      refine zr_icmp_le C 44 dX4_needOffer_30 (by decide) (fun hc => ?_) (fun hc => ?_)
      · have h := h1 hc
        clear h1 h2
        refine zr_iload_n C 3 dX4_needOffer_44 rfl rfl ?_
        refine zr_iconst C 1 dX4_needOffer_45 (by decide) ?_
        obtain ⟨h1, h2⟩ := h
        refine zr_icmp_lt C 56 dX4_needOffer_46 (by decide) (fun hc => ?_) (fun hc => ?_)
        · have h := h1 hc
          clear h1 h2
          exact h.elim
        · have h := h2 hc
          clear h1 h2
          refine zr_iload_n C 3 dX4_needOffer_49 rfl rfl ?_
          refine zr_sipush C 999 dX4_needOffer_50 (by decide) ?_
          obtain ⟨h1, h2⟩ := h
          refine zr_icmp_le C 67 dX4_needOffer_53 (by decide) (fun hc => ?_) (fun hc => ?_)
          · have h := h1 hc
            clear h1 h2
            exact zr_vret C rfl ⟨rfl, rfl, rfl, h⟩ (Nat.le_of_ble_eq_true rfl) (Nat.le_of_ble_eq_true rfl) dX4_needOffer_67
          · have h := h2 hc
            clear h1 h2
            exact h.elim
      · have h := h2 hc
        clear h1 h2
        exact h.elim
  · have h := h2 hc
    clear h1 h2
    exact h.elim
theorem dX4_book_0 : decode cX4_book 0 = .ok (.aload_n 0, 1) := by decide +kernel
theorem dX4_book_1 : decode cX4_book 1 = .ok (.iload_n 1, 1) := by decide +kernel
theorem dX4_book_5 : decode cX4_book 5 = .ok (.astore 7, 2) := by decide +kernel
theorem dX4_book_7 : decode cX4_book 7 = .ok (.iload_n 2, 1) := by decide +kernel
theorem dX4_book_11 : decode cX4_book 11 = .ok (.iload_n 3, 1) := by decide +kernel
theorem dX4_book_15 : decode cX4_book 15 = .ok (.aload_n 0, 1) := by decide +kernel
theorem dX4_book_16 : decode cX4_book 16 = .ok (.iload 4, 2) := by decide +kernel
theorem dX4_book_18 : decode cX4_book 18 = .ok (.iload 5, 2) := by decide +kernel
theorem dX4_book_20 : decode cX4_book 20 = .ok (.iload 6, 2) := by decide +kernel
theorem dX4_book_25 : decode cX4_book 25 = .ok (.aload_n 0, 1) := by decide +kernel
theorem dX4_book_26 : decode cX4_book 26 = .ok (.getfield 23, 3) := by decide +kernel
theorem dX4_book_29 : decode cX4_book 29 = .ok (.getfield 179, 3) := by decide +kernel
theorem dX4_book_35 : decode cX4_book 35 = .ok (.bipush 16, 2) := by decide +kernel
theorem dX4_book_37 : decode cX4_book 37 = .ok (.if_icmp .lt 13, 3) := by decide +kernel
theorem dX4_book_50 : decode cX4_book 50 = .ok (.aload_n 0, 1) := by decide +kernel
theorem dX4_book_51 : decode cX4_book 51 = .ok (.getfield 23, 3) := by decide +kernel
theorem dX4_book_54 : decode cX4_book 54 = .ok (.iload_n 2, 1) := by decide +kernel
theorem dX4_book_55 : decode cX4_book 55 = .ok (.iload_n 3, 1) := by decide +kernel
theorem dX4_book_56 : decode cX4_book 56 = .ok (.iload 4, 2) := by decide +kernel
theorem dX4_book_58 : decode cX4_book 58 = .ok (.iload 5, 2) := by decide +kernel
theorem dX4_book_60 : decode cX4_book 60 = .ok (.aconst_null, 1) := by decide +kernel
theorem dX4_book_64 : decode cX4_book 64 = .ok (.ifCond .eq 13, 3) := by decide +kernel
theorem dX4_book_77 : decode cX4_book 77 = .ok (.aload_n 0, 1) := by decide +kernel
theorem dX4_book_78 : decode cX4_book 78 = .ok (.getfield 23, 3) := by decide +kernel
theorem dX4_book_81 : decode cX4_book 81 = .ok (.getfield 179, 3) := by decide +kernel
theorem dX4_book_84 : decode cX4_book 84 = .ok (.new 190, 3) := by decide +kernel
theorem dX4_book_87 : decode cX4_book 87 = .ok (.dup, 1) := by decide +kernel
theorem dX4_book_88 : decode cX4_book 88 = .ok (.aload 7, 2) := by decide +kernel
theorem dX4_book_90 : decode cX4_book 90 = .ok (.iload_n 2, 1) := by decide +kernel
theorem dX4_book_91 : decode cX4_book 91 = .ok (.iload_n 3, 1) := by decide +kernel
theorem dX4_book_92 : decode cX4_book 92 = .ok (.iload 4, 2) := by decide +kernel
theorem dX4_book_94 : decode cX4_book 94 = .ok (.iload 5, 2) := by decide +kernel
theorem dX4_book_96 : decode cX4_book 96 = .ok (.aload_n 0, 1) := by decide +kernel
theorem dX4_book_97 : decode cX4_book 97 = .ok (.getfield 23, 3) := by decide +kernel
theorem dX4_book_100 : decode cX4_book 100 = .ok (.iload 4, 2) := by decide +kernel
theorem dX4_book_102 : decode cX4_book 102 = .ok (.iload 5, 2) := by decide +kernel
theorem dX4_book_104 : decode cX4_book 104 = .ok (.iload 6, 2) := by decide +kernel
theorem dX4_book_115 : decode cX4_book 115 = .ok (.pop, 1) := by decide +kernel
theorem dX4_book_116 : decode cX4_book 116 = .ok (.aload_n 0, 1) := by decide +kernel
theorem dX4_book_117 : decode cX4_book 117 = .ok (.getfield 23, 3) := by decide +kernel
theorem dX4_book_120 : decode cX4_book 120 = .ok (.getfield 179, 3) := by decide +kernel
theorem dX4_book_126 : decode cX4_book 126 = .ok (.iconst 1, 1) := by decide +kernel
theorem dX4_book_127 : decode cX4_book 127 = .ok (.isub, 1) := by decide +kernel
theorem dX4_book_128 : decode cX4_book 128 = .ok (.ireturn, 1) := by decide +kernel
theorem dX4_book_123 : decode cX4_book 123 = .ok (.invokevirtual 30, 3) := by decide +kernel
theorem dX4_book_112 : decode cX4_book 112 = .ok (.invokevirtual 44, 3) := by decide +kernel
theorem dX4_book_109 : decode cX4_book 109 = .ok (.invokespecial 196, 3) := by decide +kernel
theorem dX4_book_106 : decode cX4_book 106 = .ok (.invokevirtual 192, 3) := by decide +kernel
theorem dX4_book_67 : decode cX4_book 67 = .ok (.new 34, 3) := by decide +kernel
theorem dX4_book_70 : decode cX4_book 70 = .ok (.dup, 1) := by decide +kernel
theorem dX4_book_71 : decode cX4_book 71 = .ok (.ldc 188, 2) := by decide +kernel
theorem dX4_book_73 : decode cX4_book 73 = .ok (.invokespecial 38, 3) := by decide +kernel
theorem dX4_book_76 : decode cX4_book 76 = .ok (.athrow, 1) := by decide +kernel
theorem dX4_book_61 : decode cX4_book 61 = .ok (.invokevirtual 184, 3) := by decide +kernel
theorem dX4_book_40 : decode cX4_book 40 = .ok (.new 34, 3) := by decide +kernel
theorem dX4_book_43 : decode cX4_book 43 = .ok (.dup, 1) := by decide +kernel
theorem dX4_book_44 : decode cX4_book 44 = .ok (.ldc 182, 2) := by decide +kernel
theorem dX4_book_46 : decode cX4_book 46 = .ok (.invokespecial 38, 3) := by decide +kernel
theorem dX4_book_49 : decode cX4_book 49 = .ok (.athrow, 1) := by decide +kernel
theorem dX4_book_32 : decode cX4_book 32 = .ok (.invokevirtual 30, 3) := by decide +kernel
theorem dX4_book_22 : decode cX4_book 22 = .ok (.invokevirtual 176, 3) := by decide +kernel
theorem dX4_book_12 : decode cX4_book 12 = .ok (.invokestatic 173, 3) := by decide +kernel
theorem dX4_book_8 : decode cX4_book 8 = .ok (.invokestatic 101, 3) := by decide +kernel
theorem dX4_book_2 : decode cX4_book 2 = .ok (.invokevirtual 131, 3) := by decide +kernel
def v_X4_book (zE : Nat) (a0 : Nat) (p1 : Int32) (p2 : Int32) (p3 : Int32) (p4 : Int32) (p5 : Int32) (p6 : Int32) (T : zT) (F : zF) (Post : Int32 → zT → zF → Prop) (PX : String → zT → zF → Prop) : Prop :=
  (T a0 = some (5, 4) ∧ (v_X4_pieceAt a0 p1 T F (fun (r2 : Nat) => (v_X4_needLand p2 T F (v_X4_needMedium p3 T F (v_X4_needOffer a0 p4 p5 p6 T F (∃ x4 : Nat, F a0 2 = .ref x4 ∧ T x4 = some (4, 3) ∧ ∃ x7 : Nat, F x4 0 = .ref x7 ∧ T x7 = some (0, 3) ∧ (v_Jx4a65c_size_8abf5 x7 T F (fun (r9 : Int32) => ((r9 < 16 → (v_X3_isTaken x4 p2 p3 p4 p5 none T F (fun (r10 : Int32) => ((r10 = 0 → (∀ q11 : Nat, (∀ b, q11 ≤ b → T b = none) → (zn T q11 (2, 12) a0 = some (5, 4) ∧ ∃ x15 : Nat, (zm F q11 (fun j => defaultValue (tyX1 j))) a0 2 = .ref x15 ∧ zn T q11 (2, 12) x15 = some (4, 3) ∧ (v_X3_priceToday x15 p4 p5 p6 (zn T q11 (2, 12)) (zm F q11 (fun j => defaultValue (tyX1 j))) (fun (r17 : Int32) => (v_X1_init q11 r2 p2 p3 p4 p5 r17 (zn T q11 (2, 12)) (zm F q11 (fun j => defaultValue (tyX1 j))) (fun (F18 : zF) => (zn T q11 (2, 12) x7 = some (0, 3) ∧ (v_Jx4a65c_add_9ea2d zE x7 q11 (zn T q11 (2, 12)) F18 (fun (r20 : Int32) (T21 : zT) (F22 : zF) => (T21 a0 = some (5, 4) ∧ ∃ x25 : Nat, F22 a0 2 = .ref x25 ∧ T21 x25 = some (4, 3) ∧ ∃ x28 : Nat, F22 x25 0 = .ref x28 ∧ T21 x28 = some (0, 3) ∧ (v_Jx4a65c_size_8abf5 x28 T21 F22 (fun (r30 : Int32) => Post (r30 - 1) T21 F22))))))))))))) ∧ (¬ r10 = 0 → PX "java/lang/IllegalStateException" T F))))) ∧ (¬ r9 < 16 → PX "java/lang/IllegalStateException" T F))))) (fun (E9 : String) => PX E9 T F)) (fun (E9 : String) => PX E9 T F)) (fun (E9 : String) => PX E9 T F))) (fun (E9 : String) => PX E9 T F)))
set_option maxRecDepth 100000 in
set_option maxHeartbeats 4000000 in
theorem k_X4_book {l : Launch} {D : va_G} {cA : Nat → ClassId} {N0 zE : Nat} {a0 : Nat} {p1 : Int32} {p2 : Int32} {p3 : Int32} {p4 : Int32} {p5 : Int32} {p6 : Int32} {T : zT} {F : zF} {Post : Int32 → zT → zF → Prop} {PX : String → zT → zF → Prop} (h : v_X4_book zE a0 p1 p2 p3 p4 p5 p6 T F Post PX) : z_Met l D cA N0 zE yX4_book cX4_book 8 (some .int) ({ frames := 7, cells := 8, slots := 92, locals := 163 } : Room) [.ref a0, .int p1, .int p2, .int p3, .int p4, .int p5, .int p6] T F (fun v T' F' => ∃ r : Int32, v = some (.int r) ∧ Post r T' F') (fun E T' F' => PX E T' F') := by
  unfold v_X4_book at h
  refine z_body (by decide) (Nat.le_of_ble_eq_true rfl) ?_
  intro p e s m args below meth c C hxt hnm
  have C : z_C p l s m args meth c RX4 cX4_book 8 (some .int) D cA N0 zE := C
  show z_w p l e ({ frames := 7, cells := 8, slots := 92, locals := 163 } : Room) s m args below meth c D cA N0 8 0 0 (vx_MQ below (z_Qc D cA N0 (fun v T' F' => ∃ r : Int32, v = some (.int r) ∧ Post r T' F')) (z_XC D cA N0 (fun E T' F' => PX E T' F')) args s 8 92 (fun q => N0 ≤ q)) 0 [(0, .ref a0), (1, .int p1), (2, .int p2), (3, .int p3), (4, .int p4), (5, .int p5), (6, .int p6)] [] T F
  refine zr_aload_n C 0 dX4_book_0 rfl rfl ?_
  refine zr_iload_n C 1 dX4_book_1 rfl rfl ?_
  obtain ⟨hT1, h⟩ := h
  refine zr_callVX (As := [.int p1]) (r := (RX4, TX4, 4)) C (k_X4_pieceAt h) ok_X4_131 zq_438 zq_7 hT1 (by decide) rfl rfl ⟨by decide, (Nat.le_of_ble_eq_true rfl)⟩ ⟨(Nat.le_of_ble_eq_true rfl), (Nat.le_of_ble_eq_true rfl)⟩ (Nat.le_of_ble_eq_true rfl) dX4_book_2 (fun E9 T9 F9 hq => by obtain ⟨rfl, rfl, hq⟩ := hq; exact zr_out C (fun x hx => (hxt x hx).elim) hq (Nat.le_of_ble_eq_true rfl) (Nat.le_of_ble_eq_true rfl)) (fun v58 U59 G60 hq => ?_)
  clear h
  · obtain ⟨r2, rfl, rfl, rfl, h⟩ := hq
    refine zr_astore C [(7, .ref r2), (0, .ref a0), (1, .int p1), (2, .int p2), (3, .int p3), (4, .int p4), (5, .int p5), (6, .int p6)] dX4_book_5 (by decide) rfl ?_
    refine zr_iload_n C 3 dX4_book_7 rfl rfl ?_
    refine zr_callSX (As := [.int p2]) C (k_X4_needLand h) ok_X4_101 zq_477 rfl ⟨by decide, (Nat.le_of_ble_eq_true rfl)⟩ ⟨(Nat.le_of_ble_eq_true rfl), (Nat.le_of_ble_eq_true rfl)⟩ (Nat.le_of_ble_eq_true rfl) dX4_book_8 (fun E9 T9 F9 hq => by obtain ⟨rfl, rfl, hq⟩ := hq; exact zr_out C (fun x hx => (hxt x hx).elim) hq (Nat.le_of_ble_eq_true rfl) (Nat.le_of_ble_eq_true rfl)) (fun v55 U56 G57 hq => ?_)
    clear h
    · obtain ⟨rfl, rfl, rfl, h⟩ := hq
      refine zr_iload_n C 4 dX4_book_11 rfl rfl ?_
      refine zr_callSX (As := [.int p3]) C (k_X4_needMedium h) ok_X4_173 zq_735 rfl ⟨by decide, (Nat.le_of_ble_eq_true rfl)⟩ ⟨(Nat.le_of_ble_eq_true rfl), (Nat.le_of_ble_eq_true rfl)⟩ (Nat.le_of_ble_eq_true rfl) dX4_book_12 (fun E9 T9 F9 hq => by obtain ⟨rfl, rfl, hq⟩ := hq; exact zr_out C (fun x hx => (hxt x hx).elim) hq (Nat.le_of_ble_eq_true rfl) (Nat.le_of_ble_eq_true rfl)) (fun v52 U53 G54 hq => ?_)
      clear h
      · obtain ⟨rfl, rfl, rfl, h⟩ := hq
        refine zr_aload_n C 1 dX4_book_15 rfl rfl ?_
        refine zr_iload C 5 dX4_book_16 rfl ?_
        refine zr_iload C 6 dX4_book_18 rfl ?_
        refine zr_iload C 7 dX4_book_20 rfl ?_
        refine zr_callVX (As := [.int p4, .int p5, .int p6]) (r := (RX4, TX4, 4)) C (k_X4_needOffer h) ok_X4_176 zq_720 zq_14 hT1 (by decide) rfl rfl ⟨by decide, (Nat.le_of_ble_eq_true rfl)⟩ ⟨(Nat.le_of_ble_eq_true rfl), (Nat.le_of_ble_eq_true rfl)⟩ (Nat.le_of_ble_eq_true rfl) dX4_book_22 (fun E9 T9 F9 hq => by obtain ⟨rfl, rfl, hq⟩ := hq; exact zr_out C (fun x hx => (hxt x hx).elim) hq (Nat.le_of_ble_eq_true rfl) (Nat.le_of_ble_eq_true rfl)) (fun v49 U50 G51 hq => ?_)
        clear h
        · obtain ⟨rfl, rfl, rfl, h⟩ := hq
          refine zr_aload_n C 1 dX4_book_25 rfl rfl ?_
          obtain ⟨x4, hv3, h⟩ := h
          refine zr_get C fl_X4_23 hT1 hv3 dX4_book_26 ?_
          obtain ⟨hT5, x7, hv6, h⟩ := h
          refine zr_get C fl_X4_179 hT5 hv6 dX4_book_29 ?_
          obtain ⟨hT8, h⟩ := h
          refine zr_callV (As := []) (r := (RJx4a65c, TJx4a65c, 3)) C (k_Jx4a65c_size_8abf5 h) ok_X4_30 zq_112 zq_113 hT8 (by decide) rfl rfl ⟨by decide, (Nat.le_of_ble_eq_true rfl)⟩ ⟨(Nat.le_of_ble_eq_true rfl), (Nat.le_of_ble_eq_true rfl)⟩ (Nat.le_of_ble_eq_true rfl) dX4_book_32 (fun v46 U47 G48 hq => ?_)
          clear h
          · obtain ⟨r9, rfl, rfl, rfl, h⟩ := hq
            refine zr_bipush C 16 dX4_book_35 (by decide) ?_
            obtain ⟨h1, h2⟩ := h
            refine zr_icmp_lt C 50 dX4_book_37 (by decide) (fun hc => ?_) (fun hc => ?_)
            · have h := h1 hc
              clear h1 h2
              refine zr_aload_n C 1 dX4_book_50 rfl rfl ?_
              refine zr_get C fl_X4_23 hT1 hv3 dX4_book_51 ?_
              refine zr_iload_n C 3 dX4_book_54 rfl rfl ?_
              refine zr_iload_n C 4 dX4_book_55 rfl rfl ?_
              refine zr_iload C 5 dX4_book_56 rfl ?_
              refine zr_iload C 6 dX4_book_58 rfl ?_
              refine zr_null C dX4_book_60 ?_
              refine zr_callV (As := [.int p2, .int p3, .int p4, .int p5, .null]) (r := (RX3, TX3, 3)) C (k_X3_isTaken h) ok_X4_184 zq_652 zq_653 hT5 (by decide) rfl rfl ⟨by decide, (Nat.le_of_ble_eq_true rfl)⟩ ⟨(Nat.le_of_ble_eq_true rfl), (Nat.le_of_ble_eq_true rfl)⟩ (Nat.le_of_ble_eq_true rfl) dX4_book_61 (fun v43 U44 G45 hq => ?_)
              clear h
              · obtain ⟨r10, rfl, rfl, rfl, h⟩ := hq
                obtain ⟨h1, h2⟩ := h
                refine zr_if_eq C 77 dX4_book_64 (by decide) (fun hc => ?_) (fun hc => ?_)
                · have h := h1 hc
                  clear h1 h2
                  refine zr_aload_n C 1 dX4_book_77 rfl rfl ?_
                  refine zr_get C fl_X4_23 hT1 hv3 dX4_book_78 ?_
                  refine zr_get C fl_X4_179 hT5 hv6 dX4_book_81 ?_
                  refine zr_new C nw_X4_190 (Nat.le_of_ble_eq_true rfl) (Nat.le_of_ble_eq_true rfl) dX4_book_84 (fun q11 hq12 => ?_)
                  have h := h q11 hq12
                  refine zr_dup C dX4_book_87 rfl ?_
                  refine zr_aload C 0 dX4_book_88 rfl ?_
                  refine zr_iload_n C 3 dX4_book_90 rfl rfl ?_
                  refine zr_iload_n C 4 dX4_book_91 rfl rfl ?_
                  refine zr_iload C 5 dX4_book_92 rfl ?_
                  refine zr_iload C 6 dX4_book_94 rfl ?_
                  refine zr_aload_n C 1 dX4_book_96 rfl rfl ?_
                  obtain ⟨hT13, x15, hv14, h⟩ := h
                  refine zr_get C fl_X4_23 hT13 hv14 dX4_book_97 ?_
                  refine zr_iload C 5 dX4_book_100 rfl ?_
                  refine zr_iload C 6 dX4_book_102 rfl ?_
                  refine zr_iload C 7 dX4_book_104 rfl ?_
                  obtain ⟨hT16, h⟩ := h
                  refine zr_callV (As := [.int p4, .int p5, .int p6]) (r := (RX3, TX3, 3)) C (k_X3_priceToday h) ok_X4_192 zq_726 zq_727 hT16 (by decide) rfl rfl ⟨by decide, (Nat.le_of_ble_eq_true rfl)⟩ ⟨(Nat.le_of_ble_eq_true rfl), (Nat.le_of_ble_eq_true rfl)⟩ (Nat.le_of_ble_eq_true rfl) dX4_book_106 (fun v40 U41 G42 hq => ?_)
                  clear h
                  · obtain ⟨r17, rfl, rfl, rfl, h⟩ := hq
                    refine zr_callI (As := [.ref r2, .int p2, .int p3, .int p4, .int p5, .int r17]) C (k_X1_init h) ok_X4_196 zq_742 rfl rfl ⟨by decide, (Nat.le_of_ble_eq_true rfl)⟩ ⟨(Nat.le_of_ble_eq_true rfl), (Nat.le_of_ble_eq_true rfl)⟩ (Nat.le_of_ble_eq_true rfl) dX4_book_109 (fun v37 U38 G39 hq => ?_)
                    clear h
                    · obtain ⟨rfl, rfl, h⟩ := hq
                      obtain ⟨hT19, h⟩ := h
                      refine zr_callV (As := [.ref q11]) (r := (RJx4a65c, TJx4a65c, 3)) C (k_Jx4a65c_add_9ea2d h) ok_X4_44 zq_210 zq_211 hT19 (by decide) rfl rfl ⟨by decide, (Nat.le_of_ble_eq_true rfl)⟩ ⟨(Nat.le_of_ble_eq_true rfl), (Nat.le_of_ble_eq_true rfl)⟩ (Nat.le_of_ble_eq_true rfl) dX4_book_112 (fun v34 U35 G36 hq => ?_)
                      clear h
                      · obtain ⟨r20, rfl, h⟩ := hq
                        skip
                        refine zr_pop C dX4_book_115 rfl ?_
                        refine zr_aload_n C 1 dX4_book_116 rfl rfl ?_
                        obtain ⟨hT23, x25, hv24, h⟩ := h
                        refine zr_get C fl_X4_23 hT23 hv24 dX4_book_117 ?_
                        obtain ⟨hT26, x28, hv27, h⟩ := h
                        refine zr_get C fl_X4_179 hT26 hv27 dX4_book_120 ?_
                        obtain ⟨hT29, h⟩ := h
                        refine zr_callV (As := []) (r := (RJx4a65c, TJx4a65c, 3)) C (k_Jx4a65c_size_8abf5 h) ok_X4_30 zq_112 zq_113 hT29 (by decide) rfl rfl ⟨by decide, (Nat.le_of_ble_eq_true rfl)⟩ ⟨(Nat.le_of_ble_eq_true rfl), (Nat.le_of_ble_eq_true rfl)⟩ (Nat.le_of_ble_eq_true rfl) dX4_book_123 (fun v31 U32 G33 hq => ?_)
                        clear h
                        · obtain ⟨r30, rfl, rfl, rfl, h⟩ := hq
                          refine zr_iconst C 1 dX4_book_126 (by decide) ?_
                          refine zr_isub C dX4_book_127 ?_
                          exact zr_X (zr_iret C rfl ⟨_, rfl, h⟩ (Nat.le_of_ble_eq_true rfl) (Nat.le_of_ble_eq_true rfl) dX4_book_128)
                · have h := h2 hc
                  clear h1 h2
                  exact zr_throw C th_X4_34_38_188 (fun x hx => (hxt x hx).elim) h dX4_book_67 dX4_book_70 dX4_book_71 dX4_book_73 dX4_book_76 (by decide) (Nat.le_of_ble_eq_true rfl) ⟨(Nat.le_of_ble_eq_true rfl), (Nat.le_of_ble_eq_true rfl)⟩ ⟨(Nat.le_of_ble_eq_true rfl), (Nat.le_of_ble_eq_true rfl)⟩
            · have h := h2 hc
              clear h1 h2
              exact zr_throw C th_X4_34_38_182 (fun x hx => (hxt x hx).elim) h dX4_book_40 dX4_book_43 dX4_book_44 dX4_book_46 dX4_book_49 (by decide) (Nat.le_of_ble_eq_true rfl) ⟨(Nat.le_of_ble_eq_true rfl), (Nat.le_of_ble_eq_true rfl)⟩ ⟨(Nat.le_of_ble_eq_true rfl), (Nat.le_of_ble_eq_true rfl)⟩
set_option maxRecDepth 100000 in
set_option maxHeartbeats 4000000 in
theorem k_X4_book0 {l : Launch} {D : va_G} {cA : Nat → ClassId} {N0 zE : Nat} {a0 : Nat} {p1 : Int32} {p2 : Int32} {p3 : Int32} {p4 : Int32} {p5 : Int32} {p6 : Int32} {T : zT} {F : zF} {Post : Int32 → zT → zF → Prop} (h : v_X4_book zE a0 p1 p2 p3 p4 p5 p6 T F Post (fun _ _ _ => False)) : z_Mt l D cA N0 zE yX4_book cX4_book 8 (some .int) ({ frames := 7, cells := 3, slots := 62, locals := 163 } : Room) [.ref a0, .int p1, .int p2, .int p3, .int p4, .int p5, .int p6] T F (fun v T' F' => ∃ r : Int32, v = some (.int r) ∧ Post r T' F') := by
  unfold v_X4_book at h
  refine z_bodyT (by decide) (Nat.le_of_ble_eq_true rfl) ?_
  intro p e s m args below meth c C hnm
  have C : z_C p l s m args meth c RX4 cX4_book 8 (some .int) D cA N0 zE := C
  show z_w p l e ({ frames := 7, cells := 3, slots := 62, locals := 163 } : Room) s m args below meth c D cA N0 8 0 0 (MQ below (z_Qc D cA N0 (fun v T' F' => ∃ r : Int32, v = some (.int r) ∧ Post r T' F')) args s 3 62 (fun q => N0 ≤ q)) 0 [(0, .ref a0), (1, .int p1), (2, .int p2), (3, .int p3), (4, .int p4), (5, .int p5), (6, .int p6)] [] T F
  refine zr_aload_n C 0 dX4_book_0 rfl rfl ?_
  refine zr_iload_n C 1 dX4_book_1 rfl rfl ?_
  obtain ⟨hT1, h⟩ := h
  refine zr_callV (As := [.int p1]) (r := (RX4, TX4, 4)) C (k_X4_pieceAt0 h) ok_X4_131 zq_438 zq_7 hT1 (by decide) rfl rfl ⟨by decide, (Nat.le_of_ble_eq_true rfl)⟩ ⟨(Nat.le_of_ble_eq_true rfl), (Nat.le_of_ble_eq_true rfl)⟩ (Nat.le_of_ble_eq_true rfl) dX4_book_2 (fun v58 U59 G60 hq => ?_)
  clear h
  · obtain ⟨r2, rfl, rfl, rfl, h⟩ := hq
    refine zr_astore C [(7, .ref r2), (0, .ref a0), (1, .int p1), (2, .int p2), (3, .int p3), (4, .int p4), (5, .int p5), (6, .int p6)] dX4_book_5 (by decide) rfl ?_
    refine zr_iload_n C 3 dX4_book_7 rfl rfl ?_
    refine zr_callS (As := [.int p2]) C (k_X4_needLand0 h) ok_X4_101 zq_477 rfl ⟨by decide, (Nat.le_of_ble_eq_true rfl)⟩ ⟨(Nat.le_of_ble_eq_true rfl), (Nat.le_of_ble_eq_true rfl)⟩ (Nat.le_of_ble_eq_true rfl) dX4_book_8 (fun v55 U56 G57 hq => ?_)
    clear h
    · obtain ⟨rfl, rfl, rfl, h⟩ := hq
      refine zr_iload_n C 4 dX4_book_11 rfl rfl ?_
      refine zr_callS (As := [.int p3]) C (k_X4_needMedium0 h) ok_X4_173 zq_735 rfl ⟨by decide, (Nat.le_of_ble_eq_true rfl)⟩ ⟨(Nat.le_of_ble_eq_true rfl), (Nat.le_of_ble_eq_true rfl)⟩ (Nat.le_of_ble_eq_true rfl) dX4_book_12 (fun v52 U53 G54 hq => ?_)
      clear h
      · obtain ⟨rfl, rfl, rfl, h⟩ := hq
        refine zr_aload_n C 1 dX4_book_15 rfl rfl ?_
        refine zr_iload C 5 dX4_book_16 rfl ?_
        refine zr_iload C 6 dX4_book_18 rfl ?_
        refine zr_iload C 7 dX4_book_20 rfl ?_
        refine zr_callV (As := [.int p4, .int p5, .int p6]) (r := (RX4, TX4, 4)) C (k_X4_needOffer0 h) ok_X4_176 zq_720 zq_14 hT1 (by decide) rfl rfl ⟨by decide, (Nat.le_of_ble_eq_true rfl)⟩ ⟨(Nat.le_of_ble_eq_true rfl), (Nat.le_of_ble_eq_true rfl)⟩ (Nat.le_of_ble_eq_true rfl) dX4_book_22 (fun v49 U50 G51 hq => ?_)
        clear h
        · obtain ⟨rfl, rfl, rfl, h⟩ := hq
          refine zr_aload_n C 1 dX4_book_25 rfl rfl ?_
          obtain ⟨x4, hv3, h⟩ := h
          refine zr_get C fl_X4_23 hT1 hv3 dX4_book_26 ?_
          obtain ⟨hT5, x7, hv6, h⟩ := h
          refine zr_get C fl_X4_179 hT5 hv6 dX4_book_29 ?_
          obtain ⟨hT8, h⟩ := h
          refine zr_callV (As := []) (r := (RJx4a65c, TJx4a65c, 3)) C (k_Jx4a65c_size_8abf5 h) ok_X4_30 zq_112 zq_113 hT8 (by decide) rfl rfl ⟨by decide, (Nat.le_of_ble_eq_true rfl)⟩ ⟨(Nat.le_of_ble_eq_true rfl), (Nat.le_of_ble_eq_true rfl)⟩ (Nat.le_of_ble_eq_true rfl) dX4_book_32 (fun v46 U47 G48 hq => ?_)
          clear h
          · obtain ⟨r9, rfl, rfl, rfl, h⟩ := hq
            refine zr_bipush C 16 dX4_book_35 (by decide) ?_
            obtain ⟨h1, h2⟩ := h
            refine zr_icmp_lt C 50 dX4_book_37 (by decide) (fun hc => ?_) (fun hc => ?_)
            · have h := h1 hc
              clear h1 h2
              refine zr_aload_n C 1 dX4_book_50 rfl rfl ?_
              refine zr_get C fl_X4_23 hT1 hv3 dX4_book_51 ?_
              refine zr_iload_n C 3 dX4_book_54 rfl rfl ?_
              refine zr_iload_n C 4 dX4_book_55 rfl rfl ?_
              refine zr_iload C 5 dX4_book_56 rfl ?_
              refine zr_iload C 6 dX4_book_58 rfl ?_
              refine zr_null C dX4_book_60 ?_
              refine zr_callV (As := [.int p2, .int p3, .int p4, .int p5, .null]) (r := (RX3, TX3, 3)) C (k_X3_isTaken h) ok_X4_184 zq_652 zq_653 hT5 (by decide) rfl rfl ⟨by decide, (Nat.le_of_ble_eq_true rfl)⟩ ⟨(Nat.le_of_ble_eq_true rfl), (Nat.le_of_ble_eq_true rfl)⟩ (Nat.le_of_ble_eq_true rfl) dX4_book_61 (fun v43 U44 G45 hq => ?_)
              clear h
              · obtain ⟨r10, rfl, rfl, rfl, h⟩ := hq
                obtain ⟨h1, h2⟩ := h
                refine zr_if_eq C 77 dX4_book_64 (by decide) (fun hc => ?_) (fun hc => ?_)
                · have h := h1 hc
                  clear h1 h2
                  refine zr_aload_n C 1 dX4_book_77 rfl rfl ?_
                  refine zr_get C fl_X4_23 hT1 hv3 dX4_book_78 ?_
                  refine zr_get C fl_X4_179 hT5 hv6 dX4_book_81 ?_
                  refine zr_new C nw_X4_190 (Nat.le_of_ble_eq_true rfl) (Nat.le_of_ble_eq_true rfl) dX4_book_84 (fun q11 hq12 => ?_)
                  have h := h q11 hq12
                  refine zr_dup C dX4_book_87 rfl ?_
                  refine zr_aload C 0 dX4_book_88 rfl ?_
                  refine zr_iload_n C 3 dX4_book_90 rfl rfl ?_
                  refine zr_iload_n C 4 dX4_book_91 rfl rfl ?_
                  refine zr_iload C 5 dX4_book_92 rfl ?_
                  refine zr_iload C 6 dX4_book_94 rfl ?_
                  refine zr_aload_n C 1 dX4_book_96 rfl rfl ?_
                  obtain ⟨hT13, x15, hv14, h⟩ := h
                  refine zr_get C fl_X4_23 hT13 hv14 dX4_book_97 ?_
                  refine zr_iload C 5 dX4_book_100 rfl ?_
                  refine zr_iload C 6 dX4_book_102 rfl ?_
                  refine zr_iload C 7 dX4_book_104 rfl ?_
                  obtain ⟨hT16, h⟩ := h
                  refine zr_callV (As := [.int p4, .int p5, .int p6]) (r := (RX3, TX3, 3)) C (k_X3_priceToday h) ok_X4_192 zq_726 zq_727 hT16 (by decide) rfl rfl ⟨by decide, (Nat.le_of_ble_eq_true rfl)⟩ ⟨(Nat.le_of_ble_eq_true rfl), (Nat.le_of_ble_eq_true rfl)⟩ (Nat.le_of_ble_eq_true rfl) dX4_book_106 (fun v40 U41 G42 hq => ?_)
                  clear h
                  · obtain ⟨r17, rfl, rfl, rfl, h⟩ := hq
                    refine zr_callI (As := [.ref r2, .int p2, .int p3, .int p4, .int p5, .int r17]) C (k_X1_init h) ok_X4_196 zq_742 rfl rfl ⟨by decide, (Nat.le_of_ble_eq_true rfl)⟩ ⟨(Nat.le_of_ble_eq_true rfl), (Nat.le_of_ble_eq_true rfl)⟩ (Nat.le_of_ble_eq_true rfl) dX4_book_109 (fun v37 U38 G39 hq => ?_)
                    clear h
                    · obtain ⟨rfl, rfl, h⟩ := hq
                      obtain ⟨hT19, h⟩ := h
                      refine zr_callV (As := [.ref q11]) (r := (RJx4a65c, TJx4a65c, 3)) C (k_Jx4a65c_add_9ea2d h) ok_X4_44 zq_210 zq_211 hT19 (by decide) rfl rfl ⟨by decide, (Nat.le_of_ble_eq_true rfl)⟩ ⟨(Nat.le_of_ble_eq_true rfl), (Nat.le_of_ble_eq_true rfl)⟩ (Nat.le_of_ble_eq_true rfl) dX4_book_112 (fun v34 U35 G36 hq => ?_)
                      clear h
                      · obtain ⟨r20, rfl, h⟩ := hq
                        skip
                        refine zr_pop C dX4_book_115 rfl ?_
                        refine zr_aload_n C 1 dX4_book_116 rfl rfl ?_
                        obtain ⟨hT23, x25, hv24, h⟩ := h
                        refine zr_get C fl_X4_23 hT23 hv24 dX4_book_117 ?_
                        obtain ⟨hT26, x28, hv27, h⟩ := h
                        refine zr_get C fl_X4_179 hT26 hv27 dX4_book_120 ?_
                        obtain ⟨hT29, h⟩ := h
                        refine zr_callV (As := []) (r := (RJx4a65c, TJx4a65c, 3)) C (k_Jx4a65c_size_8abf5 h) ok_X4_30 zq_112 zq_113 hT29 (by decide) rfl rfl ⟨by decide, (Nat.le_of_ble_eq_true rfl)⟩ ⟨(Nat.le_of_ble_eq_true rfl), (Nat.le_of_ble_eq_true rfl)⟩ (Nat.le_of_ble_eq_true rfl) dX4_book_123 (fun v31 U32 G33 hq => ?_)
                        clear h
                        · obtain ⟨r30, rfl, rfl, rfl, h⟩ := hq
                          refine zr_iconst C 1 dX4_book_126 (by decide) ?_
                          refine zr_isub C dX4_book_127 ?_
                          exact zr_iret C rfl ⟨_, rfl, h⟩ (Nat.le_of_ble_eq_true rfl) (Nat.le_of_ble_eq_true rfl) dX4_book_128
                · have h := h2 hc
                  clear h1 h2
                  exact h.elim
            · have h := h2 hc
              clear h1 h2
              exact h.elim
theorem dX4_bookingAt_0 : decode cX4_bookingAt 0 = .ok (.iload_n 1, 1) := by decide +kernel
theorem dX4_bookingAt_1 : decode cX4_bookingAt 1 = .ok (.ifCond .lt 17, 3) := by decide +kernel
theorem dX4_bookingAt_18 : decode cX4_bookingAt 18 = .ok (.new 307, 3) := by decide +kernel
theorem dX4_bookingAt_21 : decode cX4_bookingAt 21 = .ok (.dup, 1) := by decide +kernel
theorem dX4_bookingAt_22 : decode cX4_bookingAt 22 = .ok (.ldc_w 361, 3) := by decide +kernel
theorem dX4_bookingAt_25 : decode cX4_bookingAt 25 = .ok (.invokespecial 309, 3) := by decide +kernel
theorem dX4_bookingAt_28 : decode cX4_bookingAt 28 = .ok (.athrow, 1) := by decide +kernel
theorem dX4_bookingAt_4 : decode cX4_bookingAt 4 = .ok (.iload_n 1, 1) := by decide +kernel
theorem dX4_bookingAt_5 : decode cX4_bookingAt 5 = .ok (.aload_n 0, 1) := by decide +kernel
theorem dX4_bookingAt_6 : decode cX4_bookingAt 6 = .ok (.getfield 23, 3) := by decide +kernel
theorem dX4_bookingAt_9 : decode cX4_bookingAt 9 = .ok (.getfield 179, 3) := by decide +kernel
theorem dX4_bookingAt_15 : decode cX4_bookingAt 15 = .ok (.if_icmp .lt 14, 3) := by decide +kernel
theorem dX4_bookingAt_29 : decode cX4_bookingAt 29 = .ok (.aload_n 0, 1) := by decide +kernel
theorem dX4_bookingAt_30 : decode cX4_bookingAt 30 = .ok (.getfield 23, 3) := by decide +kernel
theorem dX4_bookingAt_33 : decode cX4_bookingAt 33 = .ok (.getfield 179, 3) := by decide +kernel
theorem dX4_bookingAt_36 : decode cX4_bookingAt 36 = .ok (.iload_n 1, 1) := by decide +kernel
theorem dX4_bookingAt_40 : decode cX4_bookingAt 40 = .ok (.checkcast 190, 3) := by decide +kernel
theorem dX4_bookingAt_43 : decode cX4_bookingAt 43 = .ok (.areturn, 1) := by decide +kernel
theorem dX4_bookingAt_37 : decode cX4_bookingAt 37 = .ok (.invokevirtual 124, 3) := by decide +kernel
theorem dX4_bookingAt_12 : decode cX4_bookingAt 12 = .ok (.invokevirtual 30, 3) := by decide +kernel
def v_X4_bookingAt (a0 : Nat) (p1 : Int32) (T : zT) (F : zF) (Post : Nat → Prop) (PX : String → Prop) : Prop :=
  ((p1 < 0 → PX "java/lang/IndexOutOfBoundsException") ∧ (¬ p1 < 0 → (T a0 = some (5, 4) ∧ ∃ x3 : Nat, F a0 2 = .ref x3 ∧ T x3 = some (4, 3) ∧ ∃ x6 : Nat, F x3 0 = .ref x6 ∧ T x6 = some (0, 3) ∧ (v_Jx4a65c_size_8abf5 x6 T F (fun (r8 : Int32) => ((p1 < r8 → (v_Jx4a65c_get_915e3 x6 p1 T F (fun (r9 : Nat) => (T r9 = some (2, 12) ∧ Post r9)))) ∧ (¬ p1 < r8 → PX "java/lang/IndexOutOfBoundsException")))))))
set_option maxRecDepth 100000 in
set_option maxHeartbeats 4000000 in
theorem k_X4_bookingAt {l : Launch} {D : va_G} {cA : Nat → ClassId} {N0 zE : Nat} {a0 : Nat} {p1 : Int32} {T : zT} {F : zF} {Post : Nat → Prop} {PX : String → Prop} (h : v_X4_bookingAt a0 p1 T F Post PX) : z_Met l D cA N0 zE yX4_bookingAt cX4_bookingAt 2 (some (.object "BrandRoom$Booking")) ({ frames := 6, cells := 1, slots := 6, locals := 90 } : Room) [.ref a0, .int p1] T F (fun v T' F' => ∃ r : Nat, v = some (.ref r) ∧ T = T' ∧ F = F' ∧ Post r) (fun E T' F' => T = T' ∧ F = F' ∧ PX E) := by
  unfold v_X4_bookingAt at h
  refine z_body (by decide) (Nat.le_of_ble_eq_true rfl) ?_
  intro p e s m args below meth c C hxt hnm
  have C : z_C p l s m args meth c RX4 cX4_bookingAt 2 (some (.object "BrandRoom$Booking")) D cA N0 zE := C
  show z_w p l e ({ frames := 6, cells := 1, slots := 6, locals := 90 } : Room) s m args below meth c D cA N0 2 0 0 (vx_MQ below (z_Qc D cA N0 (fun v T' F' => ∃ r : Nat, v = some (.ref r) ∧ T = T' ∧ F = F' ∧ Post r)) (z_XC D cA N0 (fun E T' F' => T = T' ∧ F = F' ∧ PX E)) args s 1 6 (fun q => N0 ≤ q)) 0 [(0, .ref a0), (1, .int p1)] [] T F
  refine zr_iload_n C 1 dX4_bookingAt_0 rfl rfl ?_
  obtain ⟨h1, h2⟩ := h
  refine zr_if_lt C 18 dX4_bookingAt_1 (by decide) (fun hc => ?_) (fun hc => ?_)
  · have h := h1 hc
    clear h1 h2
    exact zr_throwW C th_X4_307_309_361 (fun x hx => (hxt x hx).elim) ⟨rfl, rfl, h⟩ dX4_bookingAt_18 dX4_bookingAt_21 dX4_bookingAt_22 dX4_bookingAt_25 dX4_bookingAt_28 (by decide) (Nat.le_of_ble_eq_true rfl) ⟨(Nat.le_of_ble_eq_true rfl), (Nat.le_of_ble_eq_true rfl)⟩ ⟨(Nat.le_of_ble_eq_true rfl), (Nat.le_of_ble_eq_true rfl)⟩
  · have h := h2 hc
    clear h1 h2
    refine zr_iload_n C 1 dX4_bookingAt_4 rfl rfl ?_
    refine zr_aload_n C 0 dX4_bookingAt_5 rfl rfl ?_
    obtain ⟨hT1, x3, hv2, h⟩ := h
    refine zr_get C fl_X4_23 hT1 hv2 dX4_bookingAt_6 ?_
    obtain ⟨hT4, x6, hv5, h⟩ := h
    refine zr_get C fl_X4_179 hT4 hv5 dX4_bookingAt_9 ?_
    obtain ⟨hT7, h⟩ := h
    refine zr_callV (As := []) (r := (RJx4a65c, TJx4a65c, 3)) C (k_Jx4a65c_size_8abf5 h) ok_X4_30 zq_112 zq_113 hT7 (by decide) rfl rfl ⟨by decide, (Nat.le_of_ble_eq_true rfl)⟩ ⟨(Nat.le_of_ble_eq_true rfl), (Nat.le_of_ble_eq_true rfl)⟩ (Nat.le_of_ble_eq_true rfl) dX4_bookingAt_12 (fun v14 U15 G16 hq => ?_)
    clear h
    · obtain ⟨r8, rfl, rfl, rfl, h⟩ := hq
      obtain ⟨h1, h2⟩ := h
      refine zr_icmp_lt C 29 dX4_bookingAt_15 (by decide) (fun hc => ?_) (fun hc => ?_)
      · have h := h1 hc
        clear h1 h2
        refine zr_aload_n C 0 dX4_bookingAt_29 rfl rfl ?_
        refine zr_get C fl_X4_23 hT1 hv2 dX4_bookingAt_30 ?_
        refine zr_get C fl_X4_179 hT4 hv5 dX4_bookingAt_33 ?_
        refine zr_iload_n C 1 dX4_bookingAt_36 rfl rfl ?_
        refine zr_callV (As := [.int p1]) (r := (RJx4a65c, TJx4a65c, 3)) C (k_Jx4a65c_get_915e3 h) ok_X4_124 zq_290 zq_291 hT7 (by decide) rfl rfl ⟨by decide, (Nat.le_of_ble_eq_true rfl)⟩ ⟨(Nat.le_of_ble_eq_true rfl), (Nat.le_of_ble_eq_true rfl)⟩ (Nat.le_of_ble_eq_true rfl) dX4_bookingAt_37 (fun v11 U12 G13 hq => ?_)
        clear h
        · obtain ⟨r9, rfl, rfl, rfl, h⟩ := hq
          obtain ⟨hT10, h⟩ := h
          refine zr_castS (r := (RX1, TX1, 12)) C hT10 (by decide) rfl zq_386 dX4_bookingAt_40 ?_
          exact zr_X (zr_aret C rfl (Or.inl ⟨_, rfl⟩) (Or.inr ⟨_, rfl⟩) ⟨_, rfl, rfl, rfl, h⟩ (Nat.le_of_ble_eq_true rfl) (Nat.le_of_ble_eq_true rfl) dX4_bookingAt_43)
      · have h := h2 hc
        clear h1 h2
        exact zr_throwW C th_X4_307_309_361 (fun x hx => (hxt x hx).elim) ⟨rfl, rfl, h⟩ dX4_bookingAt_18 dX4_bookingAt_21 dX4_bookingAt_22 dX4_bookingAt_25 dX4_bookingAt_28 (by decide) (Nat.le_of_ble_eq_true rfl) ⟨(Nat.le_of_ble_eq_true rfl), (Nat.le_of_ble_eq_true rfl)⟩ ⟨(Nat.le_of_ble_eq_true rfl), (Nat.le_of_ble_eq_true rfl)⟩
set_option maxRecDepth 100000 in
set_option maxHeartbeats 4000000 in
theorem k_X4_bookingAt0 {l : Launch} {D : va_G} {cA : Nat → ClassId} {N0 zE : Nat} {a0 : Nat} {p1 : Int32} {T : zT} {F : zF} {Post : Nat → Prop} (h : v_X4_bookingAt a0 p1 T F Post (fun _ => False)) : z_Mt l D cA N0 zE yX4_bookingAt cX4_bookingAt 2 (some (.object "BrandRoom$Booking")) ({ frames := 3, cells := 0, slots := 0, locals := 64 } : Room) [.ref a0, .int p1] T F (fun v T' F' => ∃ r : Nat, v = some (.ref r) ∧ T = T' ∧ F = F' ∧ Post r) := by
  unfold v_X4_bookingAt at h
  refine z_bodyT (by decide) (Nat.le_of_ble_eq_true rfl) ?_
  intro p e s m args below meth c C hnm
  have C : z_C p l s m args meth c RX4 cX4_bookingAt 2 (some (.object "BrandRoom$Booking")) D cA N0 zE := C
  show z_w p l e ({ frames := 3, cells := 0, slots := 0, locals := 64 } : Room) s m args below meth c D cA N0 2 0 0 (MQ below (z_Qc D cA N0 (fun v T' F' => ∃ r : Nat, v = some (.ref r) ∧ T = T' ∧ F = F' ∧ Post r)) args s 0 0 (fun q => N0 ≤ q)) 0 [(0, .ref a0), (1, .int p1)] [] T F
  refine zr_iload_n C 1 dX4_bookingAt_0 rfl rfl ?_
  obtain ⟨h1, h2⟩ := h
  refine zr_if_lt C 18 dX4_bookingAt_1 (by decide) (fun hc => ?_) (fun hc => ?_)
  · have h := h1 hc
    clear h1 h2
    exact h.elim
  · have h := h2 hc
    clear h1 h2
    refine zr_iload_n C 1 dX4_bookingAt_4 rfl rfl ?_
    refine zr_aload_n C 0 dX4_bookingAt_5 rfl rfl ?_
    obtain ⟨hT1, x3, hv2, h⟩ := h
    refine zr_get C fl_X4_23 hT1 hv2 dX4_bookingAt_6 ?_
    obtain ⟨hT4, x6, hv5, h⟩ := h
    refine zr_get C fl_X4_179 hT4 hv5 dX4_bookingAt_9 ?_
    obtain ⟨hT7, h⟩ := h
    refine zr_callV (As := []) (r := (RJx4a65c, TJx4a65c, 3)) C (k_Jx4a65c_size_8abf5 h) ok_X4_30 zq_112 zq_113 hT7 (by decide) rfl rfl ⟨by decide, (Nat.le_of_ble_eq_true rfl)⟩ ⟨(Nat.le_of_ble_eq_true rfl), (Nat.le_of_ble_eq_true rfl)⟩ (Nat.le_of_ble_eq_true rfl) dX4_bookingAt_12 (fun v14 U15 G16 hq => ?_)
    clear h
    · obtain ⟨r8, rfl, rfl, rfl, h⟩ := hq
      obtain ⟨h1, h2⟩ := h
      refine zr_icmp_lt C 29 dX4_bookingAt_15 (by decide) (fun hc => ?_) (fun hc => ?_)
      · have h := h1 hc
        clear h1 h2
        refine zr_aload_n C 0 dX4_bookingAt_29 rfl rfl ?_
        refine zr_get C fl_X4_23 hT1 hv2 dX4_bookingAt_30 ?_
        refine zr_get C fl_X4_179 hT4 hv5 dX4_bookingAt_33 ?_
        refine zr_iload_n C 1 dX4_bookingAt_36 rfl rfl ?_
        refine zr_callV (As := [.int p1]) (r := (RJx4a65c, TJx4a65c, 3)) C (k_Jx4a65c_get_915e3 h) ok_X4_124 zq_290 zq_291 hT7 (by decide) rfl rfl ⟨by decide, (Nat.le_of_ble_eq_true rfl)⟩ ⟨(Nat.le_of_ble_eq_true rfl), (Nat.le_of_ble_eq_true rfl)⟩ (Nat.le_of_ble_eq_true rfl) dX4_bookingAt_37 (fun v11 U12 G13 hq => ?_)
        clear h
        · obtain ⟨r9, rfl, rfl, rfl, h⟩ := hq
          obtain ⟨hT10, h⟩ := h
          refine zr_castS (r := (RX1, TX1, 12)) C hT10 (by decide) rfl zq_386 dX4_bookingAt_40 ?_
          exact zr_aret C rfl (Or.inl ⟨_, rfl⟩) (Or.inr ⟨_, rfl⟩) ⟨_, rfl, rfl, rfl, h⟩ (Nat.le_of_ble_eq_true rfl) (Nat.le_of_ble_eq_true rfl) dX4_bookingAt_43
      · have h := h2 hc
        clear h1 h2
        exact h.elim
theorem dX4_cancel_0 : decode cX4_cancel 0 = .ok (.aload_n 0, 1) := by decide +kernel
theorem dX4_cancel_1 : decode cX4_cancel 1 = .ok (.iload_n 1, 1) := by decide +kernel
theorem dX4_cancel_5 : decode cX4_cancel 5 = .ok (.astore_n 2, 1) := by decide +kernel
theorem dX4_cancel_6 : decode cX4_cancel 6 = .ok (.aload_n 2, 1) := by decide +kernel
theorem dX4_cancel_10 : decode cX4_cancel 10 = .ok (.ifCond .ne 13, 3) := by decide +kernel
theorem dX4_cancel_23 : decode cX4_cancel 23 = .ok (.aload_n 2, 1) := by decide +kernel
theorem dX4_cancel_27 : decode cX4_cancel 27 = .ok (.aload_n 2, 1) := by decide +kernel
theorem dX4_cancel_31 : decode cX4_cancel 31 = .ok (.ireturn, 1) := by decide +kernel
theorem dX4_cancel_28 : decode cX4_cancel 28 = .ok (.invokevirtual 212, 3) := by decide +kernel
theorem dX4_cancel_24 : decode cX4_cancel 24 = .ok (.invokevirtual 209, 3) := by decide +kernel
theorem dX4_cancel_13 : decode cX4_cancel 13 = .ok (.new 34, 3) := by decide +kernel
theorem dX4_cancel_16 : decode cX4_cancel 16 = .ok (.dup, 1) := by decide +kernel
theorem dX4_cancel_17 : decode cX4_cancel 17 = .ok (.ldc 207, 2) := by decide +kernel
theorem dX4_cancel_19 : decode cX4_cancel 19 = .ok (.invokespecial 38, 3) := by decide +kernel
theorem dX4_cancel_22 : decode cX4_cancel 22 = .ok (.athrow, 1) := by decide +kernel
theorem dX4_cancel_7 : decode cX4_cancel 7 = .ok (.invokevirtual 203, 3) := by decide +kernel
theorem dX4_cancel_2 : decode cX4_cancel 2 = .ok (.invokevirtual 199, 3) := by decide +kernel
def v_X4_cancel (a0 : Nat) (p1 : Int32) (T : zT) (F : zF) (Post : Int32 → zF → Prop) (PX : String → zF → Prop) : Prop :=
  (T a0 = some (5, 4) ∧ (v_X4_bookingAt a0 p1 T F (fun (r2 : Nat) => (T r2 = some (2, 12) ∧ (v_X1_isOpen r2 T F (fun (r4 : Int32) => ((¬ r4 = 0 → (v_X1_giveUp r2 T F (fun (F5 : zF) => (v_X1_costNow r2 T F5 (fun (r6 : Int32) => Post r6 F5))))) ∧ (r4 = 0 → PX "java/lang/IllegalStateException" F)))))) (fun (E9 : String) => PX E9 F)))
set_option maxRecDepth 100000 in
set_option maxHeartbeats 4000000 in
theorem k_X4_cancel {l : Launch} {D : va_G} {cA : Nat → ClassId} {N0 zE : Nat} {a0 : Nat} {p1 : Int32} {T : zT} {F : zF} {Post : Int32 → zF → Prop} {PX : String → zF → Prop} (h : v_X4_cancel a0 p1 T F Post PX) : z_Met l D cA N0 zE yX4_cancel cX4_cancel 3 (some .int) ({ frames := 7, cells := 2, slots := 12, locals := 111 } : Room) [.ref a0, .int p1] T F (fun v T' F' => ∃ r : Int32, v = some (.int r) ∧ T = T' ∧ Post r F') (fun E T' F' => T = T' ∧ PX E F') := by
  unfold v_X4_cancel at h
  refine z_body (by decide) (Nat.le_of_ble_eq_true rfl) ?_
  intro p e s m args below meth c C hxt hnm
  have C : z_C p l s m args meth c RX4 cX4_cancel 3 (some .int) D cA N0 zE := C
  show z_w p l e ({ frames := 7, cells := 2, slots := 12, locals := 111 } : Room) s m args below meth c D cA N0 3 0 0 (vx_MQ below (z_Qc D cA N0 (fun v T' F' => ∃ r : Int32, v = some (.int r) ∧ T = T' ∧ Post r F')) (z_XC D cA N0 (fun E T' F' => T = T' ∧ PX E F')) args s 2 12 (fun q => N0 ≤ q)) 0 [(0, .ref a0), (1, .int p1)] [] T F
  refine zr_aload_n C 0 dX4_cancel_0 rfl rfl ?_
  refine zr_iload_n C 1 dX4_cancel_1 rfl rfl ?_
  obtain ⟨hT1, h⟩ := h
  refine zr_callVX (As := [.int p1]) (r := (RX4, TX4, 4)) C (k_X4_bookingAt h) ok_X4_199 zq_383 zq_5 hT1 (by decide) rfl rfl ⟨by decide, (Nat.le_of_ble_eq_true rfl)⟩ ⟨(Nat.le_of_ble_eq_true rfl), (Nat.le_of_ble_eq_true rfl)⟩ (Nat.le_of_ble_eq_true rfl) dX4_cancel_2 (fun E9 T9 F9 hq => by obtain ⟨rfl, rfl, hq⟩ := hq; exact zr_out C (fun x hx => (hxt x hx).elim) ⟨rfl, hq⟩ (Nat.le_of_ble_eq_true rfl) (Nat.le_of_ble_eq_true rfl)) (fun v16 U17 G18 hq => ?_)
  clear h
  · obtain ⟨r2, rfl, rfl, rfl, h⟩ := hq
    refine zr_astore_n C [(2, .ref r2), (0, .ref a0), (1, .int p1)] dX4_cancel_5 rfl (by decide) rfl ?_
    refine zr_aload_n C 0 dX4_cancel_6 rfl rfl ?_
    obtain ⟨hT3, h⟩ := h
    refine zr_callV (As := []) (r := (RX1, TX1, 12)) C (k_X1_isOpen h) ok_X4_203 zq_458 zq_459 hT3 (by decide) rfl rfl ⟨by decide, (Nat.le_of_ble_eq_true rfl)⟩ ⟨(Nat.le_of_ble_eq_true rfl), (Nat.le_of_ble_eq_true rfl)⟩ (Nat.le_of_ble_eq_true rfl) dX4_cancel_7 (fun v13 U14 G15 hq => ?_)
    clear h
    · obtain ⟨r4, rfl, rfl, rfl, h⟩ := hq
      obtain ⟨h1, h2⟩ := h
      refine zr_if_ne C 23 dX4_cancel_10 (by decide) (fun hc => ?_) (fun hc => ?_)
      · have h := h1 hc
        clear h1 h2
        refine zr_aload_n C 0 dX4_cancel_23 rfl rfl ?_
        refine zr_callV (As := []) (r := (RX1, TX1, 12)) C (k_X1_giveUp h) ok_X4_209 zq_751 zq_752 hT3 (by decide) rfl rfl ⟨by decide, (Nat.le_of_ble_eq_true rfl)⟩ ⟨(Nat.le_of_ble_eq_true rfl), (Nat.le_of_ble_eq_true rfl)⟩ (Nat.le_of_ble_eq_true rfl) dX4_cancel_24 (fun v10 U11 G12 hq => ?_)
        clear h
        · obtain ⟨rfl, rfl, h⟩ := hq
          refine zr_aload_n C 0 dX4_cancel_27 rfl rfl ?_
          refine zr_callV (As := []) (r := (RX1, TX1, 12)) C (k_X1_costNow h) ok_X4_212 zq_388 zq_389 hT3 (by decide) rfl rfl ⟨by decide, (Nat.le_of_ble_eq_true rfl)⟩ ⟨(Nat.le_of_ble_eq_true rfl), (Nat.le_of_ble_eq_true rfl)⟩ (Nat.le_of_ble_eq_true rfl) dX4_cancel_28 (fun v7 U8 G9 hq => ?_)
          clear h
          · obtain ⟨r6, rfl, rfl, rfl, h⟩ := hq
            exact zr_X (zr_iret C rfl ⟨_, rfl, rfl, h⟩ (Nat.le_of_ble_eq_true rfl) (Nat.le_of_ble_eq_true rfl) dX4_cancel_31)
      · have h := h2 hc
        clear h1 h2
        exact zr_throw C th_X4_34_38_207 (fun x hx => (hxt x hx).elim) ⟨rfl, h⟩ dX4_cancel_13 dX4_cancel_16 dX4_cancel_17 dX4_cancel_19 dX4_cancel_22 (by decide) (Nat.le_of_ble_eq_true rfl) ⟨(Nat.le_of_ble_eq_true rfl), (Nat.le_of_ble_eq_true rfl)⟩ ⟨(Nat.le_of_ble_eq_true rfl), (Nat.le_of_ble_eq_true rfl)⟩
set_option maxRecDepth 100000 in
set_option maxHeartbeats 4000000 in
theorem k_X4_cancel0 {l : Launch} {D : va_G} {cA : Nat → ClassId} {N0 zE : Nat} {a0 : Nat} {p1 : Int32} {T : zT} {F : zF} {Post : Int32 → zF → Prop} (h : v_X4_cancel a0 p1 T F Post (fun _ _ => False)) : z_Mt l D cA N0 zE yX4_cancel cX4_cancel 3 (some .int) ({ frames := 4, cells := 0, slots := 0, locals := 85 } : Room) [.ref a0, .int p1] T F (fun v T' F' => ∃ r : Int32, v = some (.int r) ∧ T = T' ∧ Post r F') := by
  unfold v_X4_cancel at h
  refine z_bodyT (by decide) (Nat.le_of_ble_eq_true rfl) ?_
  intro p e s m args below meth c C hnm
  have C : z_C p l s m args meth c RX4 cX4_cancel 3 (some .int) D cA N0 zE := C
  show z_w p l e ({ frames := 4, cells := 0, slots := 0, locals := 85 } : Room) s m args below meth c D cA N0 3 0 0 (MQ below (z_Qc D cA N0 (fun v T' F' => ∃ r : Int32, v = some (.int r) ∧ T = T' ∧ Post r F')) args s 0 0 (fun q => N0 ≤ q)) 0 [(0, .ref a0), (1, .int p1)] [] T F
  refine zr_aload_n C 0 dX4_cancel_0 rfl rfl ?_
  refine zr_iload_n C 1 dX4_cancel_1 rfl rfl ?_
  obtain ⟨hT1, h⟩ := h
  refine zr_callV (As := [.int p1]) (r := (RX4, TX4, 4)) C (k_X4_bookingAt0 h) ok_X4_199 zq_383 zq_5 hT1 (by decide) rfl rfl ⟨by decide, (Nat.le_of_ble_eq_true rfl)⟩ ⟨(Nat.le_of_ble_eq_true rfl), (Nat.le_of_ble_eq_true rfl)⟩ (Nat.le_of_ble_eq_true rfl) dX4_cancel_2 (fun v16 U17 G18 hq => ?_)
  clear h
  · obtain ⟨r2, rfl, rfl, rfl, h⟩ := hq
    refine zr_astore_n C [(2, .ref r2), (0, .ref a0), (1, .int p1)] dX4_cancel_5 rfl (by decide) rfl ?_
    refine zr_aload_n C 0 dX4_cancel_6 rfl rfl ?_
    obtain ⟨hT3, h⟩ := h
    refine zr_callV (As := []) (r := (RX1, TX1, 12)) C (k_X1_isOpen h) ok_X4_203 zq_458 zq_459 hT3 (by decide) rfl rfl ⟨by decide, (Nat.le_of_ble_eq_true rfl)⟩ ⟨(Nat.le_of_ble_eq_true rfl), (Nat.le_of_ble_eq_true rfl)⟩ (Nat.le_of_ble_eq_true rfl) dX4_cancel_7 (fun v13 U14 G15 hq => ?_)
    clear h
    · obtain ⟨r4, rfl, rfl, rfl, h⟩ := hq
      obtain ⟨h1, h2⟩ := h
      refine zr_if_ne C 23 dX4_cancel_10 (by decide) (fun hc => ?_) (fun hc => ?_)
      · have h := h1 hc
        clear h1 h2
        refine zr_aload_n C 0 dX4_cancel_23 rfl rfl ?_
        refine zr_callV (As := []) (r := (RX1, TX1, 12)) C (k_X1_giveUp h) ok_X4_209 zq_751 zq_752 hT3 (by decide) rfl rfl ⟨by decide, (Nat.le_of_ble_eq_true rfl)⟩ ⟨(Nat.le_of_ble_eq_true rfl), (Nat.le_of_ble_eq_true rfl)⟩ (Nat.le_of_ble_eq_true rfl) dX4_cancel_24 (fun v10 U11 G12 hq => ?_)
        clear h
        · obtain ⟨rfl, rfl, h⟩ := hq
          refine zr_aload_n C 0 dX4_cancel_27 rfl rfl ?_
          refine zr_callV (As := []) (r := (RX1, TX1, 12)) C (k_X1_costNow h) ok_X4_212 zq_388 zq_389 hT3 (by decide) rfl rfl ⟨by decide, (Nat.le_of_ble_eq_true rfl)⟩ ⟨(Nat.le_of_ble_eq_true rfl), (Nat.le_of_ble_eq_true rfl)⟩ (Nat.le_of_ble_eq_true rfl) dX4_cancel_28 (fun v7 U8 G9 hq => ?_)
          clear h
          · obtain ⟨r6, rfl, rfl, rfl, h⟩ := hq
            exact zr_iret C rfl ⟨_, rfl, rfl, h⟩ (Nat.le_of_ble_eq_true rfl) (Nat.le_of_ble_eq_true rfl) dX4_cancel_31
      · have h := h2 hc
        clear h1 h2
        exact h.elim
theorem dX4_swap_0 : decode cX4_swap 0 = .ok (.aload_n 0, 1) := by decide +kernel
theorem dX4_swap_1 : decode cX4_swap 1 = .ok (.iload_n 1, 1) := by decide +kernel
theorem dX4_swap_5 : decode cX4_swap 5 = .ok (.astore_n 3, 1) := by decide +kernel
theorem dX4_swap_6 : decode cX4_swap 6 = .ok (.aload_n 0, 1) := by decide +kernel
theorem dX4_swap_7 : decode cX4_swap 7 = .ok (.iload_n 2, 1) := by decide +kernel
theorem dX4_swap_11 : decode cX4_swap 11 = .ok (.astore 4, 2) := by decide +kernel
theorem dX4_swap_13 : decode cX4_swap 13 = .ok (.aload_n 3, 1) := by decide +kernel
theorem dX4_swap_14 : decode cX4_swap 14 = .ok (.getfield 215, 3) := by decide +kernel
theorem dX4_swap_17 : decode cX4_swap 17 = .ok (.ifCond .ne 16, 3) := by decide +kernel
theorem dX4_swap_33 : decode cX4_swap 33 = .ok (.new 34, 3) := by decide +kernel
theorem dX4_swap_36 : decode cX4_swap 36 = .ok (.dup, 1) := by decide +kernel
theorem dX4_swap_37 : decode cX4_swap 37 = .ok (.ldc 222, 2) := by decide +kernel
theorem dX4_swap_39 : decode cX4_swap 39 = .ok (.invokespecial 38, 3) := by decide +kernel
theorem dX4_swap_42 : decode cX4_swap 42 = .ok (.athrow, 1) := by decide +kernel
theorem dX4_swap_20 : decode cX4_swap 20 = .ok (.aload_n 0, 1) := by decide +kernel
theorem dX4_swap_21 : decode cX4_swap 21 = .ok (.getfield 23, 3) := by decide +kernel
theorem dX4_swap_24 : decode cX4_swap 24 = .ok (.aload_n 3, 1) := by decide +kernel
theorem dX4_swap_25 : decode cX4_swap 25 = .ok (.aload 4, 2) := by decide +kernel
theorem dX4_swap_30 : decode cX4_swap 30 = .ok (.ifCond .ne 13, 3) := by decide +kernel
theorem dX4_swap_43 : decode cX4_swap 43 = .ok (.aload_n 3, 1) := by decide +kernel
theorem dX4_swap_44 : decode cX4_swap 44 = .ok (.getfield 224, 3) := by decide +kernel
theorem dX4_swap_47 : decode cX4_swap 47 = .ok (.getfield 128, 3) := by decide +kernel
theorem dX4_swap_50 : decode cX4_swap 50 = .ok (.istore 5, 2) := by decide +kernel
theorem dX4_swap_52 : decode cX4_swap 52 = .ok (.aload_n 3, 1) := by decide +kernel
theorem dX4_swap_53 : decode cX4_swap 53 = .ok (.aload 4, 2) := by decide +kernel
theorem dX4_swap_58 : decode cX4_swap 58 = .ok (.iload 5, 2) := by decide +kernel
theorem dX4_swap_60 : decode cX4_swap 60 = .ok (.ireturn, 1) := by decide +kernel
theorem dX4_swap_55 : decode cX4_swap 55 = .ok (.invokevirtual 228, 3) := by decide +kernel
theorem dX4_swap_27 : decode cX4_swap 27 = .ok (.invokevirtual 218, 3) := by decide +kernel
theorem dX4_swap_8 : decode cX4_swap 8 = .ok (.invokevirtual 131, 3) := by decide +kernel
theorem dX4_swap_2 : decode cX4_swap 2 = .ok (.invokevirtual 199, 3) := by decide +kernel
def v_X4_swap (a0 : Nat) (p1 : Int32) (p2 : Int32) (T : zT) (F : zF) (Post : Int32 → zF → Prop) (PX : String → zF → Prop) : Prop :=
  (T a0 = some (5, 4) ∧ (v_X4_bookingAt a0 p1 T F (fun (r2 : Nat) => (v_X4_pieceAt a0 p2 T F (fun (r3 : Nat) => (T r2 = some (2, 12) ∧ ∃ x6 : Int32, F r2 6 = .int x6 ∧ ((¬ x6 = 0 → PX "java/lang/IllegalStateException" F) ∧ (x6 = 0 → (∃ x8 : Nat, F a0 2 = .ref x8 ∧ T x8 = some (4, 3) ∧ (v_X3_canSwap x8 r2 r3 T F (fun (r10 : Int32) => ((¬ r10 = 0 → (∃ x12 : Nat, F r2 0 = .ref x12 ∧ T x12 = some (3, 5) ∧ ∃ x15 : Int32, F x12 0 = .int x15 ∧ (v_X1_takePiece r2 r3 T F (fun (F16 : zF) => Post x15 F16)))) ∧ (r10 = 0 → PX "java/lang/IllegalStateException" F))))))))) (fun (E9 : String) => PX E9 F))) (fun (E9 : String) => PX E9 F)))
set_option maxRecDepth 100000 in
set_option maxHeartbeats 4000000 in
theorem k_X4_swap {l : Launch} {D : va_G} {cA : Nat → ClassId} {N0 zE : Nat} {a0 : Nat} {p1 : Int32} {p2 : Int32} {T : zT} {F : zF} {Post : Int32 → zF → Prop} {PX : String → zF → Prop} (h : v_X4_swap a0 p1 p2 T F Post PX) : z_Met l D cA N0 zE yX4_swap cX4_swap 6 (some .int) ({ frames := 7, cells := 3, slots := 18, locals := 111 } : Room) [.ref a0, .int p1, .int p2] T F (fun v T' F' => ∃ r : Int32, v = some (.int r) ∧ T = T' ∧ Post r F') (fun E T' F' => T = T' ∧ PX E F') := by
  unfold v_X4_swap at h
  refine z_body (by decide) (Nat.le_of_ble_eq_true rfl) ?_
  intro p e s m args below meth c C hxt hnm
  have C : z_C p l s m args meth c RX4 cX4_swap 6 (some .int) D cA N0 zE := C
  show z_w p l e ({ frames := 7, cells := 3, slots := 18, locals := 111 } : Room) s m args below meth c D cA N0 6 0 0 (vx_MQ below (z_Qc D cA N0 (fun v T' F' => ∃ r : Int32, v = some (.int r) ∧ T = T' ∧ Post r F')) (z_XC D cA N0 (fun E T' F' => T = T' ∧ PX E F')) args s 3 18 (fun q => N0 ≤ q)) 0 [(0, .ref a0), (1, .int p1), (2, .int p2)] [] T F
  refine zr_aload_n C 0 dX4_swap_0 rfl rfl ?_
  refine zr_iload_n C 1 dX4_swap_1 rfl rfl ?_
  obtain ⟨hT1, h⟩ := h
  refine zr_callVX (As := [.int p1]) (r := (RX4, TX4, 4)) C (k_X4_bookingAt h) ok_X4_199 zq_383 zq_5 hT1 (by decide) rfl rfl ⟨by decide, (Nat.le_of_ble_eq_true rfl)⟩ ⟨(Nat.le_of_ble_eq_true rfl), (Nat.le_of_ble_eq_true rfl)⟩ (Nat.le_of_ble_eq_true rfl) dX4_swap_2 (fun E9 T9 F9 hq => by obtain ⟨rfl, rfl, hq⟩ := hq; exact zr_out C (fun x hx => (hxt x hx).elim) ⟨rfl, hq⟩ (Nat.le_of_ble_eq_true rfl) (Nat.le_of_ble_eq_true rfl)) (fun v26 U27 G28 hq => ?_)
  clear h
  · obtain ⟨r2, rfl, rfl, rfl, h⟩ := hq
    refine zr_astore_n C [(3, .ref r2), (0, .ref a0), (1, .int p1), (2, .int p2)] dX4_swap_5 rfl (by decide) rfl ?_
    refine zr_aload_n C 1 dX4_swap_6 rfl rfl ?_
    refine zr_iload_n C 3 dX4_swap_7 rfl rfl ?_
    refine zr_callVX (As := [.int p2]) (r := (RX4, TX4, 4)) C (k_X4_pieceAt h) ok_X4_131 zq_438 zq_7 hT1 (by decide) rfl rfl ⟨by decide, (Nat.le_of_ble_eq_true rfl)⟩ ⟨(Nat.le_of_ble_eq_true rfl), (Nat.le_of_ble_eq_true rfl)⟩ (Nat.le_of_ble_eq_true rfl) dX4_swap_8 (fun E9 T9 F9 hq => by obtain ⟨rfl, rfl, hq⟩ := hq; exact zr_out C (fun x hx => (hxt x hx).elim) ⟨rfl, hq⟩ (Nat.le_of_ble_eq_true rfl) (Nat.le_of_ble_eq_true rfl)) (fun v23 U24 G25 hq => ?_)
    clear h
    · obtain ⟨r3, rfl, rfl, rfl, h⟩ := hq
      refine zr_astore C [(4, .ref r3), (3, .ref r2), (0, .ref a0), (1, .int p1), (2, .int p2)] dX4_swap_11 (by decide) rfl ?_
      refine zr_aload_n C 1 dX4_swap_13 rfl rfl ?_
      obtain ⟨hT4, x6, hv5, h⟩ := h
      refine zr_get C fl_X4_215 hT4 hv5 dX4_swap_14 ?_
      obtain ⟨h1, h2⟩ := h
      refine zr_if_ne C 33 dX4_swap_17 (by decide) (fun hc => ?_) (fun hc => ?_)
      · have h := h1 hc
        clear h1 h2
        exact zr_throw C th_X4_34_38_222 (fun x hx => (hxt x hx).elim) ⟨rfl, h⟩ dX4_swap_33 dX4_swap_36 dX4_swap_37 dX4_swap_39 dX4_swap_42 (by decide) (Nat.le_of_ble_eq_true rfl) ⟨(Nat.le_of_ble_eq_true rfl), (Nat.le_of_ble_eq_true rfl)⟩ ⟨(Nat.le_of_ble_eq_true rfl), (Nat.le_of_ble_eq_true rfl)⟩
      · have h := h2 hc
        clear h1 h2
        refine zr_aload_n C 2 dX4_swap_20 rfl rfl ?_
        obtain ⟨x8, hv7, h⟩ := h
        refine zr_get C fl_X4_23 hT1 hv7 dX4_swap_21 ?_
        refine zr_aload_n C 1 dX4_swap_24 rfl rfl ?_
        refine zr_aload C 0 dX4_swap_25 rfl ?_
        obtain ⟨hT9, h⟩ := h
        refine zr_callV (As := [.ref r2, .ref r3]) (r := (RX3, TX3, 3)) C (k_X3_canSwap h) ok_X4_218 zq_514 zq_515 hT9 (by decide) rfl rfl ⟨by decide, (Nat.le_of_ble_eq_true rfl)⟩ ⟨(Nat.le_of_ble_eq_true rfl), (Nat.le_of_ble_eq_true rfl)⟩ (Nat.le_of_ble_eq_true rfl) dX4_swap_27 (fun v20 U21 G22 hq => ?_)
        clear h
        · obtain ⟨r10, rfl, rfl, rfl, h⟩ := hq
          obtain ⟨h1, h2⟩ := h
          refine zr_if_ne C 43 dX4_swap_30 (by decide) (fun hc => ?_) (fun hc => ?_)
          · have h := h1 hc
            clear h1 h2
            refine zr_aload_n C 1 dX4_swap_43 rfl rfl ?_
            obtain ⟨x12, hv11, h⟩ := h
            refine zr_get C fl_X4_224 hT4 hv11 dX4_swap_44 ?_
            obtain ⟨hT13, x15, hv14, h⟩ := h
            refine zr_get C fl_X4_128 hT13 hv14 dX4_swap_47 ?_
            refine zr_istore C [(5, .int x15), (4, .ref r3), (3, .ref r2), (0, .ref a0), (1, .int p1), (2, .int p2)] dX4_swap_50 (by decide) rfl ?_
            refine zr_aload_n C 2 dX4_swap_52 rfl rfl ?_
            refine zr_aload C 1 dX4_swap_53 rfl ?_
            refine zr_callV (As := [.ref r3]) (r := (RX1, TX1, 12)) C (k_X1_takePiece h) ok_X4_228 zq_644 zq_645 hT4 (by decide) rfl rfl ⟨by decide, (Nat.le_of_ble_eq_true rfl)⟩ ⟨(Nat.le_of_ble_eq_true rfl), (Nat.le_of_ble_eq_true rfl)⟩ (Nat.le_of_ble_eq_true rfl) dX4_swap_55 (fun v17 U18 G19 hq => ?_)
            clear h
            · obtain ⟨rfl, rfl, h⟩ := hq
              refine zr_iload C 0 dX4_swap_58 rfl ?_
              exact zr_X (zr_iret C rfl ⟨_, rfl, rfl, h⟩ (Nat.le_of_ble_eq_true rfl) (Nat.le_of_ble_eq_true rfl) dX4_swap_60)
          · have h := h2 hc
            clear h1 h2
            exact zr_throw C th_X4_34_38_222 (fun x hx => (hxt x hx).elim) ⟨rfl, h⟩ dX4_swap_33 dX4_swap_36 dX4_swap_37 dX4_swap_39 dX4_swap_42 (by decide) (Nat.le_of_ble_eq_true rfl) ⟨(Nat.le_of_ble_eq_true rfl), (Nat.le_of_ble_eq_true rfl)⟩ ⟨(Nat.le_of_ble_eq_true rfl), (Nat.le_of_ble_eq_true rfl)⟩
set_option maxRecDepth 100000 in
set_option maxHeartbeats 4000000 in
theorem k_X4_swap0 {l : Launch} {D : va_G} {cA : Nat → ClassId} {N0 zE : Nat} {a0 : Nat} {p1 : Int32} {p2 : Int32} {T : zT} {F : zF} {Post : Int32 → zF → Prop} (h : v_X4_swap a0 p1 p2 T F Post (fun _ _ => False)) : z_Mt l D cA N0 zE yX4_swap cX4_swap 6 (some .int) ({ frames := 5, cells := 0, slots := 0, locals := 111 } : Room) [.ref a0, .int p1, .int p2] T F (fun v T' F' => ∃ r : Int32, v = some (.int r) ∧ T = T' ∧ Post r F') := by
  unfold v_X4_swap at h
  refine z_bodyT (by decide) (Nat.le_of_ble_eq_true rfl) ?_
  intro p e s m args below meth c C hnm
  have C : z_C p l s m args meth c RX4 cX4_swap 6 (some .int) D cA N0 zE := C
  show z_w p l e ({ frames := 5, cells := 0, slots := 0, locals := 111 } : Room) s m args below meth c D cA N0 6 0 0 (MQ below (z_Qc D cA N0 (fun v T' F' => ∃ r : Int32, v = some (.int r) ∧ T = T' ∧ Post r F')) args s 0 0 (fun q => N0 ≤ q)) 0 [(0, .ref a0), (1, .int p1), (2, .int p2)] [] T F
  refine zr_aload_n C 0 dX4_swap_0 rfl rfl ?_
  refine zr_iload_n C 1 dX4_swap_1 rfl rfl ?_
  obtain ⟨hT1, h⟩ := h
  refine zr_callV (As := [.int p1]) (r := (RX4, TX4, 4)) C (k_X4_bookingAt0 h) ok_X4_199 zq_383 zq_5 hT1 (by decide) rfl rfl ⟨by decide, (Nat.le_of_ble_eq_true rfl)⟩ ⟨(Nat.le_of_ble_eq_true rfl), (Nat.le_of_ble_eq_true rfl)⟩ (Nat.le_of_ble_eq_true rfl) dX4_swap_2 (fun v26 U27 G28 hq => ?_)
  clear h
  · obtain ⟨r2, rfl, rfl, rfl, h⟩ := hq
    refine zr_astore_n C [(3, .ref r2), (0, .ref a0), (1, .int p1), (2, .int p2)] dX4_swap_5 rfl (by decide) rfl ?_
    refine zr_aload_n C 1 dX4_swap_6 rfl rfl ?_
    refine zr_iload_n C 3 dX4_swap_7 rfl rfl ?_
    refine zr_callV (As := [.int p2]) (r := (RX4, TX4, 4)) C (k_X4_pieceAt0 h) ok_X4_131 zq_438 zq_7 hT1 (by decide) rfl rfl ⟨by decide, (Nat.le_of_ble_eq_true rfl)⟩ ⟨(Nat.le_of_ble_eq_true rfl), (Nat.le_of_ble_eq_true rfl)⟩ (Nat.le_of_ble_eq_true rfl) dX4_swap_8 (fun v23 U24 G25 hq => ?_)
    clear h
    · obtain ⟨r3, rfl, rfl, rfl, h⟩ := hq
      refine zr_astore C [(4, .ref r3), (3, .ref r2), (0, .ref a0), (1, .int p1), (2, .int p2)] dX4_swap_11 (by decide) rfl ?_
      refine zr_aload_n C 1 dX4_swap_13 rfl rfl ?_
      obtain ⟨hT4, x6, hv5, h⟩ := h
      refine zr_get C fl_X4_215 hT4 hv5 dX4_swap_14 ?_
      obtain ⟨h1, h2⟩ := h
      refine zr_if_ne C 33 dX4_swap_17 (by decide) (fun hc => ?_) (fun hc => ?_)
      · have h := h1 hc
        clear h1 h2
        exact h.elim
      · have h := h2 hc
        clear h1 h2
        refine zr_aload_n C 2 dX4_swap_20 rfl rfl ?_
        obtain ⟨x8, hv7, h⟩ := h
        refine zr_get C fl_X4_23 hT1 hv7 dX4_swap_21 ?_
        refine zr_aload_n C 1 dX4_swap_24 rfl rfl ?_
        refine zr_aload C 0 dX4_swap_25 rfl ?_
        obtain ⟨hT9, h⟩ := h
        refine zr_callV (As := [.ref r2, .ref r3]) (r := (RX3, TX3, 3)) C (k_X3_canSwap h) ok_X4_218 zq_514 zq_515 hT9 (by decide) rfl rfl ⟨by decide, (Nat.le_of_ble_eq_true rfl)⟩ ⟨(Nat.le_of_ble_eq_true rfl), (Nat.le_of_ble_eq_true rfl)⟩ (Nat.le_of_ble_eq_true rfl) dX4_swap_27 (fun v20 U21 G22 hq => ?_)
        clear h
        · obtain ⟨r10, rfl, rfl, rfl, h⟩ := hq
          obtain ⟨h1, h2⟩ := h
          refine zr_if_ne C 43 dX4_swap_30 (by decide) (fun hc => ?_) (fun hc => ?_)
          · have h := h1 hc
            clear h1 h2
            refine zr_aload_n C 1 dX4_swap_43 rfl rfl ?_
            obtain ⟨x12, hv11, h⟩ := h
            refine zr_get C fl_X4_224 hT4 hv11 dX4_swap_44 ?_
            obtain ⟨hT13, x15, hv14, h⟩ := h
            refine zr_get C fl_X4_128 hT13 hv14 dX4_swap_47 ?_
            refine zr_istore C [(5, .int x15), (4, .ref r3), (3, .ref r2), (0, .ref a0), (1, .int p1), (2, .int p2)] dX4_swap_50 (by decide) rfl ?_
            refine zr_aload_n C 2 dX4_swap_52 rfl rfl ?_
            refine zr_aload C 1 dX4_swap_53 rfl ?_
            refine zr_callV (As := [.ref r3]) (r := (RX1, TX1, 12)) C (k_X1_takePiece h) ok_X4_228 zq_644 zq_645 hT4 (by decide) rfl rfl ⟨by decide, (Nat.le_of_ble_eq_true rfl)⟩ ⟨(Nat.le_of_ble_eq_true rfl), (Nat.le_of_ble_eq_true rfl)⟩ (Nat.le_of_ble_eq_true rfl) dX4_swap_55 (fun v17 U18 G19 hq => ?_)
            clear h
            · obtain ⟨rfl, rfl, h⟩ := hq
              refine zr_iload C 0 dX4_swap_58 rfl ?_
              exact zr_iret C rfl ⟨_, rfl, rfl, h⟩ (Nat.le_of_ble_eq_true rfl) (Nat.le_of_ble_eq_true rfl) dX4_swap_60
          · have h := h2 hc
            clear h1 h2
            exact h.elim
theorem dX4_ofBooking_0 : decode cX4_ofBooking 0 = .ok (.aload_n 0, 1) := by decide +kernel
theorem dX4_ofBooking_1 : decode cX4_ofBooking 1 = .ok (.iload_n 1, 1) := by decide +kernel
theorem dX4_ofBooking_5 : decode cX4_ofBooking 5 = .ok (.astore_n 3, 1) := by decide +kernel
theorem dX4_ofBooking_6 : decode cX4_ofBooking 6 = .ok (.iload_n 2, 1) := by decide +kernel
theorem dX4_ofBooking_139 : decode cX4_ofBooking 139 = .ok (.new 56, 3) := by decide +kernel
theorem dX4_ofBooking_142 : decode cX4_ofBooking 142 = .ok (.dup, 1) := by decide +kernel
theorem dX4_ofBooking_143 : decode cX4_ofBooking 143 = .ok (.ldc_w 260, 3) := by decide +kernel
theorem dX4_ofBooking_146 : decode cX4_ofBooking 146 = .ok (.invokespecial 60, 3) := by decide +kernel
theorem dX4_ofBooking_149 : decode cX4_ofBooking 149 = .ok (.athrow, 1) := by decide +kernel
theorem dX4_ofBooking_68 : decode cX4_ofBooking 68 = .ok (.aload_n 3, 1) := by decide +kernel
theorem dX4_ofBooking_69 : decode cX4_ofBooking 69 = .ok (.getfield 224, 3) := by decide +kernel
theorem dX4_ofBooking_72 : decode cX4_ofBooking 72 = .ok (.getfield 128, 3) := by decide +kernel
theorem dX4_ofBooking_75 : decode cX4_ofBooking 75 = .ok (.ireturn, 1) := by decide +kernel
theorem dX4_ofBooking_76 : decode cX4_ofBooking 76 = .ok (.aload_n 3, 1) := by decide +kernel
theorem dX4_ofBooking_77 : decode cX4_ofBooking 77 = .ok (.getfield 232, 3) := by decide +kernel
theorem dX4_ofBooking_80 : decode cX4_ofBooking 80 = .ok (.ireturn, 1) := by decide +kernel
theorem dX4_ofBooking_81 : decode cX4_ofBooking 81 = .ok (.aload_n 3, 1) := by decide +kernel
theorem dX4_ofBooking_82 : decode cX4_ofBooking 82 = .ok (.getfield 235, 3) := by decide +kernel
theorem dX4_ofBooking_85 : decode cX4_ofBooking 85 = .ok (.ireturn, 1) := by decide +kernel
theorem dX4_ofBooking_86 : decode cX4_ofBooking 86 = .ok (.aload_n 3, 1) := by decide +kernel
theorem dX4_ofBooking_87 : decode cX4_ofBooking 87 = .ok (.getfield 238, 3) := by decide +kernel
theorem dX4_ofBooking_90 : decode cX4_ofBooking 90 = .ok (.ireturn, 1) := by decide +kernel
theorem dX4_ofBooking_91 : decode cX4_ofBooking 91 = .ok (.aload_n 3, 1) := by decide +kernel
theorem dX4_ofBooking_92 : decode cX4_ofBooking 92 = .ok (.getfield 241, 3) := by decide +kernel
theorem dX4_ofBooking_95 : decode cX4_ofBooking 95 = .ok (.ireturn, 1) := by decide +kernel
theorem dX4_ofBooking_96 : decode cX4_ofBooking 96 = .ok (.aload_n 3, 1) := by decide +kernel
theorem dX4_ofBooking_97 : decode cX4_ofBooking 97 = .ok (.getfield 215, 3) := by decide +kernel
theorem dX4_ofBooking_100 : decode cX4_ofBooking 100 = .ok (.ireturn, 1) := by decide +kernel
theorem dX4_ofBooking_101 : decode cX4_ofBooking 101 = .ok (.aload_n 3, 1) := by decide +kernel
theorem dX4_ofBooking_102 : decode cX4_ofBooking 102 = .ok (.getfield 244, 3) := by decide +kernel
theorem dX4_ofBooking_105 : decode cX4_ofBooking 105 = .ok (.ireturn, 1) := by decide +kernel
theorem dX4_ofBooking_106 : decode cX4_ofBooking 106 = .ok (.aload_n 3, 1) := by decide +kernel
theorem dX4_ofBooking_110 : decode cX4_ofBooking 110 = .ok (.ireturn, 1) := by decide +kernel
theorem dX4_ofBooking_107 : decode cX4_ofBooking 107 = .ok (.invokevirtual 212, 3) := by decide +kernel
theorem dX4_ofBooking_111 : decode cX4_ofBooking 111 = .ok (.aload_n 3, 1) := by decide +kernel
theorem dX4_ofBooking_112 : decode cX4_ofBooking 112 = .ok (.getfield 247, 3) := by decide +kernel
theorem dX4_ofBooking_115 : decode cX4_ofBooking 115 = .ok (.ireturn, 1) := by decide +kernel
theorem dX4_ofBooking_116 : decode cX4_ofBooking 116 = .ok (.aload_n 3, 1) := by decide +kernel
theorem dX4_ofBooking_117 : decode cX4_ofBooking 117 = .ok (.getfield 250, 3) := by decide +kernel
theorem dX4_ofBooking_120 : decode cX4_ofBooking 120 = .ok (.ireturn, 1) := by decide +kernel
theorem dX4_ofBooking_121 : decode cX4_ofBooking 121 = .ok (.aload_n 3, 1) := by decide +kernel
theorem dX4_ofBooking_122 : decode cX4_ofBooking 122 = .ok (.getfield 253, 3) := by decide +kernel
theorem dX4_ofBooking_125 : decode cX4_ofBooking 125 = .ok (.ifCond .eq 7, 3) := by decide +kernel
theorem dX4_ofBooking_132 : decode cX4_ofBooking 132 = .ok (.iconst 0, 1) := by decide +kernel
theorem dX4_ofBooking_133 : decode cX4_ofBooking 133 = .ok (.ireturn, 1) := by decide +kernel
theorem dX4_ofBooking_128 : decode cX4_ofBooking 128 = .ok (.iconst 1, 1) := by decide +kernel
theorem dX4_ofBooking_129 : decode cX4_ofBooking 129 = .ok (.goto 4, 3) := by decide +kernel
theorem dX4_ofBooking_134 : decode cX4_ofBooking 134 = .ok (.aload_n 3, 1) := by decide +kernel
theorem dX4_ofBooking_135 : decode cX4_ofBooking 135 = .ok (.getfield 257, 3) := by decide +kernel
theorem dX4_ofBooking_138 : decode cX4_ofBooking 138 = .ok (.ireturn, 1) := by decide +kernel
theorem dX4_ofBooking_7 : decode cX4_ofBooking 7 = .ok (.tableswitch 132 0 11 #[61, 69, 74, 79, 84, 89, 94, 99, 104, 109, 114, 127], 61) := by decide +kernel
theorem dX4_ofBooking_2 : decode cX4_ofBooking 2 = .ok (.invokevirtual 199, 3) := by decide +kernel
def v_X4_ofBooking (a0 : Nat) (p1 : Int32) (p2 : Int32) (T : zT) (F : zF) (Post : Int32 → Prop) (PX : String → Prop) : Prop :=
  (T a0 = some (5, 4) ∧ (v_X4_bookingAt a0 p1 T F (fun (r2 : Nat) => (((p2.toInt < 0 ∨ 11 < p2.toInt) → PX "java/lang/IllegalArgumentException") ∧ (p2 = 0 → (T r2 = some (2, 12) ∧ ∃ x6 : Nat, F r2 0 = .ref x6 ∧ T x6 = some (3, 5) ∧ ∃ x9 : Int32, F x6 0 = .int x9 ∧ Post x9)) ∧ (p2 = 1 → (T r2 = some (2, 12) ∧ ∃ x13 : Int32, F r2 1 = .int x13 ∧ Post x13)) ∧ (p2 = 2 → (T r2 = some (2, 12) ∧ ∃ x17 : Int32, F r2 2 = .int x17 ∧ Post x17)) ∧ (p2 = 3 → (T r2 = some (2, 12) ∧ ∃ x21 : Int32, F r2 3 = .int x21 ∧ Post x21)) ∧ (p2 = 4 → (T r2 = some (2, 12) ∧ ∃ x25 : Int32, F r2 4 = .int x25 ∧ Post x25)) ∧ (p2 = 5 → (T r2 = some (2, 12) ∧ ∃ x29 : Int32, F r2 6 = .int x29 ∧ Post x29)) ∧ (p2 = 6 → (T r2 = some (2, 12) ∧ ∃ x33 : Int32, F r2 5 = .int x33 ∧ Post x33)) ∧ (p2 = 7 → (T r2 = some (2, 12) ∧ (v_X1_costNow r2 T F (fun (r36 : Int32) => Post r36)))) ∧ (p2 = 8 → (T r2 = some (2, 12) ∧ ∃ x43 : Int32, F r2 7 = .int x43 ∧ Post x43)) ∧ (p2 = 9 → (T r2 = some (2, 12) ∧ ∃ x47 : Int32, F r2 8 = .int x47 ∧ Post x47)) ∧ (p2 = 10 → (T r2 = some (2, 12) ∧ ∃ x51 : Int32, F r2 10 = .int x51 ∧ ((x51 = 0 → Post 0) ∧ (¬ x51 = 0 → Post 1)))) ∧ (p2 = 11 → (T r2 = some (2, 12) ∧ ∃ x55 : Int32, F r2 9 = .int x55 ∧ Post x55)))) (fun (E9 : String) => PX E9)))
set_option maxRecDepth 100000 in
set_option maxHeartbeats 4000000 in
theorem k_X4_ofBooking {l : Launch} {D : va_G} {cA : Nat → ClassId} {N0 zE : Nat} {a0 : Nat} {p1 : Int32} {p2 : Int32} {T : zT} {F : zF} {Post : Int32 → Prop} {PX : String → Prop} (h : v_X4_ofBooking a0 p1 p2 T F Post PX) : z_Met l D cA N0 zE yX4_ofBooking cX4_ofBooking 4 (some .int) ({ frames := 7, cells := 2, slots := 12, locals := 111 } : Room) [.ref a0, .int p1, .int p2] T F (fun v T' F' => ∃ r : Int32, v = some (.int r) ∧ T = T' ∧ F = F' ∧ Post r) (fun E T' F' => T = T' ∧ F = F' ∧ PX E) := by
  unfold v_X4_ofBooking at h
  refine z_body (by decide) (Nat.le_of_ble_eq_true rfl) ?_
  intro p e s m args below meth c C hxt hnm
  have C : z_C p l s m args meth c RX4 cX4_ofBooking 4 (some .int) D cA N0 zE := C
  show z_w p l e ({ frames := 7, cells := 2, slots := 12, locals := 111 } : Room) s m args below meth c D cA N0 4 0 0 (vx_MQ below (z_Qc D cA N0 (fun v T' F' => ∃ r : Int32, v = some (.int r) ∧ T = T' ∧ F = F' ∧ Post r)) (z_XC D cA N0 (fun E T' F' => T = T' ∧ F = F' ∧ PX E)) args s 2 12 (fun q => N0 ≤ q)) 0 [(0, .ref a0), (1, .int p1), (2, .int p2)] [] T F
  refine zr_aload_n C 0 dX4_ofBooking_0 rfl rfl ?_
  refine zr_iload_n C 1 dX4_ofBooking_1 rfl rfl ?_
  obtain ⟨hT1, h⟩ := h
  refine zr_callVX (As := [.int p1]) (r := (RX4, TX4, 4)) C (k_X4_bookingAt h) ok_X4_199 zq_383 zq_5 hT1 (by decide) rfl rfl ⟨by decide, (Nat.le_of_ble_eq_true rfl)⟩ ⟨(Nat.le_of_ble_eq_true rfl), (Nat.le_of_ble_eq_true rfl)⟩ (Nat.le_of_ble_eq_true rfl) dX4_ofBooking_2 (fun E9 T9 F9 hq => by obtain ⟨rfl, rfl, hq⟩ := hq; exact zr_out C (fun x hx => (hxt x hx).elim) ⟨rfl, rfl, hq⟩ (Nat.le_of_ble_eq_true rfl) (Nat.le_of_ble_eq_true rfl)) (fun v57 U58 G59 hq => ?_)
  clear h
  · obtain ⟨r2, rfl, rfl, rfl, h⟩ := hq
    refine zr_astore_n C [(3, .ref r2), (0, .ref a0), (1, .int p1), (2, .int p2)] dX4_ofBooking_5 rfl (by decide) rfl ?_
    refine zr_iload_n C 3 dX4_ofBooking_6 rfl rfl ?_
    obtain ⟨hs3, hs10, hs14, hs18, hs22, hs26, hs30, hs34, hs40, hs44, hs48, hs52, hs56⟩ := h
    by_cases hw : (p2).toInt < 0 ∨ 11 < (p2).toInt
    · have h := hs3 hw
      refine zr_tableOut C 139 dX4_ofBooking_7 hw (by decide) ?_
      exact zr_throwW C th_X4_56_60_260 (fun x hx => (hxt x hx).elim) ⟨rfl, rfl, h⟩ dX4_ofBooking_139 dX4_ofBooking_142 dX4_ofBooking_143 dX4_ofBooking_146 dX4_ofBooking_149 (by decide) (Nat.le_of_ble_eq_true rfl) ⟨(Nat.le_of_ble_eq_true rfl), (Nat.le_of_ble_eq_true rfl)⟩ ⟨(Nat.le_of_ble_eq_true rfl), (Nat.le_of_ble_eq_true rfl)⟩
    by_cases hk0 : p2 = 0
    · have h := hs10 hk0
      refine zr_tableIn C 68 dX4_ofBooking_7 (by rw [hk0]; decide) (by rw [hk0]; decide) (by rw [hk0]; rfl) (by decide) ?_
      refine zr_aload_n C 0 dX4_ofBooking_68 rfl rfl ?_
      obtain ⟨hT4, x6, hv5, h⟩ := h
      refine zr_get C fl_X4_224 hT4 hv5 dX4_ofBooking_69 ?_
      obtain ⟨hT7, x9, hv8, h⟩ := h
      refine zr_get C fl_X4_128 hT7 hv8 dX4_ofBooking_72 ?_
      exact zr_X (zr_iret C rfl ⟨_, rfl, rfl, rfl, h⟩ (Nat.le_of_ble_eq_true rfl) (Nat.le_of_ble_eq_true rfl) dX4_ofBooking_75)
    by_cases hk1 : p2 = 1
    · have h := hs14 hk1
      refine zr_tableIn C 76 dX4_ofBooking_7 (by rw [hk1]; decide) (by rw [hk1]; decide) (by rw [hk1]; rfl) (by decide) ?_
      refine zr_aload_n C 0 dX4_ofBooking_76 rfl rfl ?_
      obtain ⟨hT11, x13, hv12, h⟩ := h
      refine zr_get C fl_X4_232 hT11 hv12 dX4_ofBooking_77 ?_
      exact zr_X (zr_iret C rfl ⟨_, rfl, rfl, rfl, h⟩ (Nat.le_of_ble_eq_true rfl) (Nat.le_of_ble_eq_true rfl) dX4_ofBooking_80)
    by_cases hk2 : p2 = 2
    · have h := hs18 hk2
      refine zr_tableIn C 81 dX4_ofBooking_7 (by rw [hk2]; decide) (by rw [hk2]; decide) (by rw [hk2]; rfl) (by decide) ?_
      refine zr_aload_n C 0 dX4_ofBooking_81 rfl rfl ?_
      obtain ⟨hT15, x17, hv16, h⟩ := h
      refine zr_get C fl_X4_235 hT15 hv16 dX4_ofBooking_82 ?_
      exact zr_X (zr_iret C rfl ⟨_, rfl, rfl, rfl, h⟩ (Nat.le_of_ble_eq_true rfl) (Nat.le_of_ble_eq_true rfl) dX4_ofBooking_85)
    by_cases hk3 : p2 = 3
    · have h := hs22 hk3
      refine zr_tableIn C 86 dX4_ofBooking_7 (by rw [hk3]; decide) (by rw [hk3]; decide) (by rw [hk3]; rfl) (by decide) ?_
      refine zr_aload_n C 0 dX4_ofBooking_86 rfl rfl ?_
      obtain ⟨hT19, x21, hv20, h⟩ := h
      refine zr_get C fl_X4_238 hT19 hv20 dX4_ofBooking_87 ?_
      exact zr_X (zr_iret C rfl ⟨_, rfl, rfl, rfl, h⟩ (Nat.le_of_ble_eq_true rfl) (Nat.le_of_ble_eq_true rfl) dX4_ofBooking_90)
    by_cases hk4 : p2 = 4
    · have h := hs26 hk4
      refine zr_tableIn C 91 dX4_ofBooking_7 (by rw [hk4]; decide) (by rw [hk4]; decide) (by rw [hk4]; rfl) (by decide) ?_
      refine zr_aload_n C 0 dX4_ofBooking_91 rfl rfl ?_
      obtain ⟨hT23, x25, hv24, h⟩ := h
      refine zr_get C fl_X4_241 hT23 hv24 dX4_ofBooking_92 ?_
      exact zr_X (zr_iret C rfl ⟨_, rfl, rfl, rfl, h⟩ (Nat.le_of_ble_eq_true rfl) (Nat.le_of_ble_eq_true rfl) dX4_ofBooking_95)
    by_cases hk5 : p2 = 5
    · have h := hs30 hk5
      refine zr_tableIn C 96 dX4_ofBooking_7 (by rw [hk5]; decide) (by rw [hk5]; decide) (by rw [hk5]; rfl) (by decide) ?_
      refine zr_aload_n C 0 dX4_ofBooking_96 rfl rfl ?_
      obtain ⟨hT27, x29, hv28, h⟩ := h
      refine zr_get C fl_X4_215 hT27 hv28 dX4_ofBooking_97 ?_
      exact zr_X (zr_iret C rfl ⟨_, rfl, rfl, rfl, h⟩ (Nat.le_of_ble_eq_true rfl) (Nat.le_of_ble_eq_true rfl) dX4_ofBooking_100)
    by_cases hk6 : p2 = 6
    · have h := hs34 hk6
      refine zr_tableIn C 101 dX4_ofBooking_7 (by rw [hk6]; decide) (by rw [hk6]; decide) (by rw [hk6]; rfl) (by decide) ?_
      refine zr_aload_n C 0 dX4_ofBooking_101 rfl rfl ?_
      obtain ⟨hT31, x33, hv32, h⟩ := h
      refine zr_get C fl_X4_244 hT31 hv32 dX4_ofBooking_102 ?_
      exact zr_X (zr_iret C rfl ⟨_, rfl, rfl, rfl, h⟩ (Nat.le_of_ble_eq_true rfl) (Nat.le_of_ble_eq_true rfl) dX4_ofBooking_105)
    by_cases hk7 : p2 = 7
    · have h := hs40 hk7
      refine zr_tableIn C 106 dX4_ofBooking_7 (by rw [hk7]; decide) (by rw [hk7]; decide) (by rw [hk7]; rfl) (by decide) ?_
      refine zr_aload_n C 0 dX4_ofBooking_106 rfl rfl ?_
      obtain ⟨hT35, h⟩ := h
      refine zr_callV (As := []) (r := (RX1, TX1, 12)) C (k_X1_costNow h) ok_X4_212 zq_388 zq_389 hT35 (by decide) rfl rfl ⟨by decide, (Nat.le_of_ble_eq_true rfl)⟩ ⟨(Nat.le_of_ble_eq_true rfl), (Nat.le_of_ble_eq_true rfl)⟩ (Nat.le_of_ble_eq_true rfl) dX4_ofBooking_107 (fun v37 U38 G39 hq => ?_)
      clear h
      · obtain ⟨r36, rfl, rfl, rfl, h⟩ := hq
        exact zr_X (zr_iret C rfl ⟨_, rfl, rfl, rfl, h⟩ (Nat.le_of_ble_eq_true rfl) (Nat.le_of_ble_eq_true rfl) dX4_ofBooking_110)
    by_cases hk8 : p2 = 8
    · have h := hs44 hk8
      refine zr_tableIn C 111 dX4_ofBooking_7 (by rw [hk8]; decide) (by rw [hk8]; decide) (by rw [hk8]; rfl) (by decide) ?_
      refine zr_aload_n C 0 dX4_ofBooking_111 rfl rfl ?_
      obtain ⟨hT41, x43, hv42, h⟩ := h
      refine zr_get C fl_X4_247 hT41 hv42 dX4_ofBooking_112 ?_
      exact zr_X (zr_iret C rfl ⟨_, rfl, rfl, rfl, h⟩ (Nat.le_of_ble_eq_true rfl) (Nat.le_of_ble_eq_true rfl) dX4_ofBooking_115)
    by_cases hk9 : p2 = 9
    · have h := hs48 hk9
      refine zr_tableIn C 116 dX4_ofBooking_7 (by rw [hk9]; decide) (by rw [hk9]; decide) (by rw [hk9]; rfl) (by decide) ?_
      refine zr_aload_n C 0 dX4_ofBooking_116 rfl rfl ?_
      obtain ⟨hT45, x47, hv46, h⟩ := h
      refine zr_get C fl_X4_250 hT45 hv46 dX4_ofBooking_117 ?_
      exact zr_X (zr_iret C rfl ⟨_, rfl, rfl, rfl, h⟩ (Nat.le_of_ble_eq_true rfl) (Nat.le_of_ble_eq_true rfl) dX4_ofBooking_120)
    by_cases hk10 : p2 = 10
    · have h := hs52 hk10
      refine zr_tableIn C 121 dX4_ofBooking_7 (by rw [hk10]; decide) (by rw [hk10]; decide) (by rw [hk10]; rfl) (by decide) ?_
      refine zr_aload_n C 0 dX4_ofBooking_121 rfl rfl ?_
      obtain ⟨hT49, x51, hv50, h⟩ := h
      refine zr_get C fl_X4_253 hT49 hv50 dX4_ofBooking_122 ?_
      obtain ⟨h1, h2⟩ := h
      refine zr_if_eq C 132 dX4_ofBooking_125 (by decide) (fun hc => ?_) (fun hc => ?_)
      · have h := h1 hc
        clear h1 h2
        refine zr_iconst C 0 dX4_ofBooking_132 (by decide) ?_
        exact zr_X (zr_iret C rfl ⟨_, rfl, rfl, rfl, h⟩ (Nat.le_of_ble_eq_true rfl) (Nat.le_of_ble_eq_true rfl) dX4_ofBooking_133)
      · have h := h2 hc
        clear h1 h2
        refine zr_iconst C 1 dX4_ofBooking_128 (by decide) ?_
        refine zr_goto C 133 dX4_ofBooking_129 (by decide) ?_
        exact zr_X (zr_iret C rfl ⟨_, rfl, rfl, rfl, h⟩ (Nat.le_of_ble_eq_true rfl) (Nat.le_of_ble_eq_true rfl) dX4_ofBooking_133)
    by_cases hk11 : p2 = 11
    · have h := hs56 hk11
      refine zr_tableIn C 134 dX4_ofBooking_7 (by rw [hk11]; decide) (by rw [hk11]; decide) (by rw [hk11]; rfl) (by decide) ?_
      refine zr_aload_n C 0 dX4_ofBooking_134 rfl rfl ?_
      obtain ⟨hT53, x55, hv54, h⟩ := h
      refine zr_get C fl_X4_257 hT53 hv54 dX4_ofBooking_135 ?_
      exact zr_X (zr_iret C rfl ⟨_, rfl, rfl, rfl, h⟩ (Nat.le_of_ble_eq_true rfl) (Nat.le_of_ble_eq_true rfl) dX4_ofBooking_138)
    obtain ⟨j9, hj9, e9⟩ := z_sw 11 hw
    have hc9 : j9 = 0 ∨ j9 = 1 ∨ j9 = 2 ∨ j9 = 3 ∨ j9 = 4 ∨ j9 = 5 ∨ j9 = 6 ∨ j9 = 7 ∨ j9 = 8 ∨ j9 = 9 ∨ j9 = 10 ∨ j9 = 11 := by omega
    rcases hc9 with rfl | rfl | rfl | rfl | rfl | rfl | rfl | rfl | rfl | rfl | rfl | rfl
    · exact absurd (e9.trans (by decide)) hk0
    · exact absurd (e9.trans (by decide)) hk1
    · exact absurd (e9.trans (by decide)) hk2
    · exact absurd (e9.trans (by decide)) hk3
    · exact absurd (e9.trans (by decide)) hk4
    · exact absurd (e9.trans (by decide)) hk5
    · exact absurd (e9.trans (by decide)) hk6
    · exact absurd (e9.trans (by decide)) hk7
    · exact absurd (e9.trans (by decide)) hk8
    · exact absurd (e9.trans (by decide)) hk9
    · exact absurd (e9.trans (by decide)) hk10
    · exact absurd (e9.trans (by decide)) hk11
set_option maxRecDepth 100000 in
set_option maxHeartbeats 4000000 in
theorem k_X4_ofBooking0 {l : Launch} {D : va_G} {cA : Nat → ClassId} {N0 zE : Nat} {a0 : Nat} {p1 : Int32} {p2 : Int32} {T : zT} {F : zF} {Post : Int32 → Prop} (h : v_X4_ofBooking a0 p1 p2 T F Post (fun _ => False)) : z_Mt l D cA N0 zE yX4_ofBooking cX4_ofBooking 4 (some .int) ({ frames := 4, cells := 0, slots := 0, locals := 85 } : Room) [.ref a0, .int p1, .int p2] T F (fun v T' F' => ∃ r : Int32, v = some (.int r) ∧ T = T' ∧ F = F' ∧ Post r) := by
  unfold v_X4_ofBooking at h
  refine z_bodyT (by decide) (Nat.le_of_ble_eq_true rfl) ?_
  intro p e s m args below meth c C hnm
  have C : z_C p l s m args meth c RX4 cX4_ofBooking 4 (some .int) D cA N0 zE := C
  show z_w p l e ({ frames := 4, cells := 0, slots := 0, locals := 85 } : Room) s m args below meth c D cA N0 4 0 0 (MQ below (z_Qc D cA N0 (fun v T' F' => ∃ r : Int32, v = some (.int r) ∧ T = T' ∧ F = F' ∧ Post r)) args s 0 0 (fun q => N0 ≤ q)) 0 [(0, .ref a0), (1, .int p1), (2, .int p2)] [] T F
  refine zr_aload_n C 0 dX4_ofBooking_0 rfl rfl ?_
  refine zr_iload_n C 1 dX4_ofBooking_1 rfl rfl ?_
  obtain ⟨hT1, h⟩ := h
  refine zr_callV (As := [.int p1]) (r := (RX4, TX4, 4)) C (k_X4_bookingAt0 h) ok_X4_199 zq_383 zq_5 hT1 (by decide) rfl rfl ⟨by decide, (Nat.le_of_ble_eq_true rfl)⟩ ⟨(Nat.le_of_ble_eq_true rfl), (Nat.le_of_ble_eq_true rfl)⟩ (Nat.le_of_ble_eq_true rfl) dX4_ofBooking_2 (fun v57 U58 G59 hq => ?_)
  clear h
  · obtain ⟨r2, rfl, rfl, rfl, h⟩ := hq
    refine zr_astore_n C [(3, .ref r2), (0, .ref a0), (1, .int p1), (2, .int p2)] dX4_ofBooking_5 rfl (by decide) rfl ?_
    refine zr_iload_n C 3 dX4_ofBooking_6 rfl rfl ?_
    obtain ⟨hs3, hs10, hs14, hs18, hs22, hs26, hs30, hs34, hs40, hs44, hs48, hs52, hs56⟩ := h
    by_cases hw : (p2).toInt < 0 ∨ 11 < (p2).toInt
    · have h := hs3 hw
      refine zr_tableOut C 139 dX4_ofBooking_7 hw (by decide) ?_
      exact h.elim
    by_cases hk0 : p2 = 0
    · have h := hs10 hk0
      refine zr_tableIn C 68 dX4_ofBooking_7 (by rw [hk0]; decide) (by rw [hk0]; decide) (by rw [hk0]; rfl) (by decide) ?_
      refine zr_aload_n C 0 dX4_ofBooking_68 rfl rfl ?_
      obtain ⟨hT4, x6, hv5, h⟩ := h
      refine zr_get C fl_X4_224 hT4 hv5 dX4_ofBooking_69 ?_
      obtain ⟨hT7, x9, hv8, h⟩ := h
      refine zr_get C fl_X4_128 hT7 hv8 dX4_ofBooking_72 ?_
      exact zr_iret C rfl ⟨_, rfl, rfl, rfl, h⟩ (Nat.le_of_ble_eq_true rfl) (Nat.le_of_ble_eq_true rfl) dX4_ofBooking_75
    by_cases hk1 : p2 = 1
    · have h := hs14 hk1
      refine zr_tableIn C 76 dX4_ofBooking_7 (by rw [hk1]; decide) (by rw [hk1]; decide) (by rw [hk1]; rfl) (by decide) ?_
      refine zr_aload_n C 0 dX4_ofBooking_76 rfl rfl ?_
      obtain ⟨hT11, x13, hv12, h⟩ := h
      refine zr_get C fl_X4_232 hT11 hv12 dX4_ofBooking_77 ?_
      exact zr_iret C rfl ⟨_, rfl, rfl, rfl, h⟩ (Nat.le_of_ble_eq_true rfl) (Nat.le_of_ble_eq_true rfl) dX4_ofBooking_80
    by_cases hk2 : p2 = 2
    · have h := hs18 hk2
      refine zr_tableIn C 81 dX4_ofBooking_7 (by rw [hk2]; decide) (by rw [hk2]; decide) (by rw [hk2]; rfl) (by decide) ?_
      refine zr_aload_n C 0 dX4_ofBooking_81 rfl rfl ?_
      obtain ⟨hT15, x17, hv16, h⟩ := h
      refine zr_get C fl_X4_235 hT15 hv16 dX4_ofBooking_82 ?_
      exact zr_iret C rfl ⟨_, rfl, rfl, rfl, h⟩ (Nat.le_of_ble_eq_true rfl) (Nat.le_of_ble_eq_true rfl) dX4_ofBooking_85
    by_cases hk3 : p2 = 3
    · have h := hs22 hk3
      refine zr_tableIn C 86 dX4_ofBooking_7 (by rw [hk3]; decide) (by rw [hk3]; decide) (by rw [hk3]; rfl) (by decide) ?_
      refine zr_aload_n C 0 dX4_ofBooking_86 rfl rfl ?_
      obtain ⟨hT19, x21, hv20, h⟩ := h
      refine zr_get C fl_X4_238 hT19 hv20 dX4_ofBooking_87 ?_
      exact zr_iret C rfl ⟨_, rfl, rfl, rfl, h⟩ (Nat.le_of_ble_eq_true rfl) (Nat.le_of_ble_eq_true rfl) dX4_ofBooking_90
    by_cases hk4 : p2 = 4
    · have h := hs26 hk4
      refine zr_tableIn C 91 dX4_ofBooking_7 (by rw [hk4]; decide) (by rw [hk4]; decide) (by rw [hk4]; rfl) (by decide) ?_
      refine zr_aload_n C 0 dX4_ofBooking_91 rfl rfl ?_
      obtain ⟨hT23, x25, hv24, h⟩ := h
      refine zr_get C fl_X4_241 hT23 hv24 dX4_ofBooking_92 ?_
      exact zr_iret C rfl ⟨_, rfl, rfl, rfl, h⟩ (Nat.le_of_ble_eq_true rfl) (Nat.le_of_ble_eq_true rfl) dX4_ofBooking_95
    by_cases hk5 : p2 = 5
    · have h := hs30 hk5
      refine zr_tableIn C 96 dX4_ofBooking_7 (by rw [hk5]; decide) (by rw [hk5]; decide) (by rw [hk5]; rfl) (by decide) ?_
      refine zr_aload_n C 0 dX4_ofBooking_96 rfl rfl ?_
      obtain ⟨hT27, x29, hv28, h⟩ := h
      refine zr_get C fl_X4_215 hT27 hv28 dX4_ofBooking_97 ?_
      exact zr_iret C rfl ⟨_, rfl, rfl, rfl, h⟩ (Nat.le_of_ble_eq_true rfl) (Nat.le_of_ble_eq_true rfl) dX4_ofBooking_100
    by_cases hk6 : p2 = 6
    · have h := hs34 hk6
      refine zr_tableIn C 101 dX4_ofBooking_7 (by rw [hk6]; decide) (by rw [hk6]; decide) (by rw [hk6]; rfl) (by decide) ?_
      refine zr_aload_n C 0 dX4_ofBooking_101 rfl rfl ?_
      obtain ⟨hT31, x33, hv32, h⟩ := h
      refine zr_get C fl_X4_244 hT31 hv32 dX4_ofBooking_102 ?_
      exact zr_iret C rfl ⟨_, rfl, rfl, rfl, h⟩ (Nat.le_of_ble_eq_true rfl) (Nat.le_of_ble_eq_true rfl) dX4_ofBooking_105
    by_cases hk7 : p2 = 7
    · have h := hs40 hk7
      refine zr_tableIn C 106 dX4_ofBooking_7 (by rw [hk7]; decide) (by rw [hk7]; decide) (by rw [hk7]; rfl) (by decide) ?_
      refine zr_aload_n C 0 dX4_ofBooking_106 rfl rfl ?_
      obtain ⟨hT35, h⟩ := h
      refine zr_callV (As := []) (r := (RX1, TX1, 12)) C (k_X1_costNow h) ok_X4_212 zq_388 zq_389 hT35 (by decide) rfl rfl ⟨by decide, (Nat.le_of_ble_eq_true rfl)⟩ ⟨(Nat.le_of_ble_eq_true rfl), (Nat.le_of_ble_eq_true rfl)⟩ (Nat.le_of_ble_eq_true rfl) dX4_ofBooking_107 (fun v37 U38 G39 hq => ?_)
      clear h
      · obtain ⟨r36, rfl, rfl, rfl, h⟩ := hq
        exact zr_iret C rfl ⟨_, rfl, rfl, rfl, h⟩ (Nat.le_of_ble_eq_true rfl) (Nat.le_of_ble_eq_true rfl) dX4_ofBooking_110
    by_cases hk8 : p2 = 8
    · have h := hs44 hk8
      refine zr_tableIn C 111 dX4_ofBooking_7 (by rw [hk8]; decide) (by rw [hk8]; decide) (by rw [hk8]; rfl) (by decide) ?_
      refine zr_aload_n C 0 dX4_ofBooking_111 rfl rfl ?_
      obtain ⟨hT41, x43, hv42, h⟩ := h
      refine zr_get C fl_X4_247 hT41 hv42 dX4_ofBooking_112 ?_
      exact zr_iret C rfl ⟨_, rfl, rfl, rfl, h⟩ (Nat.le_of_ble_eq_true rfl) (Nat.le_of_ble_eq_true rfl) dX4_ofBooking_115
    by_cases hk9 : p2 = 9
    · have h := hs48 hk9
      refine zr_tableIn C 116 dX4_ofBooking_7 (by rw [hk9]; decide) (by rw [hk9]; decide) (by rw [hk9]; rfl) (by decide) ?_
      refine zr_aload_n C 0 dX4_ofBooking_116 rfl rfl ?_
      obtain ⟨hT45, x47, hv46, h⟩ := h
      refine zr_get C fl_X4_250 hT45 hv46 dX4_ofBooking_117 ?_
      exact zr_iret C rfl ⟨_, rfl, rfl, rfl, h⟩ (Nat.le_of_ble_eq_true rfl) (Nat.le_of_ble_eq_true rfl) dX4_ofBooking_120
    by_cases hk10 : p2 = 10
    · have h := hs52 hk10
      refine zr_tableIn C 121 dX4_ofBooking_7 (by rw [hk10]; decide) (by rw [hk10]; decide) (by rw [hk10]; rfl) (by decide) ?_
      refine zr_aload_n C 0 dX4_ofBooking_121 rfl rfl ?_
      obtain ⟨hT49, x51, hv50, h⟩ := h
      refine zr_get C fl_X4_253 hT49 hv50 dX4_ofBooking_122 ?_
      obtain ⟨h1, h2⟩ := h
      refine zr_if_eq C 132 dX4_ofBooking_125 (by decide) (fun hc => ?_) (fun hc => ?_)
      · have h := h1 hc
        clear h1 h2
        refine zr_iconst C 0 dX4_ofBooking_132 (by decide) ?_
        exact zr_iret C rfl ⟨_, rfl, rfl, rfl, h⟩ (Nat.le_of_ble_eq_true rfl) (Nat.le_of_ble_eq_true rfl) dX4_ofBooking_133
      · have h := h2 hc
        clear h1 h2
        refine zr_iconst C 1 dX4_ofBooking_128 (by decide) ?_
        refine zr_goto C 133 dX4_ofBooking_129 (by decide) ?_
        exact zr_iret C rfl ⟨_, rfl, rfl, rfl, h⟩ (Nat.le_of_ble_eq_true rfl) (Nat.le_of_ble_eq_true rfl) dX4_ofBooking_133
    by_cases hk11 : p2 = 11
    · have h := hs56 hk11
      refine zr_tableIn C 134 dX4_ofBooking_7 (by rw [hk11]; decide) (by rw [hk11]; decide) (by rw [hk11]; rfl) (by decide) ?_
      refine zr_aload_n C 0 dX4_ofBooking_134 rfl rfl ?_
      obtain ⟨hT53, x55, hv54, h⟩ := h
      refine zr_get C fl_X4_257 hT53 hv54 dX4_ofBooking_135 ?_
      exact zr_iret C rfl ⟨_, rfl, rfl, rfl, h⟩ (Nat.le_of_ble_eq_true rfl) (Nat.le_of_ble_eq_true rfl) dX4_ofBooking_138
    obtain ⟨j9, hj9, e9⟩ := z_sw 11 hw
    have hc9 : j9 = 0 ∨ j9 = 1 ∨ j9 = 2 ∨ j9 = 3 ∨ j9 = 4 ∨ j9 = 5 ∨ j9 = 6 ∨ j9 = 7 ∨ j9 = 8 ∨ j9 = 9 ∨ j9 = 10 ∨ j9 = 11 := by omega
    rcases hc9 with rfl | rfl | rfl | rfl | rfl | rfl | rfl | rfl | rfl | rfl | rfl | rfl
    · exact absurd (e9.trans (by decide)) hk0
    · exact absurd (e9.trans (by decide)) hk1
    · exact absurd (e9.trans (by decide)) hk2
    · exact absurd (e9.trans (by decide)) hk3
    · exact absurd (e9.trans (by decide)) hk4
    · exact absurd (e9.trans (by decide)) hk5
    · exact absurd (e9.trans (by decide)) hk6
    · exact absurd (e9.trans (by decide)) hk7
    · exact absurd (e9.trans (by decide)) hk8
    · exact absurd (e9.trans (by decide)) hk9
    · exact absurd (e9.trans (by decide)) hk10
    · exact absurd (e9.trans (by decide)) hk11
theorem dX4_day_0 : decode cX4_day 0 = .ok (.aload_n 0, 1) := by decide +kernel
theorem dX4_day_1 : decode cX4_day 1 = .ok (.getfield 23, 3) := by decide +kernel
theorem dX4_day_4 : decode cX4_day 4 = .ok (.getfield 52, 3) := by decide +kernel
theorem dX4_day_7 : decode cX4_day 7 = .ok (.bipush 99, 2) := by decide +kernel
theorem dX4_day_9 : decode cX4_day 9 = .ok (.if_icmp .lt 14, 3) := by decide +kernel
theorem dX4_day_23 : decode cX4_day 23 = .ok (.aload_n 0, 1) := by decide +kernel
theorem dX4_day_24 : decode cX4_day 24 = .ok (.getfield 23, 3) := by decide +kernel
theorem dX4_day_30 : decode cX4_day 30 = .ok (.ireturn, 1) := by decide +kernel
theorem dX4_day_27 : decode cX4_day 27 = .ok (.invokevirtual 264, 3) := by decide +kernel
theorem dX4_day_12 : decode cX4_day 12 = .ok (.new 34, 3) := by decide +kernel
theorem dX4_day_15 : decode cX4_day 15 = .ok (.dup, 1) := by decide +kernel
theorem dX4_day_16 : decode cX4_day 16 = .ok (.ldc_w 262, 3) := by decide +kernel
theorem dX4_day_19 : decode cX4_day 19 = .ok (.invokespecial 38, 3) := by decide +kernel
theorem dX4_day_22 : decode cX4_day 22 = .ok (.athrow, 1) := by decide +kernel
def v_X4_day (a0 : Nat) (T : zT) (F : zF) (Post : Int32 → zF → Prop) (PX : String → zF → Prop) : Prop :=
  (T a0 = some (5, 4) ∧ ∃ x3 : Nat, F a0 2 = .ref x3 ∧ T x3 = some (4, 3) ∧ ∃ x6 : Int32, F x3 2 = .int x6 ∧ ((x6 < 99 → (v_X3_beginDay x3 T F (fun (r7 : Int32) (F8 : zF) => Post r7 F8))) ∧ (¬ x6 < 99 → PX "java/lang/IllegalStateException" F)))
set_option maxRecDepth 100000 in
set_option maxHeartbeats 4000000 in
theorem k_X4_day {l : Launch} {D : va_G} {cA : Nat → ClassId} {N0 zE : Nat} {a0 : Nat} {T : zT} {F : zF} {Post : Int32 → zF → Prop} {PX : String → zF → Prop} (h : v_X4_day a0 T F Post PX) : z_Met l D cA N0 zE yX4_day cX4_day 1 (some .int) ({ frames := 7, cells := 1, slots := 6, locals := 156 } : Room) [.ref a0] T F (fun v T' F' => ∃ r : Int32, v = some (.int r) ∧ T = T' ∧ Post r F') (fun E T' F' => T = T' ∧ PX E F') := by
  unfold v_X4_day at h
  refine z_body (by decide) (Nat.le_of_ble_eq_true rfl) ?_
  intro p e s m args below meth c C hxt hnm
  have C : z_C p l s m args meth c RX4 cX4_day 1 (some .int) D cA N0 zE := C
  show z_w p l e ({ frames := 7, cells := 1, slots := 6, locals := 156 } : Room) s m args below meth c D cA N0 1 0 0 (vx_MQ below (z_Qc D cA N0 (fun v T' F' => ∃ r : Int32, v = some (.int r) ∧ T = T' ∧ Post r F')) (z_XC D cA N0 (fun E T' F' => T = T' ∧ PX E F')) args s 1 6 (fun q => N0 ≤ q)) 0 [(0, .ref a0)] [] T F
  refine zr_aload_n C 0 dX4_day_0 rfl rfl ?_
  obtain ⟨hT1, x3, hv2, h⟩ := h
  refine zr_get C fl_X4_23 hT1 hv2 dX4_day_1 ?_
  obtain ⟨hT4, x6, hv5, h⟩ := h
  refine zr_get C fl_X4_52 hT4 hv5 dX4_day_4 ?_
  refine zr_bipush C 99 dX4_day_7 (by decide) ?_
  obtain ⟨h1, h2⟩ := h
  refine zr_icmp_lt C 23 dX4_day_9 (by decide) (fun hc => ?_) (fun hc => ?_)
  · have h := h1 hc
    clear h1 h2
    refine zr_aload_n C 0 dX4_day_23 rfl rfl ?_
    refine zr_get C fl_X4_23 hT1 hv2 dX4_day_24 ?_
    refine zr_callV (As := []) (r := (RX3, TX3, 3)) C (k_X3_beginDay h) ok_X4_264 zq_626 zq_627 hT4 (by decide) rfl rfl ⟨by decide, (Nat.le_of_ble_eq_true rfl)⟩ ⟨(Nat.le_of_ble_eq_true rfl), (Nat.le_of_ble_eq_true rfl)⟩ (Nat.le_of_ble_eq_true rfl) dX4_day_27 (fun v9 U10 G11 hq => ?_)
    clear h
    · obtain ⟨r7, rfl, rfl, h⟩ := hq
      exact zr_X (zr_iret C rfl ⟨_, rfl, rfl, h⟩ (Nat.le_of_ble_eq_true rfl) (Nat.le_of_ble_eq_true rfl) dX4_day_30)
  · have h := h2 hc
    clear h1 h2
    exact zr_throwW C th_X4_34_38_262 (fun x hx => (hxt x hx).elim) ⟨rfl, h⟩ dX4_day_12 dX4_day_15 dX4_day_16 dX4_day_19 dX4_day_22 (by decide) (Nat.le_of_ble_eq_true rfl) ⟨(Nat.le_of_ble_eq_true rfl), (Nat.le_of_ble_eq_true rfl)⟩ ⟨(Nat.le_of_ble_eq_true rfl), (Nat.le_of_ble_eq_true rfl)⟩
set_option maxRecDepth 100000 in
set_option maxHeartbeats 4000000 in
theorem k_X4_day0 {l : Launch} {D : va_G} {cA : Nat → ClassId} {N0 zE : Nat} {a0 : Nat} {T : zT} {F : zF} {Post : Int32 → zF → Prop} (h : v_X4_day a0 T F Post (fun _ _ => False)) : z_Mt l D cA N0 zE yX4_day cX4_day 1 (some .int) ({ frames := 7, cells := 0, slots := 0, locals := 156 } : Room) [.ref a0] T F (fun v T' F' => ∃ r : Int32, v = some (.int r) ∧ T = T' ∧ Post r F') := by
  unfold v_X4_day at h
  refine z_bodyT (by decide) (Nat.le_of_ble_eq_true rfl) ?_
  intro p e s m args below meth c C hnm
  have C : z_C p l s m args meth c RX4 cX4_day 1 (some .int) D cA N0 zE := C
  show z_w p l e ({ frames := 7, cells := 0, slots := 0, locals := 156 } : Room) s m args below meth c D cA N0 1 0 0 (MQ below (z_Qc D cA N0 (fun v T' F' => ∃ r : Int32, v = some (.int r) ∧ T = T' ∧ Post r F')) args s 0 0 (fun q => N0 ≤ q)) 0 [(0, .ref a0)] [] T F
  refine zr_aload_n C 0 dX4_day_0 rfl rfl ?_
  obtain ⟨hT1, x3, hv2, h⟩ := h
  refine zr_get C fl_X4_23 hT1 hv2 dX4_day_1 ?_
  obtain ⟨hT4, x6, hv5, h⟩ := h
  refine zr_get C fl_X4_52 hT4 hv5 dX4_day_4 ?_
  refine zr_bipush C 99 dX4_day_7 (by decide) ?_
  obtain ⟨h1, h2⟩ := h
  refine zr_icmp_lt C 23 dX4_day_9 (by decide) (fun hc => ?_) (fun hc => ?_)
  · have h := h1 hc
    clear h1 h2
    refine zr_aload_n C 0 dX4_day_23 rfl rfl ?_
    refine zr_get C fl_X4_23 hT1 hv2 dX4_day_24 ?_
    refine zr_callV (As := []) (r := (RX3, TX3, 3)) C (k_X3_beginDay h) ok_X4_264 zq_626 zq_627 hT4 (by decide) rfl rfl ⟨by decide, (Nat.le_of_ble_eq_true rfl)⟩ ⟨(Nat.le_of_ble_eq_true rfl), (Nat.le_of_ble_eq_true rfl)⟩ (Nat.le_of_ble_eq_true rfl) dX4_day_27 (fun v9 U10 G11 hq => ?_)
    clear h
    · obtain ⟨r7, rfl, rfl, h⟩ := hq
      exact zr_iret C rfl ⟨_, rfl, rfl, h⟩ (Nat.le_of_ble_eq_true rfl) (Nat.le_of_ble_eq_true rfl) dX4_day_30
  · have h := h2 hc
    clear h1 h2
    exact h.elim
theorem dX4_at_0 : decode cX4_at 0 = .ok (.iload_n 1, 1) := by decide +kernel
theorem dX4_at_4 : decode cX4_at 4 = .ok (.iload_n 2, 1) := by decide +kernel
theorem dX4_at_8 : decode cX4_at 8 = .ok (.iload_n 3, 1) := by decide +kernel
theorem dX4_at_12 : decode cX4_at 12 = .ok (.aload_n 0, 1) := by decide +kernel
theorem dX4_at_13 : decode cX4_at 13 = .ok (.getfield 23, 3) := by decide +kernel
theorem dX4_at_16 : decode cX4_at 16 = .ok (.iload_n 1, 1) := by decide +kernel
theorem dX4_at_17 : decode cX4_at 17 = .ok (.iload_n 2, 1) := by decide +kernel
theorem dX4_at_18 : decode cX4_at 18 = .ok (.iload_n 3, 1) := by decide +kernel
theorem dX4_at_22 : decode cX4_at 22 = .ok (.ireturn, 1) := by decide +kernel
theorem dX4_at_19 : decode cX4_at 19 = .ok (.invokevirtual 267, 3) := by decide +kernel
theorem dX4_at_9 : decode cX4_at 9 = .ok (.invokestatic 86, 3) := by decide +kernel
theorem dX4_at_5 : decode cX4_at 5 = .ok (.invokestatic 173, 3) := by decide +kernel
theorem dX4_at_1 : decode cX4_at 1 = .ok (.invokestatic 101, 3) := by decide +kernel
def v_X4_at (a0 : Nat) (p1 : Int32) (p2 : Int32) (p3 : Int32) (T : zT) (F : zF) (Post : Int32 → Prop) (PX : String → Prop) : Prop :=
  (v_X4_needLand p1 T F (v_X4_needMedium p2 T F (v_X4_needDay p3 T F (T a0 = some (5, 4) ∧ ∃ x3 : Nat, F a0 2 = .ref x3 ∧ T x3 = some (4, 3) ∧ (v_X3_bookingShownAt x3 p1 p2 p3 T F (fun (r5 : Int32) => Post r5))) (fun (E9 : String) => PX E9)) (fun (E9 : String) => PX E9)) (fun (E9 : String) => PX E9))
set_option maxRecDepth 100000 in
set_option maxHeartbeats 4000000 in
theorem k_X4_at {l : Launch} {D : va_G} {cA : Nat → ClassId} {N0 zE : Nat} {a0 : Nat} {p1 : Int32} {p2 : Int32} {p3 : Int32} {T : zT} {F : zF} {Post : Int32 → Prop} {PX : String → Prop} (h : v_X4_at a0 p1 p2 p3 T F Post PX) : z_Met l D cA N0 zE yX4_at cX4_at 4 (some .int) ({ frames := 7, cells := 3, slots := 18, locals := 110 } : Room) [.ref a0, .int p1, .int p2, .int p3] T F (fun v T' F' => ∃ r : Int32, v = some (.int r) ∧ T = T' ∧ F = F' ∧ Post r) (fun E T' F' => T = T' ∧ F = F' ∧ PX E) := by
  unfold v_X4_at at h
  refine z_body (by decide) (Nat.le_of_ble_eq_true rfl) ?_
  intro p e s m args below meth c C hxt hnm
  have C : z_C p l s m args meth c RX4 cX4_at 4 (some .int) D cA N0 zE := C
  show z_w p l e ({ frames := 7, cells := 3, slots := 18, locals := 110 } : Room) s m args below meth c D cA N0 4 0 0 (vx_MQ below (z_Qc D cA N0 (fun v T' F' => ∃ r : Int32, v = some (.int r) ∧ T = T' ∧ F = F' ∧ Post r)) (z_XC D cA N0 (fun E T' F' => T = T' ∧ F = F' ∧ PX E)) args s 3 18 (fun q => N0 ≤ q)) 0 [(0, .ref a0), (1, .int p1), (2, .int p2), (3, .int p3)] [] T F
  refine zr_iload_n C 1 dX4_at_0 rfl rfl ?_
  refine zr_callSX (As := [.int p1]) C (k_X4_needLand h) ok_X4_101 zq_477 rfl ⟨by decide, (Nat.le_of_ble_eq_true rfl)⟩ ⟨(Nat.le_of_ble_eq_true rfl), (Nat.le_of_ble_eq_true rfl)⟩ (Nat.le_of_ble_eq_true rfl) dX4_at_1 (fun E9 T9 F9 hq => by obtain ⟨rfl, rfl, hq⟩ := hq; exact zr_out C (fun x hx => (hxt x hx).elim) ⟨rfl, rfl, hq⟩ (Nat.le_of_ble_eq_true rfl) (Nat.le_of_ble_eq_true rfl)) (fun v15 U16 G17 hq => ?_)
  clear h
  · obtain ⟨rfl, rfl, rfl, h⟩ := hq
    refine zr_iload_n C 2 dX4_at_4 rfl rfl ?_
    refine zr_callSX (As := [.int p2]) C (k_X4_needMedium h) ok_X4_173 zq_735 rfl ⟨by decide, (Nat.le_of_ble_eq_true rfl)⟩ ⟨(Nat.le_of_ble_eq_true rfl), (Nat.le_of_ble_eq_true rfl)⟩ (Nat.le_of_ble_eq_true rfl) dX4_at_5 (fun E9 T9 F9 hq => by obtain ⟨rfl, rfl, hq⟩ := hq; exact zr_out C (fun x hx => (hxt x hx).elim) ⟨rfl, rfl, hq⟩ (Nat.le_of_ble_eq_true rfl) (Nat.le_of_ble_eq_true rfl)) (fun v12 U13 G14 hq => ?_)
    clear h
    · obtain ⟨rfl, rfl, rfl, h⟩ := hq
      refine zr_iload_n C 3 dX4_at_8 rfl rfl ?_
      refine zr_callSX (As := [.int p3]) C (k_X4_needDay h) ok_X4_86 zq_330 rfl ⟨by decide, (Nat.le_of_ble_eq_true rfl)⟩ ⟨(Nat.le_of_ble_eq_true rfl), (Nat.le_of_ble_eq_true rfl)⟩ (Nat.le_of_ble_eq_true rfl) dX4_at_9 (fun E9 T9 F9 hq => by obtain ⟨rfl, rfl, hq⟩ := hq; exact zr_out C (fun x hx => (hxt x hx).elim) ⟨rfl, rfl, hq⟩ (Nat.le_of_ble_eq_true rfl) (Nat.le_of_ble_eq_true rfl)) (fun v9 U10 G11 hq => ?_)
      clear h
      · obtain ⟨rfl, rfl, rfl, h⟩ := hq
        refine zr_aload_n C 0 dX4_at_12 rfl rfl ?_
        obtain ⟨hT1, x3, hv2, h⟩ := h
        refine zr_get C fl_X4_23 hT1 hv2 dX4_at_13 ?_
        refine zr_iload_n C 1 dX4_at_16 rfl rfl ?_
        refine zr_iload_n C 2 dX4_at_17 rfl rfl ?_
        refine zr_iload_n C 3 dX4_at_18 rfl rfl ?_
        obtain ⟨hT4, h⟩ := h
        refine zr_callV (As := [.int p1, .int p2, .int p3]) (r := (RX3, TX3, 3)) C (k_X3_bookingShownAt h) ok_X4_267 zq_815 zq_816 hT4 (by decide) rfl rfl ⟨by decide, (Nat.le_of_ble_eq_true rfl)⟩ ⟨(Nat.le_of_ble_eq_true rfl), (Nat.le_of_ble_eq_true rfl)⟩ (Nat.le_of_ble_eq_true rfl) dX4_at_19 (fun v6 U7 G8 hq => ?_)
        clear h
        · obtain ⟨r5, rfl, rfl, rfl, h⟩ := hq
          exact zr_X (zr_iret C rfl ⟨_, rfl, rfl, rfl, h⟩ (Nat.le_of_ble_eq_true rfl) (Nat.le_of_ble_eq_true rfl) dX4_at_22)
set_option maxRecDepth 100000 in
set_option maxHeartbeats 4000000 in
theorem k_X4_at0 {l : Launch} {D : va_G} {cA : Nat → ClassId} {N0 zE : Nat} {a0 : Nat} {p1 : Int32} {p2 : Int32} {p3 : Int32} {T : zT} {F : zF} {Post : Int32 → Prop} (h : v_X4_at a0 p1 p2 p3 T F Post (fun _ => False)) : z_Mt l D cA N0 zE yX4_at cX4_at 4 (some .int) ({ frames := 4, cells := 0, slots := 0, locals := 89 } : Room) [.ref a0, .int p1, .int p2, .int p3] T F (fun v T' F' => ∃ r : Int32, v = some (.int r) ∧ T = T' ∧ F = F' ∧ Post r) := by
  unfold v_X4_at at h
  refine z_bodyT (by decide) (Nat.le_of_ble_eq_true rfl) ?_
  intro p e s m args below meth c C hnm
  have C : z_C p l s m args meth c RX4 cX4_at 4 (some .int) D cA N0 zE := C
  show z_w p l e ({ frames := 4, cells := 0, slots := 0, locals := 89 } : Room) s m args below meth c D cA N0 4 0 0 (MQ below (z_Qc D cA N0 (fun v T' F' => ∃ r : Int32, v = some (.int r) ∧ T = T' ∧ F = F' ∧ Post r)) args s 0 0 (fun q => N0 ≤ q)) 0 [(0, .ref a0), (1, .int p1), (2, .int p2), (3, .int p3)] [] T F
  refine zr_iload_n C 1 dX4_at_0 rfl rfl ?_
  refine zr_callS (As := [.int p1]) C (k_X4_needLand0 h) ok_X4_101 zq_477 rfl ⟨by decide, (Nat.le_of_ble_eq_true rfl)⟩ ⟨(Nat.le_of_ble_eq_true rfl), (Nat.le_of_ble_eq_true rfl)⟩ (Nat.le_of_ble_eq_true rfl) dX4_at_1 (fun v15 U16 G17 hq => ?_)
  clear h
  · obtain ⟨rfl, rfl, rfl, h⟩ := hq
    refine zr_iload_n C 2 dX4_at_4 rfl rfl ?_
    refine zr_callS (As := [.int p2]) C (k_X4_needMedium0 h) ok_X4_173 zq_735 rfl ⟨by decide, (Nat.le_of_ble_eq_true rfl)⟩ ⟨(Nat.le_of_ble_eq_true rfl), (Nat.le_of_ble_eq_true rfl)⟩ (Nat.le_of_ble_eq_true rfl) dX4_at_5 (fun v12 U13 G14 hq => ?_)
    clear h
    · obtain ⟨rfl, rfl, rfl, h⟩ := hq
      refine zr_iload_n C 3 dX4_at_8 rfl rfl ?_
      refine zr_callS (As := [.int p3]) C (k_X4_needDay0 h) ok_X4_86 zq_330 rfl ⟨by decide, (Nat.le_of_ble_eq_true rfl)⟩ ⟨(Nat.le_of_ble_eq_true rfl), (Nat.le_of_ble_eq_true rfl)⟩ (Nat.le_of_ble_eq_true rfl) dX4_at_9 (fun v9 U10 G11 hq => ?_)
      clear h
      · obtain ⟨rfl, rfl, rfl, h⟩ := hq
        refine zr_aload_n C 0 dX4_at_12 rfl rfl ?_
        obtain ⟨hT1, x3, hv2, h⟩ := h
        refine zr_get C fl_X4_23 hT1 hv2 dX4_at_13 ?_
        refine zr_iload_n C 1 dX4_at_16 rfl rfl ?_
        refine zr_iload_n C 2 dX4_at_17 rfl rfl ?_
        refine zr_iload_n C 3 dX4_at_18 rfl rfl ?_
        obtain ⟨hT4, h⟩ := h
        refine zr_callV (As := [.int p1, .int p2, .int p3]) (r := (RX3, TX3, 3)) C (k_X3_bookingShownAt h) ok_X4_267 zq_815 zq_816 hT4 (by decide) rfl rfl ⟨by decide, (Nat.le_of_ble_eq_true rfl)⟩ ⟨(Nat.le_of_ble_eq_true rfl), (Nat.le_of_ble_eq_true rfl)⟩ (Nat.le_of_ble_eq_true rfl) dX4_at_19 (fun v6 U7 G8 hq => ?_)
        clear h
        · obtain ⟨r5, rfl, rfl, rfl, h⟩ := hq
          exact zr_iret C rfl ⟨_, rfl, rfl, rfl, h⟩ (Nat.le_of_ble_eq_true rfl) (Nat.le_of_ble_eq_true rfl) dX4_at_22
theorem dX4_many_0 : decode cX4_many 0 = .ok (.iload_n 1, 1) := by decide +kernel
theorem dX4_many_125 : decode cX4_many 125 = .ok (.new 56, 3) := by decide +kernel
theorem dX4_many_128 : decode cX4_many 128 = .ok (.dup, 1) := by decide +kernel
theorem dX4_many_129 : decode cX4_many 129 = .ok (.ldc_w 279, 3) := by decide +kernel
theorem dX4_many_132 : decode cX4_many 132 = .ok (.invokespecial 60, 3) := by decide +kernel
theorem dX4_many_135 : decode cX4_many 135 = .ok (.athrow, 1) := by decide +kernel
theorem dX4_many_60 : decode cX4_many 60 = .ok (.aload_n 0, 1) := by decide +kernel
theorem dX4_many_61 : decode cX4_many 61 = .ok (.getfield 10, 3) := by decide +kernel
theorem dX4_many_67 : decode cX4_many 67 = .ok (.ireturn, 1) := by decide +kernel
theorem dX4_many_64 : decode cX4_many 64 = .ok (.invokevirtual 30, 3) := by decide +kernel
theorem dX4_many_68 : decode cX4_many 68 = .ok (.aload_n 0, 1) := by decide +kernel
theorem dX4_many_69 : decode cX4_many 69 = .ok (.getfield 23, 3) := by decide +kernel
theorem dX4_many_72 : decode cX4_many 72 = .ok (.getfield 112, 3) := by decide +kernel
theorem dX4_many_78 : decode cX4_many 78 = .ok (.ireturn, 1) := by decide +kernel
theorem dX4_many_75 : decode cX4_many 75 = .ok (.invokevirtual 30, 3) := by decide +kernel
theorem dX4_many_79 : decode cX4_many 79 = .ok (.aload_n 0, 1) := by decide +kernel
theorem dX4_many_80 : decode cX4_many 80 = .ok (.getfield 23, 3) := by decide +kernel
theorem dX4_many_83 : decode cX4_many 83 = .ok (.getfield 179, 3) := by decide +kernel
theorem dX4_many_89 : decode cX4_many 89 = .ok (.ireturn, 1) := by decide +kernel
theorem dX4_many_86 : decode cX4_many 86 = .ok (.invokevirtual 30, 3) := by decide +kernel
theorem dX4_many_90 : decode cX4_many 90 = .ok (.aload_n 0, 1) := by decide +kernel
theorem dX4_many_91 : decode cX4_many 91 = .ok (.getfield 23, 3) := by decide +kernel
theorem dX4_many_94 : decode cX4_many 94 = .ok (.iload_n 1, 1) := by decide +kernel
theorem dX4_many_95 : decode cX4_many 95 = .ok (.iconst 3, 1) := by decide +kernel
theorem dX4_many_96 : decode cX4_many 96 = .ok (.isub, 1) := by decide +kernel
theorem dX4_many_100 : decode cX4_many 100 = .ok (.ireturn, 1) := by decide +kernel
theorem dX4_many_97 : decode cX4_many 97 = .ok (.invokevirtual 270, 3) := by decide +kernel
theorem dX4_many_101 : decode cX4_many 101 = .ok (.aload_n 0, 1) := by decide +kernel
theorem dX4_many_102 : decode cX4_many 102 = .ok (.getfield 23, 3) := by decide +kernel
theorem dX4_many_108 : decode cX4_many 108 = .ok (.ireturn, 1) := by decide +kernel
theorem dX4_many_105 : decode cX4_many 105 = .ok (.invokevirtual 273, 3) := by decide +kernel
theorem dX4_many_109 : decode cX4_many 109 = .ok (.aload_n 0, 1) := by decide +kernel
theorem dX4_many_110 : decode cX4_many 110 = .ok (.getfield 23, 3) := by decide +kernel
theorem dX4_many_116 : decode cX4_many 116 = .ok (.ireturn, 1) := by decide +kernel
theorem dX4_many_113 : decode cX4_many 113 = .ok (.invokevirtual 276, 3) := by decide +kernel
theorem dX4_many_117 : decode cX4_many 117 = .ok (.aload_n 0, 1) := by decide +kernel
theorem dX4_many_118 : decode cX4_many 118 = .ok (.getfield 23, 3) := by decide +kernel
theorem dX4_many_121 : decode cX4_many 121 = .ok (.getfield 52, 3) := by decide +kernel
theorem dX4_many_124 : decode cX4_many 124 = .ok (.ireturn, 1) := by decide +kernel
theorem dX4_many_1 : decode cX4_many 1 = .ok (.tableswitch 124 0 10 #[59, 67, 78, 89, 89, 89, 89, 89, 100, 108, 116], 59) := by decide +kernel
def v_X4_many (a0 : Nat) (p1 : Int32) (T : zT) (F : zF) (Post : Int32 → Prop) (PX : String → Prop) : Prop :=
  (((p1.toInt < 0 ∨ 10 < p1.toInt) → PX "java/lang/IllegalArgumentException") ∧ (p1 = 0 → (T a0 = some (5, 4) ∧ ∃ x4 : Nat, F a0 0 = .ref x4 ∧ T x4 = some (0, 3) ∧ (v_Jx4a65c_size_8abf5 x4 T F (fun (r6 : Int32) => Post r6)))) ∧ (p1 = 1 → (T a0 = some (5, 4) ∧ ∃ x13 : Nat, F a0 2 = .ref x13 ∧ T x13 = some (4, 3) ∧ ∃ x16 : Nat, F x13 1 = .ref x16 ∧ T x16 = some (0, 3) ∧ (v_Jx4a65c_size_8abf5 x16 T F (fun (r18 : Int32) => Post r18)))) ∧ (p1 = 2 → (T a0 = some (5, 4) ∧ ∃ x25 : Nat, F a0 2 = .ref x25 ∧ T x25 = some (4, 3) ∧ ∃ x28 : Nat, F x25 0 = .ref x28 ∧ T x28 = some (0, 3) ∧ (v_Jx4a65c_size_8abf5 x28 T F (fun (r30 : Int32) => Post r30)))) ∧ (p1 = 3 → (T a0 = some (5, 4) ∧ ∃ x37 : Nat, F a0 2 = .ref x37 ∧ T x37 = some (4, 3) ∧ (v_X3_countInState x37 (p1 - 3) T F (fun (r39 : Int32) => Post r39)))) ∧ (p1 = 4 → (T a0 = some (5, 4) ∧ ∃ x46 : Nat, F a0 2 = .ref x46 ∧ T x46 = some (4, 3) ∧ (v_X3_countInState x46 (p1 - 3) T F (fun (r48 : Int32) => Post r48)))) ∧ (p1 = 5 → (T a0 = some (5, 4) ∧ ∃ x55 : Nat, F a0 2 = .ref x55 ∧ T x55 = some (4, 3) ∧ (v_X3_countInState x55 (p1 - 3) T F (fun (r57 : Int32) => Post r57)))) ∧ (p1 = 6 → (T a0 = some (5, 4) ∧ ∃ x64 : Nat, F a0 2 = .ref x64 ∧ T x64 = some (4, 3) ∧ (v_X3_countInState x64 (p1 - 3) T F (fun (r66 : Int32) => Post r66)))) ∧ (p1 = 7 → (T a0 = some (5, 4) ∧ ∃ x73 : Nat, F a0 2 = .ref x73 ∧ T x73 = some (4, 3) ∧ (v_X3_countInState x73 (p1 - 3) T F (fun (r75 : Int32) => Post r75)))) ∧ (p1 = 8 → (T a0 = some (5, 4) ∧ ∃ x82 : Nat, F a0 2 = .ref x82 ∧ T x82 = some (4, 3) ∧ (v_X3_countOn x82 T F (fun (r84 : Int32) => Post r84)))) ∧ (p1 = 9 → (T a0 = some (5, 4) ∧ ∃ x91 : Nat, F a0 2 = .ref x91 ∧ T x91 = some (4, 3) ∧ (v_X3_costOfAll x91 T F (fun (r93 : Int32) => Post r93)))) ∧ (p1 = 10 → (T a0 = some (5, 4) ∧ ∃ x100 : Nat, F a0 2 = .ref x100 ∧ T x100 = some (4, 3) ∧ ∃ x103 : Int32, F x100 2 = .int x103 ∧ Post x103)))
set_option maxRecDepth 100000 in
set_option maxHeartbeats 4000000 in
theorem k_X4_many {l : Launch} {D : va_G} {cA : Nat → ClassId} {N0 zE : Nat} {a0 : Nat} {p1 : Int32} {T : zT} {F : zF} {Post : Int32 → Prop} {PX : String → Prop} (h : v_X4_many a0 p1 T F Post PX) : z_Met l D cA N0 zE yX4_many cX4_many 2 (some .int) ({ frames := 6, cells := 1, slots := 6, locals := 90 } : Room) [.ref a0, .int p1] T F (fun v T' F' => ∃ r : Int32, v = some (.int r) ∧ T = T' ∧ F = F' ∧ Post r) (fun E T' F' => T = T' ∧ F = F' ∧ PX E) := by
  unfold v_X4_many at h
  refine z_body (by decide) (Nat.le_of_ble_eq_true rfl) ?_
  intro p e s m args below meth c C hxt hnm
  have C : z_C p l s m args meth c RX4 cX4_many 2 (some .int) D cA N0 zE := C
  show z_w p l e ({ frames := 6, cells := 1, slots := 6, locals := 90 } : Room) s m args below meth c D cA N0 2 0 0 (vx_MQ below (z_Qc D cA N0 (fun v T' F' => ∃ r : Int32, v = some (.int r) ∧ T = T' ∧ F = F' ∧ Post r)) (z_XC D cA N0 (fun E T' F' => T = T' ∧ F = F' ∧ PX E)) args s 1 6 (fun q => N0 ≤ q)) 0 [(0, .ref a0), (1, .int p1)] [] T F
  refine zr_iload_n C 1 dX4_many_0 rfl rfl ?_
  obtain ⟨hs1, hs10, hs22, hs34, hs43, hs52, hs61, hs70, hs79, hs88, hs97, hs104⟩ := h
  by_cases hw : (p1).toInt < 0 ∨ 10 < (p1).toInt
  · have h := hs1 hw
    refine zr_tableOut C 125 dX4_many_1 hw (by decide) ?_
    exact zr_throwW C th_X4_56_60_279 (fun x hx => (hxt x hx).elim) ⟨rfl, rfl, h⟩ dX4_many_125 dX4_many_128 dX4_many_129 dX4_many_132 dX4_many_135 (by decide) (Nat.le_of_ble_eq_true rfl) ⟨(Nat.le_of_ble_eq_true rfl), (Nat.le_of_ble_eq_true rfl)⟩ ⟨(Nat.le_of_ble_eq_true rfl), (Nat.le_of_ble_eq_true rfl)⟩
  by_cases hk0 : p1 = 0
  · have h := hs10 hk0
    refine zr_tableIn C 60 dX4_many_1 (by rw [hk0]; decide) (by rw [hk0]; decide) (by rw [hk0]; rfl) (by decide) ?_
    refine zr_aload_n C 0 dX4_many_60 rfl rfl ?_
    obtain ⟨hT2, x4, hv3, h⟩ := h
    refine zr_get C fl_X4_10 hT2 hv3 dX4_many_61 ?_
    obtain ⟨hT5, h⟩ := h
    refine zr_callV (As := []) (r := (RJx4a65c, TJx4a65c, 3)) C (k_Jx4a65c_size_8abf5 h) ok_X4_30 zq_112 zq_113 hT5 (by decide) rfl rfl ⟨by decide, (Nat.le_of_ble_eq_true rfl)⟩ ⟨(Nat.le_of_ble_eq_true rfl), (Nat.le_of_ble_eq_true rfl)⟩ (Nat.le_of_ble_eq_true rfl) dX4_many_64 (fun v7 U8 G9 hq => ?_)
    clear h
    · obtain ⟨r6, rfl, rfl, rfl, h⟩ := hq
      exact zr_X (zr_iret C rfl ⟨_, rfl, rfl, rfl, h⟩ (Nat.le_of_ble_eq_true rfl) (Nat.le_of_ble_eq_true rfl) dX4_many_67)
  by_cases hk1 : p1 = 1
  · have h := hs22 hk1
    refine zr_tableIn C 68 dX4_many_1 (by rw [hk1]; decide) (by rw [hk1]; decide) (by rw [hk1]; rfl) (by decide) ?_
    refine zr_aload_n C 0 dX4_many_68 rfl rfl ?_
    obtain ⟨hT11, x13, hv12, h⟩ := h
    refine zr_get C fl_X4_23 hT11 hv12 dX4_many_69 ?_
    obtain ⟨hT14, x16, hv15, h⟩ := h
    refine zr_get C fl_X4_112 hT14 hv15 dX4_many_72 ?_
    obtain ⟨hT17, h⟩ := h
    refine zr_callV (As := []) (r := (RJx4a65c, TJx4a65c, 3)) C (k_Jx4a65c_size_8abf5 h) ok_X4_30 zq_112 zq_113 hT17 (by decide) rfl rfl ⟨by decide, (Nat.le_of_ble_eq_true rfl)⟩ ⟨(Nat.le_of_ble_eq_true rfl), (Nat.le_of_ble_eq_true rfl)⟩ (Nat.le_of_ble_eq_true rfl) dX4_many_75 (fun v19 U20 G21 hq => ?_)
    clear h
    · obtain ⟨r18, rfl, rfl, rfl, h⟩ := hq
      exact zr_X (zr_iret C rfl ⟨_, rfl, rfl, rfl, h⟩ (Nat.le_of_ble_eq_true rfl) (Nat.le_of_ble_eq_true rfl) dX4_many_78)
  by_cases hk2 : p1 = 2
  · have h := hs34 hk2
    refine zr_tableIn C 79 dX4_many_1 (by rw [hk2]; decide) (by rw [hk2]; decide) (by rw [hk2]; rfl) (by decide) ?_
    refine zr_aload_n C 0 dX4_many_79 rfl rfl ?_
    obtain ⟨hT23, x25, hv24, h⟩ := h
    refine zr_get C fl_X4_23 hT23 hv24 dX4_many_80 ?_
    obtain ⟨hT26, x28, hv27, h⟩ := h
    refine zr_get C fl_X4_179 hT26 hv27 dX4_many_83 ?_
    obtain ⟨hT29, h⟩ := h
    refine zr_callV (As := []) (r := (RJx4a65c, TJx4a65c, 3)) C (k_Jx4a65c_size_8abf5 h) ok_X4_30 zq_112 zq_113 hT29 (by decide) rfl rfl ⟨by decide, (Nat.le_of_ble_eq_true rfl)⟩ ⟨(Nat.le_of_ble_eq_true rfl), (Nat.le_of_ble_eq_true rfl)⟩ (Nat.le_of_ble_eq_true rfl) dX4_many_86 (fun v31 U32 G33 hq => ?_)
    clear h
    · obtain ⟨r30, rfl, rfl, rfl, h⟩ := hq
      exact zr_X (zr_iret C rfl ⟨_, rfl, rfl, rfl, h⟩ (Nat.le_of_ble_eq_true rfl) (Nat.le_of_ble_eq_true rfl) dX4_many_89)
  by_cases hk3 : p1 = 3
  · have h := hs43 hk3
    refine zr_tableIn C 90 dX4_many_1 (by rw [hk3]; decide) (by rw [hk3]; decide) (by rw [hk3]; rfl) (by decide) ?_
    refine zr_aload_n C 0 dX4_many_90 rfl rfl ?_
    obtain ⟨hT35, x37, hv36, h⟩ := h
    refine zr_get C fl_X4_23 hT35 hv36 dX4_many_91 ?_
    refine zr_iload_n C 1 dX4_many_94 rfl rfl ?_
    refine zr_iconst C 3 dX4_many_95 (by decide) ?_
    refine zr_isub C dX4_many_96 ?_
    obtain ⟨hT38, h⟩ := h
    refine zr_callV (As := [.int (p1 - 3)]) (r := (RX3, TX3, 3)) C (k_X3_countInState h) ok_X4_270 zq_397 zq_398 hT38 (by decide) rfl rfl ⟨by decide, (Nat.le_of_ble_eq_true rfl)⟩ ⟨(Nat.le_of_ble_eq_true rfl), (Nat.le_of_ble_eq_true rfl)⟩ (Nat.le_of_ble_eq_true rfl) dX4_many_97 (fun v40 U41 G42 hq => ?_)
    clear h
    · obtain ⟨r39, rfl, rfl, rfl, h⟩ := hq
      exact zr_X (zr_iret C rfl ⟨_, rfl, rfl, rfl, h⟩ (Nat.le_of_ble_eq_true rfl) (Nat.le_of_ble_eq_true rfl) dX4_many_100)
  by_cases hk4 : p1 = 4
  · have h := hs52 hk4
    refine zr_tableIn C 90 dX4_many_1 (by rw [hk4]; decide) (by rw [hk4]; decide) (by rw [hk4]; rfl) (by decide) ?_
    refine zr_aload_n C 0 dX4_many_90 rfl rfl ?_
    obtain ⟨hT44, x46, hv45, h⟩ := h
    refine zr_get C fl_X4_23 hT44 hv45 dX4_many_91 ?_
    refine zr_iload_n C 1 dX4_many_94 rfl rfl ?_
    refine zr_iconst C 3 dX4_many_95 (by decide) ?_
    refine zr_isub C dX4_many_96 ?_
    obtain ⟨hT47, h⟩ := h
    refine zr_callV (As := [.int (p1 - 3)]) (r := (RX3, TX3, 3)) C (k_X3_countInState h) ok_X4_270 zq_397 zq_398 hT47 (by decide) rfl rfl ⟨by decide, (Nat.le_of_ble_eq_true rfl)⟩ ⟨(Nat.le_of_ble_eq_true rfl), (Nat.le_of_ble_eq_true rfl)⟩ (Nat.le_of_ble_eq_true rfl) dX4_many_97 (fun v49 U50 G51 hq => ?_)
    clear h
    · obtain ⟨r48, rfl, rfl, rfl, h⟩ := hq
      exact zr_X (zr_iret C rfl ⟨_, rfl, rfl, rfl, h⟩ (Nat.le_of_ble_eq_true rfl) (Nat.le_of_ble_eq_true rfl) dX4_many_100)
  by_cases hk5 : p1 = 5
  · have h := hs61 hk5
    refine zr_tableIn C 90 dX4_many_1 (by rw [hk5]; decide) (by rw [hk5]; decide) (by rw [hk5]; rfl) (by decide) ?_
    refine zr_aload_n C 0 dX4_many_90 rfl rfl ?_
    obtain ⟨hT53, x55, hv54, h⟩ := h
    refine zr_get C fl_X4_23 hT53 hv54 dX4_many_91 ?_
    refine zr_iload_n C 1 dX4_many_94 rfl rfl ?_
    refine zr_iconst C 3 dX4_many_95 (by decide) ?_
    refine zr_isub C dX4_many_96 ?_
    obtain ⟨hT56, h⟩ := h
    refine zr_callV (As := [.int (p1 - 3)]) (r := (RX3, TX3, 3)) C (k_X3_countInState h) ok_X4_270 zq_397 zq_398 hT56 (by decide) rfl rfl ⟨by decide, (Nat.le_of_ble_eq_true rfl)⟩ ⟨(Nat.le_of_ble_eq_true rfl), (Nat.le_of_ble_eq_true rfl)⟩ (Nat.le_of_ble_eq_true rfl) dX4_many_97 (fun v58 U59 G60 hq => ?_)
    clear h
    · obtain ⟨r57, rfl, rfl, rfl, h⟩ := hq
      exact zr_X (zr_iret C rfl ⟨_, rfl, rfl, rfl, h⟩ (Nat.le_of_ble_eq_true rfl) (Nat.le_of_ble_eq_true rfl) dX4_many_100)
  by_cases hk6 : p1 = 6
  · have h := hs70 hk6
    refine zr_tableIn C 90 dX4_many_1 (by rw [hk6]; decide) (by rw [hk6]; decide) (by rw [hk6]; rfl) (by decide) ?_
    refine zr_aload_n C 0 dX4_many_90 rfl rfl ?_
    obtain ⟨hT62, x64, hv63, h⟩ := h
    refine zr_get C fl_X4_23 hT62 hv63 dX4_many_91 ?_
    refine zr_iload_n C 1 dX4_many_94 rfl rfl ?_
    refine zr_iconst C 3 dX4_many_95 (by decide) ?_
    refine zr_isub C dX4_many_96 ?_
    obtain ⟨hT65, h⟩ := h
    refine zr_callV (As := [.int (p1 - 3)]) (r := (RX3, TX3, 3)) C (k_X3_countInState h) ok_X4_270 zq_397 zq_398 hT65 (by decide) rfl rfl ⟨by decide, (Nat.le_of_ble_eq_true rfl)⟩ ⟨(Nat.le_of_ble_eq_true rfl), (Nat.le_of_ble_eq_true rfl)⟩ (Nat.le_of_ble_eq_true rfl) dX4_many_97 (fun v67 U68 G69 hq => ?_)
    clear h
    · obtain ⟨r66, rfl, rfl, rfl, h⟩ := hq
      exact zr_X (zr_iret C rfl ⟨_, rfl, rfl, rfl, h⟩ (Nat.le_of_ble_eq_true rfl) (Nat.le_of_ble_eq_true rfl) dX4_many_100)
  by_cases hk7 : p1 = 7
  · have h := hs79 hk7
    refine zr_tableIn C 90 dX4_many_1 (by rw [hk7]; decide) (by rw [hk7]; decide) (by rw [hk7]; rfl) (by decide) ?_
    refine zr_aload_n C 0 dX4_many_90 rfl rfl ?_
    obtain ⟨hT71, x73, hv72, h⟩ := h
    refine zr_get C fl_X4_23 hT71 hv72 dX4_many_91 ?_
    refine zr_iload_n C 1 dX4_many_94 rfl rfl ?_
    refine zr_iconst C 3 dX4_many_95 (by decide) ?_
    refine zr_isub C dX4_many_96 ?_
    obtain ⟨hT74, h⟩ := h
    refine zr_callV (As := [.int (p1 - 3)]) (r := (RX3, TX3, 3)) C (k_X3_countInState h) ok_X4_270 zq_397 zq_398 hT74 (by decide) rfl rfl ⟨by decide, (Nat.le_of_ble_eq_true rfl)⟩ ⟨(Nat.le_of_ble_eq_true rfl), (Nat.le_of_ble_eq_true rfl)⟩ (Nat.le_of_ble_eq_true rfl) dX4_many_97 (fun v76 U77 G78 hq => ?_)
    clear h
    · obtain ⟨r75, rfl, rfl, rfl, h⟩ := hq
      exact zr_X (zr_iret C rfl ⟨_, rfl, rfl, rfl, h⟩ (Nat.le_of_ble_eq_true rfl) (Nat.le_of_ble_eq_true rfl) dX4_many_100)
  by_cases hk8 : p1 = 8
  · have h := hs88 hk8
    refine zr_tableIn C 101 dX4_many_1 (by rw [hk8]; decide) (by rw [hk8]; decide) (by rw [hk8]; rfl) (by decide) ?_
    refine zr_aload_n C 0 dX4_many_101 rfl rfl ?_
    obtain ⟨hT80, x82, hv81, h⟩ := h
    refine zr_get C fl_X4_23 hT80 hv81 dX4_many_102 ?_
    obtain ⟨hT83, h⟩ := h
    refine zr_callV (As := []) (r := (RX3, TX3, 3)) C (k_X3_countOn h) ok_X4_273 zq_404 zq_405 hT83 (by decide) rfl rfl ⟨by decide, (Nat.le_of_ble_eq_true rfl)⟩ ⟨(Nat.le_of_ble_eq_true rfl), (Nat.le_of_ble_eq_true rfl)⟩ (Nat.le_of_ble_eq_true rfl) dX4_many_105 (fun v85 U86 G87 hq => ?_)
    clear h
    · obtain ⟨r84, rfl, rfl, rfl, h⟩ := hq
      exact zr_X (zr_iret C rfl ⟨_, rfl, rfl, rfl, h⟩ (Nat.le_of_ble_eq_true rfl) (Nat.le_of_ble_eq_true rfl) dX4_many_108)
  by_cases hk9 : p1 = 9
  · have h := hs97 hk9
    refine zr_tableIn C 109 dX4_many_1 (by rw [hk9]; decide) (by rw [hk9]; decide) (by rw [hk9]; rfl) (by decide) ?_
    refine zr_aload_n C 0 dX4_many_109 rfl rfl ?_
    obtain ⟨hT89, x91, hv90, h⟩ := h
    refine zr_get C fl_X4_23 hT89 hv90 dX4_many_110 ?_
    obtain ⟨hT92, h⟩ := h
    refine zr_callV (As := []) (r := (RX3, TX3, 3)) C (k_X3_costOfAll h) ok_X4_276 zq_408 zq_409 hT92 (by decide) rfl rfl ⟨by decide, (Nat.le_of_ble_eq_true rfl)⟩ ⟨(Nat.le_of_ble_eq_true rfl), (Nat.le_of_ble_eq_true rfl)⟩ (Nat.le_of_ble_eq_true rfl) dX4_many_113 (fun v94 U95 G96 hq => ?_)
    clear h
    · obtain ⟨r93, rfl, rfl, rfl, h⟩ := hq
      exact zr_X (zr_iret C rfl ⟨_, rfl, rfl, rfl, h⟩ (Nat.le_of_ble_eq_true rfl) (Nat.le_of_ble_eq_true rfl) dX4_many_116)
  by_cases hk10 : p1 = 10
  · have h := hs104 hk10
    refine zr_tableIn C 117 dX4_many_1 (by rw [hk10]; decide) (by rw [hk10]; decide) (by rw [hk10]; rfl) (by decide) ?_
    refine zr_aload_n C 0 dX4_many_117 rfl rfl ?_
    obtain ⟨hT98, x100, hv99, h⟩ := h
    refine zr_get C fl_X4_23 hT98 hv99 dX4_many_118 ?_
    obtain ⟨hT101, x103, hv102, h⟩ := h
    refine zr_get C fl_X4_52 hT101 hv102 dX4_many_121 ?_
    exact zr_X (zr_iret C rfl ⟨_, rfl, rfl, rfl, h⟩ (Nat.le_of_ble_eq_true rfl) (Nat.le_of_ble_eq_true rfl) dX4_many_124)
  obtain ⟨j9, hj9, e9⟩ := z_sw 10 hw
  have hc9 : j9 = 0 ∨ j9 = 1 ∨ j9 = 2 ∨ j9 = 3 ∨ j9 = 4 ∨ j9 = 5 ∨ j9 = 6 ∨ j9 = 7 ∨ j9 = 8 ∨ j9 = 9 ∨ j9 = 10 := by omega
  rcases hc9 with rfl | rfl | rfl | rfl | rfl | rfl | rfl | rfl | rfl | rfl | rfl
  · exact absurd (e9.trans (by decide)) hk0
  · exact absurd (e9.trans (by decide)) hk1
  · exact absurd (e9.trans (by decide)) hk2
  · exact absurd (e9.trans (by decide)) hk3
  · exact absurd (e9.trans (by decide)) hk4
  · exact absurd (e9.trans (by decide)) hk5
  · exact absurd (e9.trans (by decide)) hk6
  · exact absurd (e9.trans (by decide)) hk7
  · exact absurd (e9.trans (by decide)) hk8
  · exact absurd (e9.trans (by decide)) hk9
  · exact absurd (e9.trans (by decide)) hk10
set_option maxRecDepth 100000 in
set_option maxHeartbeats 4000000 in
theorem k_X4_many0 {l : Launch} {D : va_G} {cA : Nat → ClassId} {N0 zE : Nat} {a0 : Nat} {p1 : Int32} {T : zT} {F : zF} {Post : Int32 → Prop} (h : v_X4_many a0 p1 T F Post (fun _ => False)) : z_Mt l D cA N0 zE yX4_many cX4_many 2 (some .int) ({ frames := 4, cells := 0, slots := 0, locals := 87 } : Room) [.ref a0, .int p1] T F (fun v T' F' => ∃ r : Int32, v = some (.int r) ∧ T = T' ∧ F = F' ∧ Post r) := by
  unfold v_X4_many at h
  refine z_bodyT (by decide) (Nat.le_of_ble_eq_true rfl) ?_
  intro p e s m args below meth c C hnm
  have C : z_C p l s m args meth c RX4 cX4_many 2 (some .int) D cA N0 zE := C
  show z_w p l e ({ frames := 4, cells := 0, slots := 0, locals := 87 } : Room) s m args below meth c D cA N0 2 0 0 (MQ below (z_Qc D cA N0 (fun v T' F' => ∃ r : Int32, v = some (.int r) ∧ T = T' ∧ F = F' ∧ Post r)) args s 0 0 (fun q => N0 ≤ q)) 0 [(0, .ref a0), (1, .int p1)] [] T F
  refine zr_iload_n C 1 dX4_many_0 rfl rfl ?_
  obtain ⟨hs1, hs10, hs22, hs34, hs43, hs52, hs61, hs70, hs79, hs88, hs97, hs104⟩ := h
  by_cases hw : (p1).toInt < 0 ∨ 10 < (p1).toInt
  · have h := hs1 hw
    refine zr_tableOut C 125 dX4_many_1 hw (by decide) ?_
    exact h.elim
  by_cases hk0 : p1 = 0
  · have h := hs10 hk0
    refine zr_tableIn C 60 dX4_many_1 (by rw [hk0]; decide) (by rw [hk0]; decide) (by rw [hk0]; rfl) (by decide) ?_
    refine zr_aload_n C 0 dX4_many_60 rfl rfl ?_
    obtain ⟨hT2, x4, hv3, h⟩ := h
    refine zr_get C fl_X4_10 hT2 hv3 dX4_many_61 ?_
    obtain ⟨hT5, h⟩ := h
    refine zr_callV (As := []) (r := (RJx4a65c, TJx4a65c, 3)) C (k_Jx4a65c_size_8abf5 h) ok_X4_30 zq_112 zq_113 hT5 (by decide) rfl rfl ⟨by decide, (Nat.le_of_ble_eq_true rfl)⟩ ⟨(Nat.le_of_ble_eq_true rfl), (Nat.le_of_ble_eq_true rfl)⟩ (Nat.le_of_ble_eq_true rfl) dX4_many_64 (fun v7 U8 G9 hq => ?_)
    clear h
    · obtain ⟨r6, rfl, rfl, rfl, h⟩ := hq
      exact zr_iret C rfl ⟨_, rfl, rfl, rfl, h⟩ (Nat.le_of_ble_eq_true rfl) (Nat.le_of_ble_eq_true rfl) dX4_many_67
  by_cases hk1 : p1 = 1
  · have h := hs22 hk1
    refine zr_tableIn C 68 dX4_many_1 (by rw [hk1]; decide) (by rw [hk1]; decide) (by rw [hk1]; rfl) (by decide) ?_
    refine zr_aload_n C 0 dX4_many_68 rfl rfl ?_
    obtain ⟨hT11, x13, hv12, h⟩ := h
    refine zr_get C fl_X4_23 hT11 hv12 dX4_many_69 ?_
    obtain ⟨hT14, x16, hv15, h⟩ := h
    refine zr_get C fl_X4_112 hT14 hv15 dX4_many_72 ?_
    obtain ⟨hT17, h⟩ := h
    refine zr_callV (As := []) (r := (RJx4a65c, TJx4a65c, 3)) C (k_Jx4a65c_size_8abf5 h) ok_X4_30 zq_112 zq_113 hT17 (by decide) rfl rfl ⟨by decide, (Nat.le_of_ble_eq_true rfl)⟩ ⟨(Nat.le_of_ble_eq_true rfl), (Nat.le_of_ble_eq_true rfl)⟩ (Nat.le_of_ble_eq_true rfl) dX4_many_75 (fun v19 U20 G21 hq => ?_)
    clear h
    · obtain ⟨r18, rfl, rfl, rfl, h⟩ := hq
      exact zr_iret C rfl ⟨_, rfl, rfl, rfl, h⟩ (Nat.le_of_ble_eq_true rfl) (Nat.le_of_ble_eq_true rfl) dX4_many_78
  by_cases hk2 : p1 = 2
  · have h := hs34 hk2
    refine zr_tableIn C 79 dX4_many_1 (by rw [hk2]; decide) (by rw [hk2]; decide) (by rw [hk2]; rfl) (by decide) ?_
    refine zr_aload_n C 0 dX4_many_79 rfl rfl ?_
    obtain ⟨hT23, x25, hv24, h⟩ := h
    refine zr_get C fl_X4_23 hT23 hv24 dX4_many_80 ?_
    obtain ⟨hT26, x28, hv27, h⟩ := h
    refine zr_get C fl_X4_179 hT26 hv27 dX4_many_83 ?_
    obtain ⟨hT29, h⟩ := h
    refine zr_callV (As := []) (r := (RJx4a65c, TJx4a65c, 3)) C (k_Jx4a65c_size_8abf5 h) ok_X4_30 zq_112 zq_113 hT29 (by decide) rfl rfl ⟨by decide, (Nat.le_of_ble_eq_true rfl)⟩ ⟨(Nat.le_of_ble_eq_true rfl), (Nat.le_of_ble_eq_true rfl)⟩ (Nat.le_of_ble_eq_true rfl) dX4_many_86 (fun v31 U32 G33 hq => ?_)
    clear h
    · obtain ⟨r30, rfl, rfl, rfl, h⟩ := hq
      exact zr_iret C rfl ⟨_, rfl, rfl, rfl, h⟩ (Nat.le_of_ble_eq_true rfl) (Nat.le_of_ble_eq_true rfl) dX4_many_89
  by_cases hk3 : p1 = 3
  · have h := hs43 hk3
    refine zr_tableIn C 90 dX4_many_1 (by rw [hk3]; decide) (by rw [hk3]; decide) (by rw [hk3]; rfl) (by decide) ?_
    refine zr_aload_n C 0 dX4_many_90 rfl rfl ?_
    obtain ⟨hT35, x37, hv36, h⟩ := h
    refine zr_get C fl_X4_23 hT35 hv36 dX4_many_91 ?_
    refine zr_iload_n C 1 dX4_many_94 rfl rfl ?_
    refine zr_iconst C 3 dX4_many_95 (by decide) ?_
    refine zr_isub C dX4_many_96 ?_
    obtain ⟨hT38, h⟩ := h
    refine zr_callV (As := [.int (p1 - 3)]) (r := (RX3, TX3, 3)) C (k_X3_countInState h) ok_X4_270 zq_397 zq_398 hT38 (by decide) rfl rfl ⟨by decide, (Nat.le_of_ble_eq_true rfl)⟩ ⟨(Nat.le_of_ble_eq_true rfl), (Nat.le_of_ble_eq_true rfl)⟩ (Nat.le_of_ble_eq_true rfl) dX4_many_97 (fun v40 U41 G42 hq => ?_)
    clear h
    · obtain ⟨r39, rfl, rfl, rfl, h⟩ := hq
      exact zr_iret C rfl ⟨_, rfl, rfl, rfl, h⟩ (Nat.le_of_ble_eq_true rfl) (Nat.le_of_ble_eq_true rfl) dX4_many_100
  by_cases hk4 : p1 = 4
  · have h := hs52 hk4
    refine zr_tableIn C 90 dX4_many_1 (by rw [hk4]; decide) (by rw [hk4]; decide) (by rw [hk4]; rfl) (by decide) ?_
    refine zr_aload_n C 0 dX4_many_90 rfl rfl ?_
    obtain ⟨hT44, x46, hv45, h⟩ := h
    refine zr_get C fl_X4_23 hT44 hv45 dX4_many_91 ?_
    refine zr_iload_n C 1 dX4_many_94 rfl rfl ?_
    refine zr_iconst C 3 dX4_many_95 (by decide) ?_
    refine zr_isub C dX4_many_96 ?_
    obtain ⟨hT47, h⟩ := h
    refine zr_callV (As := [.int (p1 - 3)]) (r := (RX3, TX3, 3)) C (k_X3_countInState h) ok_X4_270 zq_397 zq_398 hT47 (by decide) rfl rfl ⟨by decide, (Nat.le_of_ble_eq_true rfl)⟩ ⟨(Nat.le_of_ble_eq_true rfl), (Nat.le_of_ble_eq_true rfl)⟩ (Nat.le_of_ble_eq_true rfl) dX4_many_97 (fun v49 U50 G51 hq => ?_)
    clear h
    · obtain ⟨r48, rfl, rfl, rfl, h⟩ := hq
      exact zr_iret C rfl ⟨_, rfl, rfl, rfl, h⟩ (Nat.le_of_ble_eq_true rfl) (Nat.le_of_ble_eq_true rfl) dX4_many_100
  by_cases hk5 : p1 = 5
  · have h := hs61 hk5
    refine zr_tableIn C 90 dX4_many_1 (by rw [hk5]; decide) (by rw [hk5]; decide) (by rw [hk5]; rfl) (by decide) ?_
    refine zr_aload_n C 0 dX4_many_90 rfl rfl ?_
    obtain ⟨hT53, x55, hv54, h⟩ := h
    refine zr_get C fl_X4_23 hT53 hv54 dX4_many_91 ?_
    refine zr_iload_n C 1 dX4_many_94 rfl rfl ?_
    refine zr_iconst C 3 dX4_many_95 (by decide) ?_
    refine zr_isub C dX4_many_96 ?_
    obtain ⟨hT56, h⟩ := h
    refine zr_callV (As := [.int (p1 - 3)]) (r := (RX3, TX3, 3)) C (k_X3_countInState h) ok_X4_270 zq_397 zq_398 hT56 (by decide) rfl rfl ⟨by decide, (Nat.le_of_ble_eq_true rfl)⟩ ⟨(Nat.le_of_ble_eq_true rfl), (Nat.le_of_ble_eq_true rfl)⟩ (Nat.le_of_ble_eq_true rfl) dX4_many_97 (fun v58 U59 G60 hq => ?_)
    clear h
    · obtain ⟨r57, rfl, rfl, rfl, h⟩ := hq
      exact zr_iret C rfl ⟨_, rfl, rfl, rfl, h⟩ (Nat.le_of_ble_eq_true rfl) (Nat.le_of_ble_eq_true rfl) dX4_many_100
  by_cases hk6 : p1 = 6
  · have h := hs70 hk6
    refine zr_tableIn C 90 dX4_many_1 (by rw [hk6]; decide) (by rw [hk6]; decide) (by rw [hk6]; rfl) (by decide) ?_
    refine zr_aload_n C 0 dX4_many_90 rfl rfl ?_
    obtain ⟨hT62, x64, hv63, h⟩ := h
    refine zr_get C fl_X4_23 hT62 hv63 dX4_many_91 ?_
    refine zr_iload_n C 1 dX4_many_94 rfl rfl ?_
    refine zr_iconst C 3 dX4_many_95 (by decide) ?_
    refine zr_isub C dX4_many_96 ?_
    obtain ⟨hT65, h⟩ := h
    refine zr_callV (As := [.int (p1 - 3)]) (r := (RX3, TX3, 3)) C (k_X3_countInState h) ok_X4_270 zq_397 zq_398 hT65 (by decide) rfl rfl ⟨by decide, (Nat.le_of_ble_eq_true rfl)⟩ ⟨(Nat.le_of_ble_eq_true rfl), (Nat.le_of_ble_eq_true rfl)⟩ (Nat.le_of_ble_eq_true rfl) dX4_many_97 (fun v67 U68 G69 hq => ?_)
    clear h
    · obtain ⟨r66, rfl, rfl, rfl, h⟩ := hq
      exact zr_iret C rfl ⟨_, rfl, rfl, rfl, h⟩ (Nat.le_of_ble_eq_true rfl) (Nat.le_of_ble_eq_true rfl) dX4_many_100
  by_cases hk7 : p1 = 7
  · have h := hs79 hk7
    refine zr_tableIn C 90 dX4_many_1 (by rw [hk7]; decide) (by rw [hk7]; decide) (by rw [hk7]; rfl) (by decide) ?_
    refine zr_aload_n C 0 dX4_many_90 rfl rfl ?_
    obtain ⟨hT71, x73, hv72, h⟩ := h
    refine zr_get C fl_X4_23 hT71 hv72 dX4_many_91 ?_
    refine zr_iload_n C 1 dX4_many_94 rfl rfl ?_
    refine zr_iconst C 3 dX4_many_95 (by decide) ?_
    refine zr_isub C dX4_many_96 ?_
    obtain ⟨hT74, h⟩ := h
    refine zr_callV (As := [.int (p1 - 3)]) (r := (RX3, TX3, 3)) C (k_X3_countInState h) ok_X4_270 zq_397 zq_398 hT74 (by decide) rfl rfl ⟨by decide, (Nat.le_of_ble_eq_true rfl)⟩ ⟨(Nat.le_of_ble_eq_true rfl), (Nat.le_of_ble_eq_true rfl)⟩ (Nat.le_of_ble_eq_true rfl) dX4_many_97 (fun v76 U77 G78 hq => ?_)
    clear h
    · obtain ⟨r75, rfl, rfl, rfl, h⟩ := hq
      exact zr_iret C rfl ⟨_, rfl, rfl, rfl, h⟩ (Nat.le_of_ble_eq_true rfl) (Nat.le_of_ble_eq_true rfl) dX4_many_100
  by_cases hk8 : p1 = 8
  · have h := hs88 hk8
    refine zr_tableIn C 101 dX4_many_1 (by rw [hk8]; decide) (by rw [hk8]; decide) (by rw [hk8]; rfl) (by decide) ?_
    refine zr_aload_n C 0 dX4_many_101 rfl rfl ?_
    obtain ⟨hT80, x82, hv81, h⟩ := h
    refine zr_get C fl_X4_23 hT80 hv81 dX4_many_102 ?_
    obtain ⟨hT83, h⟩ := h
    refine zr_callV (As := []) (r := (RX3, TX3, 3)) C (k_X3_countOn h) ok_X4_273 zq_404 zq_405 hT83 (by decide) rfl rfl ⟨by decide, (Nat.le_of_ble_eq_true rfl)⟩ ⟨(Nat.le_of_ble_eq_true rfl), (Nat.le_of_ble_eq_true rfl)⟩ (Nat.le_of_ble_eq_true rfl) dX4_many_105 (fun v85 U86 G87 hq => ?_)
    clear h
    · obtain ⟨r84, rfl, rfl, rfl, h⟩ := hq
      exact zr_iret C rfl ⟨_, rfl, rfl, rfl, h⟩ (Nat.le_of_ble_eq_true rfl) (Nat.le_of_ble_eq_true rfl) dX4_many_108
  by_cases hk9 : p1 = 9
  · have h := hs97 hk9
    refine zr_tableIn C 109 dX4_many_1 (by rw [hk9]; decide) (by rw [hk9]; decide) (by rw [hk9]; rfl) (by decide) ?_
    refine zr_aload_n C 0 dX4_many_109 rfl rfl ?_
    obtain ⟨hT89, x91, hv90, h⟩ := h
    refine zr_get C fl_X4_23 hT89 hv90 dX4_many_110 ?_
    obtain ⟨hT92, h⟩ := h
    refine zr_callV (As := []) (r := (RX3, TX3, 3)) C (k_X3_costOfAll h) ok_X4_276 zq_408 zq_409 hT92 (by decide) rfl rfl ⟨by decide, (Nat.le_of_ble_eq_true rfl)⟩ ⟨(Nat.le_of_ble_eq_true rfl), (Nat.le_of_ble_eq_true rfl)⟩ (Nat.le_of_ble_eq_true rfl) dX4_many_113 (fun v94 U95 G96 hq => ?_)
    clear h
    · obtain ⟨r93, rfl, rfl, rfl, h⟩ := hq
      exact zr_iret C rfl ⟨_, rfl, rfl, rfl, h⟩ (Nat.le_of_ble_eq_true rfl) (Nat.le_of_ble_eq_true rfl) dX4_many_116
  by_cases hk10 : p1 = 10
  · have h := hs104 hk10
    refine zr_tableIn C 117 dX4_many_1 (by rw [hk10]; decide) (by rw [hk10]; decide) (by rw [hk10]; rfl) (by decide) ?_
    refine zr_aload_n C 0 dX4_many_117 rfl rfl ?_
    obtain ⟨hT98, x100, hv99, h⟩ := h
    refine zr_get C fl_X4_23 hT98 hv99 dX4_many_118 ?_
    obtain ⟨hT101, x103, hv102, h⟩ := h
    refine zr_get C fl_X4_52 hT101 hv102 dX4_many_121 ?_
    exact zr_iret C rfl ⟨_, rfl, rfl, rfl, h⟩ (Nat.le_of_ble_eq_true rfl) (Nat.le_of_ble_eq_true rfl) dX4_many_124
  obtain ⟨j9, hj9, e9⟩ := z_sw 10 hw
  have hc9 : j9 = 0 ∨ j9 = 1 ∨ j9 = 2 ∨ j9 = 3 ∨ j9 = 4 ∨ j9 = 5 ∨ j9 = 6 ∨ j9 = 7 ∨ j9 = 8 ∨ j9 = 9 ∨ j9 = 10 := by omega
  rcases hc9 with rfl | rfl | rfl | rfl | rfl | rfl | rfl | rfl | rfl | rfl | rfl
  · exact absurd (e9.trans (by decide)) hk0
  · exact absurd (e9.trans (by decide)) hk1
  · exact absurd (e9.trans (by decide)) hk2
  · exact absurd (e9.trans (by decide)) hk3
  · exact absurd (e9.trans (by decide)) hk4
  · exact absurd (e9.trans (by decide)) hk5
  · exact absurd (e9.trans (by decide)) hk6
  · exact absurd (e9.trans (by decide)) hk7
  · exact absurd (e9.trans (by decide)) hk8
  · exact absurd (e9.trans (by decide)) hk9
  · exact absurd (e9.trans (by decide)) hk10
theorem dX4_groups_0 : decode cX4_groups 0 = .ok (.iload_n 1, 1) := by decide +kernel
theorem dX4_groups_4 : decode cX4_groups 4 = .ok (.iload_n 2, 1) := by decide +kernel
theorem dX4_groups_8 : decode cX4_groups 8 = .ok (.iload_n 3, 1) := by decide +kernel
theorem dX4_groups_9 : decode cX4_groups 9 = .ok (.ifCond .lt 10, 3) := by decide +kernel
theorem dX4_groups_19 : decode cX4_groups 19 = .ok (.new 56, 3) := by decide +kernel
theorem dX4_groups_22 : decode cX4_groups 22 = .ok (.dup, 1) := by decide +kernel
theorem dX4_groups_23 : decode cX4_groups 23 = .ok (.ldc_w 284, 3) := by decide +kernel
theorem dX4_groups_26 : decode cX4_groups 26 = .ok (.invokespecial 60, 3) := by decide +kernel
theorem dX4_groups_29 : decode cX4_groups 29 = .ok (.athrow, 1) := by decide +kernel
theorem dX4_groups_12 : decode cX4_groups 12 = .ok (.iload_n 3, 1) := by decide +kernel
theorem dX4_groups_13 : decode cX4_groups 13 = .ok (.sipush 1023, 3) := by decide +kernel
theorem dX4_groups_16 : decode cX4_groups 16 = .ok (.if_icmp .le 14, 3) := by decide +kernel
theorem dX4_groups_30 : decode cX4_groups 30 = .ok (.iload_n 1, 1) := by decide +kernel
theorem dX4_groups_31 : decode cX4_groups 31 = .ok (.iconst 4, 1) := by decide +kernel
theorem dX4_groups_32 : decode cX4_groups 32 = .ok (.imul, 1) := by decide +kernel
theorem dX4_groups_33 : decode cX4_groups 33 = .ok (.iload_n 2, 1) := by decide +kernel
theorem dX4_groups_34 : decode cX4_groups 34 = .ok (.iadd, 1) := by decide +kernel
theorem dX4_groups_35 : decode cX4_groups 35 = .ok (.istore 4, 2) := by decide +kernel
theorem dX4_groups_37 : decode cX4_groups 37 = .ok (.aload_n 0, 1) := by decide +kernel
theorem dX4_groups_38 : decode cX4_groups 38 = .ok (.getfield 16, 3) := by decide +kernel
theorem dX4_groups_41 : decode cX4_groups 41 = .ok (.iload 4, 2) := by decide +kernel
theorem dX4_groups_43 : decode cX4_groups 43 = .ok (.iaload, 1) := by decide +kernel
theorem dX4_groups_44 : decode cX4_groups 44 = .ok (.istore 5, 2) := by decide +kernel
theorem dX4_groups_46 : decode cX4_groups 46 = .ok (.aload_n 0, 1) := by decide +kernel
theorem dX4_groups_47 : decode cX4_groups 47 = .ok (.getfield 16, 3) := by decide +kernel
theorem dX4_groups_50 : decode cX4_groups 50 = .ok (.iload 4, 2) := by decide +kernel
theorem dX4_groups_52 : decode cX4_groups 52 = .ok (.iload_n 3, 1) := by decide +kernel
theorem dX4_groups_53 : decode cX4_groups 53 = .ok (.iastore, 1) := by decide +kernel
theorem dX4_groups_54 : decode cX4_groups 54 = .ok (.iload 5, 2) := by decide +kernel
theorem dX4_groups_56 : decode cX4_groups 56 = .ok (.ireturn, 1) := by decide +kernel
theorem dX4_groups_5 : decode cX4_groups 5 = .ok (.invokestatic 101, 3) := by decide +kernel
theorem dX4_groups_1 : decode cX4_groups 1 = .ok (.invokestatic 173, 3) := by decide +kernel
def v_X4_groups (a0 : Nat) (p1 : Int32) (p2 : Int32) (p3 : Int32) (T : zT) (F : zF) (Post : Int32 → zF → Prop) (PX : String → zF → Prop) : Prop :=
  (v_X4_needMedium p1 T F (v_X4_needLand p2 T F ((p3 < 0 → PX "java/lang/IllegalArgumentException" F) ∧ (¬ p3 < 0 → ((p3 ≤ 1023 → (T a0 = some (5, 4) ∧ ∃ x3 : Nat, F a0 1 = .ref x3 ∧ ∃ n4 : Nat, T x3 = some (100, n4) ∧ vp_in ((p1 * 4) + p2) n4 ∧ ∃ x7 : Int32, F x3 (((p1 * 4) + p2)).toNatClampNeg = .int x7 ∧ vp_in ((p1 * 4) + p2) n4 ∧ Post x7 (zu F x3 (((p1 * 4) + p2)).toNatClampNeg (.int p3)))) ∧ (¬ p3 ≤ 1023 → PX "java/lang/IllegalArgumentException" F)))) (fun (E9 : String) => PX E9 F)) (fun (E9 : String) => PX E9 F))
set_option maxRecDepth 100000 in
set_option maxHeartbeats 4000000 in
theorem k_X4_groups {l : Launch} {D : va_G} {cA : Nat → ClassId} {N0 zE : Nat} {a0 : Nat} {p1 : Int32} {p2 : Int32} {p3 : Int32} {T : zT} {F : zF} {Post : Int32 → zF → Prop} {PX : String → zF → Prop} (h : v_X4_groups a0 p1 p2 p3 T F Post PX) : z_Met l D cA N0 zE yX4_groups cX4_groups 6 (some .int) ({ frames := 7, cells := 3, slots := 18, locals := 110 } : Room) [.ref a0, .int p1, .int p2, .int p3] T F (fun v T' F' => ∃ r : Int32, v = some (.int r) ∧ T = T' ∧ Post r F') (fun E T' F' => T = T' ∧ PX E F') := by
  unfold v_X4_groups at h
  refine z_body (by decide) (Nat.le_of_ble_eq_true rfl) ?_
  intro p e s m args below meth c C hxt hnm
  have C : z_C p l s m args meth c RX4 cX4_groups 6 (some .int) D cA N0 zE := C
  show z_w p l e ({ frames := 7, cells := 3, slots := 18, locals := 110 } : Room) s m args below meth c D cA N0 6 0 0 (vx_MQ below (z_Qc D cA N0 (fun v T' F' => ∃ r : Int32, v = some (.int r) ∧ T = T' ∧ Post r F')) (z_XC D cA N0 (fun E T' F' => T = T' ∧ PX E F')) args s 3 18 (fun q => N0 ≤ q)) 0 [(0, .ref a0), (1, .int p1), (2, .int p2), (3, .int p3)] [] T F
  refine zr_iload_n C 1 dX4_groups_0 rfl rfl ?_
  refine zr_callSX (As := [.int p1]) C (k_X4_needMedium h) ok_X4_173 zq_735 rfl ⟨by decide, (Nat.le_of_ble_eq_true rfl)⟩ ⟨(Nat.le_of_ble_eq_true rfl), (Nat.le_of_ble_eq_true rfl)⟩ (Nat.le_of_ble_eq_true rfl) dX4_groups_1 (fun E9 T9 F9 hq => by obtain ⟨rfl, rfl, hq⟩ := hq; exact zr_out C (fun x hx => (hxt x hx).elim) ⟨rfl, hq⟩ (Nat.le_of_ble_eq_true rfl) (Nat.le_of_ble_eq_true rfl)) (fun v13 U14 G15 hq => ?_)
  clear h
  · obtain ⟨rfl, rfl, rfl, h⟩ := hq
    refine zr_iload_n C 2 dX4_groups_4 rfl rfl ?_
    refine zr_callSX (As := [.int p2]) C (k_X4_needLand h) ok_X4_101 zq_477 rfl ⟨by decide, (Nat.le_of_ble_eq_true rfl)⟩ ⟨(Nat.le_of_ble_eq_true rfl), (Nat.le_of_ble_eq_true rfl)⟩ (Nat.le_of_ble_eq_true rfl) dX4_groups_5 (fun E9 T9 F9 hq => by obtain ⟨rfl, rfl, hq⟩ := hq; exact zr_out C (fun x hx => (hxt x hx).elim) ⟨rfl, hq⟩ (Nat.le_of_ble_eq_true rfl) (Nat.le_of_ble_eq_true rfl)) (fun v10 U11 G12 hq => ?_)
    clear h
    · obtain ⟨rfl, rfl, rfl, h⟩ := hq
      refine zr_iload_n C 3 dX4_groups_8 rfl rfl ?_
      obtain ⟨h1, h2⟩ := h
      refine zr_if_lt C 19 dX4_groups_9 (by decide) (fun hc => ?_) (fun hc => ?_)
      · have h := h1 hc
        clear h1 h2
        exact zr_throwW C th_X4_56_60_284 (fun x hx => (hxt x hx).elim) ⟨rfl, h⟩ dX4_groups_19 dX4_groups_22 dX4_groups_23 dX4_groups_26 dX4_groups_29 (by decide) (Nat.le_of_ble_eq_true rfl) ⟨(Nat.le_of_ble_eq_true rfl), (Nat.le_of_ble_eq_true rfl)⟩ ⟨(Nat.le_of_ble_eq_true rfl), (Nat.le_of_ble_eq_true rfl)⟩
      · have h := h2 hc
        clear h1 h2
        refine zr_iload_n C 3 dX4_groups_12 rfl rfl ?_
        refine zr_sipush C 1023 dX4_groups_13 (by decide) ?_
        obtain ⟨h1, h2⟩ := h
        refine zr_icmp_le C 30 dX4_groups_16 (by decide) (fun hc => ?_) (fun hc => ?_)
        · have h := h1 hc
          clear h1 h2
          refine zr_iload_n C 1 dX4_groups_30 rfl rfl ?_
          refine zr_iconst C 4 dX4_groups_31 (by decide) ?_
          refine zr_imul C dX4_groups_32 ?_
          refine zr_iload_n C 2 dX4_groups_33 rfl rfl ?_
          refine zr_iadd C dX4_groups_34 ?_
          refine zr_istore C [(4, .int ((p1 * 4) + p2)), (0, .ref a0), (1, .int p1), (2, .int p2), (3, .int p3)] dX4_groups_35 (by decide) rfl ?_
          refine zr_aload_n C 1 dX4_groups_37 rfl rfl ?_
          obtain ⟨hT1, x3, hv2, h⟩ := h
          refine zr_get C fl_X4_16 hT1 hv2 dX4_groups_38 ?_
          refine zr_iload C 0 dX4_groups_41 rfl ?_
          obtain ⟨n4, hT5, hi6, x7, hv8, h⟩ := h
          refine zr_iald C rfl hT5 hi6 hv8 dX4_groups_43 ?_
          refine zr_istore C [(5, .int x7), (4, .int ((p1 * 4) + p2)), (0, .ref a0), (1, .int p1), (2, .int p2), (3, .int p3)] dX4_groups_44 (by decide) rfl ?_
          refine zr_aload_n C 2 dX4_groups_46 rfl rfl ?_
          refine zr_get C fl_X4_16 hT1 hv2 dX4_groups_47 ?_
          refine zr_iload C 1 dX4_groups_50 rfl ?_
          refine zr_iload_n C 5 dX4_groups_52 rfl rfl ?_
          obtain ⟨hi9, h⟩ := h
          refine zr_iast C rfl hT5 hi9 dX4_groups_53 ?_
          refine zr_iload C 0 dX4_groups_54 rfl ?_
          exact zr_X (zr_iret C rfl ⟨_, rfl, rfl, h⟩ (Nat.le_of_ble_eq_true rfl) (Nat.le_of_ble_eq_true rfl) dX4_groups_56)
        · have h := h2 hc
          clear h1 h2
          exact zr_throwW C th_X4_56_60_284 (fun x hx => (hxt x hx).elim) ⟨rfl, h⟩ dX4_groups_19 dX4_groups_22 dX4_groups_23 dX4_groups_26 dX4_groups_29 (by decide) (Nat.le_of_ble_eq_true rfl) ⟨(Nat.le_of_ble_eq_true rfl), (Nat.le_of_ble_eq_true rfl)⟩ ⟨(Nat.le_of_ble_eq_true rfl), (Nat.le_of_ble_eq_true rfl)⟩
set_option maxRecDepth 100000 in
set_option maxHeartbeats 4000000 in
theorem k_X4_groups0 {l : Launch} {D : va_G} {cA : Nat → ClassId} {N0 zE : Nat} {a0 : Nat} {p1 : Int32} {p2 : Int32} {p3 : Int32} {T : zT} {F : zF} {Post : Int32 → zF → Prop} (h : v_X4_groups a0 p1 p2 p3 T F Post (fun _ _ => False)) : z_Mt l D cA N0 zE yX4_groups cX4_groups 6 (some .int) ({ frames := 2, cells := 0, slots := 0, locals := 40 } : Room) [.ref a0, .int p1, .int p2, .int p3] T F (fun v T' F' => ∃ r : Int32, v = some (.int r) ∧ T = T' ∧ Post r F') := by
  unfold v_X4_groups at h
  refine z_bodyT (by decide) (Nat.le_of_ble_eq_true rfl) ?_
  intro p e s m args below meth c C hnm
  have C : z_C p l s m args meth c RX4 cX4_groups 6 (some .int) D cA N0 zE := C
  show z_w p l e ({ frames := 2, cells := 0, slots := 0, locals := 40 } : Room) s m args below meth c D cA N0 6 0 0 (MQ below (z_Qc D cA N0 (fun v T' F' => ∃ r : Int32, v = some (.int r) ∧ T = T' ∧ Post r F')) args s 0 0 (fun q => N0 ≤ q)) 0 [(0, .ref a0), (1, .int p1), (2, .int p2), (3, .int p3)] [] T F
  refine zr_iload_n C 1 dX4_groups_0 rfl rfl ?_
  refine zr_callS (As := [.int p1]) C (k_X4_needMedium0 h) ok_X4_173 zq_735 rfl ⟨by decide, (Nat.le_of_ble_eq_true rfl)⟩ ⟨(Nat.le_of_ble_eq_true rfl), (Nat.le_of_ble_eq_true rfl)⟩ (Nat.le_of_ble_eq_true rfl) dX4_groups_1 (fun v13 U14 G15 hq => ?_)
  clear h
  · obtain ⟨rfl, rfl, rfl, h⟩ := hq
    refine zr_iload_n C 2 dX4_groups_4 rfl rfl ?_
    refine zr_callS (As := [.int p2]) C (k_X4_needLand0 h) ok_X4_101 zq_477 rfl ⟨by decide, (Nat.le_of_ble_eq_true rfl)⟩ ⟨(Nat.le_of_ble_eq_true rfl), (Nat.le_of_ble_eq_true rfl)⟩ (Nat.le_of_ble_eq_true rfl) dX4_groups_5 (fun v10 U11 G12 hq => ?_)
    clear h
    · obtain ⟨rfl, rfl, rfl, h⟩ := hq
      refine zr_iload_n C 3 dX4_groups_8 rfl rfl ?_
      obtain ⟨h1, h2⟩ := h
      refine zr_if_lt C 19 dX4_groups_9 (by decide) (fun hc => ?_) (fun hc => ?_)
      · have h := h1 hc
        clear h1 h2
        exact h.elim
      · have h := h2 hc
        clear h1 h2
        refine zr_iload_n C 3 dX4_groups_12 rfl rfl ?_
        refine zr_sipush C 1023 dX4_groups_13 (by decide) ?_
        obtain ⟨h1, h2⟩ := h
        refine zr_icmp_le C 30 dX4_groups_16 (by decide) (fun hc => ?_) (fun hc => ?_)
        · have h := h1 hc
          clear h1 h2
          refine zr_iload_n C 1 dX4_groups_30 rfl rfl ?_
          refine zr_iconst C 4 dX4_groups_31 (by decide) ?_
          refine zr_imul C dX4_groups_32 ?_
          refine zr_iload_n C 2 dX4_groups_33 rfl rfl ?_
          refine zr_iadd C dX4_groups_34 ?_
          refine zr_istore C [(4, .int ((p1 * 4) + p2)), (0, .ref a0), (1, .int p1), (2, .int p2), (3, .int p3)] dX4_groups_35 (by decide) rfl ?_
          refine zr_aload_n C 1 dX4_groups_37 rfl rfl ?_
          obtain ⟨hT1, x3, hv2, h⟩ := h
          refine zr_get C fl_X4_16 hT1 hv2 dX4_groups_38 ?_
          refine zr_iload C 0 dX4_groups_41 rfl ?_
          obtain ⟨n4, hT5, hi6, x7, hv8, h⟩ := h
          refine zr_iald C rfl hT5 hi6 hv8 dX4_groups_43 ?_
          refine zr_istore C [(5, .int x7), (4, .int ((p1 * 4) + p2)), (0, .ref a0), (1, .int p1), (2, .int p2), (3, .int p3)] dX4_groups_44 (by decide) rfl ?_
          refine zr_aload_n C 2 dX4_groups_46 rfl rfl ?_
          refine zr_get C fl_X4_16 hT1 hv2 dX4_groups_47 ?_
          refine zr_iload C 1 dX4_groups_50 rfl ?_
          refine zr_iload_n C 5 dX4_groups_52 rfl rfl ?_
          obtain ⟨hi9, h⟩ := h
          refine zr_iast C rfl hT5 hi9 dX4_groups_53 ?_
          refine zr_iload C 0 dX4_groups_54 rfl ?_
          exact zr_iret C rfl ⟨_, rfl, rfl, h⟩ (Nat.le_of_ble_eq_true rfl) (Nat.le_of_ble_eq_true rfl) dX4_groups_56
        · have h := h2 hc
          clear h1 h2
          exact h.elim
theorem dX4_groupsOf_0 : decode cX4_groupsOf 0 = .ok (.iload_n 1, 1) := by decide +kernel
theorem dX4_groupsOf_4 : decode cX4_groupsOf 4 = .ok (.ifCond .eq 23, 3) := by decide +kernel
theorem dX4_groupsOf_27 : decode cX4_groupsOf 27 = .ok (.iconst 0, 1) := by decide +kernel
theorem dX4_groupsOf_28 : decode cX4_groupsOf 28 = .ok (.ireturn, 1) := by decide +kernel
theorem dX4_groupsOf_7 : decode cX4_groupsOf 7 = .ok (.iload_n 2, 1) := by decide +kernel
theorem dX4_groupsOf_11 : decode cX4_groupsOf 11 = .ok (.ifCond .eq 16, 3) := by decide +kernel
theorem dX4_groupsOf_14 : decode cX4_groupsOf 14 = .ok (.aload_n 0, 1) := by decide +kernel
theorem dX4_groupsOf_15 : decode cX4_groupsOf 15 = .ok (.getfield 16, 3) := by decide +kernel
theorem dX4_groupsOf_18 : decode cX4_groupsOf 18 = .ok (.iload_n 1, 1) := by decide +kernel
theorem dX4_groupsOf_19 : decode cX4_groupsOf 19 = .ok (.iconst 4, 1) := by decide +kernel
theorem dX4_groupsOf_20 : decode cX4_groupsOf 20 = .ok (.imul, 1) := by decide +kernel
theorem dX4_groupsOf_21 : decode cX4_groupsOf 21 = .ok (.iload_n 2, 1) := by decide +kernel
theorem dX4_groupsOf_22 : decode cX4_groupsOf 22 = .ok (.iadd, 1) := by decide +kernel
theorem dX4_groupsOf_23 : decode cX4_groupsOf 23 = .ok (.iaload, 1) := by decide +kernel
theorem dX4_groupsOf_24 : decode cX4_groupsOf 24 = .ok (.goto 4, 3) := by decide +kernel
theorem dX4_groupsOf_8 : decode cX4_groupsOf 8 = .ok (.invokestatic 354, 3) := by decide +kernel
theorem dX4_groupsOf_1 : decode cX4_groupsOf 1 = .ok (.invokestatic 351, 3) := by decide +kernel
def v_X4_groupsOf (a0 : Nat) (p1 : Int32) (p2 : Int32) (T : zT) (F : zF) (Post : Int32 → Prop) : Prop :=
  (v_X4_isMedium p1 T F (fun (r1 : Int32) => ((r1 = 0 → Post 0) ∧ (¬ r1 = 0 → (v_X4_isLand p2 T F (fun (r2 : Int32) => ((r2 = 0 → Post 0) ∧ (¬ r2 = 0 → (T a0 = some (5, 4) ∧ ∃ x5 : Nat, F a0 1 = .ref x5 ∧ ∃ n6 : Nat, T x5 = some (100, n6) ∧ vp_in ((p1 * 4) + p2) n6 ∧ ∃ x9 : Int32, F x5 (((p1 * 4) + p2)).toNatClampNeg = .int x9 ∧ Post x9)))))))))
set_option maxRecDepth 100000 in
set_option maxHeartbeats 4000000 in
theorem k_X4_groupsOf {l : Launch} {D : va_G} {cA : Nat → ClassId} {N0 zE : Nat} {a0 : Nat} {p1 : Int32} {p2 : Int32} {T : zT} {F : zF} {Post : Int32 → Prop} (h : v_X4_groupsOf a0 p1 p2 T F Post) : z_Mt l D cA N0 zE yX4_groupsOf cX4_groupsOf 3 (some .int) ({ frames := 1, cells := 0, slots := 0, locals := 20 } : Room) [.ref a0, .int p1, .int p2] T F (fun v T' F' => ∃ r : Int32, v = some (.int r) ∧ T = T' ∧ F = F' ∧ Post r) := by
  unfold v_X4_groupsOf at h
  refine z_bodyT (by decide) (Nat.le_of_ble_eq_true rfl) ?_
  intro p e s m args below meth c C hnm
  have C : z_C p l s m args meth c RX4 cX4_groupsOf 3 (some .int) D cA N0 zE := C
  show z_w p l e ({ frames := 1, cells := 0, slots := 0, locals := 20 } : Room) s m args below meth c D cA N0 3 0 0 (MQ below (z_Qc D cA N0 (fun v T' F' => ∃ r : Int32, v = some (.int r) ∧ T = T' ∧ F = F' ∧ Post r)) args s 0 0 (fun q => N0 ≤ q)) 0 [(0, .ref a0), (1, .int p1), (2, .int p2)] [] T F
  refine zr_iload_n C 1 dX4_groupsOf_0 rfl rfl ?_
  refine zr_callS (As := [.int p1]) C (k_X4_isMedium h) ok_X4_351 zq_541 rfl ⟨by decide, (Nat.le_of_ble_eq_true rfl)⟩ ⟨(Nat.le_of_ble_eq_true rfl), (Nat.le_of_ble_eq_true rfl)⟩ (Nat.le_of_ble_eq_true rfl) dX4_groupsOf_1 (fun v14 U15 G16 hq => ?_)
  clear h
  · obtain ⟨r1, rfl, rfl, rfl, h⟩ := hq
    obtain ⟨h1, h2⟩ := h
    refine zr_if_eq C 27 dX4_groupsOf_4 (by decide) (fun hc => ?_) (fun hc => ?_)
    · have h := h1 hc
      clear h1 h2
      refine zr_iconst C 0 dX4_groupsOf_27 (by decide) ?_
      exact zr_iret C rfl ⟨_, rfl, rfl, rfl, h⟩ (Nat.le_of_ble_eq_true rfl) (Nat.le_of_ble_eq_true rfl) dX4_groupsOf_28
    · have h := h2 hc
      clear h1 h2
      refine zr_iload_n C 2 dX4_groupsOf_7 rfl rfl ?_
      refine zr_callS (As := [.int p2]) C (k_X4_isLand h) ok_X4_354 zq_480 rfl ⟨by decide, (Nat.le_of_ble_eq_true rfl)⟩ ⟨(Nat.le_of_ble_eq_true rfl), (Nat.le_of_ble_eq_true rfl)⟩ (Nat.le_of_ble_eq_true rfl) dX4_groupsOf_8 (fun v11 U12 G13 hq => ?_)
      clear h
      · obtain ⟨r2, rfl, rfl, rfl, h⟩ := hq
        obtain ⟨h1, h2⟩ := h
        refine zr_if_eq C 27 dX4_groupsOf_11 (by decide) (fun hc => ?_) (fun hc => ?_)
        · have h := h1 hc
          clear h1 h2
          refine zr_iconst C 0 dX4_groupsOf_27 (by decide) ?_
          exact zr_iret C rfl ⟨_, rfl, rfl, rfl, h⟩ (Nat.le_of_ble_eq_true rfl) (Nat.le_of_ble_eq_true rfl) dX4_groupsOf_28
        · have h := h2 hc
          clear h1 h2
          refine zr_aload_n C 0 dX4_groupsOf_14 rfl rfl ?_
          obtain ⟨hT3, x5, hv4, h⟩ := h
          refine zr_get C fl_X4_16 hT3 hv4 dX4_groupsOf_15 ?_
          refine zr_iload_n C 1 dX4_groupsOf_18 rfl rfl ?_
          refine zr_iconst C 4 dX4_groupsOf_19 (by decide) ?_
          refine zr_imul C dX4_groupsOf_20 ?_
          refine zr_iload_n C 2 dX4_groupsOf_21 rfl rfl ?_
          refine zr_iadd C dX4_groupsOf_22 ?_
          obtain ⟨n6, hT7, hi8, x9, hv10, h⟩ := h
          refine zr_iald C rfl hT7 hi8 hv10 dX4_groupsOf_23 ?_
          refine zr_goto C 28 dX4_groupsOf_24 (by decide) ?_
          exact zr_iret C rfl ⟨_, rfl, rfl, rfl, h⟩ (Nat.le_of_ble_eq_true rfl) (Nat.le_of_ble_eq_true rfl) dX4_groupsOf_28
theorem dX4_groupsReached_0 : decode cX4_groupsReached 0 = .ok (.iconst 0, 1) := by decide +kernel
theorem dX4_groupsReached_1 : decode cX4_groupsReached 1 = .ok (.istore_n 2, 1) := by decide +kernel
theorem dX4_groupsReached_2 : decode cX4_groupsReached 2 = .ok (.iconst 0, 1) := by decide +kernel
theorem dX4_groupsReached_3 : decode cX4_groupsReached 3 = .ok (.istore_n 3, 1) := by decide +kernel
theorem dX4_groupsReached_4 : decode cX4_groupsReached 4 = .ok (.iload_n 3, 1) := by decide +kernel
theorem dX4_groupsReached_5 : decode cX4_groupsReached 5 = .ok (.aload_n 0, 1) := by decide +kernel
theorem dX4_groupsReached_6 : decode cX4_groupsReached 6 = .ok (.getfield 23, 3) := by decide +kernel
theorem dX4_groupsReached_9 : decode cX4_groupsReached 9 = .ok (.getfield 179, 3) := by decide +kernel
theorem dX4_groupsReached_15 : decode cX4_groupsReached 15 = .ok (.if_icmp .ge 55, 3) := by decide +kernel
theorem dX4_groupsReached_70 : decode cX4_groupsReached 70 = .ok (.iload_n 2, 1) := by decide +kernel
theorem dX4_groupsReached_71 : decode cX4_groupsReached 71 = .ok (.ireturn, 1) := by decide +kernel
theorem dX4_groupsReached_18 : decode cX4_groupsReached 18 = .ok (.aload_n 0, 1) := by decide +kernel
theorem dX4_groupsReached_19 : decode cX4_groupsReached 19 = .ok (.getfield 23, 3) := by decide +kernel
theorem dX4_groupsReached_22 : decode cX4_groupsReached 22 = .ok (.getfield 179, 3) := by decide +kernel
theorem dX4_groupsReached_25 : decode cX4_groupsReached 25 = .ok (.iload_n 3, 1) := by decide +kernel
theorem dX4_groupsReached_29 : decode cX4_groupsReached 29 = .ok (.checkcast 190, 3) := by decide +kernel
theorem dX4_groupsReached_32 : decode cX4_groupsReached 32 = .ok (.astore 4, 2) := by decide +kernel
theorem dX4_groupsReached_34 : decode cX4_groupsReached 34 = .ok (.aload 4, 2) := by decide +kernel
theorem dX4_groupsReached_36 : decode cX4_groupsReached 36 = .ok (.getfield 253, 3) := by decide +kernel
theorem dX4_groupsReached_39 : decode cX4_groupsReached 39 = .ok (.ifCond .eq 25, 3) := by decide +kernel
theorem dX4_groupsReached_64 : decode cX4_groupsReached 64 = .ok (.iinc 3 1, 3) := by decide +kernel
theorem dX4_groupsReached_67 : decode cX4_groupsReached 67 = .ok (.goto (-63), 3) := by decide +kernel
theorem dX4_groupsReached_42 : decode cX4_groupsReached 42 = .ok (.aload 4, 2) := by decide +kernel
theorem dX4_groupsReached_44 : decode cX4_groupsReached 44 = .ok (.getfield 232, 3) := by decide +kernel
theorem dX4_groupsReached_47 : decode cX4_groupsReached 47 = .ok (.iload_n 1, 1) := by decide +kernel
theorem dX4_groupsReached_48 : decode cX4_groupsReached 48 = .ok (.if_icmp .ne 16, 3) := by decide +kernel
theorem dX4_groupsReached_51 : decode cX4_groupsReached 51 = .ok (.iload_n 2, 1) := by decide +kernel
theorem dX4_groupsReached_52 : decode cX4_groupsReached 52 = .ok (.aload_n 0, 1) := by decide +kernel
theorem dX4_groupsReached_53 : decode cX4_groupsReached 53 = .ok (.aload 4, 2) := by decide +kernel
theorem dX4_groupsReached_55 : decode cX4_groupsReached 55 = .ok (.getfield 235, 3) := by decide +kernel
theorem dX4_groupsReached_58 : decode cX4_groupsReached 58 = .ok (.iload_n 1, 1) := by decide +kernel
theorem dX4_groupsReached_62 : decode cX4_groupsReached 62 = .ok (.ior, 1) := by decide +kernel
theorem dX4_groupsReached_63 : decode cX4_groupsReached 63 = .ok (.istore_n 2, 1) := by decide +kernel
theorem dX4_groupsReached_59 : decode cX4_groupsReached 59 = .ok (.invokevirtual 310, 3) := by decide +kernel
theorem dX4_groupsReached_26 : decode cX4_groupsReached 26 = .ok (.invokevirtual 124, 3) := by decide +kernel
theorem dX4_groupsReached_12 : decode cX4_groupsReached 12 = .ok (.invokevirtual 30, 3) := by decide +kernel
def v_X4_groupsReached (a0 : Nat) (p1 : Int32) (T : zT) (F : zF) (Post : Int32 → Prop) : Prop :=
  (∃ I1 : Nat → Int32 → Int32 → Prop, (∃ n3 : Nat, I1 n3 0 0) ∧ (∀ (n2 : Nat) (y4 : Int32) (y5 : Int32), I1 n2 y4 y5 → (T a0 = some (5, 4) ∧ ∃ x10 : Nat, F a0 2 = .ref x10 ∧ T x10 = some (4, 3) ∧ ∃ x13 : Nat, F x10 0 = .ref x13 ∧ T x13 = some (0, 3) ∧ (v_Jx4a65c_size_8abf5 x13 T F (fun (r15 : Int32) => ((r15 ≤ y5 → Post y4) ∧ (¬ r15 ≤ y5 → (v_Jx4a65c_get_915e3 x13 y5 T F (fun (r16 : Nat) => (T r16 = some (2, 12) ∧ ∃ x19 : Int32, F r16 10 = .int x19 ∧ ((x19 = 0 → (∃ n20 : Nat, n20 < n2 ∧ I1 n20 y4 (y5 + 1))) ∧ (¬ x19 = 0 → (∃ x22 : Int32, F r16 1 = .int x22 ∧ ((¬ x22 = p1 → (∃ n23 : Nat, n23 < n2 ∧ I1 n23 y4 (y5 + 1))) ∧ (x22 = p1 → (∃ x25 : Int32, F r16 2 = .int x25 ∧ (v_X4_groupsOf a0 x25 p1 T F (fun (r26 : Int32) => (∃ n27 : Nat, n27 < n2 ∧ I1 n27 (y4 ||| r26) (y5 + 1))))))))))))))))))))
set_option maxRecDepth 100000 in
set_option maxHeartbeats 4000000 in
theorem k_X4_groupsReached {l : Launch} {D : va_G} {cA : Nat → ClassId} {N0 zE : Nat} {a0 : Nat} {p1 : Int32} {T : zT} {F : zF} {Post : Int32 → Prop} (h : v_X4_groupsReached a0 p1 T F Post) : z_Mt l D cA N0 zE yX4_groupsReached cX4_groupsReached 5 (some .int) ({ frames := 3, cells := 0, slots := 0, locals := 64 } : Room) [.ref a0, .int p1] T F (fun v T' F' => ∃ r : Int32, v = some (.int r) ∧ T = T' ∧ F = F' ∧ Post r) := by
  unfold v_X4_groupsReached at h
  refine z_bodyT (by decide) (Nat.le_of_ble_eq_true rfl) ?_
  intro p e s m args below meth c C hnm
  have C : z_C p l s m args meth c RX4 cX4_groupsReached 5 (some .int) D cA N0 zE := C
  show z_w p l e ({ frames := 3, cells := 0, slots := 0, locals := 64 } : Room) s m args below meth c D cA N0 5 0 0 (MQ below (z_Qc D cA N0 (fun v T' F' => ∃ r : Int32, v = some (.int r) ∧ T = T' ∧ F = F' ∧ Post r)) args s 0 0 (fun q => N0 ≤ q)) 0 [(0, .ref a0), (1, .int p1)] [] T F
  refine zr_iconst C 0 dX4_groupsReached_0 (by decide) ?_
  refine zr_istore_n C [(2, .int 0), (0, .ref a0), (1, .int p1)] dX4_groupsReached_1 rfl (by decide) rfl ?_
  refine zr_iconst C 0 dX4_groupsReached_2 (by decide) ?_
  refine zr_istore_n C [(3, .int 0), (2, .int 0), (0, .ref a0), (1, .int p1)] dX4_groupsReached_3 rfl (by decide) rfl ?_
  obtain ⟨I1, ⟨n3, h038⟩, hI37⟩ := h
  have ky39 : ∀ (n2 : Nat) (y4 : Int32) (y5 : Int32), I1 n2 y4 y5 → z_w p l e ({ frames := 3, cells := 0, slots := 0, locals := 64 } : Room) s m args below meth c D cA N0 5 0 0 (MQ below (z_Qc D cA N0 (fun v T' F' => ∃ r : Int32, v = some (.int r) ∧ T = T' ∧ F = F' ∧ Post r)) args s 0 0 (fun q => N0 ≤ q)) 4 [(0, .ref a0), (1, .int p1), (2, .int y4), (3, .int y5)] [] T F := by
    intro n2
    induction n2 using Nat.strongRecOn with
    | _ n2 ih6 =>
      intro y4 y5 hin
      have h := hI37 n2 y4 y5 hin
      refine zr_iload_n C 3 dX4_groupsReached_4 rfl rfl ?_
      refine zr_aload_n C 0 dX4_groupsReached_5 rfl rfl ?_
      obtain ⟨hT8, x10, hv9, h⟩ := h
      refine zr_get C fl_X4_23 hT8 hv9 dX4_groupsReached_6 ?_
      obtain ⟨hT11, x13, hv12, h⟩ := h
      refine zr_get C fl_X4_179 hT11 hv12 dX4_groupsReached_9 ?_
      obtain ⟨hT14, h⟩ := h
      refine zr_callV (As := []) (r := (RJx4a65c, TJx4a65c, 3)) C (k_Jx4a65c_size_8abf5 h) ok_X4_30 zq_112 zq_113 hT14 (by decide) rfl rfl ⟨by decide, (Nat.le_of_ble_eq_true rfl)⟩ ⟨(Nat.le_of_ble_eq_true rfl), (Nat.le_of_ble_eq_true rfl)⟩ (Nat.le_of_ble_eq_true rfl) dX4_groupsReached_12 (fun v34 U35 G36 hq => ?_)
      clear h
      · obtain ⟨r15, rfl, rfl, rfl, h⟩ := hq
        obtain ⟨h1, h2⟩ := h
        refine zr_icmp_ge C 70 dX4_groupsReached_15 (by decide) (fun hc => ?_) (fun hc => ?_)
        · have h := h1 hc
          clear h1 h2
          refine zr_iload_n C 2 dX4_groupsReached_70 rfl rfl ?_
          exact zr_iret C rfl ⟨_, rfl, rfl, rfl, h⟩ (Nat.le_of_ble_eq_true rfl) (Nat.le_of_ble_eq_true rfl) dX4_groupsReached_71
        · have h := h2 hc
          clear h1 h2
          refine zr_aload_n C 0 dX4_groupsReached_18 rfl rfl ?_
          refine zr_get C fl_X4_23 hT8 hv9 dX4_groupsReached_19 ?_
          refine zr_get C fl_X4_179 hT11 hv12 dX4_groupsReached_22 ?_
          refine zr_iload_n C 3 dX4_groupsReached_25 rfl rfl ?_
          refine zr_callV (As := [.int y5]) (r := (RJx4a65c, TJx4a65c, 3)) C (k_Jx4a65c_get_915e3 h) ok_X4_124 zq_290 zq_291 hT14 (by decide) rfl rfl ⟨by decide, (Nat.le_of_ble_eq_true rfl)⟩ ⟨(Nat.le_of_ble_eq_true rfl), (Nat.le_of_ble_eq_true rfl)⟩ (Nat.le_of_ble_eq_true rfl) dX4_groupsReached_26 (fun v31 U32 G33 hq => ?_)
          clear h
          · obtain ⟨r16, rfl, rfl, rfl, h⟩ := hq
            obtain ⟨hT17, h⟩ := h
            refine zr_castS (r := (RX1, TX1, 12)) C hT17 (by decide) rfl zq_386 dX4_groupsReached_29 ?_
            refine zr_astore C [(4, .ref r16), (0, .ref a0), (1, .int p1), (2, .int y4), (3, .int y5)] dX4_groupsReached_32 (by decide) rfl ?_
            refine zr_aload C 0 dX4_groupsReached_34 rfl ?_
            obtain ⟨x19, hv18, h⟩ := h
            refine zr_get C fl_X4_253 hT17 hv18 dX4_groupsReached_36 ?_
            obtain ⟨h1, h2⟩ := h
            refine zr_if_eq C 64 dX4_groupsReached_39 (by decide) (fun hc => ?_) (fun hc => ?_)
            · have h := h1 hc
              clear h1 h2
              refine zr_iinc C [(3, .int (y5 + 1)), (4, .ref r16), (0, .ref a0), (1, .int p1), (2, .int y4)] 4 dX4_groupsReached_64 rfl rfl (by decide) rfl ?_
              refine zr_goto C 4 dX4_groupsReached_67 (by decide) ?_
              obtain ⟨n20, hlt, h⟩ := h
              exact zr_sub [2, 3, 4, 0] rfl (ih6 n20 hlt y4 (y5 + 1) h)
            · have h := h2 hc
              clear h1 h2
              refine zr_aload C 0 dX4_groupsReached_42 rfl ?_
              obtain ⟨x22, hv21, h⟩ := h
              refine zr_get C fl_X4_232 hT17 hv21 dX4_groupsReached_44 ?_
              refine zr_iload_n C 2 dX4_groupsReached_47 rfl rfl ?_
              obtain ⟨h1, h2⟩ := h
              refine zr_icmp_ne C 64 dX4_groupsReached_48 (by decide) (fun hc => ?_) (fun hc => ?_)
              · have h := h1 hc
                clear h1 h2
                refine zr_iinc C [(3, .int (y5 + 1)), (4, .ref r16), (0, .ref a0), (1, .int p1), (2, .int y4)] 4 dX4_groupsReached_64 rfl rfl (by decide) rfl ?_
                refine zr_goto C 4 dX4_groupsReached_67 (by decide) ?_
                obtain ⟨n23, hlt, h⟩ := h
                exact zr_sub [2, 3, 4, 0] rfl (ih6 n23 hlt y4 (y5 + 1) h)
              · have h := h2 hc
                clear h1 h2
                refine zr_iload_n C 3 dX4_groupsReached_51 rfl rfl ?_
                refine zr_aload_n C 1 dX4_groupsReached_52 rfl rfl ?_
                refine zr_aload C 0 dX4_groupsReached_53 rfl ?_
                obtain ⟨x25, hv24, h⟩ := h
                refine zr_get C fl_X4_235 hT17 hv24 dX4_groupsReached_55 ?_
                refine zr_iload_n C 2 dX4_groupsReached_58 rfl rfl ?_
                refine zr_callV (As := [.int x25, .int p1]) (r := (RX4, TX4, 4)) C (k_X4_groupsOf h) ok_X4_310 zq_538 zq_11 hT8 (by decide) rfl rfl ⟨by decide, (Nat.le_of_ble_eq_true rfl)⟩ ⟨(Nat.le_of_ble_eq_true rfl), (Nat.le_of_ble_eq_true rfl)⟩ (Nat.le_of_ble_eq_true rfl) dX4_groupsReached_59 (fun v28 U29 G30 hq => ?_)
                clear h
                · obtain ⟨r26, rfl, rfl, rfl, h⟩ := hq
                  refine zr_ior C dX4_groupsReached_62 ?_
                  refine zr_istore_n C [(2, .int (y4 ||| r26)), (4, .ref r16), (0, .ref a0), (1, .int p1), (3, .int y5)] dX4_groupsReached_63 rfl (by decide) rfl ?_
                  refine zr_iinc C [(3, .int (y5 + 1)), (2, .int (y4 ||| r26)), (4, .ref r16), (0, .ref a0), (1, .int p1)] 4 dX4_groupsReached_64 rfl rfl (by decide) rfl ?_
                  refine zr_goto C 4 dX4_groupsReached_67 (by decide) ?_
                  obtain ⟨n27, hlt, h⟩ := h
                  exact zr_sub [3, 4, 1, 0] rfl (ih6 n27 hlt (y4 ||| r26) (y5 + 1) h)
  exact zr_sub [2, 3, 1, 0] rfl (ky39 n3 0 0 h038)
theorem dX4_reach_0 : decode cX4_reach 0 = .ok (.iload_n 1, 1) := by decide +kernel
theorem dX4_reach_4 : decode cX4_reach 4 = .ok (.aload_n 0, 1) := by decide +kernel
theorem dX4_reach_5 : decode cX4_reach 5 = .ok (.iload_n 1, 1) := by decide +kernel
theorem dX4_reach_12 : decode cX4_reach 12 = .ok (.ireturn, 1) := by decide +kernel
theorem dX4_reach_9 : decode cX4_reach 9 = .ok (.invokestatic 289, 3) := by decide +kernel
theorem dX4_reach_6 : decode cX4_reach 6 = .ok (.invokevirtual 286, 3) := by decide +kernel
theorem dX4_reach_1 : decode cX4_reach 1 = .ok (.invokestatic 101, 3) := by decide +kernel
def v_X4_reach (a0 : Nat) (p1 : Int32) (T : zT) (F : zF) (Post : Int32 → Prop) (PX : String → Prop) : Prop :=
  (v_X4_needLand p1 T F (T a0 = some (5, 4) ∧ (v_X4_groupsReached a0 p1 T F (fun (r2 : Int32) => (v_J6_bitCount_0f7a4 r2 T F (fun (r3 : Int32) => Post r3))))) (fun (E9 : String) => PX E9))
set_option maxRecDepth 100000 in
set_option maxHeartbeats 4000000 in
theorem k_X4_reach {l : Launch} {D : va_G} {cA : Nat → ClassId} {N0 zE : Nat} {a0 : Nat} {p1 : Int32} {T : zT} {F : zF} {Post : Int32 → Prop} {PX : String → Prop} (h : v_X4_reach a0 p1 T F Post PX) : z_Met l D cA N0 zE yX4_reach cX4_reach 2 (some .int) ({ frames := 7, cells := 1, slots := 6, locals := 110 } : Room) [.ref a0, .int p1] T F (fun v T' F' => ∃ r : Int32, v = some (.int r) ∧ T = T' ∧ F = F' ∧ Post r) (fun E T' F' => T = T' ∧ F = F' ∧ PX E) := by
  unfold v_X4_reach at h
  refine z_body (by decide) (Nat.le_of_ble_eq_true rfl) ?_
  intro p e s m args below meth c C hxt hnm
  have C : z_C p l s m args meth c RX4 cX4_reach 2 (some .int) D cA N0 zE := C
  show z_w p l e ({ frames := 7, cells := 1, slots := 6, locals := 110 } : Room) s m args below meth c D cA N0 2 0 0 (vx_MQ below (z_Qc D cA N0 (fun v T' F' => ∃ r : Int32, v = some (.int r) ∧ T = T' ∧ F = F' ∧ Post r)) (z_XC D cA N0 (fun E T' F' => T = T' ∧ F = F' ∧ PX E)) args s 1 6 (fun q => N0 ≤ q)) 0 [(0, .ref a0), (1, .int p1)] [] T F
  refine zr_iload_n C 1 dX4_reach_0 rfl rfl ?_
  refine zr_callSX (As := [.int p1]) C (k_X4_needLand h) ok_X4_101 zq_477 rfl ⟨by decide, (Nat.le_of_ble_eq_true rfl)⟩ ⟨(Nat.le_of_ble_eq_true rfl), (Nat.le_of_ble_eq_true rfl)⟩ (Nat.le_of_ble_eq_true rfl) dX4_reach_1 (fun E9 T9 F9 hq => by obtain ⟨rfl, rfl, hq⟩ := hq; exact zr_out C (fun x hx => (hxt x hx).elim) ⟨rfl, rfl, hq⟩ (Nat.le_of_ble_eq_true rfl) (Nat.le_of_ble_eq_true rfl)) (fun v10 U11 G12 hq => ?_)
  clear h
  · obtain ⟨rfl, rfl, rfl, h⟩ := hq
    refine zr_aload_n C 0 dX4_reach_4 rfl rfl ?_
    refine zr_iload_n C 1 dX4_reach_5 rfl rfl ?_
    obtain ⟨hT1, h⟩ := h
    refine zr_callV (As := [.int p1]) (r := (RX4, TX4, 4)) C (k_X4_groupsReached h) ok_X4_286 zq_534 zq_10 hT1 (by decide) rfl rfl ⟨by decide, (Nat.le_of_ble_eq_true rfl)⟩ ⟨(Nat.le_of_ble_eq_true rfl), (Nat.le_of_ble_eq_true rfl)⟩ (Nat.le_of_ble_eq_true rfl) dX4_reach_6 (fun v7 U8 G9 hq => ?_)
    clear h
    · obtain ⟨r2, rfl, rfl, rfl, h⟩ := hq
      refine zr_callS (As := [.int r2]) C (k_J6_bitCount_0f7a4 h) ok_X4_289 zq_544 rfl ⟨by decide, (Nat.le_of_ble_eq_true rfl)⟩ ⟨(Nat.le_of_ble_eq_true rfl), (Nat.le_of_ble_eq_true rfl)⟩ (Nat.le_of_ble_eq_true rfl) dX4_reach_9 (fun v4 U5 G6 hq => ?_)
      clear h
      · obtain ⟨r3, rfl, rfl, rfl, h⟩ := hq
        exact zr_X (zr_iret C rfl ⟨_, rfl, rfl, rfl, h⟩ (Nat.le_of_ble_eq_true rfl) (Nat.le_of_ble_eq_true rfl) dX4_reach_12)
set_option maxRecDepth 100000 in
set_option maxHeartbeats 4000000 in
theorem k_X4_reach0 {l : Launch} {D : va_G} {cA : Nat → ClassId} {N0 zE : Nat} {a0 : Nat} {p1 : Int32} {T : zT} {F : zF} {Post : Int32 → Prop} (h : v_X4_reach a0 p1 T F Post (fun _ => False)) : z_Mt l D cA N0 zE yX4_reach cX4_reach 2 (some .int) ({ frames := 4, cells := 0, slots := 0, locals := 88 } : Room) [.ref a0, .int p1] T F (fun v T' F' => ∃ r : Int32, v = some (.int r) ∧ T = T' ∧ F = F' ∧ Post r) := by
  unfold v_X4_reach at h
  refine z_bodyT (by decide) (Nat.le_of_ble_eq_true rfl) ?_
  intro p e s m args below meth c C hnm
  have C : z_C p l s m args meth c RX4 cX4_reach 2 (some .int) D cA N0 zE := C
  show z_w p l e ({ frames := 4, cells := 0, slots := 0, locals := 88 } : Room) s m args below meth c D cA N0 2 0 0 (MQ below (z_Qc D cA N0 (fun v T' F' => ∃ r : Int32, v = some (.int r) ∧ T = T' ∧ F = F' ∧ Post r)) args s 0 0 (fun q => N0 ≤ q)) 0 [(0, .ref a0), (1, .int p1)] [] T F
  refine zr_iload_n C 1 dX4_reach_0 rfl rfl ?_
  refine zr_callS (As := [.int p1]) C (k_X4_needLand0 h) ok_X4_101 zq_477 rfl ⟨by decide, (Nat.le_of_ble_eq_true rfl)⟩ ⟨(Nat.le_of_ble_eq_true rfl), (Nat.le_of_ble_eq_true rfl)⟩ (Nat.le_of_ble_eq_true rfl) dX4_reach_1 (fun v10 U11 G12 hq => ?_)
  clear h
  · obtain ⟨rfl, rfl, rfl, h⟩ := hq
    refine zr_aload_n C 0 dX4_reach_4 rfl rfl ?_
    refine zr_iload_n C 1 dX4_reach_5 rfl rfl ?_
    obtain ⟨hT1, h⟩ := h
    refine zr_callV (As := [.int p1]) (r := (RX4, TX4, 4)) C (k_X4_groupsReached h) ok_X4_286 zq_534 zq_10 hT1 (by decide) rfl rfl ⟨by decide, (Nat.le_of_ble_eq_true rfl)⟩ ⟨(Nat.le_of_ble_eq_true rfl), (Nat.le_of_ble_eq_true rfl)⟩ (Nat.le_of_ble_eq_true rfl) dX4_reach_6 (fun v7 U8 G9 hq => ?_)
    clear h
    · obtain ⟨r2, rfl, rfl, rfl, h⟩ := hq
      refine zr_callS (As := [.int r2]) C (k_J6_bitCount_0f7a4 h) ok_X4_289 zq_544 rfl ⟨by decide, (Nat.le_of_ble_eq_true rfl)⟩ ⟨(Nat.le_of_ble_eq_true rfl), (Nat.le_of_ble_eq_true rfl)⟩ (Nat.le_of_ble_eq_true rfl) dX4_reach_9 (fun v4 U5 G6 hq => ?_)
      clear h
      · obtain ⟨r3, rfl, rfl, rfl, h⟩ := hq
        exact zr_iret C rfl ⟨_, rfl, rfl, rfl, h⟩ (Nat.le_of_ble_eq_true rfl) (Nat.le_of_ble_eq_true rfl) dX4_reach_12
theorem dX4_price_0 : decode cX4_price 0 = .ok (.aload_n 0, 1) := by decide +kernel
theorem dX4_price_1 : decode cX4_price 1 = .ok (.iload_n 1, 1) := by decide +kernel
theorem dX4_price_2 : decode cX4_price 2 = .ok (.iload_n 2, 1) := by decide +kernel
theorem dX4_price_3 : decode cX4_price 3 = .ok (.iload_n 3, 1) := by decide +kernel
theorem dX4_price_7 : decode cX4_price 7 = .ok (.aload_n 0, 1) := by decide +kernel
theorem dX4_price_8 : decode cX4_price 8 = .ok (.getfield 23, 3) := by decide +kernel
theorem dX4_price_11 : decode cX4_price 11 = .ok (.iload_n 1, 1) := by decide +kernel
theorem dX4_price_12 : decode cX4_price 12 = .ok (.iload_n 2, 1) := by decide +kernel
theorem dX4_price_13 : decode cX4_price 13 = .ok (.iload_n 3, 1) := by decide +kernel
theorem dX4_price_17 : decode cX4_price 17 = .ok (.ireturn, 1) := by decide +kernel
theorem dX4_price_14 : decode cX4_price 14 = .ok (.invokevirtual 192, 3) := by decide +kernel
theorem dX4_price_4 : decode cX4_price 4 = .ok (.invokevirtual 176, 3) := by decide +kernel
def v_X4_price (a0 : Nat) (p1 : Int32) (p2 : Int32) (p3 : Int32) (T : zT) (F : zF) (Post : Int32 → Prop) (PX : String → Prop) : Prop :=
  (T a0 = some (5, 4) ∧ (v_X4_needOffer a0 p1 p2 p3 T F (∃ x3 : Nat, F a0 2 = .ref x3 ∧ T x3 = some (4, 3) ∧ (v_X3_priceToday x3 p1 p2 p3 T F (fun (r5 : Int32) => Post r5))) (fun (E9 : String) => PX E9)))
set_option maxRecDepth 100000 in
set_option maxHeartbeats 4000000 in
theorem k_X4_price {l : Launch} {D : va_G} {cA : Nat → ClassId} {N0 zE : Nat} {a0 : Nat} {p1 : Int32} {p2 : Int32} {p3 : Int32} {T : zT} {F : zF} {Post : Int32 → Prop} {PX : String → Prop} (h : v_X4_price a0 p1 p2 p3 T F Post PX) : z_Met l D cA N0 zE yX4_price cX4_price 4 (some .int) ({ frames := 7, cells := 1, slots := 6, locals := 113 } : Room) [.ref a0, .int p1, .int p2, .int p3] T F (fun v T' F' => ∃ r : Int32, v = some (.int r) ∧ T = T' ∧ F = F' ∧ Post r) (fun E T' F' => T = T' ∧ F = F' ∧ PX E) := by
  unfold v_X4_price at h
  refine z_body (by decide) (Nat.le_of_ble_eq_true rfl) ?_
  intro p e s m args below meth c C hxt hnm
  have C : z_C p l s m args meth c RX4 cX4_price 4 (some .int) D cA N0 zE := C
  show z_w p l e ({ frames := 7, cells := 1, slots := 6, locals := 113 } : Room) s m args below meth c D cA N0 4 0 0 (vx_MQ below (z_Qc D cA N0 (fun v T' F' => ∃ r : Int32, v = some (.int r) ∧ T = T' ∧ F = F' ∧ Post r)) (z_XC D cA N0 (fun E T' F' => T = T' ∧ F = F' ∧ PX E)) args s 1 6 (fun q => N0 ≤ q)) 0 [(0, .ref a0), (1, .int p1), (2, .int p2), (3, .int p3)] [] T F
  refine zr_aload_n C 0 dX4_price_0 rfl rfl ?_
  refine zr_iload_n C 1 dX4_price_1 rfl rfl ?_
  refine zr_iload_n C 2 dX4_price_2 rfl rfl ?_
  refine zr_iload_n C 3 dX4_price_3 rfl rfl ?_
  obtain ⟨hT1, h⟩ := h
  refine zr_callVX (As := [.int p1, .int p2, .int p3]) (r := (RX4, TX4, 4)) C (k_X4_needOffer h) ok_X4_176 zq_720 zq_14 hT1 (by decide) rfl rfl ⟨by decide, (Nat.le_of_ble_eq_true rfl)⟩ ⟨(Nat.le_of_ble_eq_true rfl), (Nat.le_of_ble_eq_true rfl)⟩ (Nat.le_of_ble_eq_true rfl) dX4_price_4 (fun E9 T9 F9 hq => by obtain ⟨rfl, rfl, hq⟩ := hq; exact zr_out C (fun x hx => (hxt x hx).elim) ⟨rfl, rfl, hq⟩ (Nat.le_of_ble_eq_true rfl) (Nat.le_of_ble_eq_true rfl)) (fun v9 U10 G11 hq => ?_)
  clear h
  · obtain ⟨rfl, rfl, rfl, h⟩ := hq
    refine zr_aload_n C 0 dX4_price_7 rfl rfl ?_
    obtain ⟨x3, hv2, h⟩ := h
    refine zr_get C fl_X4_23 hT1 hv2 dX4_price_8 ?_
    refine zr_iload_n C 1 dX4_price_11 rfl rfl ?_
    refine zr_iload_n C 2 dX4_price_12 rfl rfl ?_
    refine zr_iload_n C 3 dX4_price_13 rfl rfl ?_
    obtain ⟨hT4, h⟩ := h
    refine zr_callV (As := [.int p1, .int p2, .int p3]) (r := (RX3, TX3, 3)) C (k_X3_priceToday h) ok_X4_192 zq_726 zq_727 hT4 (by decide) rfl rfl ⟨by decide, (Nat.le_of_ble_eq_true rfl)⟩ ⟨(Nat.le_of_ble_eq_true rfl), (Nat.le_of_ble_eq_true rfl)⟩ (Nat.le_of_ble_eq_true rfl) dX4_price_14 (fun v6 U7 G8 hq => ?_)
    clear h
    · obtain ⟨r5, rfl, rfl, rfl, h⟩ := hq
      exact zr_X (zr_iret C rfl ⟨_, rfl, rfl, rfl, h⟩ (Nat.le_of_ble_eq_true rfl) (Nat.le_of_ble_eq_true rfl) dX4_price_17)
set_option maxRecDepth 100000 in
set_option maxHeartbeats 4000000 in
theorem k_X4_price0 {l : Launch} {D : va_G} {cA : Nat → ClassId} {N0 zE : Nat} {a0 : Nat} {p1 : Int32} {p2 : Int32} {p3 : Int32} {T : zT} {F : zF} {Post : Int32 → Prop} (h : v_X4_price a0 p1 p2 p3 T F Post (fun _ => False)) : z_Mt l D cA N0 zE yX4_price cX4_price 4 (some .int) ({ frames := 2, cells := 0, slots := 0, locals := 46 } : Room) [.ref a0, .int p1, .int p2, .int p3] T F (fun v T' F' => ∃ r : Int32, v = some (.int r) ∧ T = T' ∧ F = F' ∧ Post r) := by
  unfold v_X4_price at h
  refine z_bodyT (by decide) (Nat.le_of_ble_eq_true rfl) ?_
  intro p e s m args below meth c C hnm
  have C : z_C p l s m args meth c RX4 cX4_price 4 (some .int) D cA N0 zE := C
  show z_w p l e ({ frames := 2, cells := 0, slots := 0, locals := 46 } : Room) s m args below meth c D cA N0 4 0 0 (MQ below (z_Qc D cA N0 (fun v T' F' => ∃ r : Int32, v = some (.int r) ∧ T = T' ∧ F = F' ∧ Post r)) args s 0 0 (fun q => N0 ≤ q)) 0 [(0, .ref a0), (1, .int p1), (2, .int p2), (3, .int p3)] [] T F
  refine zr_aload_n C 0 dX4_price_0 rfl rfl ?_
  refine zr_iload_n C 1 dX4_price_1 rfl rfl ?_
  refine zr_iload_n C 2 dX4_price_2 rfl rfl ?_
  refine zr_iload_n C 3 dX4_price_3 rfl rfl ?_
  obtain ⟨hT1, h⟩ := h
  refine zr_callV (As := [.int p1, .int p2, .int p3]) (r := (RX4, TX4, 4)) C (k_X4_needOffer0 h) ok_X4_176 zq_720 zq_14 hT1 (by decide) rfl rfl ⟨by decide, (Nat.le_of_ble_eq_true rfl)⟩ ⟨(Nat.le_of_ble_eq_true rfl), (Nat.le_of_ble_eq_true rfl)⟩ (Nat.le_of_ble_eq_true rfl) dX4_price_4 (fun v9 U10 G11 hq => ?_)
  clear h
  · obtain ⟨rfl, rfl, rfl, h⟩ := hq
    refine zr_aload_n C 0 dX4_price_7 rfl rfl ?_
    obtain ⟨x3, hv2, h⟩ := h
    refine zr_get C fl_X4_23 hT1 hv2 dX4_price_8 ?_
    refine zr_iload_n C 1 dX4_price_11 rfl rfl ?_
    refine zr_iload_n C 2 dX4_price_12 rfl rfl ?_
    refine zr_iload_n C 3 dX4_price_13 rfl rfl ?_
    obtain ⟨hT4, h⟩ := h
    refine zr_callV (As := [.int p1, .int p2, .int p3]) (r := (RX3, TX3, 3)) C (k_X3_priceToday h) ok_X4_192 zq_726 zq_727 hT4 (by decide) rfl rfl ⟨by decide, (Nat.le_of_ble_eq_true rfl)⟩ ⟨(Nat.le_of_ble_eq_true rfl), (Nat.le_of_ble_eq_true rfl)⟩ (Nat.le_of_ble_eq_true rfl) dX4_price_14 (fun v6 U7 G8 hq => ?_)
    clear h
    · obtain ⟨r5, rfl, rfl, rfl, h⟩ := hq
      exact zr_iret C rfl ⟨_, rfl, rfl, rfl, h⟩ (Nat.le_of_ble_eq_true rfl) (Nat.le_of_ble_eq_true rfl) dX4_price_17
theorem dX4_swapFor_0 : decode cX4_swapFor 0 = .ok (.aload_n 0, 1) := by decide +kernel
theorem dX4_swapFor_1 : decode cX4_swapFor 1 = .ok (.getfield 23, 3) := by decide +kernel
theorem dX4_swapFor_4 : decode cX4_swapFor 4 = .ok (.aload_n 0, 1) := by decide +kernel
theorem dX4_swapFor_5 : decode cX4_swapFor 5 = .ok (.iload_n 1, 1) := by decide +kernel
theorem dX4_swapFor_12 : decode cX4_swapFor 12 = .ok (.astore_n 2, 1) := by decide +kernel
theorem dX4_swapFor_13 : decode cX4_swapFor 13 = .ok (.aload_n 2, 1) := by decide +kernel
theorem dX4_swapFor_14 : decode cX4_swapFor 14 = .ok (.ifnonnull 7, 3) := by decide +kernel
theorem dX4_swapFor_17 : decode cX4_swapFor 17 = .ok (.iconst (-1), 1) := by decide +kernel
theorem dX4_swapFor_18 : decode cX4_swapFor 18 = .ok (.goto 7, 3) := by decide +kernel
theorem dX4_swapFor_25 : decode cX4_swapFor 25 = .ok (.ireturn, 1) := by decide +kernel
theorem dX4_swapFor_21 : decode cX4_swapFor 21 = .ok (.aload_n 2, 1) := by decide +kernel
theorem dX4_swapFor_22 : decode cX4_swapFor 22 = .ok (.getfield 128, 3) := by decide +kernel
theorem dX4_swapFor_9 : decode cX4_swapFor 9 = .ok (.invokevirtual 294, 3) := by decide +kernel
theorem dX4_swapFor_6 : decode cX4_swapFor 6 = .ok (.invokevirtual 199, 3) := by decide +kernel
def v_X4_swapFor (a0 : Nat) (p1 : Int32) (T : zT) (F : zF) (Post : Int32 → Prop) (PX : String → Prop) : Prop :=
  (T a0 = some (5, 4) ∧ ∃ x3 : Nat, F a0 2 = .ref x3 ∧ (v_X4_bookingAt a0 p1 T F (fun (r4 : Nat) => (T x3 = some (4, 3) ∧ (v_X3_firstSwap x3 r4 T F (fun (r6 : Option Nat) => ((r6 = none → Post ((-1))) ∧ (∀ y7 : Nat, r6 = some y7 → (T y7 = some (3, 5) ∧ ∃ x10 : Int32, F y7 0 = .int x10 ∧ Post x10))))))) (fun (E9 : String) => PX E9)))
set_option maxRecDepth 100000 in
set_option maxHeartbeats 4000000 in
theorem k_X4_swapFor {l : Launch} {D : va_G} {cA : Nat → ClassId} {N0 zE : Nat} {a0 : Nat} {p1 : Int32} {T : zT} {F : zF} {Post : Int32 → Prop} {PX : String → Prop} (h : v_X4_swapFor a0 p1 T F Post PX) : z_Met l D cA N0 zE yX4_swapFor cX4_swapFor 3 (some .int) ({ frames := 7, cells := 1, slots := 6, locals := 133 } : Room) [.ref a0, .int p1] T F (fun v T' F' => ∃ r : Int32, v = some (.int r) ∧ T = T' ∧ F = F' ∧ Post r) (fun E T' F' => T = T' ∧ F = F' ∧ PX E) := by
  unfold v_X4_swapFor at h
  refine z_body (by decide) (Nat.le_of_ble_eq_true rfl) ?_
  intro p e s m args below meth c C hxt hnm
  have C : z_C p l s m args meth c RX4 cX4_swapFor 3 (some .int) D cA N0 zE := C
  show z_w p l e ({ frames := 7, cells := 1, slots := 6, locals := 133 } : Room) s m args below meth c D cA N0 3 0 0 (vx_MQ below (z_Qc D cA N0 (fun v T' F' => ∃ r : Int32, v = some (.int r) ∧ T = T' ∧ F = F' ∧ Post r)) (z_XC D cA N0 (fun E T' F' => T = T' ∧ F = F' ∧ PX E)) args s 1 6 (fun q => N0 ≤ q)) 0 [(0, .ref a0), (1, .int p1)] [] T F
  refine zr_aload_n C 0 dX4_swapFor_0 rfl rfl ?_
  obtain ⟨hT1, x3, hv2, h⟩ := h
  refine zr_get C fl_X4_23 hT1 hv2 dX4_swapFor_1 ?_
  refine zr_aload_n C 0 dX4_swapFor_4 rfl rfl ?_
  refine zr_iload_n C 1 dX4_swapFor_5 rfl rfl ?_
  refine zr_callVX (As := [.int p1]) (r := (RX4, TX4, 4)) C (k_X4_bookingAt h) ok_X4_199 zq_383 zq_5 hT1 (by decide) rfl rfl ⟨by decide, (Nat.le_of_ble_eq_true rfl)⟩ ⟨(Nat.le_of_ble_eq_true rfl), (Nat.le_of_ble_eq_true rfl)⟩ (Nat.le_of_ble_eq_true rfl) dX4_swapFor_6 (fun E9 T9 F9 hq => by obtain ⟨rfl, rfl, hq⟩ := hq; exact zr_out C (fun x hx => (hxt x hx).elim) ⟨rfl, rfl, hq⟩ (Nat.le_of_ble_eq_true rfl) (Nat.le_of_ble_eq_true rfl)) (fun v14 U15 G16 hq => ?_)
  clear h
  · obtain ⟨r4, rfl, rfl, rfl, h⟩ := hq
    obtain ⟨hT5, h⟩ := h
    refine zr_callV (As := [.ref r4]) (r := (RX3, TX3, 3)) C (k_X3_firstSwap h) ok_X4_294 zq_509 zq_510 hT5 (by decide) rfl rfl ⟨by decide, (Nat.le_of_ble_eq_true rfl)⟩ ⟨(Nat.le_of_ble_eq_true rfl), (Nat.le_of_ble_eq_true rfl)⟩ (Nat.le_of_ble_eq_true rfl) dX4_swapFor_9 (fun v11 U12 G13 hq => ?_)
    clear h
    · obtain ⟨r6, rfl, rfl, rfl, h⟩ := hq
      obtain ⟨ha, hb⟩ := h
      cases r6 with
      | none =>
        have h := ha rfl
        refine zr_astore_nN C [(2, .null), (0, .ref a0), (1, .int p1)] dX4_swapFor_12 rfl (by decide) rfl ?_
        refine zr_aload_nN C 0 dX4_swapFor_13 rfl rfl ?_
        refine zr_ifnonnullN C dX4_swapFor_14 ?_
        refine zr_iconst C (-1) dX4_swapFor_17 (by decide) ?_
        refine zr_goto C 25 dX4_swapFor_18 (by decide) ?_
        exact zr_X (zr_iret C rfl ⟨_, rfl, rfl, rfl, h⟩ (Nat.le_of_ble_eq_true rfl) (Nat.le_of_ble_eq_true rfl) dX4_swapFor_25)
      | some y7 =>
        have h := hb y7 rfl
        refine zr_astore_n C [(2, .ref y7), (0, .ref a0), (1, .int p1)] dX4_swapFor_12 rfl (by decide) rfl ?_
        refine zr_aload_n C 0 dX4_swapFor_13 rfl rfl ?_
        refine zr_ifnonnull C 21 dX4_swapFor_14 (by decide) ?_
        refine zr_aload_n C 0 dX4_swapFor_21 rfl rfl ?_
        obtain ⟨hT8, x10, hv9, h⟩ := h
        refine zr_get C fl_X4_128 hT8 hv9 dX4_swapFor_22 ?_
        exact zr_X (zr_iret C rfl ⟨_, rfl, rfl, rfl, h⟩ (Nat.le_of_ble_eq_true rfl) (Nat.le_of_ble_eq_true rfl) dX4_swapFor_25)
set_option maxRecDepth 100000 in
set_option maxHeartbeats 4000000 in
theorem k_X4_swapFor0 {l : Launch} {D : va_G} {cA : Nat → ClassId} {N0 zE : Nat} {a0 : Nat} {p1 : Int32} {T : zT} {F : zF} {Post : Int32 → Prop} (h : v_X4_swapFor a0 p1 T F Post (fun _ => False)) : z_Mt l D cA N0 zE yX4_swapFor cX4_swapFor 3 (some .int) ({ frames := 6, cells := 0, slots := 0, locals := 133 } : Room) [.ref a0, .int p1] T F (fun v T' F' => ∃ r : Int32, v = some (.int r) ∧ T = T' ∧ F = F' ∧ Post r) := by
  unfold v_X4_swapFor at h
  refine z_bodyT (by decide) (Nat.le_of_ble_eq_true rfl) ?_
  intro p e s m args below meth c C hnm
  have C : z_C p l s m args meth c RX4 cX4_swapFor 3 (some .int) D cA N0 zE := C
  show z_w p l e ({ frames := 6, cells := 0, slots := 0, locals := 133 } : Room) s m args below meth c D cA N0 3 0 0 (MQ below (z_Qc D cA N0 (fun v T' F' => ∃ r : Int32, v = some (.int r) ∧ T = T' ∧ F = F' ∧ Post r)) args s 0 0 (fun q => N0 ≤ q)) 0 [(0, .ref a0), (1, .int p1)] [] T F
  refine zr_aload_n C 0 dX4_swapFor_0 rfl rfl ?_
  obtain ⟨hT1, x3, hv2, h⟩ := h
  refine zr_get C fl_X4_23 hT1 hv2 dX4_swapFor_1 ?_
  refine zr_aload_n C 0 dX4_swapFor_4 rfl rfl ?_
  refine zr_iload_n C 1 dX4_swapFor_5 rfl rfl ?_
  refine zr_callV (As := [.int p1]) (r := (RX4, TX4, 4)) C (k_X4_bookingAt0 h) ok_X4_199 zq_383 zq_5 hT1 (by decide) rfl rfl ⟨by decide, (Nat.le_of_ble_eq_true rfl)⟩ ⟨(Nat.le_of_ble_eq_true rfl), (Nat.le_of_ble_eq_true rfl)⟩ (Nat.le_of_ble_eq_true rfl) dX4_swapFor_6 (fun v14 U15 G16 hq => ?_)
  clear h
  · obtain ⟨r4, rfl, rfl, rfl, h⟩ := hq
    obtain ⟨hT5, h⟩ := h
    refine zr_callV (As := [.ref r4]) (r := (RX3, TX3, 3)) C (k_X3_firstSwap h) ok_X4_294 zq_509 zq_510 hT5 (by decide) rfl rfl ⟨by decide, (Nat.le_of_ble_eq_true rfl)⟩ ⟨(Nat.le_of_ble_eq_true rfl), (Nat.le_of_ble_eq_true rfl)⟩ (Nat.le_of_ble_eq_true rfl) dX4_swapFor_9 (fun v11 U12 G13 hq => ?_)
    clear h
    · obtain ⟨r6, rfl, rfl, rfl, h⟩ := hq
      obtain ⟨ha, hb⟩ := h
      cases r6 with
      | none =>
        have h := ha rfl
        refine zr_astore_nN C [(2, .null), (0, .ref a0), (1, .int p1)] dX4_swapFor_12 rfl (by decide) rfl ?_
        refine zr_aload_nN C 0 dX4_swapFor_13 rfl rfl ?_
        refine zr_ifnonnullN C dX4_swapFor_14 ?_
        refine zr_iconst C (-1) dX4_swapFor_17 (by decide) ?_
        refine zr_goto C 25 dX4_swapFor_18 (by decide) ?_
        exact zr_iret C rfl ⟨_, rfl, rfl, rfl, h⟩ (Nat.le_of_ble_eq_true rfl) (Nat.le_of_ble_eq_true rfl) dX4_swapFor_25
      | some y7 =>
        have h := hb y7 rfl
        refine zr_astore_n C [(2, .ref y7), (0, .ref a0), (1, .int p1)] dX4_swapFor_12 rfl (by decide) rfl ?_
        refine zr_aload_n C 0 dX4_swapFor_13 rfl rfl ?_
        refine zr_ifnonnull C 21 dX4_swapFor_14 (by decide) ?_
        refine zr_aload_n C 0 dX4_swapFor_21 rfl rfl ?_
        obtain ⟨hT8, x10, hv9, h⟩ := h
        refine zr_get C fl_X4_128 hT8 hv9 dX4_swapFor_22 ?_
        exact zr_iret C rfl ⟨_, rfl, rfl, rfl, h⟩ (Nat.le_of_ble_eq_true rfl) (Nat.le_of_ble_eq_true rfl) dX4_swapFor_25
theorem dX4_offIn_0 : decode cX4_offIn 0 = .ok (.aload_n 0, 1) := by decide +kernel
theorem dX4_offIn_1 : decode cX4_offIn 1 = .ok (.iload_n 1, 1) := by decide +kernel
theorem dX4_offIn_5 : decode cX4_offIn 5 = .ok (.astore_n 2, 1) := by decide +kernel
theorem dX4_offIn_6 : decode cX4_offIn 6 = .ok (.iconst 0, 1) := by decide +kernel
theorem dX4_offIn_7 : decode cX4_offIn 7 = .ok (.istore_n 3, 1) := by decide +kernel
theorem dX4_offIn_8 : decode cX4_offIn 8 = .ok (.aload_n 2, 1) := by decide +kernel
theorem dX4_offIn_9 : decode cX4_offIn 9 = .ok (.getfield 238, 3) := by decide +kernel
theorem dX4_offIn_12 : decode cX4_offIn 12 = .ok (.aload_n 0, 1) := by decide +kernel
theorem dX4_offIn_13 : decode cX4_offIn 13 = .ok (.getfield 23, 3) := by decide +kernel
theorem dX4_offIn_16 : decode cX4_offIn 16 = .ok (.getfield 52, 3) := by decide +kernel
theorem dX4_offIn_19 : decode cX4_offIn 19 = .ok (.invokestatic 298, 3) := by decide +kernel
theorem dX4_offIn_22 : decode cX4_offIn 22 = .ok (.istore 4, 2) := by decide +kernel
theorem dX4_offIn_24 : decode cX4_offIn 24 = .ok (.iload 4, 2) := by decide +kernel
theorem dX4_offIn_26 : decode cX4_offIn 26 = .ok (.aload_n 2, 1) := by decide +kernel
theorem dX4_offIn_27 : decode cX4_offIn 27 = .ok (.getfield 241, 3) := by decide +kernel
theorem dX4_offIn_30 : decode cX4_offIn 30 = .ok (.if_icmp .gt 28, 3) := by decide +kernel
theorem dX4_offIn_58 : decode cX4_offIn 58 = .ok (.iload_n 3, 1) := by decide +kernel
theorem dX4_offIn_59 : decode cX4_offIn 59 = .ok (.ireturn, 1) := by decide +kernel
theorem dX4_offIn_33 : decode cX4_offIn 33 = .ok (.aload_n 2, 1) := by decide +kernel
theorem dX4_offIn_34 : decode cX4_offIn 34 = .ok (.getfield 224, 3) := by decide +kernel
theorem dX4_offIn_37 : decode cX4_offIn 37 = .ok (.aload_n 2, 1) := by decide +kernel
theorem dX4_offIn_38 : decode cX4_offIn 38 = .ok (.getfield 232, 3) := by decide +kernel
theorem dX4_offIn_41 : decode cX4_offIn 41 = .ok (.iload 4, 2) := by decide +kernel
theorem dX4_offIn_46 : decode cX4_offIn 46 = .ok (.ifCond .eq 6, 3) := by decide +kernel
theorem dX4_offIn_52 : decode cX4_offIn 52 = .ok (.iinc 4 1, 3) := by decide +kernel
theorem dX4_offIn_55 : decode cX4_offIn 55 = .ok (.goto (-31), 3) := by decide +kernel
theorem dX4_offIn_49 : decode cX4_offIn 49 = .ok (.iinc 3 1, 3) := by decide +kernel
theorem dX4_offIn_43 : decode cX4_offIn 43 = .ok (.invokevirtual 152, 3) := by decide +kernel
theorem dX4_offIn_2 : decode cX4_offIn 2 = .ok (.invokevirtual 199, 3) := by decide +kernel
def v_X4_offIn (a0 : Nat) (p1 : Int32) (T : zT) (F : zF) (Post : Int32 → Prop) (PX : String → Prop) : Prop :=
  (T a0 = some (5, 4) ∧ (v_X4_bookingAt a0 p1 T F (fun (r2 : Nat) => (T r2 = some (2, 12) ∧ ∃ x5 : Int32, F r2 3 = .int x5 ∧ ∃ x7 : Nat, F a0 2 = .ref x7 ∧ T x7 = some (4, 3) ∧ ∃ x10 : Int32, F x7 2 = .int x10 ∧ (∃ I11 : Nat → Int32 → Int32 → Prop, (∃ n13 : Nat, I11 n13 0 (if x5 < x10 then x10 else x5)) ∧ (∀ (n12 : Nat) (y14 : Int32) (y15 : Int32), I11 n12 y14 y15 → (∃ x19 : Int32, F r2 4 = .int x19 ∧ ((x19 < y15 → Post y14) ∧ (¬ x19 < y15 → (∃ x21 : Nat, F r2 0 = .ref x21 ∧ ∃ x23 : Int32, F r2 1 = .int x23 ∧ T x21 = some (3, 5) ∧ (v_X2_reasonOn x21 x23 y15 T F (fun (r25 : Int32) => ((r25 = 0 → (∃ n26 : Nat, n26 < n12 ∧ I11 n26 y14 (y15 + 1))) ∧ (¬ r25 = 0 → (∃ n27 : Nat, n27 < n12 ∧ I11 n27 (y14 + 1) (y15 + 1)))))))))))))) (fun (E9 : String) => PX E9)))
set_option maxRecDepth 100000 in
set_option maxHeartbeats 4000000 in
theorem k_X4_offIn {l : Launch} {D : va_G} {cA : Nat → ClassId} {N0 zE : Nat} {a0 : Nat} {p1 : Int32} {T : zT} {F : zF} {Post : Int32 → Prop} {PX : String → Prop} (h : v_X4_offIn a0 p1 T F Post PX) : z_Met l D cA N0 zE yX4_offIn cX4_offIn 5 (some .int) ({ frames := 7, cells := 1, slots := 6, locals := 111 } : Room) [.ref a0, .int p1] T F (fun v T' F' => ∃ r : Int32, v = some (.int r) ∧ T = T' ∧ F = F' ∧ Post r) (fun E T' F' => T = T' ∧ F = F' ∧ PX E) := by
  unfold v_X4_offIn at h
  refine z_body (by decide) (Nat.le_of_ble_eq_true rfl) ?_
  intro p e s m args below meth c C hxt hnm
  have C : z_C p l s m args meth c RX4 cX4_offIn 5 (some .int) D cA N0 zE := C
  show z_w p l e ({ frames := 7, cells := 1, slots := 6, locals := 111 } : Room) s m args below meth c D cA N0 5 0 0 (vx_MQ below (z_Qc D cA N0 (fun v T' F' => ∃ r : Int32, v = some (.int r) ∧ T = T' ∧ F = F' ∧ Post r)) (z_XC D cA N0 (fun E T' F' => T = T' ∧ F = F' ∧ PX E)) args s 1 6 (fun q => N0 ≤ q)) 0 [(0, .ref a0), (1, .int p1)] [] T F
  refine zr_aload_n C 0 dX4_offIn_0 rfl rfl ?_
  refine zr_iload_n C 1 dX4_offIn_1 rfl rfl ?_
  obtain ⟨hT1, h⟩ := h
  refine zr_callVX (As := [.int p1]) (r := (RX4, TX4, 4)) C (k_X4_bookingAt h) ok_X4_199 zq_383 zq_5 hT1 (by decide) rfl rfl ⟨by decide, (Nat.le_of_ble_eq_true rfl)⟩ ⟨(Nat.le_of_ble_eq_true rfl), (Nat.le_of_ble_eq_true rfl)⟩ (Nat.le_of_ble_eq_true rfl) dX4_offIn_2 (fun E9 T9 F9 hq => by obtain ⟨rfl, rfl, hq⟩ := hq; exact zr_out C (fun x hx => (hxt x hx).elim) ⟨rfl, rfl, hq⟩ (Nat.le_of_ble_eq_true rfl) (Nat.le_of_ble_eq_true rfl)) (fun v34 U35 G36 hq => ?_)
  clear h
  · obtain ⟨r2, rfl, rfl, rfl, h⟩ := hq
    refine zr_astore_n C [(2, .ref r2), (0, .ref a0), (1, .int p1)] dX4_offIn_5 rfl (by decide) rfl ?_
    refine zr_iconst C 0 dX4_offIn_6 (by decide) ?_
    refine zr_istore_n C [(3, .int 0), (2, .ref r2), (0, .ref a0), (1, .int p1)] dX4_offIn_7 rfl (by decide) rfl ?_
    refine zr_aload_n C 1 dX4_offIn_8 rfl rfl ?_
    obtain ⟨hT3, x5, hv4, h⟩ := h
    refine zr_get C fl_X4_238 hT3 hv4 dX4_offIn_9 ?_
    refine zr_aload_n C 2 dX4_offIn_12 rfl rfl ?_
    obtain ⟨x7, hv6, h⟩ := h
    refine zr_get C fl_X4_23 hT1 hv6 dX4_offIn_13 ?_
    obtain ⟨hT8, x10, hv9, h⟩ := h
    refine zr_get C fl_X4_52 hT8 hv9 dX4_offIn_16 ?_
    refine zr_max C zq_527 zq_229 zq_29 zq_230 (by decide) (Nat.le_of_ble_eq_true rfl) (Nat.le_of_ble_eq_true rfl) (Nat.le_of_ble_eq_true rfl) dX4_offIn_19 ?_
    refine zr_istore C [(4, .int (if x5 < x10 then x10 else x5)), (3, .int 0), (2, .ref r2), (0, .ref a0), (1, .int p1)] dX4_offIn_22 (by decide) rfl ?_
    obtain ⟨I11, ⟨n13, h032⟩, hI31⟩ := h
    have ky33 : ∀ (n12 : Nat) (y14 : Int32) (y15 : Int32), I11 n12 y14 y15 → z_w p l e ({ frames := 7, cells := 1, slots := 6, locals := 111 } : Room) s m args below meth c D cA N0 5 1 6 (vx_MQ below (z_Qc D cA N0 (fun v T' F' => ∃ r : Int32, v = some (.int r) ∧ T = T' ∧ F = F' ∧ Post r)) (z_XC D cA N0 (fun E T' F' => T = T' ∧ F = F' ∧ PX E)) args s 1 6 (fun q => N0 ≤ q)) 24 [(0, .ref a0), (1, .int p1), (2, .ref r2), (3, .int y14), (4, .int y15)] [] T F := by
      intro n12
      induction n12 using Nat.strongRecOn with
      | _ n12 ih16 =>
        intro y14 y15 hin
        have h := hI31 n12 y14 y15 hin
        refine zr_iload C 4 dX4_offIn_24 rfl ?_
        refine zr_aload_n C 2 dX4_offIn_26 rfl rfl ?_
        obtain ⟨x19, hv18, h⟩ := h
        refine zr_get C fl_X4_241 hT3 hv18 dX4_offIn_27 ?_
        obtain ⟨h1, h2⟩ := h
        refine zr_icmp_gt C 58 dX4_offIn_30 (by decide) (fun hc => ?_) (fun hc => ?_)
        · have h := h1 hc
          clear h1 h2
          refine zr_iload_n C 3 dX4_offIn_58 rfl rfl ?_
          exact zr_X (zr_iret C rfl ⟨_, rfl, rfl, rfl, h⟩ (Nat.le_of_ble_eq_true rfl) (Nat.le_of_ble_eq_true rfl) dX4_offIn_59)
        · have h := h2 hc
          clear h1 h2
          refine zr_aload_n C 2 dX4_offIn_33 rfl rfl ?_
          obtain ⟨x21, hv20, h⟩ := h
          refine zr_get C fl_X4_224 hT3 hv20 dX4_offIn_34 ?_
          refine zr_aload_n C 2 dX4_offIn_37 rfl rfl ?_
          obtain ⟨x23, hv22, h⟩ := h
          refine zr_get C fl_X4_232 hT3 hv22 dX4_offIn_38 ?_
          refine zr_iload C 4 dX4_offIn_41 rfl ?_
          obtain ⟨hT24, h⟩ := h
          refine zr_callV (As := [.int x23, .int y15]) (r := (RX2, TX2, 5)) C (k_X2_reasonOn h) ok_X4_152 zq_484 zq_485 hT24 (by decide) rfl rfl ⟨by decide, (Nat.le_of_ble_eq_true rfl)⟩ ⟨(Nat.le_of_ble_eq_true rfl), (Nat.le_of_ble_eq_true rfl)⟩ (Nat.le_of_ble_eq_true rfl) dX4_offIn_43 (fun v28 U29 G30 hq => ?_)
          clear h
          · obtain ⟨r25, rfl, rfl, rfl, h⟩ := hq
            obtain ⟨h1, h2⟩ := h
            refine zr_if_eq C 52 dX4_offIn_46 (by decide) (fun hc => ?_) (fun hc => ?_)
            · have h := h1 hc
              clear h1 h2
              refine zr_iinc C [(4, .int (y15 + 1)), (0, .ref a0), (1, .int p1), (2, .ref r2), (3, .int y14)] 4 dX4_offIn_52 rfl rfl (by decide) rfl ?_
              refine zr_goto C 24 dX4_offIn_55 (by decide) ?_
              obtain ⟨n26, hlt, h⟩ := h
              exact zr_sub [1, 2, 3, 4, 0] rfl (ih16 n26 hlt y14 (y15 + 1) h)
            · have h := h2 hc
              clear h1 h2
              refine zr_iinc C [(3, .int (y14 + 1)), (0, .ref a0), (1, .int p1), (2, .ref r2), (4, .int y15)] 3 dX4_offIn_49 rfl rfl (by decide) rfl ?_
              refine zr_iinc C [(4, .int (y15 + 1)), (3, .int (y14 + 1)), (0, .ref a0), (1, .int p1), (2, .ref r2)] 4 dX4_offIn_52 rfl rfl (by decide) rfl ?_
              refine zr_goto C 24 dX4_offIn_55 (by decide) ?_
              obtain ⟨n27, hlt, h⟩ := h
              exact zr_sub [2, 3, 4, 1, 0] rfl (ih16 n27 hlt (y14 + 1) (y15 + 1) h)
    exact zr_sub [3, 4, 2, 1, 0] rfl (ky33 n13 0 (if x5 < x10 then x10 else x5) h032)
set_option maxRecDepth 100000 in
set_option maxHeartbeats 4000000 in
theorem k_X4_offIn0 {l : Launch} {D : va_G} {cA : Nat → ClassId} {N0 zE : Nat} {a0 : Nat} {p1 : Int32} {T : zT} {F : zF} {Post : Int32 → Prop} (h : v_X4_offIn a0 p1 T F Post (fun _ => False)) : z_Mt l D cA N0 zE yX4_offIn cX4_offIn 5 (some .int) ({ frames := 5, cells := 0, slots := 0, locals := 111 } : Room) [.ref a0, .int p1] T F (fun v T' F' => ∃ r : Int32, v = some (.int r) ∧ T = T' ∧ F = F' ∧ Post r) := by
  unfold v_X4_offIn at h
  refine z_bodyT (by decide) (Nat.le_of_ble_eq_true rfl) ?_
  intro p e s m args below meth c C hnm
  have C : z_C p l s m args meth c RX4 cX4_offIn 5 (some .int) D cA N0 zE := C
  show z_w p l e ({ frames := 5, cells := 0, slots := 0, locals := 111 } : Room) s m args below meth c D cA N0 5 0 0 (MQ below (z_Qc D cA N0 (fun v T' F' => ∃ r : Int32, v = some (.int r) ∧ T = T' ∧ F = F' ∧ Post r)) args s 0 0 (fun q => N0 ≤ q)) 0 [(0, .ref a0), (1, .int p1)] [] T F
  refine zr_aload_n C 0 dX4_offIn_0 rfl rfl ?_
  refine zr_iload_n C 1 dX4_offIn_1 rfl rfl ?_
  obtain ⟨hT1, h⟩ := h
  refine zr_callV (As := [.int p1]) (r := (RX4, TX4, 4)) C (k_X4_bookingAt0 h) ok_X4_199 zq_383 zq_5 hT1 (by decide) rfl rfl ⟨by decide, (Nat.le_of_ble_eq_true rfl)⟩ ⟨(Nat.le_of_ble_eq_true rfl), (Nat.le_of_ble_eq_true rfl)⟩ (Nat.le_of_ble_eq_true rfl) dX4_offIn_2 (fun v34 U35 G36 hq => ?_)
  clear h
  · obtain ⟨r2, rfl, rfl, rfl, h⟩ := hq
    refine zr_astore_n C [(2, .ref r2), (0, .ref a0), (1, .int p1)] dX4_offIn_5 rfl (by decide) rfl ?_
    refine zr_iconst C 0 dX4_offIn_6 (by decide) ?_
    refine zr_istore_n C [(3, .int 0), (2, .ref r2), (0, .ref a0), (1, .int p1)] dX4_offIn_7 rfl (by decide) rfl ?_
    refine zr_aload_n C 1 dX4_offIn_8 rfl rfl ?_
    obtain ⟨hT3, x5, hv4, h⟩ := h
    refine zr_get C fl_X4_238 hT3 hv4 dX4_offIn_9 ?_
    refine zr_aload_n C 2 dX4_offIn_12 rfl rfl ?_
    obtain ⟨x7, hv6, h⟩ := h
    refine zr_get C fl_X4_23 hT1 hv6 dX4_offIn_13 ?_
    obtain ⟨hT8, x10, hv9, h⟩ := h
    refine zr_get C fl_X4_52 hT8 hv9 dX4_offIn_16 ?_
    refine zr_max C zq_527 zq_229 zq_29 zq_230 (by decide) (Nat.le_of_ble_eq_true rfl) (Nat.le_of_ble_eq_true rfl) (Nat.le_of_ble_eq_true rfl) dX4_offIn_19 ?_
    refine zr_istore C [(4, .int (if x5 < x10 then x10 else x5)), (3, .int 0), (2, .ref r2), (0, .ref a0), (1, .int p1)] dX4_offIn_22 (by decide) rfl ?_
    obtain ⟨I11, ⟨n13, h032⟩, hI31⟩ := h
    have ky33 : ∀ (n12 : Nat) (y14 : Int32) (y15 : Int32), I11 n12 y14 y15 → z_w p l e ({ frames := 5, cells := 0, slots := 0, locals := 111 } : Room) s m args below meth c D cA N0 5 0 0 (MQ below (z_Qc D cA N0 (fun v T' F' => ∃ r : Int32, v = some (.int r) ∧ T = T' ∧ F = F' ∧ Post r)) args s 0 0 (fun q => N0 ≤ q)) 24 [(0, .ref a0), (1, .int p1), (2, .ref r2), (3, .int y14), (4, .int y15)] [] T F := by
      intro n12
      induction n12 using Nat.strongRecOn with
      | _ n12 ih16 =>
        intro y14 y15 hin
        have h := hI31 n12 y14 y15 hin
        refine zr_iload C 4 dX4_offIn_24 rfl ?_
        refine zr_aload_n C 2 dX4_offIn_26 rfl rfl ?_
        obtain ⟨x19, hv18, h⟩ := h
        refine zr_get C fl_X4_241 hT3 hv18 dX4_offIn_27 ?_
        obtain ⟨h1, h2⟩ := h
        refine zr_icmp_gt C 58 dX4_offIn_30 (by decide) (fun hc => ?_) (fun hc => ?_)
        · have h := h1 hc
          clear h1 h2
          refine zr_iload_n C 3 dX4_offIn_58 rfl rfl ?_
          exact zr_iret C rfl ⟨_, rfl, rfl, rfl, h⟩ (Nat.le_of_ble_eq_true rfl) (Nat.le_of_ble_eq_true rfl) dX4_offIn_59
        · have h := h2 hc
          clear h1 h2
          refine zr_aload_n C 2 dX4_offIn_33 rfl rfl ?_
          obtain ⟨x21, hv20, h⟩ := h
          refine zr_get C fl_X4_224 hT3 hv20 dX4_offIn_34 ?_
          refine zr_aload_n C 2 dX4_offIn_37 rfl rfl ?_
          obtain ⟨x23, hv22, h⟩ := h
          refine zr_get C fl_X4_232 hT3 hv22 dX4_offIn_38 ?_
          refine zr_iload C 4 dX4_offIn_41 rfl ?_
          obtain ⟨hT24, h⟩ := h
          refine zr_callV (As := [.int x23, .int y15]) (r := (RX2, TX2, 5)) C (k_X2_reasonOn h) ok_X4_152 zq_484 zq_485 hT24 (by decide) rfl rfl ⟨by decide, (Nat.le_of_ble_eq_true rfl)⟩ ⟨(Nat.le_of_ble_eq_true rfl), (Nat.le_of_ble_eq_true rfl)⟩ (Nat.le_of_ble_eq_true rfl) dX4_offIn_43 (fun v28 U29 G30 hq => ?_)
          clear h
          · obtain ⟨r25, rfl, rfl, rfl, h⟩ := hq
            obtain ⟨h1, h2⟩ := h
            refine zr_if_eq C 52 dX4_offIn_46 (by decide) (fun hc => ?_) (fun hc => ?_)
            · have h := h1 hc
              clear h1 h2
              refine zr_iinc C [(4, .int (y15 + 1)), (0, .ref a0), (1, .int p1), (2, .ref r2), (3, .int y14)] 4 dX4_offIn_52 rfl rfl (by decide) rfl ?_
              refine zr_goto C 24 dX4_offIn_55 (by decide) ?_
              obtain ⟨n26, hlt, h⟩ := h
              exact zr_sub [1, 2, 3, 4, 0] rfl (ih16 n26 hlt y14 (y15 + 1) h)
            · have h := h2 hc
              clear h1 h2
              refine zr_iinc C [(3, .int (y14 + 1)), (0, .ref a0), (1, .int p1), (2, .ref r2), (4, .int y15)] 3 dX4_offIn_49 rfl rfl (by decide) rfl ?_
              refine zr_iinc C [(4, .int (y15 + 1)), (3, .int (y14 + 1)), (0, .ref a0), (1, .int p1), (2, .ref r2)] 4 dX4_offIn_52 rfl rfl (by decide) rfl ?_
              refine zr_goto C 24 dX4_offIn_55 (by decide) ?_
              obtain ⟨n27, hlt, h⟩ := h
              exact zr_sub [2, 3, 4, 1, 0] rfl (ih16 n27 hlt (y14 + 1) (y15 + 1) h)
    exact zr_sub [3, 4, 2, 1, 0] rfl (ky33 n13 0 (if x5 < x10 then x10 else x5) h032)
theorem dX4_lostIn_0 : decode cX4_lostIn 0 = .ok (.iload_n 1, 1) := by decide +kernel
theorem dX4_lostIn_1 : decode cX4_lostIn 1 = .ok (.iconst 1, 1) := by decide +kernel
theorem dX4_lostIn_2 : decode cX4_lostIn 2 = .ok (.if_icmp .lt 9, 3) := by decide +kernel
theorem dX4_lostIn_11 : decode cX4_lostIn 11 = .ok (.new 56, 3) := by decide +kernel
theorem dX4_lostIn_14 : decode cX4_lostIn 14 = .ok (.dup, 1) := by decide +kernel
theorem dX4_lostIn_15 : decode cX4_lostIn 15 = .ok (.ldc_w 301, 3) := by decide +kernel
theorem dX4_lostIn_18 : decode cX4_lostIn 18 = .ok (.invokespecial 60, 3) := by decide +kernel
theorem dX4_lostIn_21 : decode cX4_lostIn 21 = .ok (.athrow, 1) := by decide +kernel
theorem dX4_lostIn_5 : decode cX4_lostIn 5 = .ok (.iload_n 1, 1) := by decide +kernel
theorem dX4_lostIn_6 : decode cX4_lostIn 6 = .ok (.bipush 30, 2) := by decide +kernel
theorem dX4_lostIn_8 : decode cX4_lostIn 8 = .ok (.if_icmp .le 14, 3) := by decide +kernel
theorem dX4_lostIn_22 : decode cX4_lostIn 22 = .ok (.aload_n 0, 1) := by decide +kernel
theorem dX4_lostIn_23 : decode cX4_lostIn 23 = .ok (.getfield 27, 3) := by decide +kernel
theorem dX4_lostIn_26 : decode cX4_lostIn 26 = .ok (.aload_n 0, 1) := by decide +kernel
theorem dX4_lostIn_27 : decode cX4_lostIn 27 = .ok (.getfield 23, 3) := by decide +kernel
theorem dX4_lostIn_33 : decode cX4_lostIn 33 = .ok (.iload_n 1, 1) := by decide +kernel
theorem dX4_lostIn_34 : decode cX4_lostIn 34 = .ok (.bipush 99, 2) := by decide +kernel
theorem dX4_lostIn_36 : decode cX4_lostIn 36 = .ok (.aload_n 0, 1) := by decide +kernel
theorem dX4_lostIn_37 : decode cX4_lostIn 37 = .ok (.getfield 23, 3) := by decide +kernel
theorem dX4_lostIn_40 : decode cX4_lostIn 40 = .ok (.getfield 52, 3) := by decide +kernel
theorem dX4_lostIn_43 : decode cX4_lostIn 43 = .ok (.isub, 1) := by decide +kernel
theorem dX4_lostIn_44 : decode cX4_lostIn 44 = .ok (.invokestatic 74, 3) := by decide +kernel
theorem dX4_lostIn_47 : decode cX4_lostIn 47 = .ok (.istore_n 2, 1) := by decide +kernel
theorem dX4_lostIn_48 : decode cX4_lostIn 48 = .ok (.iconst 0, 1) := by decide +kernel
theorem dX4_lostIn_49 : decode cX4_lostIn 49 = .ok (.istore_n 3, 1) := by decide +kernel
theorem dX4_lostIn_50 : decode cX4_lostIn 50 = .ok (.iload_n 3, 1) := by decide +kernel
theorem dX4_lostIn_51 : decode cX4_lostIn 51 = .ok (.iload_n 2, 1) := by decide +kernel
theorem dX4_lostIn_52 : decode cX4_lostIn 52 = .ok (.if_icmp .ge 17, 3) := by decide +kernel
theorem dX4_lostIn_69 : decode cX4_lostIn 69 = .ok (.aload_n 0, 1) := by decide +kernel
theorem dX4_lostIn_70 : decode cX4_lostIn 70 = .ok (.getfield 27, 3) := by decide +kernel
theorem dX4_lostIn_73 : decode cX4_lostIn 73 = .ok (.iconst 4, 1) := by decide +kernel
theorem dX4_lostIn_77 : decode cX4_lostIn 77 = .ok (.aload_n 0, 1) := by decide +kernel
theorem dX4_lostIn_78 : decode cX4_lostIn 78 = .ok (.getfield 23, 3) := by decide +kernel
theorem dX4_lostIn_81 : decode cX4_lostIn 81 = .ok (.iconst 4, 1) := by decide +kernel
theorem dX4_lostIn_85 : decode cX4_lostIn 85 = .ok (.isub, 1) := by decide +kernel
theorem dX4_lostIn_86 : decode cX4_lostIn 86 = .ok (.ireturn, 1) := by decide +kernel
theorem dX4_lostIn_82 : decode cX4_lostIn 82 = .ok (.invokevirtual 270, 3) := by decide +kernel
theorem dX4_lostIn_74 : decode cX4_lostIn 74 = .ok (.invokevirtual 270, 3) := by decide +kernel
theorem dX4_lostIn_55 : decode cX4_lostIn 55 = .ok (.aload_n 0, 1) := by decide +kernel
theorem dX4_lostIn_56 : decode cX4_lostIn 56 = .ok (.getfield 27, 3) := by decide +kernel
theorem dX4_lostIn_62 : decode cX4_lostIn 62 = .ok (.pop, 1) := by decide +kernel
theorem dX4_lostIn_63 : decode cX4_lostIn 63 = .ok (.iinc 3 1, 3) := by decide +kernel
theorem dX4_lostIn_66 : decode cX4_lostIn 66 = .ok (.goto (-16), 3) := by decide +kernel
theorem dX4_lostIn_59 : decode cX4_lostIn 59 = .ok (.invokevirtual 264, 3) := by decide +kernel
theorem dX4_lostIn_30 : decode cX4_lostIn 30 = .ok (.invokevirtual 303, 3) := by decide +kernel
def v_X4_lostIn (zE : Nat) (a0 : Nat) (p1 : Int32) (T : zT) (F : zF) (Post : Int32 → zT → zF → Prop) (PX : String → zT → zF → Prop) : Prop :=
  ((p1 < 1 → PX "java/lang/IllegalArgumentException" T F) ∧ (¬ p1 < 1 → ((p1 ≤ 30 → (T a0 = some (5, 4) ∧ ∃ x3 : Nat, F a0 3 = .ref x3 ∧ ∃ x5 : Nat, F a0 2 = .ref x5 ∧ T x3 = some (4, 3) ∧ (v_X3_copyFrom zE x3 x5 T F (fun (T7 : zT) (F8 : zF) => (T7 a0 = some (5, 4) ∧ ∃ x11 : Nat, F8 a0 2 = .ref x11 ∧ T7 x11 = some (4, 3) ∧ ∃ x14 : Int32, F8 x11 2 = .int x14 ∧ (∀ (y15 : Int32), y15 = (if ((99 : Int32) - x14) < p1 then ((99 : Int32) - x14) else p1) → (∃ I17 : Nat → Int32 → zF → Prop, (∃ n19 : Nat, I17 n19 0 F8) ∧ (∀ (n18 : Nat) (y20 : Int32) (F21 : zF), I17 n18 y20 F21 → ((y15 ≤ y20 → (∃ x25 : Nat, F21 a0 3 = .ref x25 ∧ T7 x25 = some (4, 3) ∧ (v_X3_countInState x25 4 T7 F21 (fun (r27 : Int32) => (∃ x29 : Nat, F21 a0 2 = .ref x29 ∧ T7 x29 = some (4, 3) ∧ (v_X3_countInState x29 4 T7 F21 (fun (r31 : Int32) => Post (r27 - r31) T7 F21))))))) ∧ (¬ y15 ≤ y20 → (∃ x39 : Nat, F21 a0 3 = .ref x39 ∧ T7 x39 = some (4, 3) ∧ (v_X3_beginDay x39 T7 F21 (fun (r41 : Int32) (F42 : zF) => (∃ n43 : Nat, n43 < n18 ∧ I17 n43 (y20 + 1) F42)))))))))))))) ∧ (¬ p1 ≤ 30 → PX "java/lang/IllegalArgumentException" T F))))
set_option maxRecDepth 100000 in
set_option maxHeartbeats 4000000 in
theorem k_X4_lostIn {l : Launch} {D : va_G} {cA : Nat → ClassId} {N0 zE : Nat} {a0 : Nat} {p1 : Int32} {T : zT} {F : zF} {Post : Int32 → zT → zF → Prop} {PX : String → zT → zF → Prop} (h : v_X4_lostIn zE a0 p1 T F Post PX) : z_Met l D cA N0 zE yX4_lostIn cX4_lostIn 4 (some .int) ({ frames := 8, cells := 52, slots := 1060, locals := 186 } : Room) [.ref a0, .int p1] T F (fun v T' F' => ∃ r : Int32, v = some (.int r) ∧ Post r T' F') (fun E T' F' => PX E T' F') := by
  unfold v_X4_lostIn at h
  refine z_body (by decide) (Nat.le_of_ble_eq_true rfl) ?_
  intro p e s m args below meth c C hxt hnm
  have C : z_C p l s m args meth c RX4 cX4_lostIn 4 (some .int) D cA N0 zE := C
  show z_w p l e ({ frames := 8, cells := 52, slots := 1060, locals := 186 } : Room) s m args below meth c D cA N0 4 0 0 (vx_MQ below (z_Qc D cA N0 (fun v T' F' => ∃ r : Int32, v = some (.int r) ∧ Post r T' F')) (z_XC D cA N0 (fun E T' F' => PX E T' F')) args s 52 1060 (fun q => N0 ≤ q)) 0 [(0, .ref a0), (1, .int p1)] [] T F
  refine zr_iload_n C 1 dX4_lostIn_0 rfl rfl ?_
  refine zr_iconst C 1 dX4_lostIn_1 (by decide) ?_
  obtain ⟨h1, h2⟩ := h
  refine zr_icmp_lt C 11 dX4_lostIn_2 (by decide) (fun hc => ?_) (fun hc => ?_)
  · have h := h1 hc
    clear h1 h2
    exact zr_throwW C th_X4_56_60_301 (fun x hx => (hxt x hx).elim) h dX4_lostIn_11 dX4_lostIn_14 dX4_lostIn_15 dX4_lostIn_18 dX4_lostIn_21 (by decide) (Nat.le_of_ble_eq_true rfl) ⟨(Nat.le_of_ble_eq_true rfl), (Nat.le_of_ble_eq_true rfl)⟩ ⟨(Nat.le_of_ble_eq_true rfl), (Nat.le_of_ble_eq_true rfl)⟩
  · have h := h2 hc
    clear h1 h2
    refine zr_iload_n C 1 dX4_lostIn_5 rfl rfl ?_
    refine zr_bipush C 30 dX4_lostIn_6 (by decide) ?_
    obtain ⟨h1, h2⟩ := h
    refine zr_icmp_le C 22 dX4_lostIn_8 (by decide) (fun hc => ?_) (fun hc => ?_)
    · have h := h1 hc
      clear h1 h2
      refine zr_aload_n C 0 dX4_lostIn_22 rfl rfl ?_
      obtain ⟨hT1, x3, hv2, h⟩ := h
      refine zr_get C fl_X4_27 hT1 hv2 dX4_lostIn_23 ?_
      refine zr_aload_n C 0 dX4_lostIn_26 rfl rfl ?_
      obtain ⟨x5, hv4, h⟩ := h
      refine zr_get C fl_X4_23 hT1 hv4 dX4_lostIn_27 ?_
      obtain ⟨hT6, h⟩ := h
      refine zr_callV (As := [.ref x5]) (r := (RX3, TX3, 3)) C (k_X3_copyFrom h) ok_X4_303 zq_555 zq_556 hT6 (by decide) rfl rfl ⟨by decide, (Nat.le_of_ble_eq_true rfl)⟩ ⟨(Nat.le_of_ble_eq_true rfl), (Nat.le_of_ble_eq_true rfl)⟩ (Nat.le_of_ble_eq_true rfl) dX4_lostIn_30 (fun v50 U51 G52 hq => ?_)
      clear h
      · obtain ⟨rfl, h⟩ := hq
        skip
        refine zr_iload_n C 1 dX4_lostIn_33 rfl rfl ?_
        refine zr_bipush C 99 dX4_lostIn_34 (by decide) ?_
        refine zr_aload_n C 0 dX4_lostIn_36 rfl rfl ?_
        obtain ⟨hT9, x11, hv10, h⟩ := h
        refine zr_get C fl_X4_23 hT9 hv10 dX4_lostIn_37 ?_
        obtain ⟨hT12, x14, hv13, h⟩ := h
        refine zr_get C fl_X4_52 hT12 hv13 dX4_lostIn_40 ?_
        refine zr_isub C dX4_lostIn_43 ?_
        refine zr_min C zq_624 zq_258 zq_29 zq_259 (by decide) (Nat.le_of_ble_eq_true rfl) (Nat.le_of_ble_eq_true rfl) (Nat.le_of_ble_eq_true rfl) dX4_lostIn_44 ?_
        refine zr_topi (fun y15 hy16 => ?_)
        have h := h y15 hy16
        refine zr_istore_n C [(2, .int y15), (0, .ref a0), (1, .int p1)] dX4_lostIn_47 rfl (by decide) rfl ?_
        refine zr_iconst C 0 dX4_lostIn_48 (by decide) ?_
        refine zr_istore_n C [(3, .int 0), (2, .int y15), (0, .ref a0), (1, .int p1)] dX4_lostIn_49 rfl (by decide) rfl ?_
        obtain ⟨I17, ⟨n19, h048⟩, hI47⟩ := h
        have ky49 : ∀ (n18 : Nat) (y20 : Int32) (F21 : zF), I17 n18 y20 F21 → z_w p l e ({ frames := 8, cells := 52, slots := 1060, locals := 186 } : Room) s m args below meth c D cA N0 4 51 1054 (vx_MQ below (z_Qc D cA N0 (fun v T' F' => ∃ r : Int32, v = some (.int r) ∧ Post r T' F')) (z_XC D cA N0 (fun E T' F' => PX E T' F')) args s 52 1060 (fun q => N0 ≤ q)) 50 [(0, .ref a0), (1, .int p1), (2, .int y15), (3, .int y20)] [] U51 F21 := by
          intro n18
          induction n18 using Nat.strongRecOn with
          | _ n18 ih22 =>
            intro y20 F21 hin
            have h := hI47 n18 y20 F21 hin
            refine zr_iload_n C 3 dX4_lostIn_50 rfl rfl ?_
            refine zr_iload_n C 2 dX4_lostIn_51 rfl rfl ?_
            obtain ⟨h1, h2⟩ := h
            refine zr_icmp_ge C 69 dX4_lostIn_52 (by decide) (fun hc => ?_) (fun hc => ?_)
            · have h := h1 hc
              clear h1 h2
              refine zr_aload_n C 0 dX4_lostIn_69 rfl rfl ?_
              obtain ⟨x25, hv24, h⟩ := h
              refine zr_get C fl_X4_27 hT9 hv24 dX4_lostIn_70 ?_
              refine zr_iconst C 4 dX4_lostIn_73 (by decide) ?_
              obtain ⟨hT26, h⟩ := h
              refine zr_callV (As := [.int 4]) (r := (RX3, TX3, 3)) C (k_X3_countInState h) ok_X4_270 zq_397 zq_398 hT26 (by decide) rfl rfl ⟨by decide, (Nat.le_of_ble_eq_true rfl)⟩ ⟨(Nat.le_of_ble_eq_true rfl), (Nat.le_of_ble_eq_true rfl)⟩ (Nat.le_of_ble_eq_true rfl) dX4_lostIn_74 (fun v35 U36 G37 hq => ?_)
              clear h
              · obtain ⟨r27, rfl, rfl, rfl, h⟩ := hq
                refine zr_aload_n C 0 dX4_lostIn_77 rfl rfl ?_
                obtain ⟨x29, hv28, h⟩ := h
                refine zr_get C fl_X4_23 hT9 hv28 dX4_lostIn_78 ?_
                refine zr_iconst C 4 dX4_lostIn_81 (by decide) ?_
                obtain ⟨hT30, h⟩ := h
                refine zr_callV (As := [.int 4]) (r := (RX3, TX3, 3)) C (k_X3_countInState h) ok_X4_270 zq_397 zq_398 hT30 (by decide) rfl rfl ⟨by decide, (Nat.le_of_ble_eq_true rfl)⟩ ⟨(Nat.le_of_ble_eq_true rfl), (Nat.le_of_ble_eq_true rfl)⟩ (Nat.le_of_ble_eq_true rfl) dX4_lostIn_82 (fun v32 U33 G34 hq => ?_)
                clear h
                · obtain ⟨r31, rfl, rfl, rfl, h⟩ := hq
                  refine zr_isub C dX4_lostIn_85 ?_
                  exact zr_X (zr_iret C rfl ⟨_, rfl, h⟩ (Nat.le_of_ble_eq_true rfl) (Nat.le_of_ble_eq_true rfl) dX4_lostIn_86)
            · have h := h2 hc
              clear h1 h2
              refine zr_aload_n C 0 dX4_lostIn_55 rfl rfl ?_
              obtain ⟨x39, hv38, h⟩ := h
              refine zr_get C fl_X4_27 hT9 hv38 dX4_lostIn_56 ?_
              obtain ⟨hT40, h⟩ := h
              refine zr_callV (As := []) (r := (RX3, TX3, 3)) C (k_X3_beginDay h) ok_X4_264 zq_626 zq_627 hT40 (by decide) rfl rfl ⟨by decide, (Nat.le_of_ble_eq_true rfl)⟩ ⟨(Nat.le_of_ble_eq_true rfl), (Nat.le_of_ble_eq_true rfl)⟩ (Nat.le_of_ble_eq_true rfl) dX4_lostIn_59 (fun v44 U45 G46 hq => ?_)
              clear h
              · obtain ⟨r41, rfl, rfl, h⟩ := hq
                refine zr_pop C dX4_lostIn_62 rfl ?_
                refine zr_iinc C [(3, .int (y20 + 1)), (0, .ref a0), (1, .int p1), (2, .int y15)] 3 dX4_lostIn_63 rfl rfl (by decide) rfl ?_
                refine zr_goto C 50 dX4_lostIn_66 (by decide) ?_
                obtain ⟨n43, hlt, h⟩ := h
                exact zr_sub [1, 2, 3, 0] rfl (ih22 n43 hlt (y20 + 1) G46 h)
        exact zr_sub [2, 3, 1, 0] rfl (ky49 n19 0 G52 h048)
    · have h := h2 hc
      clear h1 h2
      exact zr_throwW C th_X4_56_60_301 (fun x hx => (hxt x hx).elim) h dX4_lostIn_11 dX4_lostIn_14 dX4_lostIn_15 dX4_lostIn_18 dX4_lostIn_21 (by decide) (Nat.le_of_ble_eq_true rfl) ⟨(Nat.le_of_ble_eq_true rfl), (Nat.le_of_ble_eq_true rfl)⟩ ⟨(Nat.le_of_ble_eq_true rfl), (Nat.le_of_ble_eq_true rfl)⟩
set_option maxRecDepth 100000 in
set_option maxHeartbeats 4000000 in
theorem k_X4_lostIn0 {l : Launch} {D : va_G} {cA : Nat → ClassId} {N0 zE : Nat} {a0 : Nat} {p1 : Int32} {T : zT} {F : zF} {Post : Int32 → zT → zF → Prop} (h : v_X4_lostIn zE a0 p1 T F Post (fun _ _ _ => False)) : z_Mt l D cA N0 zE yX4_lostIn cX4_lostIn 4 (some .int) ({ frames := 8, cells := 51, slots := 1054, locals := 186 } : Room) [.ref a0, .int p1] T F (fun v T' F' => ∃ r : Int32, v = some (.int r) ∧ Post r T' F') := by
  unfold v_X4_lostIn at h
  refine z_bodyT (by decide) (Nat.le_of_ble_eq_true rfl) ?_
  intro p e s m args below meth c C hnm
  have C : z_C p l s m args meth c RX4 cX4_lostIn 4 (some .int) D cA N0 zE := C
  show z_w p l e ({ frames := 8, cells := 51, slots := 1054, locals := 186 } : Room) s m args below meth c D cA N0 4 0 0 (MQ below (z_Qc D cA N0 (fun v T' F' => ∃ r : Int32, v = some (.int r) ∧ Post r T' F')) args s 51 1054 (fun q => N0 ≤ q)) 0 [(0, .ref a0), (1, .int p1)] [] T F
  refine zr_iload_n C 1 dX4_lostIn_0 rfl rfl ?_
  refine zr_iconst C 1 dX4_lostIn_1 (by decide) ?_
  obtain ⟨h1, h2⟩ := h
  refine zr_icmp_lt C 11 dX4_lostIn_2 (by decide) (fun hc => ?_) (fun hc => ?_)
  · have h := h1 hc
    clear h1 h2
    exact h.elim
  · have h := h2 hc
    clear h1 h2
    refine zr_iload_n C 1 dX4_lostIn_5 rfl rfl ?_
    refine zr_bipush C 30 dX4_lostIn_6 (by decide) ?_
    obtain ⟨h1, h2⟩ := h
    refine zr_icmp_le C 22 dX4_lostIn_8 (by decide) (fun hc => ?_) (fun hc => ?_)
    · have h := h1 hc
      clear h1 h2
      refine zr_aload_n C 0 dX4_lostIn_22 rfl rfl ?_
      obtain ⟨hT1, x3, hv2, h⟩ := h
      refine zr_get C fl_X4_27 hT1 hv2 dX4_lostIn_23 ?_
      refine zr_aload_n C 0 dX4_lostIn_26 rfl rfl ?_
      obtain ⟨x5, hv4, h⟩ := h
      refine zr_get C fl_X4_23 hT1 hv4 dX4_lostIn_27 ?_
      obtain ⟨hT6, h⟩ := h
      refine zr_callV (As := [.ref x5]) (r := (RX3, TX3, 3)) C (k_X3_copyFrom h) ok_X4_303 zq_555 zq_556 hT6 (by decide) rfl rfl ⟨by decide, (Nat.le_of_ble_eq_true rfl)⟩ ⟨(Nat.le_of_ble_eq_true rfl), (Nat.le_of_ble_eq_true rfl)⟩ (Nat.le_of_ble_eq_true rfl) dX4_lostIn_30 (fun v50 U51 G52 hq => ?_)
      clear h
      · obtain ⟨rfl, h⟩ := hq
        skip
        refine zr_iload_n C 1 dX4_lostIn_33 rfl rfl ?_
        refine zr_bipush C 99 dX4_lostIn_34 (by decide) ?_
        refine zr_aload_n C 0 dX4_lostIn_36 rfl rfl ?_
        obtain ⟨hT9, x11, hv10, h⟩ := h
        refine zr_get C fl_X4_23 hT9 hv10 dX4_lostIn_37 ?_
        obtain ⟨hT12, x14, hv13, h⟩ := h
        refine zr_get C fl_X4_52 hT12 hv13 dX4_lostIn_40 ?_
        refine zr_isub C dX4_lostIn_43 ?_
        refine zr_min C zq_624 zq_258 zq_29 zq_259 (by decide) (Nat.le_of_ble_eq_true rfl) (Nat.le_of_ble_eq_true rfl) (Nat.le_of_ble_eq_true rfl) dX4_lostIn_44 ?_
        refine zr_topi (fun y15 hy16 => ?_)
        have h := h y15 hy16
        refine zr_istore_n C [(2, .int y15), (0, .ref a0), (1, .int p1)] dX4_lostIn_47 rfl (by decide) rfl ?_
        refine zr_iconst C 0 dX4_lostIn_48 (by decide) ?_
        refine zr_istore_n C [(3, .int 0), (2, .int y15), (0, .ref a0), (1, .int p1)] dX4_lostIn_49 rfl (by decide) rfl ?_
        obtain ⟨I17, ⟨n19, h048⟩, hI47⟩ := h
        have ky49 : ∀ (n18 : Nat) (y20 : Int32) (F21 : zF), I17 n18 y20 F21 → z_w p l e ({ frames := 8, cells := 51, slots := 1054, locals := 186 } : Room) s m args below meth c D cA N0 4 51 1054 (MQ below (z_Qc D cA N0 (fun v T' F' => ∃ r : Int32, v = some (.int r) ∧ Post r T' F')) args s 51 1054 (fun q => N0 ≤ q)) 50 [(0, .ref a0), (1, .int p1), (2, .int y15), (3, .int y20)] [] U51 F21 := by
          intro n18
          induction n18 using Nat.strongRecOn with
          | _ n18 ih22 =>
            intro y20 F21 hin
            have h := hI47 n18 y20 F21 hin
            refine zr_iload_n C 3 dX4_lostIn_50 rfl rfl ?_
            refine zr_iload_n C 2 dX4_lostIn_51 rfl rfl ?_
            obtain ⟨h1, h2⟩ := h
            refine zr_icmp_ge C 69 dX4_lostIn_52 (by decide) (fun hc => ?_) (fun hc => ?_)
            · have h := h1 hc
              clear h1 h2
              refine zr_aload_n C 0 dX4_lostIn_69 rfl rfl ?_
              obtain ⟨x25, hv24, h⟩ := h
              refine zr_get C fl_X4_27 hT9 hv24 dX4_lostIn_70 ?_
              refine zr_iconst C 4 dX4_lostIn_73 (by decide) ?_
              obtain ⟨hT26, h⟩ := h
              refine zr_callV (As := [.int 4]) (r := (RX3, TX3, 3)) C (k_X3_countInState h) ok_X4_270 zq_397 zq_398 hT26 (by decide) rfl rfl ⟨by decide, (Nat.le_of_ble_eq_true rfl)⟩ ⟨(Nat.le_of_ble_eq_true rfl), (Nat.le_of_ble_eq_true rfl)⟩ (Nat.le_of_ble_eq_true rfl) dX4_lostIn_74 (fun v35 U36 G37 hq => ?_)
              clear h
              · obtain ⟨r27, rfl, rfl, rfl, h⟩ := hq
                refine zr_aload_n C 0 dX4_lostIn_77 rfl rfl ?_
                obtain ⟨x29, hv28, h⟩ := h
                refine zr_get C fl_X4_23 hT9 hv28 dX4_lostIn_78 ?_
                refine zr_iconst C 4 dX4_lostIn_81 (by decide) ?_
                obtain ⟨hT30, h⟩ := h
                refine zr_callV (As := [.int 4]) (r := (RX3, TX3, 3)) C (k_X3_countInState h) ok_X4_270 zq_397 zq_398 hT30 (by decide) rfl rfl ⟨by decide, (Nat.le_of_ble_eq_true rfl)⟩ ⟨(Nat.le_of_ble_eq_true rfl), (Nat.le_of_ble_eq_true rfl)⟩ (Nat.le_of_ble_eq_true rfl) dX4_lostIn_82 (fun v32 U33 G34 hq => ?_)
                clear h
                · obtain ⟨r31, rfl, rfl, rfl, h⟩ := hq
                  refine zr_isub C dX4_lostIn_85 ?_
                  exact zr_iret C rfl ⟨_, rfl, h⟩ (Nat.le_of_ble_eq_true rfl) (Nat.le_of_ble_eq_true rfl) dX4_lostIn_86
            · have h := h2 hc
              clear h1 h2
              refine zr_aload_n C 0 dX4_lostIn_55 rfl rfl ?_
              obtain ⟨x39, hv38, h⟩ := h
              refine zr_get C fl_X4_27 hT9 hv38 dX4_lostIn_56 ?_
              obtain ⟨hT40, h⟩ := h
              refine zr_callV (As := []) (r := (RX3, TX3, 3)) C (k_X3_beginDay h) ok_X4_264 zq_626 zq_627 hT40 (by decide) rfl rfl ⟨by decide, (Nat.le_of_ble_eq_true rfl)⟩ ⟨(Nat.le_of_ble_eq_true rfl), (Nat.le_of_ble_eq_true rfl)⟩ (Nat.le_of_ble_eq_true rfl) dX4_lostIn_59 (fun v44 U45 G46 hq => ?_)
              clear h
              · obtain ⟨r41, rfl, rfl, h⟩ := hq
                refine zr_pop C dX4_lostIn_62 rfl ?_
                refine zr_iinc C [(3, .int (y20 + 1)), (0, .ref a0), (1, .int p1), (2, .int y15)] 3 dX4_lostIn_63 rfl rfl (by decide) rfl ?_
                refine zr_goto C 50 dX4_lostIn_66 (by decide) ?_
                obtain ⟨n43, hlt, h⟩ := h
                exact zr_sub [1, 2, 3, 0] rfl (ih22 n43 hlt (y20 + 1) G46 h)
        exact zr_sub [2, 3, 1, 0] rfl (ky49 n19 0 G52 h048)
    · have h := h2 hc
      clear h1 h2
      exact h.elim
theorem dX4_addPiece_0 : decode cX4_addPiece 0 = .ok (.lload_n 1, 1) := by decide +kernel
theorem dX4_addPiece_1 : decode cX4_addPiece 1 = .ok (.lstore 4, 2) := by decide +kernel
theorem dX4_addPiece_3 : decode cX4_addPiece 3 = .ok (.iconst 0, 1) := by decide +kernel
theorem dX4_addPiece_4 : decode cX4_addPiece 4 = .ok (.istore 6, 2) := by decide +kernel
theorem dX4_addPiece_6 : decode cX4_addPiece 6 = .ok (.iload 6, 2) := by decide +kernel
theorem dX4_addPiece_8 : decode cX4_addPiece 8 = .ok (.iconst 4, 1) := by decide +kernel
theorem dX4_addPiece_9 : decode cX4_addPiece 9 = .ok (.if_icmp .gt 26, 3) := by decide +kernel
theorem dX4_addPiece_35 : decode cX4_addPiece 35 = .ok (.iconst 0, 1) := by decide +kernel
theorem dX4_addPiece_36 : decode cX4_addPiece 36 = .ok (.istore 6, 2) := by decide +kernel
theorem dX4_addPiece_38 : decode cX4_addPiece 38 = .ok (.iload 6, 2) := by decide +kernel
theorem dX4_addPiece_40 : decode cX4_addPiece 40 = .ok (.iconst 4, 1) := by decide +kernel
theorem dX4_addPiece_41 : decode cX4_addPiece 41 = .ok (.if_icmp .ge 33, 3) := by decide +kernel
theorem dX4_addPiece_74 : decode cX4_addPiece 74 = .ok (.lload 4, 2) := by decide +kernel
theorem dX4_addPiece_76 : decode cX4_addPiece 76 = .ok (.lreturn, 1) := by decide +kernel
theorem dX4_addPiece_44 : decode cX4_addPiece 44 = .ok (.lload 4, 2) := by decide +kernel
theorem dX4_addPiece_46 : decode cX4_addPiece 46 = .ok (.ldc2_w 315, 3) := by decide +kernel
theorem dX4_addPiece_49 : decode cX4_addPiece 49 = .ok (.lmul, 1) := by decide +kernel
theorem dX4_addPiece_50 : decode cX4_addPiece 50 = .ok (.aload_n 0, 1) := by decide +kernel
theorem dX4_addPiece_51 : decode cX4_addPiece 51 = .ok (.iload_n 3, 1) := by decide +kernel
theorem dX4_addPiece_52 : decode cX4_addPiece 52 = .ok (.iload 6, 2) := by decide +kernel
theorem dX4_addPiece_54 : decode cX4_addPiece 54 = .ok (.aload_n 0, 1) := by decide +kernel
theorem dX4_addPiece_55 : decode cX4_addPiece 55 = .ok (.getfield 23, 3) := by decide +kernel
theorem dX4_addPiece_58 : decode cX4_addPiece 58 = .ok (.getfield 52, 3) := by decide +kernel
theorem dX4_addPiece_64 : decode cX4_addPiece 64 = .ok (.i2l, 1) := by decide +kernel
theorem dX4_addPiece_65 : decode cX4_addPiece 65 = .ok (.ladd, 1) := by decide +kernel
theorem dX4_addPiece_66 : decode cX4_addPiece 66 = .ok (.lstore 4, 2) := by decide +kernel
theorem dX4_addPiece_68 : decode cX4_addPiece 68 = .ok (.iinc 6 1, 3) := by decide +kernel
theorem dX4_addPiece_71 : decode cX4_addPiece 71 = .ok (.goto (-33), 3) := by decide +kernel
theorem dX4_addPiece_61 : decode cX4_addPiece 61 = .ok (.invokevirtual 339, 3) := by decide +kernel
theorem dX4_addPiece_12 : decode cX4_addPiece 12 = .ok (.lload 4, 2) := by decide +kernel
theorem dX4_addPiece_14 : decode cX4_addPiece 14 = .ok (.ldc2_w 315, 3) := by decide +kernel
theorem dX4_addPiece_17 : decode cX4_addPiece 17 = .ok (.lmul, 1) := by decide +kernel
theorem dX4_addPiece_18 : decode cX4_addPiece 18 = .ok (.aload_n 0, 1) := by decide +kernel
theorem dX4_addPiece_19 : decode cX4_addPiece 19 = .ok (.iload_n 3, 1) := by decide +kernel
theorem dX4_addPiece_20 : decode cX4_addPiece 20 = .ok (.iload 6, 2) := by decide +kernel
theorem dX4_addPiece_25 : decode cX4_addPiece 25 = .ok (.i2l, 1) := by decide +kernel
theorem dX4_addPiece_26 : decode cX4_addPiece 26 = .ok (.ladd, 1) := by decide +kernel
theorem dX4_addPiece_27 : decode cX4_addPiece 27 = .ok (.lstore 4, 2) := by decide +kernel
theorem dX4_addPiece_29 : decode cX4_addPiece 29 = .ok (.iinc 6 1, 3) := by decide +kernel
theorem dX4_addPiece_32 : decode cX4_addPiece 32 = .ok (.goto (-26), 3) := by decide +kernel
theorem dX4_addPiece_22 : decode cX4_addPiece 22 = .ok (.invokevirtual 336, 3) := by decide +kernel
def v_X4_addPiece (a0 : Nat) (p1 : Int64) (p3 : Int32) (T : zT) (F : zF) (Post : Int64 → Prop) : Prop :=
  (∃ I1 : Nat → Int64 → Int32 → Prop, (∃ n3 : Nat, I1 n3 p1 0) ∧ (∀ (n2 : Nat) (y4 : Int64) (y5 : Int32), I1 n2 y4 y5 → ((4 < y5 → (∃ I8 : Nat → Int64 → Int32 → Prop, (∃ n10 : Nat, I8 n10 y4 0) ∧ (∀ (n9 : Nat) (y11 : Int64) (y12 : Int32), I8 n9 y11 y12 → ((4 ≤ y12 → Post y11) ∧ (¬ 4 ≤ y12 → (T a0 = some (5, 4) ∧ ∃ x17 : Nat, F a0 2 = .ref x17 ∧ T x17 = some (4, 3) ∧ ∃ x20 : Int32, F x17 2 = .int x20 ∧ (v_X4_reason a0 p3 y12 x20 T F (fun (r21 : Int32) => (∃ n22 : Nat, n22 < n9 ∧ I8 n22 ((y11 * 31) + r21.toInt64) (y12 + 1))) (fun _ => False)))))))) ∧ (¬ 4 < y5 → (T a0 = some (5, 4) ∧ (v_X4_ofPiece a0 p3 y5 T F (fun (r30 : Int32) => (∃ n31 : Nat, n31 < n2 ∧ I1 n31 ((y4 * 31) + r30.toInt64) (y5 + 1))) (fun _ => False)))))))
set_option maxRecDepth 100000 in
set_option maxHeartbeats 4000000 in
theorem k_X4_addPiece {l : Launch} {D : va_G} {cA : Nat → ClassId} {N0 zE : Nat} {a0 : Nat} {p1 : Int64} {p3 : Int32} {T : zT} {F : zF} {Post : Int64 → Prop} (h : v_X4_addPiece a0 p1 p3 T F Post) : z_Mt l D cA N0 zE yX4_addPiece cX4_addPiece 7 (some .long) ({ frames := 6, cells := 0, slots := 0, locals := 135 } : Room) [.ref a0, .long p1, .int p3] T F (fun v T' F' => ∃ r : Int64, v = some (.long r) ∧ T = T' ∧ F = F' ∧ Post r) := by
  unfold v_X4_addPiece at h
  refine z_bodyT (by decide) (Nat.le_of_ble_eq_true rfl) ?_
  intro p e s m args below meth c C hnm
  have C : z_C p l s m args meth c RX4 cX4_addPiece 7 (some .long) D cA N0 zE := C
  show z_w p l e ({ frames := 6, cells := 0, slots := 0, locals := 135 } : Room) s m args below meth c D cA N0 7 0 0 (MQ below (z_Qc D cA N0 (fun v T' F' => ∃ r : Int64, v = some (.long r) ∧ T = T' ∧ F = F' ∧ Post r)) args s 0 0 (fun q => N0 ≤ q)) 0 [(0, .ref a0), (1, .long p1), (3, .int p3)] [] T F
  refine zr_lload_n C 1 dX4_addPiece_0 rfl rfl ?_
  refine zr_lstore C [(4, .long p1), (0, .ref a0), (1, .long p1), (3, .int p3)] dX4_addPiece_1 (by decide) rfl ?_
  refine zr_iconst C 0 dX4_addPiece_3 (by decide) ?_
  refine zr_istore C [(6, .int 0), (4, .long p1), (0, .ref a0), (1, .long p1), (3, .int p3)] dX4_addPiece_4 (by decide) rfl ?_
  obtain ⟨I1, ⟨n3, h036⟩, hI35⟩ := h
  have ky37 : ∀ (n2 : Nat) (y4 : Int64) (y5 : Int32), I1 n2 y4 y5 → z_w p l e ({ frames := 6, cells := 0, slots := 0, locals := 135 } : Room) s m args below meth c D cA N0 7 0 0 (MQ below (z_Qc D cA N0 (fun v T' F' => ∃ r : Int64, v = some (.long r) ∧ T = T' ∧ F = F' ∧ Post r)) args s 0 0 (fun q => N0 ≤ q)) 6 [(0, .ref a0), (1, .long p1), (3, .int p3), (4, .long y4), (6, .int y5)] [] T F := by
    intro n2
    induction n2 using Nat.strongRecOn with
    | _ n2 ih6 =>
      intro y4 y5 hin
      have h := hI35 n2 y4 y5 hin
      refine zr_iload C 4 dX4_addPiece_6 rfl ?_
      refine zr_iconst C 4 dX4_addPiece_8 (by decide) ?_
      obtain ⟨h1, h2⟩ := h
      refine zr_icmp_gt C 35 dX4_addPiece_9 (by decide) (fun hc => ?_) (fun hc => ?_)
      · have h := h1 hc
        clear h1 h2
        refine zr_iconst C 0 dX4_addPiece_35 (by decide) ?_
        refine zr_istore C [(6, .int 0), (0, .ref a0), (1, .long p1), (3, .int p3), (4, .long y4)] dX4_addPiece_36 (by decide) rfl ?_
        obtain ⟨I8, ⟨n10, h027⟩, hI26⟩ := h
        have ky28 : ∀ (n9 : Nat) (y11 : Int64) (y12 : Int32), I8 n9 y11 y12 → z_w p l e ({ frames := 6, cells := 0, slots := 0, locals := 135 } : Room) s m args below meth c D cA N0 7 0 0 (MQ below (z_Qc D cA N0 (fun v T' F' => ∃ r : Int64, v = some (.long r) ∧ T = T' ∧ F = F' ∧ Post r)) args s 0 0 (fun q => N0 ≤ q)) 38 [(0, .ref a0), (1, .long p1), (3, .int p3), (4, .long y11), (6, .int y12)] [] T F := by
          intro n9
          induction n9 using Nat.strongRecOn with
          | _ n9 ih13 =>
            intro y11 y12 hin
            have h := hI26 n9 y11 y12 hin
            refine zr_iload C 4 dX4_addPiece_38 rfl ?_
            refine zr_iconst C 4 dX4_addPiece_40 (by decide) ?_
            obtain ⟨h1, h2⟩ := h
            refine zr_icmp_ge C 74 dX4_addPiece_41 (by decide) (fun hc => ?_) (fun hc => ?_)
            · have h := h1 hc
              clear h1 h2
              refine zr_lload C 3 dX4_addPiece_74 rfl ?_
              exact zr_lret C rfl ⟨_, rfl, rfl, rfl, h⟩ (Nat.le_of_ble_eq_true rfl) (Nat.le_of_ble_eq_true rfl) dX4_addPiece_76
            · have h := h2 hc
              clear h1 h2
              refine zr_lload C 3 dX4_addPiece_44 rfl ?_
              refine zr_ldc2 C 31 dX4_addPiece_46 zq_418 ?_
              refine zr_lmul C dX4_addPiece_49 ?_
              refine zr_aload_n C 0 dX4_addPiece_50 rfl rfl ?_
              refine zr_iload_n C 2 dX4_addPiece_51 rfl rfl ?_
              refine zr_iload C 4 dX4_addPiece_52 rfl ?_
              refine zr_aload_n C 0 dX4_addPiece_54 rfl rfl ?_
              obtain ⟨hT15, x17, hv16, h⟩ := h
              refine zr_get C fl_X4_23 hT15 hv16 dX4_addPiece_55 ?_
              obtain ⟨hT18, x20, hv19, h⟩ := h
              refine zr_get C fl_X4_52 hT18 hv19 dX4_addPiece_58 ?_
              refine zr_callV (As := [.int p3, .int y12, .int x20]) (r := (RX4, TX4, 4)) C (k_X4_reason0 h) ok_X4_339 zq_473 zq_474 hT15 (by decide) rfl rfl ⟨by decide, (Nat.le_of_ble_eq_true rfl)⟩ ⟨(Nat.le_of_ble_eq_true rfl), (Nat.le_of_ble_eq_true rfl)⟩ (Nat.le_of_ble_eq_true rfl) dX4_addPiece_61 (fun v23 U24 G25 hq => ?_)
              clear h
              · obtain ⟨r21, rfl, rfl, rfl, h⟩ := hq
                refine zr_i2l C dX4_addPiece_64 ?_
                refine zr_ladd C dX4_addPiece_65 ?_
                refine zr_lstore C [(4, .long ((y11 * 31) + r21.toInt64)), (0, .ref a0), (1, .long p1), (3, .int p3), (6, .int y12)] dX4_addPiece_66 (by decide) rfl ?_
                refine zr_iinc C [(6, .int (y12 + 1)), (4, .long ((y11 * 31) + r21.toInt64)), (0, .ref a0), (1, .long p1), (3, .int p3)] 4 dX4_addPiece_68 rfl rfl (by decide) rfl ?_
                refine zr_goto C 38 dX4_addPiece_71 (by decide) ?_
                obtain ⟨n22, hlt, h⟩ := h
                exact zr_sub [2, 3, 4, 1, 0] rfl (ih13 n22 hlt ((y11 * 31) + r21.toInt64) (y12 + 1) h)
        exact zr_sub [1, 2, 3, 4, 0] rfl (ky28 n10 y4 0 h027)
      · have h := h2 hc
        clear h1 h2
        refine zr_lload C 3 dX4_addPiece_12 rfl ?_
        refine zr_ldc2 C 31 dX4_addPiece_14 zq_418 ?_
        refine zr_lmul C dX4_addPiece_17 ?_
        refine zr_aload_n C 0 dX4_addPiece_18 rfl rfl ?_
        refine zr_iload_n C 2 dX4_addPiece_19 rfl rfl ?_
        refine zr_iload C 4 dX4_addPiece_20 rfl ?_
        obtain ⟨hT29, h⟩ := h
        refine zr_callV (As := [.int p3, .int y5]) (r := (RX4, TX4, 4)) C (k_X4_ofPiece0 h) ok_X4_336 zq_433 zq_434 hT29 (by decide) rfl rfl ⟨by decide, (Nat.le_of_ble_eq_true rfl)⟩ ⟨(Nat.le_of_ble_eq_true rfl), (Nat.le_of_ble_eq_true rfl)⟩ (Nat.le_of_ble_eq_true rfl) dX4_addPiece_22 (fun v32 U33 G34 hq => ?_)
        clear h
        · obtain ⟨r30, rfl, rfl, rfl, h⟩ := hq
          refine zr_i2l C dX4_addPiece_25 ?_
          refine zr_ladd C dX4_addPiece_26 ?_
          refine zr_lstore C [(4, .long ((y4 * 31) + r30.toInt64)), (0, .ref a0), (1, .long p1), (3, .int p3), (6, .int y5)] dX4_addPiece_27 (by decide) rfl ?_
          refine zr_iinc C [(6, .int (y5 + 1)), (4, .long ((y4 * 31) + r30.toInt64)), (0, .ref a0), (1, .long p1), (3, .int p3)] 4 dX4_addPiece_29 rfl rfl (by decide) rfl ?_
          refine zr_goto C 6 dX4_addPiece_32 (by decide) ?_
          obtain ⟨n31, hlt, h⟩ := h
          exact zr_sub [2, 3, 4, 1, 0] rfl (ih6 n31 hlt ((y4 * 31) + r30.toInt64) (y5 + 1) h)
  exact zr_sub [2, 3, 4, 1, 0] rfl (ky37 n3 p1 0 h036)
theorem dX4_addBooking_0 : decode cX4_addBooking 0 = .ok (.lload_n 1, 1) := by decide +kernel
theorem dX4_addBooking_1 : decode cX4_addBooking 1 = .ok (.lstore 4, 2) := by decide +kernel
theorem dX4_addBooking_3 : decode cX4_addBooking 3 = .ok (.iconst 0, 1) := by decide +kernel
theorem dX4_addBooking_4 : decode cX4_addBooking 4 = .ok (.istore 6, 2) := by decide +kernel
theorem dX4_addBooking_6 : decode cX4_addBooking 6 = .ok (.iload 6, 2) := by decide +kernel
theorem dX4_addBooking_8 : decode cX4_addBooking 8 = .ok (.bipush 11, 2) := by decide +kernel
theorem dX4_addBooking_10 : decode cX4_addBooking 10 = .ok (.if_icmp .gt 26, 3) := by decide +kernel
theorem dX4_addBooking_36 : decode cX4_addBooking 36 = .ok (.lload 4, 2) := by decide +kernel
theorem dX4_addBooking_38 : decode cX4_addBooking 38 = .ok (.ldc2_w 315, 3) := by decide +kernel
theorem dX4_addBooking_41 : decode cX4_addBooking 41 = .ok (.lmul, 1) := by decide +kernel
theorem dX4_addBooking_42 : decode cX4_addBooking 42 = .ok (.aload_n 0, 1) := by decide +kernel
theorem dX4_addBooking_43 : decode cX4_addBooking 43 = .ok (.iload_n 3, 1) := by decide +kernel
theorem dX4_addBooking_47 : decode cX4_addBooking 47 = .ok (.i2l, 1) := by decide +kernel
theorem dX4_addBooking_48 : decode cX4_addBooking 48 = .ok (.ladd, 1) := by decide +kernel
theorem dX4_addBooking_49 : decode cX4_addBooking 49 = .ok (.lstore 4, 2) := by decide +kernel
theorem dX4_addBooking_51 : decode cX4_addBooking 51 = .ok (.lload 4, 2) := by decide +kernel
theorem dX4_addBooking_53 : decode cX4_addBooking 53 = .ok (.ldc2_w 315, 3) := by decide +kernel
theorem dX4_addBooking_56 : decode cX4_addBooking 56 = .ok (.lmul, 1) := by decide +kernel
theorem dX4_addBooking_57 : decode cX4_addBooking 57 = .ok (.aload_n 0, 1) := by decide +kernel
theorem dX4_addBooking_58 : decode cX4_addBooking 58 = .ok (.iload_n 3, 1) := by decide +kernel
theorem dX4_addBooking_62 : decode cX4_addBooking 62 = .ok (.i2l, 1) := by decide +kernel
theorem dX4_addBooking_63 : decode cX4_addBooking 63 = .ok (.ladd, 1) := by decide +kernel
theorem dX4_addBooking_64 : decode cX4_addBooking 64 = .ok (.lreturn, 1) := by decide +kernel
theorem dX4_addBooking_59 : decode cX4_addBooking 59 = .ok (.invokevirtual 348, 3) := by decide +kernel
theorem dX4_addBooking_44 : decode cX4_addBooking 44 = .ok (.invokevirtual 345, 3) := by decide +kernel
theorem dX4_addBooking_13 : decode cX4_addBooking 13 = .ok (.lload 4, 2) := by decide +kernel
theorem dX4_addBooking_15 : decode cX4_addBooking 15 = .ok (.ldc2_w 315, 3) := by decide +kernel
theorem dX4_addBooking_18 : decode cX4_addBooking 18 = .ok (.lmul, 1) := by decide +kernel
theorem dX4_addBooking_19 : decode cX4_addBooking 19 = .ok (.aload_n 0, 1) := by decide +kernel
theorem dX4_addBooking_20 : decode cX4_addBooking 20 = .ok (.iload_n 3, 1) := by decide +kernel
theorem dX4_addBooking_21 : decode cX4_addBooking 21 = .ok (.iload 6, 2) := by decide +kernel
theorem dX4_addBooking_26 : decode cX4_addBooking 26 = .ok (.i2l, 1) := by decide +kernel
theorem dX4_addBooking_27 : decode cX4_addBooking 27 = .ok (.ladd, 1) := by decide +kernel
theorem dX4_addBooking_28 : decode cX4_addBooking 28 = .ok (.lstore 4, 2) := by decide +kernel
theorem dX4_addBooking_30 : decode cX4_addBooking 30 = .ok (.iinc 6 1, 3) := by decide +kernel
theorem dX4_addBooking_33 : decode cX4_addBooking 33 = .ok (.goto (-27), 3) := by decide +kernel
theorem dX4_addBooking_23 : decode cX4_addBooking 23 = .ok (.invokevirtual 342, 3) := by decide +kernel
def v_X4_addBooking (a0 : Nat) (p1 : Int64) (p3 : Int32) (T : zT) (F : zF) (Post : Int64 → Prop) : Prop :=
  (∃ I1 : Nat → Int64 → Int32 → Prop, (∃ n3 : Nat, I1 n3 p1 0) ∧ (∀ (n2 : Nat) (y4 : Int64) (y5 : Int32), I1 n2 y4 y5 → ((11 < y5 → (T a0 = some (5, 4) ∧ (v_X4_swapFor a0 p3 T F (fun (r9 : Int32) => (v_X4_offIn a0 p3 T F (fun (r10 : Int32) => Post ((((y4 * 31) + r9.toInt64) * 31) + r10.toInt64)) (fun _ => False))) (fun _ => False)))) ∧ (¬ 11 < y5 → (T a0 = some (5, 4) ∧ (v_X4_ofBooking a0 p3 y5 T F (fun (r18 : Int32) => (∃ n19 : Nat, n19 < n2 ∧ I1 n19 ((y4 * 31) + r18.toInt64) (y5 + 1))) (fun _ => False)))))))
set_option maxRecDepth 100000 in
set_option maxHeartbeats 4000000 in
theorem k_X4_addBooking {l : Launch} {D : va_G} {cA : Nat → ClassId} {N0 zE : Nat} {a0 : Nat} {p1 : Int64} {p3 : Int32} {T : zT} {F : zF} {Post : Int64 → Prop} (h : v_X4_addBooking a0 p1 p3 T F Post) : z_Mt l D cA N0 zE yX4_addBooking cX4_addBooking 7 (some .long) ({ frames := 7, cells := 0, slots := 0, locals := 155 } : Room) [.ref a0, .long p1, .int p3] T F (fun v T' F' => ∃ r : Int64, v = some (.long r) ∧ T = T' ∧ F = F' ∧ Post r) := by
  unfold v_X4_addBooking at h
  refine z_bodyT (by decide) (Nat.le_of_ble_eq_true rfl) ?_
  intro p e s m args below meth c C hnm
  have C : z_C p l s m args meth c RX4 cX4_addBooking 7 (some .long) D cA N0 zE := C
  show z_w p l e ({ frames := 7, cells := 0, slots := 0, locals := 155 } : Room) s m args below meth c D cA N0 7 0 0 (MQ below (z_Qc D cA N0 (fun v T' F' => ∃ r : Int64, v = some (.long r) ∧ T = T' ∧ F = F' ∧ Post r)) args s 0 0 (fun q => N0 ≤ q)) 0 [(0, .ref a0), (1, .long p1), (3, .int p3)] [] T F
  refine zr_lload_n C 1 dX4_addBooking_0 rfl rfl ?_
  refine zr_lstore C [(4, .long p1), (0, .ref a0), (1, .long p1), (3, .int p3)] dX4_addBooking_1 (by decide) rfl ?_
  refine zr_iconst C 0 dX4_addBooking_3 (by decide) ?_
  refine zr_istore C [(6, .int 0), (4, .long p1), (0, .ref a0), (1, .long p1), (3, .int p3)] dX4_addBooking_4 (by decide) rfl ?_
  obtain ⟨I1, ⟨n3, h024⟩, hI23⟩ := h
  have ky25 : ∀ (n2 : Nat) (y4 : Int64) (y5 : Int32), I1 n2 y4 y5 → z_w p l e ({ frames := 7, cells := 0, slots := 0, locals := 155 } : Room) s m args below meth c D cA N0 7 0 0 (MQ below (z_Qc D cA N0 (fun v T' F' => ∃ r : Int64, v = some (.long r) ∧ T = T' ∧ F = F' ∧ Post r)) args s 0 0 (fun q => N0 ≤ q)) 6 [(0, .ref a0), (1, .long p1), (3, .int p3), (4, .long y4), (6, .int y5)] [] T F := by
    intro n2
    induction n2 using Nat.strongRecOn with
    | _ n2 ih6 =>
      intro y4 y5 hin
      have h := hI23 n2 y4 y5 hin
      refine zr_iload C 4 dX4_addBooking_6 rfl ?_
      refine zr_bipush C 11 dX4_addBooking_8 (by decide) ?_
      obtain ⟨h1, h2⟩ := h
      refine zr_icmp_gt C 36 dX4_addBooking_10 (by decide) (fun hc => ?_) (fun hc => ?_)
      · have h := h1 hc
        clear h1 h2
        refine zr_lload C 3 dX4_addBooking_36 rfl ?_
        refine zr_ldc2 C 31 dX4_addBooking_38 zq_418 ?_
        refine zr_lmul C dX4_addBooking_41 ?_
        refine zr_aload_n C 0 dX4_addBooking_42 rfl rfl ?_
        refine zr_iload_n C 2 dX4_addBooking_43 rfl rfl ?_
        obtain ⟨hT8, h⟩ := h
        refine zr_callV (As := [.int p3]) (r := (RX4, TX4, 4)) C (k_X4_swapFor0 h) ok_X4_345 zq_505 zq_506 hT8 (by decide) rfl rfl ⟨by decide, (Nat.le_of_ble_eq_true rfl)⟩ ⟨(Nat.le_of_ble_eq_true rfl), (Nat.le_of_ble_eq_true rfl)⟩ (Nat.le_of_ble_eq_true rfl) dX4_addBooking_44 (fun v14 U15 G16 hq => ?_)
        clear h
        · obtain ⟨r9, rfl, rfl, rfl, h⟩ := hq
          refine zr_i2l C dX4_addBooking_47 ?_
          refine zr_ladd C dX4_addBooking_48 ?_
          refine zr_lstore C [(4, .long ((y4 * 31) + r9.toInt64)), (0, .ref a0), (1, .long p1), (3, .int p3), (6, .int y5)] dX4_addBooking_49 (by decide) rfl ?_
          refine zr_lload C 0 dX4_addBooking_51 rfl ?_
          refine zr_ldc2 C 31 dX4_addBooking_53 zq_418 ?_
          refine zr_lmul C dX4_addBooking_56 ?_
          refine zr_aload_n C 1 dX4_addBooking_57 rfl rfl ?_
          refine zr_iload_n C 3 dX4_addBooking_58 rfl rfl ?_
          refine zr_callV (As := [.int p3]) (r := (RX4, TX4, 4)) C (k_X4_offIn0 h) ok_X4_348 zq_524 zq_525 hT8 (by decide) rfl rfl ⟨by decide, (Nat.le_of_ble_eq_true rfl)⟩ ⟨(Nat.le_of_ble_eq_true rfl), (Nat.le_of_ble_eq_true rfl)⟩ (Nat.le_of_ble_eq_true rfl) dX4_addBooking_59 (fun v11 U12 G13 hq => ?_)
          clear h
          · obtain ⟨r10, rfl, rfl, rfl, h⟩ := hq
            refine zr_i2l C dX4_addBooking_62 ?_
            refine zr_ladd C dX4_addBooking_63 ?_
            exact zr_lret C rfl ⟨_, rfl, rfl, rfl, h⟩ (Nat.le_of_ble_eq_true rfl) (Nat.le_of_ble_eq_true rfl) dX4_addBooking_64
      · have h := h2 hc
        clear h1 h2
        refine zr_lload C 3 dX4_addBooking_13 rfl ?_
        refine zr_ldc2 C 31 dX4_addBooking_15 zq_418 ?_
        refine zr_lmul C dX4_addBooking_18 ?_
        refine zr_aload_n C 0 dX4_addBooking_19 rfl rfl ?_
        refine zr_iload_n C 2 dX4_addBooking_20 rfl rfl ?_
        refine zr_iload C 4 dX4_addBooking_21 rfl ?_
        obtain ⟨hT17, h⟩ := h
        refine zr_callV (As := [.int p3, .int y5]) (r := (RX4, TX4, 4)) C (k_X4_ofBooking0 h) ok_X4_342 zq_378 zq_379 hT17 (by decide) rfl rfl ⟨by decide, (Nat.le_of_ble_eq_true rfl)⟩ ⟨(Nat.le_of_ble_eq_true rfl), (Nat.le_of_ble_eq_true rfl)⟩ (Nat.le_of_ble_eq_true rfl) dX4_addBooking_23 (fun v20 U21 G22 hq => ?_)
        clear h
        · obtain ⟨r18, rfl, rfl, rfl, h⟩ := hq
          refine zr_i2l C dX4_addBooking_26 ?_
          refine zr_ladd C dX4_addBooking_27 ?_
          refine zr_lstore C [(4, .long ((y4 * 31) + r18.toInt64)), (0, .ref a0), (1, .long p1), (3, .int p3), (6, .int y5)] dX4_addBooking_28 (by decide) rfl ?_
          refine zr_iinc C [(6, .int (y5 + 1)), (4, .long ((y4 * 31) + r18.toInt64)), (0, .ref a0), (1, .long p1), (3, .int p3)] 4 dX4_addBooking_30 rfl rfl (by decide) rfl ?_
          refine zr_goto C 6 dX4_addBooking_33 (by decide) ?_
          obtain ⟨n19, hlt, h⟩ := h
          exact zr_sub [2, 3, 4, 1, 0] rfl (ih6 n19 hlt ((y4 * 31) + r18.toInt64) (y5 + 1) h)
  exact zr_sub [2, 3, 4, 1, 0] rfl (ky25 n3 p1 0 h024)
theorem dX4_digest_0 : decode cX4_digest 0 = .ok (.ldc2_w 313, 3) := by decide +kernel
theorem dX4_digest_3 : decode cX4_digest 3 = .ok (.lstore_n 1, 1) := by decide +kernel
theorem dX4_digest_4 : decode cX4_digest 4 = .ok (.iconst 0, 1) := by decide +kernel
theorem dX4_digest_5 : decode cX4_digest 5 = .ok (.istore_n 3, 1) := by decide +kernel
theorem dX4_digest_6 : decode cX4_digest 6 = .ok (.iload_n 3, 1) := by decide +kernel
theorem dX4_digest_7 : decode cX4_digest 7 = .ok (.bipush 10, 2) := by decide +kernel
theorem dX4_digest_9 : decode cX4_digest 9 = .ok (.if_icmp .gt 22, 3) := by decide +kernel
theorem dX4_digest_31 : decode cX4_digest 31 = .ok (.iconst 0, 1) := by decide +kernel
theorem dX4_digest_32 : decode cX4_digest 32 = .ok (.istore_n 3, 1) := by decide +kernel
theorem dX4_digest_33 : decode cX4_digest 33 = .ok (.iload_n 3, 1) := by decide +kernel
theorem dX4_digest_34 : decode cX4_digest 34 = .ok (.aload_n 0, 1) := by decide +kernel
theorem dX4_digest_35 : decode cX4_digest 35 = .ok (.getfield 10, 3) := by decide +kernel
theorem dX4_digest_41 : decode cX4_digest 41 = .ok (.if_icmp .ge 44, 3) := by decide +kernel
theorem dX4_digest_85 : decode cX4_digest 85 = .ok (.iconst 0, 1) := by decide +kernel
theorem dX4_digest_86 : decode cX4_digest 86 = .ok (.istore_n 3, 1) := by decide +kernel
theorem dX4_digest_87 : decode cX4_digest 87 = .ok (.iload_n 3, 1) := by decide +kernel
theorem dX4_digest_88 : decode cX4_digest 88 = .ok (.aload_n 0, 1) := by decide +kernel
theorem dX4_digest_89 : decode cX4_digest 89 = .ok (.getfield 23, 3) := by decide +kernel
theorem dX4_digest_92 : decode cX4_digest 92 = .ok (.getfield 112, 3) := by decide +kernel
theorem dX4_digest_98 : decode cX4_digest 98 = .ok (.if_icmp .ge 16, 3) := by decide +kernel
theorem dX4_digest_114 : decode cX4_digest 114 = .ok (.iconst 0, 1) := by decide +kernel
theorem dX4_digest_115 : decode cX4_digest 115 = .ok (.istore_n 3, 1) := by decide +kernel
theorem dX4_digest_116 : decode cX4_digest 116 = .ok (.iload_n 3, 1) := by decide +kernel
theorem dX4_digest_117 : decode cX4_digest 117 = .ok (.aload_n 0, 1) := by decide +kernel
theorem dX4_digest_118 : decode cX4_digest 118 = .ok (.getfield 23, 3) := by decide +kernel
theorem dX4_digest_121 : decode cX4_digest 121 = .ok (.getfield 179, 3) := by decide +kernel
theorem dX4_digest_127 : decode cX4_digest 127 = .ok (.if_icmp .ge 16, 3) := by decide +kernel
theorem dX4_digest_143 : decode cX4_digest 143 = .ok (.iconst 0, 1) := by decide +kernel
theorem dX4_digest_144 : decode cX4_digest 144 = .ok (.istore_n 3, 1) := by decide +kernel
theorem dX4_digest_145 : decode cX4_digest 145 = .ok (.iload_n 3, 1) := by decide +kernel
theorem dX4_digest_146 : decode cX4_digest 146 = .ok (.iconst 4, 1) := by decide +kernel
theorem dX4_digest_147 : decode cX4_digest 147 = .ok (.if_icmp .ge 22, 3) := by decide +kernel
theorem dX4_digest_169 : decode cX4_digest 169 = .ok (.lload_n 1, 1) := by decide +kernel
theorem dX4_digest_170 : decode cX4_digest 170 = .ok (.ldc2_w 315, 3) := by decide +kernel
theorem dX4_digest_173 : decode cX4_digest 173 = .ok (.lmul, 1) := by decide +kernel
theorem dX4_digest_174 : decode cX4_digest 174 = .ok (.aload_n 0, 1) := by decide +kernel
theorem dX4_digest_175 : decode cX4_digest 175 = .ok (.bipush 20, 2) := by decide +kernel
theorem dX4_digest_180 : decode cX4_digest 180 = .ok (.i2l, 1) := by decide +kernel
theorem dX4_digest_181 : decode cX4_digest 181 = .ok (.ladd, 1) := by decide +kernel
theorem dX4_digest_182 : decode cX4_digest 182 = .ok (.lreturn, 1) := by decide +kernel
theorem dX4_digest_177 : decode cX4_digest 177 = .ok (.invokevirtual 333, 3) := by decide +kernel
theorem dX4_digest_150 : decode cX4_digest 150 = .ok (.lload_n 1, 1) := by decide +kernel
theorem dX4_digest_151 : decode cX4_digest 151 = .ok (.ldc2_w 315, 3) := by decide +kernel
theorem dX4_digest_154 : decode cX4_digest 154 = .ok (.lmul, 1) := by decide +kernel
theorem dX4_digest_155 : decode cX4_digest 155 = .ok (.aload_n 0, 1) := by decide +kernel
theorem dX4_digest_156 : decode cX4_digest 156 = .ok (.iload_n 3, 1) := by decide +kernel
theorem dX4_digest_160 : decode cX4_digest 160 = .ok (.i2l, 1) := by decide +kernel
theorem dX4_digest_161 : decode cX4_digest 161 = .ok (.ladd, 1) := by decide +kernel
theorem dX4_digest_162 : decode cX4_digest 162 = .ok (.lstore_n 1, 1) := by decide +kernel
theorem dX4_digest_163 : decode cX4_digest 163 = .ok (.iinc 3 1, 3) := by decide +kernel
theorem dX4_digest_166 : decode cX4_digest 166 = .ok (.goto (-21), 3) := by decide +kernel
theorem dX4_digest_157 : decode cX4_digest 157 = .ok (.invokevirtual 330, 3) := by decide +kernel
theorem dX4_digest_130 : decode cX4_digest 130 = .ok (.aload_n 0, 1) := by decide +kernel
theorem dX4_digest_131 : decode cX4_digest 131 = .ok (.lload_n 1, 1) := by decide +kernel
theorem dX4_digest_132 : decode cX4_digest 132 = .ok (.iload_n 3, 1) := by decide +kernel
theorem dX4_digest_136 : decode cX4_digest 136 = .ok (.lstore_n 1, 1) := by decide +kernel
theorem dX4_digest_137 : decode cX4_digest 137 = .ok (.iinc 3 1, 3) := by decide +kernel
theorem dX4_digest_140 : decode cX4_digest 140 = .ok (.goto (-24), 3) := by decide +kernel
theorem dX4_digest_133 : decode cX4_digest 133 = .ok (.invokevirtual 327, 3) := by decide +kernel
theorem dX4_digest_124 : decode cX4_digest 124 = .ok (.invokevirtual 30, 3) := by decide +kernel
theorem dX4_digest_101 : decode cX4_digest 101 = .ok (.aload_n 0, 1) := by decide +kernel
theorem dX4_digest_102 : decode cX4_digest 102 = .ok (.lload_n 1, 1) := by decide +kernel
theorem dX4_digest_103 : decode cX4_digest 103 = .ok (.iload_n 3, 1) := by decide +kernel
theorem dX4_digest_107 : decode cX4_digest 107 = .ok (.lstore_n 1, 1) := by decide +kernel
theorem dX4_digest_108 : decode cX4_digest 108 = .ok (.iinc 3 1, 3) := by decide +kernel
theorem dX4_digest_111 : decode cX4_digest 111 = .ok (.goto (-24), 3) := by decide +kernel
theorem dX4_digest_104 : decode cX4_digest 104 = .ok (.invokevirtual 323, 3) := by decide +kernel
theorem dX4_digest_95 : decode cX4_digest 95 = .ok (.invokevirtual 30, 3) := by decide +kernel
theorem dX4_digest_44 : decode cX4_digest 44 = .ok (.lload_n 1, 1) := by decide +kernel
theorem dX4_digest_45 : decode cX4_digest 45 = .ok (.ldc2_w 315, 3) := by decide +kernel
theorem dX4_digest_48 : decode cX4_digest 48 = .ok (.lmul, 1) := by decide +kernel
theorem dX4_digest_49 : decode cX4_digest 49 = .ok (.aload_n 0, 1) := by decide +kernel
theorem dX4_digest_50 : decode cX4_digest 50 = .ok (.iload_n 3, 1) := by decide +kernel
theorem dX4_digest_51 : decode cX4_digest 51 = .ok (.aload_n 0, 1) := by decide +kernel
theorem dX4_digest_52 : decode cX4_digest 52 = .ok (.getfield 23, 3) := by decide +kernel
theorem dX4_digest_55 : decode cX4_digest 55 = .ok (.getfield 52, 3) := by decide +kernel
theorem dX4_digest_61 : decode cX4_digest 61 = .ok (.i2l, 1) := by decide +kernel
theorem dX4_digest_62 : decode cX4_digest 62 = .ok (.ladd, 1) := by decide +kernel
theorem dX4_digest_63 : decode cX4_digest 63 = .ok (.lstore_n 1, 1) := by decide +kernel
theorem dX4_digest_64 : decode cX4_digest 64 = .ok (.lload_n 1, 1) := by decide +kernel
theorem dX4_digest_65 : decode cX4_digest 65 = .ok (.ldc2_w 315, 3) := by decide +kernel
theorem dX4_digest_68 : decode cX4_digest 68 = .ok (.lmul, 1) := by decide +kernel
theorem dX4_digest_69 : decode cX4_digest 69 = .ok (.aload_n 0, 1) := by decide +kernel
theorem dX4_digest_70 : decode cX4_digest 70 = .ok (.iload_n 3, 1) := by decide +kernel
theorem dX4_digest_71 : decode cX4_digest 71 = .ok (.bipush 99, 2) := by decide +kernel
theorem dX4_digest_76 : decode cX4_digest 76 = .ok (.i2l, 1) := by decide +kernel
theorem dX4_digest_77 : decode cX4_digest 77 = .ok (.ladd, 1) := by decide +kernel
theorem dX4_digest_78 : decode cX4_digest 78 = .ok (.lstore_n 1, 1) := by decide +kernel
theorem dX4_digest_79 : decode cX4_digest 79 = .ok (.iinc 3 1, 3) := by decide +kernel
theorem dX4_digest_82 : decode cX4_digest 82 = .ok (.goto (-49), 3) := by decide +kernel
theorem dX4_digest_73 : decode cX4_digest 73 = .ok (.invokevirtual 320, 3) := by decide +kernel
theorem dX4_digest_58 : decode cX4_digest 58 = .ok (.invokevirtual 320, 3) := by decide +kernel
theorem dX4_digest_38 : decode cX4_digest 38 = .ok (.invokevirtual 30, 3) := by decide +kernel
theorem dX4_digest_12 : decode cX4_digest 12 = .ok (.lload_n 1, 1) := by decide +kernel
theorem dX4_digest_13 : decode cX4_digest 13 = .ok (.ldc2_w 315, 3) := by decide +kernel
theorem dX4_digest_16 : decode cX4_digest 16 = .ok (.lmul, 1) := by decide +kernel
theorem dX4_digest_17 : decode cX4_digest 17 = .ok (.aload_n 0, 1) := by decide +kernel
theorem dX4_digest_18 : decode cX4_digest 18 = .ok (.iload_n 3, 1) := by decide +kernel
theorem dX4_digest_22 : decode cX4_digest 22 = .ok (.i2l, 1) := by decide +kernel
theorem dX4_digest_23 : decode cX4_digest 23 = .ok (.ladd, 1) := by decide +kernel
theorem dX4_digest_24 : decode cX4_digest 24 = .ok (.lstore_n 1, 1) := by decide +kernel
theorem dX4_digest_25 : decode cX4_digest 25 = .ok (.iinc 3 1, 3) := by decide +kernel
theorem dX4_digest_28 : decode cX4_digest 28 = .ok (.goto (-22), 3) := by decide +kernel
theorem dX4_digest_19 : decode cX4_digest 19 = .ok (.invokevirtual 317, 3) := by decide +kernel
def v_X4_digest (zE : Nat) (a0 : Nat) (T : zT) (F : zF) (Post : Int64 → zT → zF → Prop) : Prop :=
  (∃ I1 : Nat → Int64 → Int32 → Prop, (∃ n3 : Nat, I1 n3 5741 0) ∧ (∀ (n2 : Nat) (y4 : Int64) (y5 : Int32), I1 n2 y4 y5 → ((10 < y5 → (∃ I8 : Nat → Int64 → Int32 → Prop, (∃ n10 : Nat, I8 n10 y4 0) ∧ (∀ (n9 : Nat) (y11 : Int64) (y12 : Int32), I8 n9 y11 y12 → (T a0 = some (5, 4) ∧ ∃ x17 : Nat, F a0 0 = .ref x17 ∧ T x17 = some (0, 3) ∧ (v_Jx4a65c_size_8abf5 x17 T F (fun (r19 : Int32) => ((r19 ≤ y12 → (∃ I20 : Nat → Int64 → Int32 → Prop, (∃ n22 : Nat, I20 n22 y11 0) ∧ (∀ (n21 : Nat) (y23 : Int64) (y24 : Int32), I20 n21 y23 y24 → (∃ x28 : Nat, F a0 2 = .ref x28 ∧ T x28 = some (4, 3) ∧ ∃ x31 : Nat, F x28 1 = .ref x31 ∧ T x31 = some (0, 3) ∧ (v_Jx4a65c_size_8abf5 x31 T F (fun (r33 : Int32) => ((r33 ≤ y24 → (∃ I34 : Nat → Int64 → Int32 → Prop, (∃ n36 : Nat, I34 n36 y23 0) ∧ (∀ (n35 : Nat) (y37 : Int64) (y38 : Int32), I34 n35 y37 y38 → (∃ x42 : Nat, F x28 0 = .ref x42 ∧ T x42 = some (0, 3) ∧ (v_Jx4a65c_size_8abf5 x42 T F (fun (r44 : Int32) => ((r44 ≤ y38 → (∃ I45 : Nat → Int64 → Int32 → Prop, (∃ n47 : Nat, I45 n47 y37 0) ∧ (∀ (n46 : Nat) (y48 : Int64) (y49 : Int32), I45 n46 y48 y49 → ((4 ≤ y49 → (v_X4_lostIn zE a0 20 T F (fun (r52 : Int32) (T53 : zT) (F54 : zF) => Post ((y48 * 31) + r52.toInt64) T53 F54) (fun _ _ _ => False))) ∧ (¬ 4 ≤ y49 → (v_X4_reach a0 y49 T F (fun (r58 : Int32) => (∃ n59 : Nat, n59 < n46 ∧ I45 n59 ((y48 * 31) + r58.toInt64) (y49 + 1))) (fun _ => False))))))) ∧ (¬ r44 ≤ y38 → (v_X4_addBooking a0 y37 y38 T F (fun (r66 : Int64) => (∃ n67 : Nat, n67 < n35 ∧ I34 n67 r66 (y38 + 1)))))))))))) ∧ (¬ r33 ≤ y24 → (v_X4_addPiece a0 y23 y24 T F (fun (r77 : Int64) => (∃ n78 : Nat, n78 < n21 ∧ I20 n78 r77 (y24 + 1)))))))))))) ∧ (¬ r19 ≤ y12 → (∃ x89 : Nat, F a0 2 = .ref x89 ∧ T x89 = some (4, 3) ∧ ∃ x92 : Int32, F x89 2 = .int x92 ∧ (v_X4_versionOn a0 y12 x92 T F (fun (r93 : Int32) => (v_X4_versionOn a0 y12 99 T F (fun (r94 : Int32) => (∃ n95 : Nat, n95 < n9 ∧ I8 n95 ((((y11 * 31) + r93.toInt64) * 31) + r94.toInt64) (y12 + 1))) (fun _ => False))) (fun _ => False))))))))))) ∧ (¬ 10 < y5 → (T a0 = some (5, 4) ∧ (v_X4_many a0 y5 T F (fun (r109 : Int32) => (∃ n110 : Nat, n110 < n2 ∧ I1 n110 ((y4 * 31) + r109.toInt64) (y5 + 1))) (fun _ => False)))))))
set_option maxRecDepth 100000 in
set_option maxHeartbeats 4000000 in
theorem k_X4_digest {l : Launch} {D : va_G} {cA : Nat → ClassId} {N0 zE : Nat} {a0 : Nat} {T : zT} {F : zF} {Post : Int64 → zT → zF → Prop} (h : v_X4_digest zE a0 T F Post) : z_Mt l D cA N0 zE yX4_digest cX4_digest 4 (some .long) ({ frames := 9, cells := 51, slots := 1054, locals := 209 } : Room) [.ref a0] T F (fun v T' F' => ∃ r : Int64, v = some (.long r) ∧ Post r T' F') := by
  unfold v_X4_digest at h
  refine z_bodyT (by decide) (Nat.le_of_ble_eq_true rfl) ?_
  intro p e s m args below meth c C hnm
  have C : z_C p l s m args meth c RX4 cX4_digest 4 (some .long) D cA N0 zE := C
  show z_w p l e ({ frames := 9, cells := 51, slots := 1054, locals := 209 } : Room) s m args below meth c D cA N0 4 0 0 (MQ below (z_Qc D cA N0 (fun v T' F' => ∃ r : Int64, v = some (.long r) ∧ Post r T' F')) args s 51 1054 (fun q => N0 ≤ q)) 0 [(0, .ref a0)] [] T F
  refine zr_ldc2 C 5741 dX4_digest_0 zq_417 ?_
  refine zr_lstore_n C [(1, .long 5741), (0, .ref a0)] dX4_digest_3 rfl (by decide) rfl ?_
  refine zr_iconst C 0 dX4_digest_4 (by decide) ?_
  refine zr_istore_n C [(3, .int 0), (1, .long 5741), (0, .ref a0)] dX4_digest_5 rfl (by decide) rfl ?_
  obtain ⟨I1, ⟨n3, h0115⟩, hI114⟩ := h
  have ky116 : ∀ (n2 : Nat) (y4 : Int64) (y5 : Int32), I1 n2 y4 y5 → z_w p l e ({ frames := 9, cells := 51, slots := 1054, locals := 209 } : Room) s m args below meth c D cA N0 4 0 0 (MQ below (z_Qc D cA N0 (fun v T' F' => ∃ r : Int64, v = some (.long r) ∧ Post r T' F')) args s 51 1054 (fun q => N0 ≤ q)) 6 [(0, .ref a0), (1, .long y4), (3, .int y5)] [] T F := by
    intro n2
    induction n2 using Nat.strongRecOn with
    | _ n2 ih6 =>
      intro y4 y5 hin
      have h := hI114 n2 y4 y5 hin
      refine zr_iload_n C 2 dX4_digest_6 rfl rfl ?_
      refine zr_bipush C 10 dX4_digest_7 (by decide) ?_
      obtain ⟨h1, h2⟩ := h
      refine zr_icmp_gt C 31 dX4_digest_9 (by decide) (fun hc => ?_) (fun hc => ?_)
      · have h := h1 hc
        clear h1 h2
        refine zr_iconst C 0 dX4_digest_31 (by decide) ?_
        refine zr_istore_n C [(3, .int 0), (0, .ref a0), (1, .long y4)] dX4_digest_32 rfl (by decide) rfl ?_
        obtain ⟨I8, ⟨n10, h0106⟩, hI105⟩ := h
        have ky107 : ∀ (n9 : Nat) (y11 : Int64) (y12 : Int32), I8 n9 y11 y12 → z_w p l e ({ frames := 9, cells := 51, slots := 1054, locals := 209 } : Room) s m args below meth c D cA N0 4 0 0 (MQ below (z_Qc D cA N0 (fun v T' F' => ∃ r : Int64, v = some (.long r) ∧ Post r T' F')) args s 51 1054 (fun q => N0 ≤ q)) 33 [(0, .ref a0), (1, .long y11), (3, .int y12)] [] T F := by
          intro n9
          induction n9 using Nat.strongRecOn with
          | _ n9 ih13 =>
            intro y11 y12 hin
            have h := hI105 n9 y11 y12 hin
            refine zr_iload_n C 2 dX4_digest_33 rfl rfl ?_
            refine zr_aload_n C 0 dX4_digest_34 rfl rfl ?_
            obtain ⟨hT15, x17, hv16, h⟩ := h
            refine zr_get C fl_X4_10 hT15 hv16 dX4_digest_35 ?_
            obtain ⟨hT18, h⟩ := h
            refine zr_callV (As := []) (r := (RJx4a65c, TJx4a65c, 3)) C (k_Jx4a65c_size_8abf5 h) ok_X4_30 zq_112 zq_113 hT18 (by decide) rfl rfl ⟨by decide, (Nat.le_of_ble_eq_true rfl)⟩ ⟨(Nat.le_of_ble_eq_true rfl), (Nat.le_of_ble_eq_true rfl)⟩ (Nat.le_of_ble_eq_true rfl) dX4_digest_38 (fun v102 U103 G104 hq => ?_)
            clear h
            · obtain ⟨r19, rfl, rfl, rfl, h⟩ := hq
              obtain ⟨h1, h2⟩ := h
              refine zr_icmp_ge C 85 dX4_digest_41 (by decide) (fun hc => ?_) (fun hc => ?_)
              · have h := h1 hc
                clear h1 h2
                refine zr_iconst C 0 dX4_digest_85 (by decide) ?_
                refine zr_istore_n C [(3, .int 0), (0, .ref a0), (1, .long y11)] dX4_digest_86 rfl (by decide) rfl ?_
                obtain ⟨I20, ⟨n22, h086⟩, hI85⟩ := h
                have ky87 : ∀ (n21 : Nat) (y23 : Int64) (y24 : Int32), I20 n21 y23 y24 → z_w p l e ({ frames := 9, cells := 51, slots := 1054, locals := 209 } : Room) s m args below meth c D cA N0 4 0 0 (MQ below (z_Qc D cA N0 (fun v T' F' => ∃ r : Int64, v = some (.long r) ∧ Post r T' F')) args s 51 1054 (fun q => N0 ≤ q)) 87 [(0, .ref a0), (1, .long y23), (3, .int y24)] [] T F := by
                  intro n21
                  induction n21 using Nat.strongRecOn with
                  | _ n21 ih25 =>
                    intro y23 y24 hin
                    have h := hI85 n21 y23 y24 hin
                    refine zr_iload_n C 2 dX4_digest_87 rfl rfl ?_
                    refine zr_aload_n C 0 dX4_digest_88 rfl rfl ?_
                    obtain ⟨x28, hv27, h⟩ := h
                    refine zr_get C fl_X4_23 hT15 hv27 dX4_digest_89 ?_
                    obtain ⟨hT29, x31, hv30, h⟩ := h
                    refine zr_get C fl_X4_112 hT29 hv30 dX4_digest_92 ?_
                    obtain ⟨hT32, h⟩ := h
                    refine zr_callV (As := []) (r := (RJx4a65c, TJx4a65c, 3)) C (k_Jx4a65c_size_8abf5 h) ok_X4_30 zq_112 zq_113 hT32 (by decide) rfl rfl ⟨by decide, (Nat.le_of_ble_eq_true rfl)⟩ ⟨(Nat.le_of_ble_eq_true rfl), (Nat.le_of_ble_eq_true rfl)⟩ (Nat.le_of_ble_eq_true rfl) dX4_digest_95 (fun v82 U83 G84 hq => ?_)
                    clear h
                    · obtain ⟨r33, rfl, rfl, rfl, h⟩ := hq
                      obtain ⟨h1, h2⟩ := h
                      refine zr_icmp_ge C 114 dX4_digest_98 (by decide) (fun hc => ?_) (fun hc => ?_)
                      · have h := h1 hc
                        clear h1 h2
                        refine zr_iconst C 0 dX4_digest_114 (by decide) ?_
                        refine zr_istore_n C [(3, .int 0), (0, .ref a0), (1, .long y23)] dX4_digest_115 rfl (by decide) rfl ?_
                        obtain ⟨I34, ⟨n36, h075⟩, hI74⟩ := h
                        have ky76 : ∀ (n35 : Nat) (y37 : Int64) (y38 : Int32), I34 n35 y37 y38 → z_w p l e ({ frames := 9, cells := 51, slots := 1054, locals := 209 } : Room) s m args below meth c D cA N0 4 0 0 (MQ below (z_Qc D cA N0 (fun v T' F' => ∃ r : Int64, v = some (.long r) ∧ Post r T' F')) args s 51 1054 (fun q => N0 ≤ q)) 116 [(0, .ref a0), (1, .long y37), (3, .int y38)] [] T F := by
                          intro n35
                          induction n35 using Nat.strongRecOn with
                          | _ n35 ih39 =>
                            intro y37 y38 hin
                            have h := hI74 n35 y37 y38 hin
                            refine zr_iload_n C 2 dX4_digest_116 rfl rfl ?_
                            refine zr_aload_n C 0 dX4_digest_117 rfl rfl ?_
                            refine zr_get C fl_X4_23 hT15 hv27 dX4_digest_118 ?_
                            obtain ⟨x42, hv41, h⟩ := h
                            refine zr_get C fl_X4_179 hT29 hv41 dX4_digest_121 ?_
                            obtain ⟨hT43, h⟩ := h
                            refine zr_callV (As := []) (r := (RJx4a65c, TJx4a65c, 3)) C (k_Jx4a65c_size_8abf5 h) ok_X4_30 zq_112 zq_113 hT43 (by decide) rfl rfl ⟨by decide, (Nat.le_of_ble_eq_true rfl)⟩ ⟨(Nat.le_of_ble_eq_true rfl), (Nat.le_of_ble_eq_true rfl)⟩ (Nat.le_of_ble_eq_true rfl) dX4_digest_124 (fun v71 U72 G73 hq => ?_)
                            clear h
                            · obtain ⟨r44, rfl, rfl, rfl, h⟩ := hq
                              obtain ⟨h1, h2⟩ := h
                              refine zr_icmp_ge C 143 dX4_digest_127 (by decide) (fun hc => ?_) (fun hc => ?_)
                              · have h := h1 hc
                                clear h1 h2
                                refine zr_iconst C 0 dX4_digest_143 (by decide) ?_
                                refine zr_istore_n C [(3, .int 0), (0, .ref a0), (1, .long y37)] dX4_digest_144 rfl (by decide) rfl ?_
                                obtain ⟨I45, ⟨n47, h064⟩, hI63⟩ := h
                                have ky65 : ∀ (n46 : Nat) (y48 : Int64) (y49 : Int32), I45 n46 y48 y49 → z_w p l e ({ frames := 9, cells := 51, slots := 1054, locals := 209 } : Room) s m args below meth c D cA N0 4 0 0 (MQ below (z_Qc D cA N0 (fun v T' F' => ∃ r : Int64, v = some (.long r) ∧ Post r T' F')) args s 51 1054 (fun q => N0 ≤ q)) 145 [(0, .ref a0), (1, .long y48), (3, .int y49)] [] T F := by
                                  intro n46
                                  induction n46 using Nat.strongRecOn with
                                  | _ n46 ih50 =>
                                    intro y48 y49 hin
                                    have h := hI63 n46 y48 y49 hin
                                    refine zr_iload_n C 2 dX4_digest_145 rfl rfl ?_
                                    refine zr_iconst C 4 dX4_digest_146 (by decide) ?_
                                    obtain ⟨h1, h2⟩ := h
                                    refine zr_icmp_ge C 169 dX4_digest_147 (by decide) (fun hc => ?_) (fun hc => ?_)
                                    · have h := h1 hc
                                      clear h1 h2
                                      refine zr_lload_n C 1 dX4_digest_169 rfl rfl ?_
                                      refine zr_ldc2 C 31 dX4_digest_170 zq_418 ?_
                                      refine zr_lmul C dX4_digest_173 ?_
                                      refine zr_aload_n C 0 dX4_digest_174 rfl rfl ?_
                                      refine zr_bipush C 20 dX4_digest_175 (by decide) ?_
                                      refine zr_callV (As := [.int 20]) (r := (RX4, TX4, 4)) C (k_X4_lostIn0 h) ok_X4_333 zq_550 zq_551 hT15 (by decide) rfl rfl ⟨by decide, (Nat.le_of_ble_eq_true rfl)⟩ ⟨(Nat.le_of_ble_eq_true rfl), (Nat.le_of_ble_eq_true rfl)⟩ (Nat.le_of_ble_eq_true rfl) dX4_digest_177 (fun v55 U56 G57 hq => ?_)
                                      clear h
                                      · obtain ⟨r52, rfl, h⟩ := hq
                                        skip
                                        refine zr_i2l C dX4_digest_180 ?_
                                        refine zr_ladd C dX4_digest_181 ?_
                                        exact zr_lret C rfl ⟨_, rfl, h⟩ (Nat.le_of_ble_eq_true rfl) (Nat.le_of_ble_eq_true rfl) dX4_digest_182
                                    · have h := h2 hc
                                      clear h1 h2
                                      refine zr_lload_n C 1 dX4_digest_150 rfl rfl ?_
                                      refine zr_ldc2 C 31 dX4_digest_151 zq_418 ?_
                                      refine zr_lmul C dX4_digest_154 ?_
                                      refine zr_aload_n C 0 dX4_digest_155 rfl rfl ?_
                                      refine zr_iload_n C 2 dX4_digest_156 rfl rfl ?_
                                      refine zr_callV (As := [.int y49]) (r := (RX4, TX4, 4)) C (k_X4_reach0 h) ok_X4_330 zq_529 zq_530 hT15 (by decide) rfl rfl ⟨by decide, (Nat.le_of_ble_eq_true rfl)⟩ ⟨(Nat.le_of_ble_eq_true rfl), (Nat.le_of_ble_eq_true rfl)⟩ (Nat.le_of_ble_eq_true rfl) dX4_digest_157 (fun v60 U61 G62 hq => ?_)
                                      clear h
                                      · obtain ⟨r58, rfl, rfl, rfl, h⟩ := hq
                                        refine zr_i2l C dX4_digest_160 ?_
                                        refine zr_ladd C dX4_digest_161 ?_
                                        refine zr_lstore_n C [(1, .long ((y48 * 31) + r58.toInt64)), (0, .ref a0), (3, .int y49)] dX4_digest_162 rfl (by decide) rfl ?_
                                        refine zr_iinc C [(3, .int (y49 + 1)), (1, .long ((y48 * 31) + r58.toInt64)), (0, .ref a0)] 2 dX4_digest_163 rfl rfl (by decide) rfl ?_
                                        refine zr_goto C 145 dX4_digest_166 (by decide) ?_
                                        obtain ⟨n59, hlt, h⟩ := h
                                        exact zr_sub [2, 1, 0] rfl (ih50 n59 hlt ((y48 * 31) + r58.toInt64) (y49 + 1) h)
                                exact zr_sub [1, 2, 0] rfl (ky65 n47 y37 0 h064)
                              · have h := h2 hc
                                clear h1 h2
                                refine zr_aload_n C 0 dX4_digest_130 rfl rfl ?_
                                refine zr_lload_n C 1 dX4_digest_131 rfl rfl ?_
                                refine zr_iload_n C 2 dX4_digest_132 rfl rfl ?_
                                refine zr_callV (As := [.long y37, .int y38]) (r := (RX4, TX4, 4)) C (k_X4_addBooking h) ok_X4_327 zq_501 zq_8 hT15 (by decide) rfl rfl ⟨by decide, (Nat.le_of_ble_eq_true rfl)⟩ ⟨(Nat.le_of_ble_eq_true rfl), (Nat.le_of_ble_eq_true rfl)⟩ (Nat.le_of_ble_eq_true rfl) dX4_digest_133 (fun v68 U69 G70 hq => ?_)
                                clear h
                                · obtain ⟨r66, rfl, rfl, rfl, h⟩ := hq
                                  refine zr_lstore_n C [(1, .long r66), (0, .ref a0), (3, .int y38)] dX4_digest_136 rfl (by decide) rfl ?_
                                  refine zr_iinc C [(3, .int (y38 + 1)), (1, .long r66), (0, .ref a0)] 2 dX4_digest_137 rfl rfl (by decide) rfl ?_
                                  refine zr_goto C 116 dX4_digest_140 (by decide) ?_
                                  obtain ⟨n67, hlt, h⟩ := h
                                  exact zr_sub [2, 1, 0] rfl (ih39 n67 hlt r66 (y38 + 1) h)
                        exact zr_sub [1, 2, 0] rfl (ky76 n36 y23 0 h075)
                      · have h := h2 hc
                        clear h1 h2
                        refine zr_aload_n C 0 dX4_digest_101 rfl rfl ?_
                        refine zr_lload_n C 1 dX4_digest_102 rfl rfl ?_
                        refine zr_iload_n C 2 dX4_digest_103 rfl rfl ?_
                        refine zr_callV (As := [.long y23, .int y24]) (r := (RX4, TX4, 4)) C (k_X4_addPiece h) ok_X4_323 zq_430 zq_6 hT15 (by decide) rfl rfl ⟨by decide, (Nat.le_of_ble_eq_true rfl)⟩ ⟨(Nat.le_of_ble_eq_true rfl), (Nat.le_of_ble_eq_true rfl)⟩ (Nat.le_of_ble_eq_true rfl) dX4_digest_104 (fun v79 U80 G81 hq => ?_)
                        clear h
                        · obtain ⟨r77, rfl, rfl, rfl, h⟩ := hq
                          refine zr_lstore_n C [(1, .long r77), (0, .ref a0), (3, .int y24)] dX4_digest_107 rfl (by decide) rfl ?_
                          refine zr_iinc C [(3, .int (y24 + 1)), (1, .long r77), (0, .ref a0)] 2 dX4_digest_108 rfl rfl (by decide) rfl ?_
                          refine zr_goto C 87 dX4_digest_111 (by decide) ?_
                          obtain ⟨n78, hlt, h⟩ := h
                          exact zr_sub [2, 1, 0] rfl (ih25 n78 hlt r77 (y24 + 1) h)
                exact zr_sub [1, 2, 0] rfl (ky87 n22 y11 0 h086)
              · have h := h2 hc
                clear h1 h2
                refine zr_lload_n C 1 dX4_digest_44 rfl rfl ?_
                refine zr_ldc2 C 31 dX4_digest_45 zq_418 ?_
                refine zr_lmul C dX4_digest_48 ?_
                refine zr_aload_n C 0 dX4_digest_49 rfl rfl ?_
                refine zr_iload_n C 2 dX4_digest_50 rfl rfl ?_
                refine zr_aload_n C 0 dX4_digest_51 rfl rfl ?_
                obtain ⟨x89, hv88, h⟩ := h
                refine zr_get C fl_X4_23 hT15 hv88 dX4_digest_52 ?_
                obtain ⟨hT90, x92, hv91, h⟩ := h
                refine zr_get C fl_X4_52 hT90 hv91 dX4_digest_55 ?_
                refine zr_callV (As := [.int y12, .int x92]) (r := (RX4, TX4, 4)) C (k_X4_versionOn0 h) ok_X4_320 zq_421 zq_422 hT15 (by decide) rfl rfl ⟨by decide, (Nat.le_of_ble_eq_true rfl)⟩ ⟨(Nat.le_of_ble_eq_true rfl), (Nat.le_of_ble_eq_true rfl)⟩ (Nat.le_of_ble_eq_true rfl) dX4_digest_58 (fun v99 U100 G101 hq => ?_)
                clear h
                · obtain ⟨r93, rfl, rfl, rfl, h⟩ := hq
                  refine zr_i2l C dX4_digest_61 ?_
                  refine zr_ladd C dX4_digest_62 ?_
                  refine zr_lstore_n C [(1, .long ((y11 * 31) + r93.toInt64)), (0, .ref a0), (3, .int y12)] dX4_digest_63 rfl (by decide) rfl ?_
                  refine zr_lload_n C 0 dX4_digest_64 rfl rfl ?_
                  refine zr_ldc2 C 31 dX4_digest_65 zq_418 ?_
                  refine zr_lmul C dX4_digest_68 ?_
                  refine zr_aload_n C 1 dX4_digest_69 rfl rfl ?_
                  refine zr_iload_n C 2 dX4_digest_70 rfl rfl ?_
                  refine zr_bipush C 99 dX4_digest_71 (by decide) ?_
                  refine zr_callV (As := [.int y12, .int 99]) (r := (RX4, TX4, 4)) C (k_X4_versionOn0 h) ok_X4_320 zq_421 zq_422 hT15 (by decide) rfl rfl ⟨by decide, (Nat.le_of_ble_eq_true rfl)⟩ ⟨(Nat.le_of_ble_eq_true rfl), (Nat.le_of_ble_eq_true rfl)⟩ (Nat.le_of_ble_eq_true rfl) dX4_digest_73 (fun v96 U97 G98 hq => ?_)
                  clear h
                  · obtain ⟨r94, rfl, rfl, rfl, h⟩ := hq
                    refine zr_i2l C dX4_digest_76 ?_
                    refine zr_ladd C dX4_digest_77 ?_
                    refine zr_lstore_n C [(1, .long ((((y11 * 31) + r93.toInt64) * 31) + r94.toInt64)), (0, .ref a0), (3, .int y12)] dX4_digest_78 rfl (by decide) rfl ?_
                    refine zr_iinc C [(3, .int (y12 + 1)), (1, .long ((((y11 * 31) + r93.toInt64) * 31) + r94.toInt64)), (0, .ref a0)] 2 dX4_digest_79 rfl rfl (by decide) rfl ?_
                    refine zr_goto C 33 dX4_digest_82 (by decide) ?_
                    obtain ⟨n95, hlt, h⟩ := h
                    exact zr_sub [2, 1, 0] rfl (ih13 n95 hlt ((((y11 * 31) + r93.toInt64) * 31) + r94.toInt64) (y12 + 1) h)
        exact zr_sub [1, 2, 0] rfl (ky107 n10 y4 0 h0106)
      · have h := h2 hc
        clear h1 h2
        refine zr_lload_n C 1 dX4_digest_12 rfl rfl ?_
        refine zr_ldc2 C 31 dX4_digest_13 zq_418 ?_
        refine zr_lmul C dX4_digest_16 ?_
        refine zr_aload_n C 0 dX4_digest_17 rfl rfl ?_
        refine zr_iload_n C 2 dX4_digest_18 rfl rfl ?_
        obtain ⟨hT108, h⟩ := h
        refine zr_callV (As := [.int y5]) (r := (RX4, TX4, 4)) C (k_X4_many0 h) ok_X4_317 zq_393 zq_394 hT108 (by decide) rfl rfl ⟨by decide, (Nat.le_of_ble_eq_true rfl)⟩ ⟨(Nat.le_of_ble_eq_true rfl), (Nat.le_of_ble_eq_true rfl)⟩ (Nat.le_of_ble_eq_true rfl) dX4_digest_19 (fun v111 U112 G113 hq => ?_)
        clear h
        · obtain ⟨r109, rfl, rfl, rfl, h⟩ := hq
          refine zr_i2l C dX4_digest_22 ?_
          refine zr_ladd C dX4_digest_23 ?_
          refine zr_lstore_n C [(1, .long ((y4 * 31) + r109.toInt64)), (0, .ref a0), (3, .int y5)] dX4_digest_24 rfl (by decide) rfl ?_
          refine zr_iinc C [(3, .int (y5 + 1)), (1, .long ((y4 * 31) + r109.toInt64)), (0, .ref a0)] 2 dX4_digest_25 rfl rfl (by decide) rfl ?_
          refine zr_goto C 6 dX4_digest_28 (by decide) ?_
          obtain ⟨n110, hlt, h⟩ := h
          exact zr_sub [2, 1, 0] rfl (ih6 n110 hlt ((y4 * 31) + r109.toInt64) (y5 + 1) h)
  exact zr_sub [2, 1, 0] rfl (ky116 n3 5741 0 h0115)
