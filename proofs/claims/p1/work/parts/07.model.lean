theorem dX6_init_0 : decode cX6_init 0 = .ok (.aload_n 0, 1) := by decide +kernel
theorem dX6_init_1 : decode cX6_init 1 = .ok (.aload_n 1, 1) := by decide +kernel
theorem dX6_init_2 : decode cX6_init 2 = .ok (.putfield 3, 3) := by decide +kernel
theorem dX6_init_5 : decode cX6_init 5 = .ok (.aload_n 0, 1) := by decide +kernel
theorem dX6_init_6 : decode cX6_init 6 = .ok (.invokespecial 9, 3) := by decide +kernel
theorem dX6_init_9 : decode cX6_init 9 = .ok (.aload_n 0, 1) := by decide +kernel
theorem dX6_init_10 : decode cX6_init 10 = .ok (.new 15, 3) := by decide +kernel
theorem dX6_init_13 : decode cX6_init 13 = .ok (.dup, 1) := by decide +kernel
theorem dX6_init_17 : decode cX6_init 17 = .ok (.putfield 18, 3) := by decide +kernel
theorem dX6_init_20 : decode cX6_init 20 = .ok (.return_, 1) := by decide +kernel
theorem dX6_init_14 : decode cX6_init 14 = .ok (.invokespecial 17, 3) := by decide +kernel
def v_X6_init (zE : Nat) (a0 : Nat) (a1 : Nat) (T : zT) (F : zF) (Post : zT → zF → Prop) : Prop :=
  (T a0 = some (9, 3) ∧ (∀ q2 : Nat, (∀ b, q2 ≤ b → T b = none) → (v_Jx4a65c_init_da8c8 zE q2 (zn T q2 (2, 3)) (zm (zu F a0 2 (.ref a1)) q2 (fun j => defaultValue (tyJx4a65c j))) (fun (F4 : zF) => (zn T q2 (2, 3) a0 = some (9, 3) ∧ Post (zn T q2 (2, 3)) (zu F4 a0 0 (.ref q2)))))))
set_option maxRecDepth 100000 in
set_option maxHeartbeats 4000000 in
theorem k_X6_init {l : Launch} {D : va_G} {cA : Nat → ClassId} {N0 zE : Nat} {a0 : Nat} {a1 : Nat} {T : zT} {F : zF} {Post : zT → zF → Prop} (h : v_X6_init zE a0 a1 T F Post) : z_Mt l D cA N0 zE yX6_init cX6_init 2 none ({ frames := 4, cells := 1, slots := 3, locals := 80 } : Room) [.ref a0, .ref a1] T F (fun v T' F' => v = none ∧ Post T' F') := by
  unfold v_X6_init at h
  refine z_bodyT (by decide) (Nat.le_of_ble_eq_true rfl) ?_
  intro p e s m args below meth c C hnm
  have C : z_C p l s m args meth c RX6 cX6_init 2 none D cA N0 zE := C
  show z_w p l e ({ frames := 4, cells := 1, slots := 3, locals := 80 } : Room) s m args below meth c D cA N0 2 0 0 (MQ below (z_Qc D cA N0 (fun v T' F' => v = none ∧ Post T' F')) args s 1 3 (fun q => N0 ≤ q)) 0 [(0, .ref a0), (1, .ref a1)] [] T F
  refine zr_aload_n C 0 dX6_init_0 rfl rfl ?_
  refine zr_aload_n C 1 dX6_init_1 rfl rfl ?_
  obtain ⟨hT1, h⟩ := h
  refine zr_putF C fl_X6_3 fd_X6_3 hT1 rfl rfl hnm dX6_init_2 ?_
  refine zr_aload_n C 0 dX6_init_5 rfl rfl ?_
  refine zr_objInit C zq_938 zq_69 zq_70 (by decide) (Nat.le_of_ble_eq_true rfl) dX6_init_6 ?_
  refine zr_aload_n C 0 dX6_init_9 rfl rfl ?_
  refine zr_new C nw_X6_15 (Nat.le_of_ble_eq_true rfl) (Nat.le_of_ble_eq_true rfl) dX6_init_10 (fun q2 hq3 => ?_)
  have h := h q2 hq3
  refine zr_dup C dX6_init_13 rfl ?_
  refine zr_callI (As := []) C (k_Jx4a65c_init_da8c8 h) ok_X6_17 zq_74 rfl rfl ⟨by decide, (Nat.le_of_ble_eq_true rfl)⟩ ⟨(Nat.le_of_ble_eq_true rfl), (Nat.le_of_ble_eq_true rfl)⟩ (Nat.le_of_ble_eq_true rfl) dX6_init_14 (fun v6 U7 G8 hq => ?_)
  clear h
  · obtain ⟨rfl, rfl, h⟩ := hq
    obtain ⟨hT5, h⟩ := h
    refine zr_putF C fl_X6_18 fd_X6_18 hT5 rfl rfl hnm dX6_init_17 ?_
    exact zr_vret C rfl ⟨rfl, h⟩ (Nat.le_of_ble_eq_true rfl) (Nat.le_of_ble_eq_true rfl) dX6_init_20
theorem dX9_init_0 : decode cX9_init 0 = .ok (.aload_n 0, 1) := by decide +kernel
theorem dX9_init_1 : decode cX9_init 1 = .ok (.invokespecial 1, 3) := by decide +kernel
theorem dX9_init_4 : decode cX9_init 4 = .ok (.aload_n 0, 1) := by decide +kernel
theorem dX9_init_5 : decode cX9_init 5 = .ok (.new 7, 3) := by decide +kernel
theorem dX9_init_8 : decode cX9_init 8 = .ok (.dup, 1) := by decide +kernel
theorem dX9_init_12 : decode cX9_init 12 = .ok (.putfield 10, 3) := by decide +kernel
theorem dX9_init_15 : decode cX9_init 15 = .ok (.aload_n 0, 1) := by decide +kernel
theorem dX9_init_16 : decode cX9_init 16 = .ok (.new 7, 3) := by decide +kernel
theorem dX9_init_19 : decode cX9_init 19 = .ok (.dup, 1) := by decide +kernel
theorem dX9_init_23 : decode cX9_init 23 = .ok (.putfield 16, 3) := by decide +kernel
theorem dX9_init_26 : decode cX9_init 26 = .ok (.aload_n 0, 1) := by decide +kernel
theorem dX9_init_27 : decode cX9_init 27 = .ok (.iconst 4, 1) := by decide +kernel
theorem dX9_init_28 : decode cX9_init 28 = .ok (.iconst 4, 1) := by decide +kernel
theorem dX9_init_29 : decode cX9_init 29 = .ok (.multianewarray 19 2, 4) := by decide +kernel
theorem dX9_init_33 : decode cX9_init 33 = .ok (.putfield 21, 3) := by decide +kernel
theorem dX9_init_36 : decode cX9_init 36 = .ok (.aload_n 0, 1) := by decide +kernel
theorem dX9_init_37 : decode cX9_init 37 = .ok (.new 24, 3) := by decide +kernel
theorem dX9_init_40 : decode cX9_init 40 = .ok (.dup, 1) := by decide +kernel
theorem dX9_init_41 : decode cX9_init 41 = .ok (.aload_n 0, 1) := by decide +kernel
theorem dX9_init_45 : decode cX9_init 45 = .ok (.putfield 29, 3) := by decide +kernel
theorem dX9_init_48 : decode cX9_init 48 = .ok (.return_, 1) := by decide +kernel
theorem dX9_init_42 : decode cX9_init 42 = .ok (.invokespecial 26, 3) := by decide +kernel
theorem dX9_init_20 : decode cX9_init 20 = .ok (.invokespecial 9, 3) := by decide +kernel
theorem dX9_init_9 : decode cX9_init 9 = .ok (.invokespecial 9, 3) := by decide +kernel
def v_X9_init (zE : Nat) (a0 : Nat) (T : zT) (F : zF) (Post : zT → zF → Prop) : Prop :=
  (∀ q1 : Nat, (∀ b, q1 ≤ b → T b = none) → (v_Jx4a65c_init_da8c8 zE q1 (zn T q1 (2, 3)) (zm F q1 (fun j => defaultValue (tyJx4a65c j))) (fun (F3 : zF) => (zn T q1 (2, 3) a0 = some (12, 6) ∧ (∀ q5 : Nat, (∀ b, q5 ≤ b → (zn T q1 (2, 3)) b = none) → (v_Jx4a65c_init_da8c8 zE q5 (zn (zn T q1 (2, 3)) q5 (2, 3)) (zm (zu F3 a0 1 (.ref q1)) q5 (fun j => defaultValue (tyJx4a65c j))) (fun (F7 : zF) => (zn (zn T q1 (2, 3)) q5 (2, 3) a0 = some (12, 6) ∧ (∀ q9 : Nat, (∀ b, q9 ≤ b → (zn (zn T q1 (2, 3)) q5 (2, 3)) b = none) → (znm (zn (zn T q1 (2, 3)) q5 (2, 3)) q9 4 4 a0 = some (12, 6) ∧ (∀ q12 : Nat, (∀ b, q12 ≤ b → (znm (zn (zn T q1 (2, 3)) q5 (2, 3)) q9 4 4) b = none) → (v_X6_init zE q12 a0 (zn (znm (zn (zn T q1 (2, 3)) q5 (2, 3)) q9 4 4) q12 (9, 3)) (zm (zu (zmm (zu F7 a0 2 (.ref q5)) q9 4) a0 3 (.ref q9)) q12 (fun j => defaultValue (tyX6 j))) (fun (T14 : zT) (F15 : zF) => (T14 a0 = some (12, 6) ∧ Post T14 (zu F15 a0 4 (.ref q12))))))))))))))))
set_option maxRecDepth 100000 in
set_option maxHeartbeats 4000000 in
theorem k_X9_init {l : Launch} {D : va_G} {cA : Nat → ClassId} {N0 zE : Nat} {a0 : Nat} {T : zT} {F : zF} {Post : zT → zF → Prop} (h : v_X9_init zE a0 T F Post) : z_Mt l D cA N0 zE yX9_init cX9_init 1 none ({ frames := 5, cells := 9, slots := 32, locals := 101 } : Room) [.ref a0] T F (fun v T' F' => v = none ∧ Post T' F') := by
  unfold v_X9_init at h
  refine z_bodyT (by decide) (Nat.le_of_ble_eq_true rfl) ?_
  intro p e s m args below meth c C hnm
  have C : z_C p l s m args meth c RX9 cX9_init 1 none D cA N0 zE := C
  show z_w p l e ({ frames := 5, cells := 9, slots := 32, locals := 101 } : Room) s m args below meth c D cA N0 1 0 0 (MQ below (z_Qc D cA N0 (fun v T' F' => v = none ∧ Post T' F')) args s 9 32 (fun q => N0 ≤ q)) 0 [(0, .ref a0)] [] T F
  refine zr_aload_n C 0 dX9_init_0 rfl rfl ?_
  refine zr_objInit C zq_929 zq_69 zq_70 (by decide) (Nat.le_of_ble_eq_true rfl) dX9_init_1 ?_
  refine zr_aload_n C 0 dX9_init_4 rfl rfl ?_
  refine zr_new C nw_X9_7 (Nat.le_of_ble_eq_true rfl) (Nat.le_of_ble_eq_true rfl) dX9_init_5 (fun q1 hq2 => ?_)
  have h := h q1 hq2
  refine zr_dup C dX9_init_8 rfl ?_
  refine zr_callI (As := []) C (k_Jx4a65c_init_da8c8 h) ok_X9_9 zq_74 rfl rfl ⟨by decide, (Nat.le_of_ble_eq_true rfl)⟩ ⟨(Nat.le_of_ble_eq_true rfl), (Nat.le_of_ble_eq_true rfl)⟩ (Nat.le_of_ble_eq_true rfl) dX9_init_9 (fun v23 U24 G25 hq => ?_)
  clear h
  · obtain ⟨rfl, rfl, h⟩ := hq
    obtain ⟨hT4, h⟩ := h
    refine zr_putF C fl_X9_10 fd_X9_10 hT4 rfl rfl hnm dX9_init_12 ?_
    refine zr_aload_n C 0 dX9_init_15 rfl rfl ?_
    refine zr_new C nw_X9_7 (Nat.le_of_ble_eq_true rfl) (Nat.le_of_ble_eq_true rfl) dX9_init_16 (fun q5 hq6 => ?_)
    have h := h q5 hq6
    refine zr_dup C dX9_init_19 rfl ?_
    refine zr_callI (As := []) C (k_Jx4a65c_init_da8c8 h) ok_X9_9 zq_74 rfl rfl ⟨by decide, (Nat.le_of_ble_eq_true rfl)⟩ ⟨(Nat.le_of_ble_eq_true rfl), (Nat.le_of_ble_eq_true rfl)⟩ (Nat.le_of_ble_eq_true rfl) dX9_init_20 (fun v20 U21 G22 hq => ?_)
    clear h
    · obtain ⟨rfl, rfl, h⟩ := hq
      obtain ⟨hT8, h⟩ := h
      refine zr_putF C fl_X9_16 fd_X9_16 hT8 rfl rfl hnm dX9_init_23 ?_
      refine zr_aload_n C 0 dX9_init_26 rfl rfl ?_
      refine zr_iconst C 4 dX9_init_27 (by decide) ?_
      refine zr_iconst C 4 dX9_init_28 (by decide) ?_
      refine zr_multi (n := 4) (k := 4) C rfl rfl zq_932 zq_121 (by decide) (by decide) (by decide) (by decide) (Nat.le_of_ble_eq_true rfl) (Nat.le_of_ble_eq_true rfl) dX9_init_29 (fun q9 hq10 => ?_)
      have h := h q9 hq10
      obtain ⟨hT11, h⟩ := h
      refine zr_putF C fl_X9_21 fd_X9_21 hT11 rfl rfl hnm dX9_init_33 ?_
      refine zr_aload_n C 0 dX9_init_36 rfl rfl ?_
      refine zr_new C nw_X9_24 (Nat.le_of_ble_eq_true rfl) (Nat.le_of_ble_eq_true rfl) dX9_init_37 (fun q12 hq13 => ?_)
      have h := h q12 hq13
      refine zr_dup C dX9_init_40 rfl ?_
      refine zr_aload_n C 0 dX9_init_41 rfl rfl ?_
      refine zr_callIN (As := [.ref a0]) C (k_X6_init h) ok_X9_26 zq_936 rfl rfl ⟨by decide, (Nat.le_of_ble_eq_true rfl)⟩ ⟨(Nat.le_of_ble_eq_true rfl), (Nat.le_of_ble_eq_true rfl)⟩ (Nat.le_of_ble_eq_true rfl) dX9_init_42 (fun v17 U18 G19 hq => ?_)
      clear h
      · obtain ⟨rfl, h⟩ := hq
        skip
        obtain ⟨hT16, h⟩ := h
        refine zr_put C fl_X9_29 hT16 rfl rfl dX9_init_45 ?_
        exact zr_vret C rfl ⟨rfl, h⟩ (Nat.le_of_ble_eq_true rfl) (Nat.le_of_ble_eq_true rfl) dX9_init_48
theorem dX9_refuse_0 : decode cX9_refuse 0 = .ok (.aload_n 0, 1) := by decide +kernel
theorem dX9_refuse_1 : decode cX9_refuse 1 = .ok (.iload_n 1, 1) := by decide +kernel
theorem dX9_refuse_2 : decode cX9_refuse 2 = .ok (.putfield 33, 3) := by decide +kernel
theorem dX9_refuse_5 : decode cX9_refuse 5 = .ok (.iconst 0, 1) := by decide +kernel
theorem dX9_refuse_6 : decode cX9_refuse 6 = .ok (.ireturn, 1) := by decide +kernel
def v_X9_refuse (a0 : Nat) (p1 : Int32) (T : zT) (F : zF) (Post : Int32 → zF → Prop) : Prop :=
  (T a0 = some (12, 6) ∧ Post 0 (zu F a0 0 (.int p1)))
set_option maxRecDepth 100000 in
set_option maxHeartbeats 4000000 in
theorem k_X9_refuse {l : Launch} {D : va_G} {cA : Nat → ClassId} {N0 zE : Nat} {a0 : Nat} {p1 : Int32} {T : zT} {F : zF} {Post : Int32 → zF → Prop} (h : v_X9_refuse a0 p1 T F Post) : z_Mt l D cA N0 zE yX9_refuse cX9_refuse 2 (some .int) ({ frames := 0, cells := 0, slots := 0, locals := 0 } : Room) [.ref a0, .int p1] T F (fun v T' F' => ∃ r : Int32, v = some (.int r) ∧ T = T' ∧ Post r F') := by
  unfold v_X9_refuse at h
  refine z_bodyT (by decide) (Nat.le_of_ble_eq_true rfl) ?_
  intro p e s m args below meth c C hnm
  have C : z_C p l s m args meth c RX9 cX9_refuse 2 (some .int) D cA N0 zE := C
  show z_w p l e ({ frames := 0, cells := 0, slots := 0, locals := 0 } : Room) s m args below meth c D cA N0 2 0 0 (MQ below (z_Qc D cA N0 (fun v T' F' => ∃ r : Int32, v = some (.int r) ∧ T = T' ∧ Post r F')) args s 0 0 (fun q => N0 ≤ q)) 0 [(0, .ref a0), (1, .int p1)] [] T F
  refine zr_aload_n C 0 dX9_refuse_0 rfl rfl ?_
  refine zr_iload_n C 1 dX9_refuse_1 rfl rfl ?_
  obtain ⟨hT1, h⟩ := h
  refine zr_put C fl_X9_33 hT1 rfl rfl dX9_refuse_2 ?_
  refine zr_iconst C 0 dX9_refuse_5 (by decide) ?_
  exact zr_iret C rfl ⟨_, rfl, rfl, h⟩ (Nat.le_of_ble_eq_true rfl) (Nat.le_of_ble_eq_true rfl) dX9_refuse_6
theorem dX5_init_0 : decode cX5_init 0 = .ok (.aload_n 0, 1) := by decide +kernel
theorem dX5_init_1 : decode cX5_init 1 = .ok (.invokespecial 1, 3) := by decide +kernel
theorem dX5_init_4 : decode cX5_init 4 = .ok (.aload_n 0, 1) := by decide +kernel
theorem dX5_init_5 : decode cX5_init 5 = .ok (.new 7, 3) := by decide +kernel
theorem dX5_init_8 : decode cX5_init 8 = .ok (.dup, 1) := by decide +kernel
theorem dX5_init_12 : decode cX5_init 12 = .ok (.putfield 10, 3) := by decide +kernel
theorem dX5_init_15 : decode cX5_init 15 = .ok (.return_, 1) := by decide +kernel
theorem dX5_init_9 : decode cX5_init 9 = .ok (.invokespecial 9, 3) := by decide +kernel
def v_X5_init (zE : Nat) (a0 : Nat) (T : zT) (F : zF) (Post : zT → zF → Prop) : Prop :=
  (∀ q1 : Nat, (∀ b, q1 ≤ b → T b = none) → (v_Jx4a65c_init_da8c8 zE q1 (zn T q1 (2, 3)) (zm F q1 (fun j => defaultValue (tyJx4a65c j))) (fun (F3 : zF) => (zn T q1 (2, 3) a0 = some (8, 4) ∧ Post (zn T q1 (2, 3)) (zu F3 a0 0 (.ref q1))))))
set_option maxRecDepth 100000 in
set_option maxHeartbeats 4000000 in
theorem k_X5_init {l : Launch} {D : va_G} {cA : Nat → ClassId} {N0 zE : Nat} {a0 : Nat} {T : zT} {F : zF} {Post : zT → zF → Prop} (h : v_X5_init zE a0 T F Post) : z_Mt l D cA N0 zE yX5_init cX5_init 1 none ({ frames := 4, cells := 1, slots := 3, locals := 80 } : Room) [.ref a0] T F (fun v T' F' => v = none ∧ Post T' F') := by
  unfold v_X5_init at h
  refine z_bodyT (by decide) (Nat.le_of_ble_eq_true rfl) ?_
  intro p e s m args below meth c C hnm
  have C : z_C p l s m args meth c RX5 cX5_init 1 none D cA N0 zE := C
  show z_w p l e ({ frames := 4, cells := 1, slots := 3, locals := 80 } : Room) s m args below meth c D cA N0 1 0 0 (MQ below (z_Qc D cA N0 (fun v T' F' => v = none ∧ Post T' F')) args s 1 3 (fun q => N0 ≤ q)) 0 [(0, .ref a0)] [] T F
  refine zr_aload_n C 0 dX5_init_0 rfl rfl ?_
  refine zr_objInit C zq_992 zq_69 zq_70 (by decide) (Nat.le_of_ble_eq_true rfl) dX5_init_1 ?_
  refine zr_aload_n C 0 dX5_init_4 rfl rfl ?_
  refine zr_new C nw_X5_7 (Nat.le_of_ble_eq_true rfl) (Nat.le_of_ble_eq_true rfl) dX5_init_5 (fun q1 hq2 => ?_)
  have h := h q1 hq2
  refine zr_dup C dX5_init_8 rfl ?_
  refine zr_callI (As := []) C (k_Jx4a65c_init_da8c8 h) ok_X5_9 zq_74 rfl rfl ⟨by decide, (Nat.le_of_ble_eq_true rfl)⟩ ⟨(Nat.le_of_ble_eq_true rfl), (Nat.le_of_ble_eq_true rfl)⟩ (Nat.le_of_ble_eq_true rfl) dX5_init_9 (fun v5 U6 G7 hq => ?_)
  clear h
  · obtain ⟨rfl, rfl, h⟩ := hq
    obtain ⟨hT4, h⟩ := h
    refine zr_putF C fl_X5_10 fd_X5_10 hT4 rfl rfl hnm dX5_init_12 ?_
    exact zr_vret C rfl ⟨rfl, h⟩ (Nat.le_of_ble_eq_true rfl) (Nat.le_of_ble_eq_true rfl) dX5_init_15
theorem dX9_asset_0 : decode cX9_asset 0 = .ok (.aload_n 0, 1) := by decide +kernel
theorem dX9_asset_1 : decode cX9_asset 1 = .ok (.iconst 0, 1) := by decide +kernel
theorem dX9_asset_2 : decode cX9_asset 2 = .ok (.putfield 33, 3) := by decide +kernel
theorem dX9_asset_5 : decode cX9_asset 5 = .ok (.aload_n 0, 1) := by decide +kernel
theorem dX9_asset_6 : decode cX9_asset 6 = .ok (.getfield 10, 3) := by decide +kernel
theorem dX9_asset_12 : decode cX9_asset 12 = .ok (.bipush 16, 2) := by decide +kernel
theorem dX9_asset_14 : decode cX9_asset 14 = .ok (.if_icmp .ne 9, 3) := by decide +kernel
theorem dX9_asset_23 : decode cX9_asset 23 = .ok (.aload_n 0, 1) := by decide +kernel
theorem dX9_asset_24 : decode cX9_asset 24 = .ok (.getfield 10, 3) := by decide +kernel
theorem dX9_asset_27 : decode cX9_asset 27 = .ok (.new 52, 3) := by decide +kernel
theorem dX9_asset_30 : decode cX9_asset 30 = .ok (.dup, 1) := by decide +kernel
theorem dX9_asset_37 : decode cX9_asset 37 = .ok (.pop, 1) := by decide +kernel
theorem dX9_asset_38 : decode cX9_asset 38 = .ok (.aload_n 0, 1) := by decide +kernel
theorem dX9_asset_39 : decode cX9_asset 39 = .ok (.getfield 10, 3) := by decide +kernel
theorem dX9_asset_45 : decode cX9_asset 45 = .ok (.iconst 1, 1) := by decide +kernel
theorem dX9_asset_46 : decode cX9_asset 46 = .ok (.isub, 1) := by decide +kernel
theorem dX9_asset_47 : decode cX9_asset 47 = .ok (.ireturn, 1) := by decide +kernel
theorem dX9_asset_42 : decode cX9_asset 42 = .ok (.invokevirtual 37, 3) := by decide +kernel
theorem dX9_asset_34 : decode cX9_asset 34 = .ok (.invokevirtual 55, 3) := by decide +kernel
theorem dX9_asset_31 : decode cX9_asset 31 = .ok (.invokespecial 54, 3) := by decide +kernel
theorem dX9_asset_17 : decode cX9_asset 17 = .ok (.aload_n 0, 1) := by decide +kernel
theorem dX9_asset_18 : decode cX9_asset 18 = .ok (.iconst 1, 1) := by decide +kernel
theorem dX9_asset_22 : decode cX9_asset 22 = .ok (.ireturn, 1) := by decide +kernel
theorem dX9_asset_19 : decode cX9_asset 19 = .ok (.invokevirtual 48, 3) := by decide +kernel
theorem dX9_asset_9 : decode cX9_asset 9 = .ok (.invokevirtual 37, 3) := by decide +kernel
def v_X9_asset (zE : Nat) (a0 : Nat) (T : zT) (F : zF) (Post : Int32 → zT → zF → Prop) : Prop :=
  (T a0 = some (12, 6) ∧ ∃ x3 : Nat, (zu F a0 0 (.int 0)) a0 1 = .ref x3 ∧ T x3 = some (2, 3) ∧ (v_Jx4a65c_size_8abf5 x3 T (zu F a0 0 (.int 0)) (fun (r5 : Int32) => ((¬ r5 = 16 → (∀ q6 : Nat, (∀ b, q6 ≤ b → T b = none) → (v_X5_init zE q6 (zn T q6 (8, 4)) (zm (zu F a0 0 (.int 0)) q6 (fun j => defaultValue (tyX5 j))) (fun (T8 : zT) (F9 : zF) => (T8 x3 = some (2, 3) ∧ (v_Jx4a65c_add_9ea2d zE x3 q6 T8 F9 (fun (r11 : Int32) (T12 : zT) (F13 : zF) => (T12 a0 = some (12, 6) ∧ ∃ x16 : Nat, F13 a0 1 = .ref x16 ∧ T12 x16 = some (2, 3) ∧ (v_Jx4a65c_size_8abf5 x16 T12 F13 (fun (r18 : Int32) => Post (r18 - 1) T12 F13)))))))))) ∧ (r5 = 16 → (v_X9_refuse a0 1 T (zu F a0 0 (.int 0)) (fun (r28 : Int32) (F29 : zF) => Post r28 T F29)))))))
set_option maxRecDepth 100000 in
set_option maxHeartbeats 4000000 in
theorem k_X9_asset {l : Launch} {D : va_G} {cA : Nat → ClassId} {N0 zE : Nat} {a0 : Nat} {T : zT} {F : zF} {Post : Int32 → zT → zF → Prop} (h : v_X9_asset zE a0 T F Post) : z_Mt l D cA N0 zE yX9_asset cX9_asset 1 (some .int) ({ frames := 6, cells := 3, slots := 17, locals := 131 } : Room) [.ref a0] T F (fun v T' F' => ∃ r : Int32, v = some (.int r) ∧ Post r T' F') := by
  unfold v_X9_asset at h
  refine z_bodyT (by decide) (Nat.le_of_ble_eq_true rfl) ?_
  intro p e s m args below meth c C hnm
  have C : z_C p l s m args meth c RX9 cX9_asset 1 (some .int) D cA N0 zE := C
  show z_w p l e ({ frames := 6, cells := 3, slots := 17, locals := 131 } : Room) s m args below meth c D cA N0 1 0 0 (MQ below (z_Qc D cA N0 (fun v T' F' => ∃ r : Int32, v = some (.int r) ∧ Post r T' F')) args s 3 17 (fun q => N0 ≤ q)) 0 [(0, .ref a0)] [] T F
  refine zr_aload_n C 0 dX9_asset_0 rfl rfl ?_
  refine zr_iconst C 0 dX9_asset_1 (by decide) ?_
  obtain ⟨hT1, h⟩ := h
  refine zr_put C fl_X9_33 hT1 rfl rfl dX9_asset_2 ?_
  refine zr_aload_n C 0 dX9_asset_5 rfl rfl ?_
  obtain ⟨x3, hv2, h⟩ := h
  refine zr_get C fl_X9_10 hT1 hv2 dX9_asset_6 ?_
  obtain ⟨hT4, h⟩ := h
  refine zr_callV (As := []) (r := (RJx4a65c, TJx4a65c, 3)) C (k_Jx4a65c_size_8abf5 h) ok_X9_37 zq_140 zq_141 hT4 (by decide) rfl rfl ⟨by decide, (Nat.le_of_ble_eq_true rfl)⟩ ⟨(Nat.le_of_ble_eq_true rfl), (Nat.le_of_ble_eq_true rfl)⟩ (Nat.le_of_ble_eq_true rfl) dX9_asset_9 (fun v33 U34 G35 hq => ?_)
  clear h
  · obtain ⟨r5, rfl, rfl, rfl, h⟩ := hq
    refine zr_bipush C 16 dX9_asset_12 (by decide) ?_
    obtain ⟨h1, h2⟩ := h
    refine zr_icmp_ne C 23 dX9_asset_14 (by decide) (fun hc => ?_) (fun hc => ?_)
    · have h := h1 hc
      clear h1 h2
      refine zr_aload_n C 0 dX9_asset_23 rfl rfl ?_
      refine zr_get C fl_X9_10 hT1 hv2 dX9_asset_24 ?_
      refine zr_new C nw_X9_52 (Nat.le_of_ble_eq_true rfl) (Nat.le_of_ble_eq_true rfl) dX9_asset_27 (fun q6 hq7 => ?_)
      have h := h q6 hq7
      refine zr_dup C dX9_asset_30 rfl ?_
      refine zr_callIN (As := []) C (k_X5_init h) ok_X9_54 zq_990 rfl rfl ⟨by decide, (Nat.le_of_ble_eq_true rfl)⟩ ⟨(Nat.le_of_ble_eq_true rfl), (Nat.le_of_ble_eq_true rfl)⟩ (Nat.le_of_ble_eq_true rfl) dX9_asset_31 (fun v25 U26 G27 hq => ?_)
      clear h
      · obtain ⟨rfl, h⟩ := hq
        skip
        obtain ⟨hT10, h⟩ := h
        refine zr_callV (As := [.ref q6]) (r := (RJx4a65c, TJx4a65c, 3)) C (k_Jx4a65c_add_9ea2d h) ok_X9_55 zq_504 zq_505 hT10 (by decide) rfl rfl ⟨by decide, (Nat.le_of_ble_eq_true rfl)⟩ ⟨(Nat.le_of_ble_eq_true rfl), (Nat.le_of_ble_eq_true rfl)⟩ (Nat.le_of_ble_eq_true rfl) dX9_asset_34 (fun v22 U23 G24 hq => ?_)
        clear h
        · obtain ⟨r11, rfl, h⟩ := hq
          skip
          refine zr_pop C dX9_asset_37 rfl ?_
          refine zr_aload_n C 0 dX9_asset_38 rfl rfl ?_
          obtain ⟨hT14, x16, hv15, h⟩ := h
          refine zr_get C fl_X9_10 hT14 hv15 dX9_asset_39 ?_
          obtain ⟨hT17, h⟩ := h
          refine zr_callV (As := []) (r := (RJx4a65c, TJx4a65c, 3)) C (k_Jx4a65c_size_8abf5 h) ok_X9_37 zq_140 zq_141 hT17 (by decide) rfl rfl ⟨by decide, (Nat.le_of_ble_eq_true rfl)⟩ ⟨(Nat.le_of_ble_eq_true rfl), (Nat.le_of_ble_eq_true rfl)⟩ (Nat.le_of_ble_eq_true rfl) dX9_asset_42 (fun v19 U20 G21 hq => ?_)
          clear h
          · obtain ⟨r18, rfl, rfl, rfl, h⟩ := hq
            refine zr_iconst C 1 dX9_asset_45 (by decide) ?_
            refine zr_isub C dX9_asset_46 ?_
            exact zr_iret C rfl ⟨_, rfl, h⟩ (Nat.le_of_ble_eq_true rfl) (Nat.le_of_ble_eq_true rfl) dX9_asset_47
    · have h := h2 hc
      clear h1 h2
      refine zr_aload_n C 0 dX9_asset_17 rfl rfl ?_
      refine zr_iconst C 1 dX9_asset_18 (by decide) ?_
      refine zr_callV (As := [.int 1]) (r := (RX9, TX9, 6)) C (k_X9_refuse h) ok_X9_48 zq_985 zq_16 hT1 (by decide) rfl rfl ⟨by decide, (Nat.le_of_ble_eq_true rfl)⟩ ⟨(Nat.le_of_ble_eq_true rfl), (Nat.le_of_ble_eq_true rfl)⟩ (Nat.le_of_ble_eq_true rfl) dX9_asset_19 (fun v30 U31 G32 hq => ?_)
      clear h
      · obtain ⟨r28, rfl, rfl, h⟩ := hq
        exact zr_iret C rfl ⟨_, rfl, h⟩ (Nat.le_of_ble_eq_true rfl) (Nat.le_of_ble_eq_true rfl) dX9_asset_22
theorem dX9_thrown_0 : decode cX9_thrown 0 = .ok (.aload_n 0, 1) := by decide +kernel
theorem dX9_thrown_1 : decode cX9_thrown 1 = .ok (.getfield 33, 3) := by decide +kernel
theorem dX9_thrown_4 : decode cX9_thrown 4 = .ok (.ireturn, 1) := by decide +kernel
def v_X9_thrown (a0 : Nat) (T : zT) (F : zF) (Post : Int32 → Prop) : Prop :=
  (T a0 = some (12, 6) ∧ ∃ x3 : Int32, F a0 0 = .int x3 ∧ Post x3)
set_option maxRecDepth 100000 in
set_option maxHeartbeats 4000000 in
theorem k_X9_thrown {l : Launch} {D : va_G} {cA : Nat → ClassId} {N0 zE : Nat} {a0 : Nat} {T : zT} {F : zF} {Post : Int32 → Prop} (h : v_X9_thrown a0 T F Post) : z_Mt l D cA N0 zE yX9_thrown cX9_thrown 1 (some .int) ({ frames := 0, cells := 0, slots := 0, locals := 0 } : Room) [.ref a0] T F (fun v T' F' => ∃ r : Int32, v = some (.int r) ∧ T = T' ∧ F = F' ∧ Post r) := by
  unfold v_X9_thrown at h
  refine z_bodyT (by decide) (Nat.le_of_ble_eq_true rfl) ?_
  intro p e s m args below meth c C hnm
  have C : z_C p l s m args meth c RX9 cX9_thrown 1 (some .int) D cA N0 zE := C
  show z_w p l e ({ frames := 0, cells := 0, slots := 0, locals := 0 } : Room) s m args below meth c D cA N0 1 0 0 (MQ below (z_Qc D cA N0 (fun v T' F' => ∃ r : Int32, v = some (.int r) ∧ T = T' ∧ F = F' ∧ Post r)) args s 0 0 (fun q => N0 ≤ q)) 0 [(0, .ref a0)] [] T F
  refine zr_aload_n C 0 dX9_thrown_0 rfl rfl ?_
  obtain ⟨hT1, x3, hv2, h⟩ := h
  refine zr_get C fl_X9_33 hT1 hv2 dX9_thrown_1 ?_
  exact zr_iret C rfl ⟨_, rfl, rfl, rfl, h⟩ (Nat.le_of_ble_eq_true rfl) (Nat.le_of_ble_eq_true rfl) dX9_thrown_4
theorem dX9_is_0 : decode cX9_is 0 = .ok (.iload_n 0, 1) := by decide +kernel
theorem dX9_is_1 : decode cX9_is 1 = .ok (.iload_n 1, 1) := by decide +kernel
theorem dX9_is_2 : decode cX9_is 2 = .ok (.if_icmp .lt 12, 3) := by decide +kernel
theorem dX9_is_14 : decode cX9_is 14 = .ok (.iconst 0, 1) := by decide +kernel
theorem dX9_is_15 : decode cX9_is 15 = .ok (.ireturn, 1) := by decide +kernel
theorem dX9_is_5 : decode cX9_is 5 = .ok (.iload_n 0, 1) := by decide +kernel
theorem dX9_is_6 : decode cX9_is 6 = .ok (.iload_n 2, 1) := by decide +kernel
theorem dX9_is_7 : decode cX9_is 7 = .ok (.if_icmp .gt 7, 3) := by decide +kernel
theorem dX9_is_10 : decode cX9_is 10 = .ok (.iconst 1, 1) := by decide +kernel
theorem dX9_is_11 : decode cX9_is 11 = .ok (.goto 4, 3) := by decide +kernel
def v_X9_is (p0 : Int32) (p1 : Int32) (p2 : Int32) (T : zT) (F : zF) (Post : Int32 → Prop) : Prop :=
  ((p0 < p1 → Post 0) ∧ (¬ p0 < p1 → ((p2 < p0 → Post 0) ∧ (¬ p2 < p0 → Post 1))))
set_option maxRecDepth 100000 in
set_option maxHeartbeats 4000000 in
theorem k_X9_is {l : Launch} {D : va_G} {cA : Nat → ClassId} {N0 zE : Nat} {p0 : Int32} {p1 : Int32} {p2 : Int32} {T : zT} {F : zF} {Post : Int32 → Prop} (h : v_X9_is p0 p1 p2 T F Post) : z_Mt l D cA N0 zE yX9_is cX9_is 3 (some .boolean) ({ frames := 0, cells := 0, slots := 0, locals := 0 } : Room) [.int p0, .int p1, .int p2] T F (fun v T' F' => ∃ r : Int32, v = some (.int r) ∧ T = T' ∧ F = F' ∧ Post r) := by
  unfold v_X9_is at h
  refine z_bodyT (by decide) (Nat.le_of_ble_eq_true rfl) ?_
  intro p e s m args below meth c C hnm
  have C : z_C p l s m args meth c RX9 cX9_is 3 (some .boolean) D cA N0 zE := C
  show z_w p l e ({ frames := 0, cells := 0, slots := 0, locals := 0 } : Room) s m args below meth c D cA N0 3 0 0 (MQ below (z_Qc D cA N0 (fun v T' F' => ∃ r : Int32, v = some (.int r) ∧ T = T' ∧ F = F' ∧ Post r)) args s 0 0 (fun q => N0 ≤ q)) 0 [(0, .int p0), (1, .int p1), (2, .int p2)] [] T F
  refine zr_iload_n C 0 dX9_is_0 rfl rfl ?_
  refine zr_iload_n C 1 dX9_is_1 rfl rfl ?_
  obtain ⟨h1, h2⟩ := h
  refine zr_icmp_lt C 14 dX9_is_2 (by decide) (fun hc => ?_) (fun hc => ?_)
  · have h := h1 hc
    clear h1 h2
    refine zr_iconst C 0 dX9_is_14 (by decide) ?_
    exact zr_zret C rfl (Or.inl rfl) ⟨_, rfl, rfl, rfl, h⟩ (Nat.le_of_ble_eq_true rfl) (Nat.le_of_ble_eq_true rfl) dX9_is_15
  · have h := h2 hc
    clear h1 h2
    refine zr_iload_n C 0 dX9_is_5 rfl rfl ?_
    refine zr_iload_n C 2 dX9_is_6 rfl rfl ?_
    obtain ⟨h1, h2⟩ := h
    refine zr_icmp_gt C 14 dX9_is_7 (by decide) (fun hc => ?_) (fun hc => ?_)
    · have h := h1 hc
      clear h1 h2
      refine zr_iconst C 0 dX9_is_14 (by decide) ?_
      exact zr_zret C rfl (Or.inl rfl) ⟨_, rfl, rfl, rfl, h⟩ (Nat.le_of_ble_eq_true rfl) (Nat.le_of_ble_eq_true rfl) dX9_is_15
    · have h := h2 hc
      clear h1 h2
      refine zr_iconst C 1 dX9_is_10 (by decide) ?_
      refine zr_goto C 15 dX9_is_11 (by decide) ?_
      exact zr_zret C rfl (Or.inr rfl) ⟨_, rfl, rfl, rfl, h⟩ (Nat.le_of_ble_eq_true rfl) (Nat.le_of_ble_eq_true rfl) dX9_is_15
theorem dX9_isAsset_0 : decode cX9_isAsset 0 = .ok (.iload_n 1, 1) := by decide +kernel
theorem dX9_isAsset_1 : decode cX9_isAsset 1 = .ok (.iconst 0, 1) := by decide +kernel
theorem dX9_isAsset_2 : decode cX9_isAsset 2 = .ok (.aload_n 0, 1) := by decide +kernel
theorem dX9_isAsset_3 : decode cX9_isAsset 3 = .ok (.getfield 10, 3) := by decide +kernel
theorem dX9_isAsset_9 : decode cX9_isAsset 9 = .ok (.iconst 1, 1) := by decide +kernel
theorem dX9_isAsset_10 : decode cX9_isAsset 10 = .ok (.isub, 1) := by decide +kernel
theorem dX9_isAsset_14 : decode cX9_isAsset 14 = .ok (.ireturn, 1) := by decide +kernel
theorem dX9_isAsset_11 : decode cX9_isAsset 11 = .ok (.invokestatic 41, 3) := by decide +kernel
theorem dX9_isAsset_6 : decode cX9_isAsset 6 = .ok (.invokevirtual 37, 3) := by decide +kernel
def v_X9_isAsset (a0 : Nat) (p1 : Int32) (T : zT) (F : zF) (Post : Int32 → Prop) : Prop :=
  (T a0 = some (12, 6) ∧ ∃ x3 : Nat, F a0 1 = .ref x3 ∧ T x3 = some (2, 3) ∧ (v_Jx4a65c_size_8abf5 x3 T F (fun (r5 : Int32) => (v_X9_is p1 0 (r5 - 1) T F (fun (r6 : Int32) => ((r6 = 0 ∨ r6 = 1) ∧ Post r6))))))
set_option maxRecDepth 100000 in
set_option maxHeartbeats 4000000 in
theorem k_X9_isAsset {l : Launch} {D : va_G} {cA : Nat → ClassId} {N0 zE : Nat} {a0 : Nat} {p1 : Int32} {T : zT} {F : zF} {Post : Int32 → Prop} (h : v_X9_isAsset a0 p1 T F Post) : z_Mt l D cA N0 zE yX9_isAsset cX9_isAsset 2 (some .boolean) ({ frames := 1, cells := 0, slots := 0, locals := 22 } : Room) [.ref a0, .int p1] T F (fun v T' F' => ∃ r : Int32, v = some (.int r) ∧ T = T' ∧ F = F' ∧ Post r) := by
  unfold v_X9_isAsset at h
  refine z_bodyT (by decide) (Nat.le_of_ble_eq_true rfl) ?_
  intro p e s m args below meth c C hnm
  have C : z_C p l s m args meth c RX9 cX9_isAsset 2 (some .boolean) D cA N0 zE := C
  show z_w p l e ({ frames := 1, cells := 0, slots := 0, locals := 22 } : Room) s m args below meth c D cA N0 2 0 0 (MQ below (z_Qc D cA N0 (fun v T' F' => ∃ r : Int32, v = some (.int r) ∧ T = T' ∧ F = F' ∧ Post r)) args s 0 0 (fun q => N0 ≤ q)) 0 [(0, .ref a0), (1, .int p1)] [] T F
  refine zr_iload_n C 1 dX9_isAsset_0 rfl rfl ?_
  refine zr_iconst C 0 dX9_isAsset_1 (by decide) ?_
  refine zr_aload_n C 0 dX9_isAsset_2 rfl rfl ?_
  obtain ⟨hT1, x3, hv2, h⟩ := h
  refine zr_get C fl_X9_10 hT1 hv2 dX9_isAsset_3 ?_
  obtain ⟨hT4, h⟩ := h
  refine zr_callV (As := []) (r := (RJx4a65c, TJx4a65c, 3)) C (k_Jx4a65c_size_8abf5 h) ok_X9_37 zq_140 zq_141 hT4 (by decide) rfl rfl ⟨by decide, (Nat.le_of_ble_eq_true rfl)⟩ ⟨(Nat.le_of_ble_eq_true rfl), (Nat.le_of_ble_eq_true rfl)⟩ (Nat.le_of_ble_eq_true rfl) dX9_isAsset_6 (fun v10 U11 G12 hq => ?_)
  clear h
  · obtain ⟨r5, rfl, rfl, rfl, h⟩ := hq
    refine zr_iconst C 1 dX9_isAsset_9 (by decide) ?_
    refine zr_isub C dX9_isAsset_10 ?_
    refine zr_callS (As := [.int p1, .int 0, .int (r5 - 1)]) C (k_X9_is h) ok_X9_41 zq_1022 rfl ⟨by decide, (Nat.le_of_ble_eq_true rfl)⟩ ⟨(Nat.le_of_ble_eq_true rfl), (Nat.le_of_ble_eq_true rfl)⟩ (Nat.le_of_ble_eq_true rfl) dX9_isAsset_11 (fun v7 U8 G9 hq => ?_)
    clear h
    · obtain ⟨r6, rfl, rfl, rfl, h⟩ := hq
      obtain ⟨hb, h⟩ := h
      exact zr_zret C rfl hb ⟨_, rfl, rfl, rfl, h⟩ (Nat.le_of_ble_eq_true rfl) (Nat.le_of_ble_eq_true rfl) dX9_isAsset_14
theorem dX9_version_0 : decode cX9_version 0 = .ok (.aload_n 0, 1) := by decide +kernel
theorem dX9_version_1 : decode cX9_version 1 = .ok (.iconst 0, 1) := by decide +kernel
theorem dX9_version_2 : decode cX9_version 2 = .ok (.putfield 33, 3) := by decide +kernel
theorem dX9_version_5 : decode cX9_version 5 = .ok (.aload_n 0, 1) := by decide +kernel
theorem dX9_version_6 : decode cX9_version 6 = .ok (.iload_n 1, 1) := by decide +kernel
theorem dX9_version_10 : decode cX9_version 10 = .ok (.ifCond .ne 9, 3) := by decide +kernel
theorem dX9_version_19 : decode cX9_version 19 = .ok (.iload_n 2, 1) := by decide +kernel
theorem dX9_version_20 : decode cX9_version 20 = .ok (.aload_n 0, 1) := by decide +kernel
theorem dX9_version_21 : decode cX9_version 21 = .ok (.getfield 29, 3) := by decide +kernel
theorem dX9_version_24 : decode cX9_version 24 = .ok (.getfield 63, 3) := by decide +kernel
theorem dX9_version_27 : decode cX9_version 27 = .ok (.bipush 99, 2) := by decide +kernel
theorem dX9_version_32 : decode cX9_version 32 = .ok (.ifCond .ne 9, 3) := by decide +kernel
theorem dX9_version_41 : decode cX9_version 41 = .ok (.aload_n 0, 1) := by decide +kernel
theorem dX9_version_42 : decode cX9_version 42 = .ok (.getfield 10, 3) := by decide +kernel
theorem dX9_version_45 : decode cX9_version 45 = .ok (.iload_n 1, 1) := by decide +kernel
theorem dX9_version_35 : decode cX9_version 35 = .ok (.aload_n 0, 1) := by decide +kernel
theorem dX9_version_36 : decode cX9_version 36 = .ok (.iconst 2, 1) := by decide +kernel
theorem dX9_version_40 : decode cX9_version 40 = .ok (.ireturn, 1) := by decide +kernel
theorem dX9_version_37 : decode cX9_version 37 = .ok (.invokevirtual 48, 3) := by decide +kernel
theorem dX9_version_29 : decode cX9_version 29 = .ok (.invokestatic 41, 3) := by decide +kernel
theorem dX9_version_13 : decode cX9_version 13 = .ok (.aload_n 0, 1) := by decide +kernel
theorem dX9_version_14 : decode cX9_version 14 = .ok (.iconst 1, 1) := by decide +kernel
theorem dX9_version_18 : decode cX9_version 18 = .ok (.ireturn, 1) := by decide +kernel
theorem dX9_version_15 : decode cX9_version 15 = .ok (.invokevirtual 48, 3) := by decide +kernel
theorem dX9_version_7 : decode cX9_version 7 = .ok (.invokevirtual 59, 3) := by decide +kernel
def v_X9_version (a0 : Nat) (p1 : Int32) (p2 : Int32) (T : zT) (F : zF) (Post : Int32 → zF → Prop) : Prop :=
  (T a0 = some (12, 6) ∧ (v_X9_isAsset a0 p1 T (zu F a0 0 (.int 0)) (fun (r2 : Int32) => ((¬ r2 = 0 → (∃ x4 : Nat, (zu F a0 0 (.int 0)) a0 4 = .ref x4 ∧ T x4 = some (9, 3) ∧ ∃ x7 : Int32, (zu F a0 0 (.int 0)) x4 1 = .int x7 ∧ (v_X9_is p2 x7 99 T (zu F a0 0 (.int 0)) (fun (r8 : Int32) => ((¬ r8 = 0 → (∃ x10 : Nat, (zu F a0 0 (.int 0)) a0 1 = .ref x10 ∧ False)) ∧ (r8 = 0 → (v_X9_refuse a0 2 T (zu F a0 0 (.int 0)) (fun (r11 : Int32) (F12 : zF) => Post r11 F12)))))))) ∧ (r2 = 0 → (v_X9_refuse a0 1 T (zu F a0 0 (.int 0)) (fun (r19 : Int32) (F20 : zF) => Post r19 F20)))))))
set_option maxRecDepth 100000 in
set_option maxHeartbeats 4000000 in
theorem k_X9_version {l : Launch} {D : va_G} {cA : Nat → ClassId} {N0 zE : Nat} {a0 : Nat} {p1 : Int32} {p2 : Int32} {T : zT} {F : zF} {Post : Int32 → zF → Prop} (h : v_X9_version a0 p1 p2 T F Post) : z_Mt l D cA N0 zE yX9_version cX9_version 4 (some .int) ({ frames := 2, cells := 0, slots := 0, locals := 43 } : Room) [.ref a0, .int p1, .int p2] T F (fun v T' F' => ∃ r : Int32, v = some (.int r) ∧ T = T' ∧ Post r F') := by
  unfold v_X9_version at h
  refine z_bodyT (by decide) (Nat.le_of_ble_eq_true rfl) ?_
  intro p e s m args below meth c C hnm
  have C : z_C p l s m args meth c RX9 cX9_version 4 (some .int) D cA N0 zE := C
  show z_w p l e ({ frames := 2, cells := 0, slots := 0, locals := 43 } : Room) s m args below meth c D cA N0 4 0 0 (MQ below (z_Qc D cA N0 (fun v T' F' => ∃ r : Int32, v = some (.int r) ∧ T = T' ∧ Post r F')) args s 0 0 (fun q => N0 ≤ q)) 0 [(0, .ref a0), (1, .int p1), (2, .int p2)] [] T F
  refine zr_aload_n C 0 dX9_version_0 rfl rfl ?_
  refine zr_iconst C 0 dX9_version_1 (by decide) ?_
  obtain ⟨hT1, h⟩ := h
  refine zr_put C fl_X9_33 hT1 rfl rfl dX9_version_2 ?_
  refine zr_aload_n C 0 dX9_version_5 rfl rfl ?_
  refine zr_iload_n C 1 dX9_version_6 rfl rfl ?_
  refine zr_callV (As := [.int p1]) (r := (RX9, TX9, 6)) C (k_X9_isAsset h) ok_X9_59 zq_1019 zq_17 hT1 (by decide) rfl rfl ⟨by decide, (Nat.le_of_ble_eq_true rfl)⟩ ⟨(Nat.le_of_ble_eq_true rfl), (Nat.le_of_ble_eq_true rfl)⟩ (Nat.le_of_ble_eq_true rfl) dX9_version_7 (fun v24 U25 G26 hq => ?_)
  clear h
  · obtain ⟨r2, rfl, rfl, rfl, h⟩ := hq
    obtain ⟨h1, h2⟩ := h
    refine zr_if_ne C 19 dX9_version_10 (by decide) (fun hc => ?_) (fun hc => ?_)
    · have h := h1 hc
      clear h1 h2
      refine zr_iload_n C 2 dX9_version_19 rfl rfl ?_
      refine zr_aload_n C 0 dX9_version_20 rfl rfl ?_
      obtain ⟨x4, hv3, h⟩ := h
      refine zr_get C fl_X9_29 hT1 hv3 dX9_version_21 ?_
      obtain ⟨hT5, x7, hv6, h⟩ := h
      refine zr_get C fl_X9_63 hT5 hv6 dX9_version_24 ?_
      refine zr_bipush C 99 dX9_version_27 (by decide) ?_
      refine zr_callS (As := [.int p2, .int x7, .int 99]) C (k_X9_is h) ok_X9_41 zq_1022 rfl ⟨by decide, (Nat.le_of_ble_eq_true rfl)⟩ ⟨(Nat.le_of_ble_eq_true rfl), (Nat.le_of_ble_eq_true rfl)⟩ (Nat.le_of_ble_eq_true rfl) dX9_version_29 (fun v16 U17 G18 hq => ?_)
      clear h
      · obtain ⟨r8, rfl, rfl, rfl, h⟩ := hq
        obtain ⟨h1, h2⟩ := h
        refine zr_if_ne C 41 dX9_version_32 (by decide) (fun hc => ?_) (fun hc => ?_)
        · have h := h1 hc
          clear h1 h2
          refine zr_aload_n C 0 dX9_version_41 rfl rfl ?_
          obtain ⟨x10, hv9, h⟩ := h
          refine zr_get C fl_X9_10 hT1 hv9 dX9_version_42 ?_
          refine zr_iload_n C 1 dX9_version_45 rfl rfl ?_
          exact h.elim
        · have h := h2 hc
          clear h1 h2
          refine zr_aload_n C 0 dX9_version_35 rfl rfl ?_
          refine zr_iconst C 2 dX9_version_36 (by decide) ?_
          refine zr_callV (As := [.int 2]) (r := (RX9, TX9, 6)) C (k_X9_refuse h) ok_X9_48 zq_985 zq_16 hT1 (by decide) rfl rfl ⟨by decide, (Nat.le_of_ble_eq_true rfl)⟩ ⟨(Nat.le_of_ble_eq_true rfl), (Nat.le_of_ble_eq_true rfl)⟩ (Nat.le_of_ble_eq_true rfl) dX9_version_37 (fun v13 U14 G15 hq => ?_)
          clear h
          · obtain ⟨r11, rfl, rfl, h⟩ := hq
            exact zr_iret C rfl ⟨_, rfl, rfl, h⟩ (Nat.le_of_ble_eq_true rfl) (Nat.le_of_ble_eq_true rfl) dX9_version_40
    · have h := h2 hc
      clear h1 h2
      refine zr_aload_n C 0 dX9_version_13 rfl rfl ?_
      refine zr_iconst C 1 dX9_version_14 (by decide) ?_
      refine zr_callV (As := [.int 1]) (r := (RX9, TX9, 6)) C (k_X9_refuse h) ok_X9_48 zq_985 zq_16 hT1 (by decide) rfl rfl ⟨by decide, (Nat.le_of_ble_eq_true rfl)⟩ ⟨(Nat.le_of_ble_eq_true rfl), (Nat.le_of_ble_eq_true rfl)⟩ (Nat.le_of_ble_eq_true rfl) dX9_version_15 (fun v21 U22 G23 hq => ?_)
      clear h
      · obtain ⟨r19, rfl, rfl, h⟩ := hq
        exact zr_iret C rfl ⟨_, rfl, rfl, h⟩ (Nat.le_of_ble_eq_true rfl) (Nat.le_of_ble_eq_true rfl) dX9_version_18
theorem dX9_late_0 : decode cX9_late 0 = .ok (.aload_n 0, 1) := by decide +kernel
theorem dX9_late_1 : decode cX9_late 1 = .ok (.iconst 0, 1) := by decide +kernel
theorem dX9_late_2 : decode cX9_late 2 = .ok (.putfield 33, 3) := by decide +kernel
theorem dX9_late_5 : decode cX9_late 5 = .ok (.aload_n 0, 1) := by decide +kernel
theorem dX9_late_6 : decode cX9_late 6 = .ok (.iload_n 1, 1) := by decide +kernel
theorem dX9_late_10 : decode cX9_late 10 = .ok (.ifCond .ne 9, 3) := by decide +kernel
theorem dX9_late_19 : decode cX9_late 19 = .ok (.iload_n 2, 1) := by decide +kernel
theorem dX9_late_20 : decode cX9_late 20 = .ok (.iconst 1, 1) := by decide +kernel
theorem dX9_late_21 : decode cX9_late 21 = .ok (.bipush 20, 2) := by decide +kernel
theorem dX9_late_26 : decode cX9_late 26 = .ok (.ifCond .ne 9, 3) := by decide +kernel
theorem dX9_late_35 : decode cX9_late 35 = .ok (.aload_n 0, 1) := by decide +kernel
theorem dX9_late_36 : decode cX9_late 36 = .ok (.getfield 10, 3) := by decide +kernel
theorem dX9_late_39 : decode cX9_late 39 = .ok (.iload_n 1, 1) := by decide +kernel
theorem dX9_late_29 : decode cX9_late 29 = .ok (.aload_n 0, 1) := by decide +kernel
theorem dX9_late_30 : decode cX9_late 30 = .ok (.iconst 2, 1) := by decide +kernel
theorem dX9_late_34 : decode cX9_late 34 = .ok (.ireturn, 1) := by decide +kernel
theorem dX9_late_31 : decode cX9_late 31 = .ok (.invokevirtual 48, 3) := by decide +kernel
theorem dX9_late_23 : decode cX9_late 23 = .ok (.invokestatic 41, 3) := by decide +kernel
theorem dX9_late_13 : decode cX9_late 13 = .ok (.aload_n 0, 1) := by decide +kernel
theorem dX9_late_14 : decode cX9_late 14 = .ok (.iconst 1, 1) := by decide +kernel
theorem dX9_late_18 : decode cX9_late 18 = .ok (.ireturn, 1) := by decide +kernel
theorem dX9_late_15 : decode cX9_late 15 = .ok (.invokevirtual 48, 3) := by decide +kernel
theorem dX9_late_7 : decode cX9_late 7 = .ok (.invokevirtual 59, 3) := by decide +kernel
def v_X9_late (a0 : Nat) (p1 : Int32) (p2 : Int32) (T : zT) (F : zF) (Post : Int32 → zF → Prop) : Prop :=
  (T a0 = some (12, 6) ∧ (v_X9_isAsset a0 p1 T (zu F a0 0 (.int 0)) (fun (r2 : Int32) => ((¬ r2 = 0 → (v_X9_is p2 1 20 T (zu F a0 0 (.int 0)) (fun (r3 : Int32) => ((¬ r3 = 0 → (∃ x5 : Nat, (zu F a0 0 (.int 0)) a0 1 = .ref x5 ∧ False)) ∧ (r3 = 0 → (v_X9_refuse a0 2 T (zu F a0 0 (.int 0)) (fun (r6 : Int32) (F7 : zF) => Post r6 F7))))))) ∧ (r2 = 0 → (v_X9_refuse a0 1 T (zu F a0 0 (.int 0)) (fun (r14 : Int32) (F15 : zF) => Post r14 F15)))))))
set_option maxRecDepth 100000 in
set_option maxHeartbeats 4000000 in
theorem k_X9_late {l : Launch} {D : va_G} {cA : Nat → ClassId} {N0 zE : Nat} {a0 : Nat} {p1 : Int32} {p2 : Int32} {T : zT} {F : zF} {Post : Int32 → zF → Prop} (h : v_X9_late a0 p1 p2 T F Post) : z_Mt l D cA N0 zE yX9_late cX9_late 5 (some .int) ({ frames := 2, cells := 0, slots := 0, locals := 43 } : Room) [.ref a0, .int p1, .int p2] T F (fun v T' F' => ∃ r : Int32, v = some (.int r) ∧ T = T' ∧ Post r F') := by
  unfold v_X9_late at h
  refine z_bodyT (by decide) (Nat.le_of_ble_eq_true rfl) ?_
  intro p e s m args below meth c C hnm
  have C : z_C p l s m args meth c RX9 cX9_late 5 (some .int) D cA N0 zE := C
  show z_w p l e ({ frames := 2, cells := 0, slots := 0, locals := 43 } : Room) s m args below meth c D cA N0 5 0 0 (MQ below (z_Qc D cA N0 (fun v T' F' => ∃ r : Int32, v = some (.int r) ∧ T = T' ∧ Post r F')) args s 0 0 (fun q => N0 ≤ q)) 0 [(0, .ref a0), (1, .int p1), (2, .int p2)] [] T F
  refine zr_aload_n C 0 dX9_late_0 rfl rfl ?_
  refine zr_iconst C 0 dX9_late_1 (by decide) ?_
  obtain ⟨hT1, h⟩ := h
  refine zr_put C fl_X9_33 hT1 rfl rfl dX9_late_2 ?_
  refine zr_aload_n C 0 dX9_late_5 rfl rfl ?_
  refine zr_iload_n C 1 dX9_late_6 rfl rfl ?_
  refine zr_callV (As := [.int p1]) (r := (RX9, TX9, 6)) C (k_X9_isAsset h) ok_X9_59 zq_1019 zq_17 hT1 (by decide) rfl rfl ⟨by decide, (Nat.le_of_ble_eq_true rfl)⟩ ⟨(Nat.le_of_ble_eq_true rfl), (Nat.le_of_ble_eq_true rfl)⟩ (Nat.le_of_ble_eq_true rfl) dX9_late_7 (fun v19 U20 G21 hq => ?_)
  clear h
  · obtain ⟨r2, rfl, rfl, rfl, h⟩ := hq
    obtain ⟨h1, h2⟩ := h
    refine zr_if_ne C 19 dX9_late_10 (by decide) (fun hc => ?_) (fun hc => ?_)
    · have h := h1 hc
      clear h1 h2
      refine zr_iload_n C 2 dX9_late_19 rfl rfl ?_
      refine zr_iconst C 1 dX9_late_20 (by decide) ?_
      refine zr_bipush C 20 dX9_late_21 (by decide) ?_
      refine zr_callS (As := [.int p2, .int 1, .int 20]) C (k_X9_is h) ok_X9_41 zq_1022 rfl ⟨by decide, (Nat.le_of_ble_eq_true rfl)⟩ ⟨(Nat.le_of_ble_eq_true rfl), (Nat.le_of_ble_eq_true rfl)⟩ (Nat.le_of_ble_eq_true rfl) dX9_late_23 (fun v11 U12 G13 hq => ?_)
      clear h
      · obtain ⟨r3, rfl, rfl, rfl, h⟩ := hq
        obtain ⟨h1, h2⟩ := h
        refine zr_if_ne C 35 dX9_late_26 (by decide) (fun hc => ?_) (fun hc => ?_)
        · have h := h1 hc
          clear h1 h2
          refine zr_aload_n C 0 dX9_late_35 rfl rfl ?_
          obtain ⟨x5, hv4, h⟩ := h
          refine zr_get C fl_X9_10 hT1 hv4 dX9_late_36 ?_
          refine zr_iload_n C 1 dX9_late_39 rfl rfl ?_
          exact h.elim
        · have h := h2 hc
          clear h1 h2
          refine zr_aload_n C 0 dX9_late_29 rfl rfl ?_
          refine zr_iconst C 2 dX9_late_30 (by decide) ?_
          refine zr_callV (As := [.int 2]) (r := (RX9, TX9, 6)) C (k_X9_refuse h) ok_X9_48 zq_985 zq_16 hT1 (by decide) rfl rfl ⟨by decide, (Nat.le_of_ble_eq_true rfl)⟩ ⟨(Nat.le_of_ble_eq_true rfl), (Nat.le_of_ble_eq_true rfl)⟩ (Nat.le_of_ble_eq_true rfl) dX9_late_31 (fun v8 U9 G10 hq => ?_)
          clear h
          · obtain ⟨r6, rfl, rfl, h⟩ := hq
            exact zr_iret C rfl ⟨_, rfl, rfl, h⟩ (Nat.le_of_ble_eq_true rfl) (Nat.le_of_ble_eq_true rfl) dX9_late_34
    · have h := h2 hc
      clear h1 h2
      refine zr_aload_n C 0 dX9_late_13 rfl rfl ?_
      refine zr_iconst C 1 dX9_late_14 (by decide) ?_
      refine zr_callV (As := [.int 1]) (r := (RX9, TX9, 6)) C (k_X9_refuse h) ok_X9_48 zq_985 zq_16 hT1 (by decide) rfl rfl ⟨by decide, (Nat.le_of_ble_eq_true rfl)⟩ ⟨(Nat.le_of_ble_eq_true rfl), (Nat.le_of_ble_eq_true rfl)⟩ (Nat.le_of_ble_eq_true rfl) dX9_late_15 (fun v16 U17 G18 hq => ?_)
      clear h
      · obtain ⟨r14, rfl, rfl, h⟩ := hq
        exact zr_iret C rfl ⟨_, rfl, rfl, h⟩ (Nat.le_of_ble_eq_true rfl) (Nat.le_of_ble_eq_true rfl) dX9_late_18
theorem dX9_isDay_0 : decode cX9_isDay 0 = .ok (.iload_n 0, 1) := by decide +kernel
theorem dX9_isDay_1 : decode cX9_isDay 1 = .ok (.iconst 0, 1) := by decide +kernel
theorem dX9_isDay_2 : decode cX9_isDay 2 = .ok (.bipush 99, 2) := by decide +kernel
theorem dX9_isDay_7 : decode cX9_isDay 7 = .ok (.ireturn, 1) := by decide +kernel
theorem dX9_isDay_4 : decode cX9_isDay 4 = .ok (.invokestatic 41, 3) := by decide +kernel
def v_X9_isDay (p0 : Int32) (T : zT) (F : zF) (Post : Int32 → Prop) : Prop :=
  (v_X9_is p0 0 99 T F (fun (r1 : Int32) => ((r1 = 0 ∨ r1 = 1) ∧ Post r1)))
set_option maxRecDepth 100000 in
set_option maxHeartbeats 4000000 in
theorem k_X9_isDay {l : Launch} {D : va_G} {cA : Nat → ClassId} {N0 zE : Nat} {p0 : Int32} {T : zT} {F : zF} {Post : Int32 → Prop} (h : v_X9_isDay p0 T F Post) : z_Mt l D cA N0 zE yX9_isDay cX9_isDay 1 (some .boolean) ({ frames := 1, cells := 0, slots := 0, locals := 22 } : Room) [.int p0] T F (fun v T' F' => ∃ r : Int32, v = some (.int r) ∧ T = T' ∧ F = F' ∧ Post r) := by
  unfold v_X9_isDay at h
  refine z_bodyT (by decide) (Nat.le_of_ble_eq_true rfl) ?_
  intro p e s m args below meth c C hnm
  have C : z_C p l s m args meth c RX9 cX9_isDay 1 (some .boolean) D cA N0 zE := C
  show z_w p l e ({ frames := 1, cells := 0, slots := 0, locals := 22 } : Room) s m args below meth c D cA N0 1 0 0 (MQ below (z_Qc D cA N0 (fun v T' F' => ∃ r : Int32, v = some (.int r) ∧ T = T' ∧ F = F' ∧ Post r)) args s 0 0 (fun q => N0 ≤ q)) 0 [(0, .int p0)] [] T F
  refine zr_iload_n C 0 dX9_isDay_0 rfl rfl ?_
  refine zr_iconst C 0 dX9_isDay_1 (by decide) ?_
  refine zr_bipush C 99 dX9_isDay_2 (by decide) ?_
  refine zr_callS (As := [.int p0, .int 0, .int 99]) C (k_X9_is h) ok_X9_41 zq_1022 rfl ⟨by decide, (Nat.le_of_ble_eq_true rfl)⟩ ⟨(Nat.le_of_ble_eq_true rfl), (Nat.le_of_ble_eq_true rfl)⟩ (Nat.le_of_ble_eq_true rfl) dX9_isDay_4 (fun v2 U3 G4 hq => ?_)
  clear h
  · obtain ⟨r1, rfl, rfl, rfl, h⟩ := hq
    obtain ⟨hb, h⟩ := h
    exact zr_zret C rfl hb ⟨_, rfl, rfl, rfl, h⟩ (Nat.le_of_ble_eq_true rfl) (Nat.le_of_ble_eq_true rfl) dX9_isDay_7
theorem dX9_rights_0 : decode cX9_rights 0 = .ok (.aload_n 0, 1) := by decide +kernel
theorem dX9_rights_1 : decode cX9_rights 1 = .ok (.iconst 0, 1) := by decide +kernel
theorem dX9_rights_2 : decode cX9_rights 2 = .ok (.putfield 33, 3) := by decide +kernel
theorem dX9_rights_5 : decode cX9_rights 5 = .ok (.aload_n 0, 1) := by decide +kernel
theorem dX9_rights_6 : decode cX9_rights 6 = .ok (.iload_n 1, 1) := by decide +kernel
theorem dX9_rights_10 : decode cX9_rights 10 = .ok (.ifCond .ne 9, 3) := by decide +kernel
theorem dX9_rights_19 : decode cX9_rights 19 = .ok (.iload_n 2, 1) := by decide +kernel
theorem dX9_rights_20 : decode cX9_rights 20 = .ok (.iconst 0, 1) := by decide +kernel
theorem dX9_rights_21 : decode cX9_rights 21 = .ok (.bipush 15, 2) := by decide +kernel
theorem dX9_rights_26 : decode cX9_rights 26 = .ok (.ifCond .eq 21, 3) := by decide +kernel
theorem dX9_rights_47 : decode cX9_rights 47 = .ok (.aload_n 0, 1) := by decide +kernel
theorem dX9_rights_48 : decode cX9_rights 48 = .ok (.iconst 2, 1) := by decide +kernel
theorem dX9_rights_52 : decode cX9_rights 52 = .ok (.ireturn, 1) := by decide +kernel
theorem dX9_rights_49 : decode cX9_rights 49 = .ok (.invokevirtual 48, 3) := by decide +kernel
theorem dX9_rights_29 : decode cX9_rights 29 = .ok (.iload_n 3, 1) := by decide +kernel
theorem dX9_rights_33 : decode cX9_rights 33 = .ok (.ifCond .eq 14, 3) := by decide +kernel
theorem dX9_rights_36 : decode cX9_rights 36 = .ok (.iload 4, 2) := by decide +kernel
theorem dX9_rights_38 : decode cX9_rights 38 = .ok (.iload_n 3, 1) := by decide +kernel
theorem dX9_rights_39 : decode cX9_rights 39 = .ok (.bipush 99, 2) := by decide +kernel
theorem dX9_rights_44 : decode cX9_rights 44 = .ok (.ifCond .ne 9, 3) := by decide +kernel
theorem dX9_rights_53 : decode cX9_rights 53 = .ok (.aload_n 0, 1) := by decide +kernel
theorem dX9_rights_54 : decode cX9_rights 54 = .ok (.getfield 10, 3) := by decide +kernel
theorem dX9_rights_57 : decode cX9_rights 57 = .ok (.iload_n 1, 1) := by decide +kernel
theorem dX9_rights_41 : decode cX9_rights 41 = .ok (.invokestatic 41, 3) := by decide +kernel
theorem dX9_rights_30 : decode cX9_rights 30 = .ok (.invokestatic 92, 3) := by decide +kernel
theorem dX9_rights_23 : decode cX9_rights 23 = .ok (.invokestatic 41, 3) := by decide +kernel
theorem dX9_rights_13 : decode cX9_rights 13 = .ok (.aload_n 0, 1) := by decide +kernel
theorem dX9_rights_14 : decode cX9_rights 14 = .ok (.iconst 1, 1) := by decide +kernel
theorem dX9_rights_18 : decode cX9_rights 18 = .ok (.ireturn, 1) := by decide +kernel
theorem dX9_rights_15 : decode cX9_rights 15 = .ok (.invokevirtual 48, 3) := by decide +kernel
theorem dX9_rights_7 : decode cX9_rights 7 = .ok (.invokevirtual 59, 3) := by decide +kernel
def v_X9_rights (a0 : Nat) (p1 : Int32) (p2 : Int32) (p3 : Int32) (p4 : Int32) (T : zT) (F : zF) (Post : Int32 → zF → Prop) : Prop :=
  (T a0 = some (12, 6) ∧ (v_X9_isAsset a0 p1 T (zu F a0 0 (.int 0)) (fun (r2 : Int32) => ((¬ r2 = 0 → (v_X9_is p2 0 15 T (zu F a0 0 (.int 0)) (fun (r3 : Int32) => ((r3 = 0 → (v_X9_refuse a0 2 T (zu F a0 0 (.int 0)) (fun (r4 : Int32) (F5 : zF) => Post r4 F5))) ∧ (¬ r3 = 0 → (v_X9_isDay p3 T (zu F a0 0 (.int 0)) (fun (r9 : Int32) => ((r9 = 0 → (v_X9_refuse a0 2 T (zu F a0 0 (.int 0)) (fun (r10 : Int32) (F11 : zF) => Post r10 F11))) ∧ (¬ r9 = 0 → (v_X9_is p4 p3 99 T (zu F a0 0 (.int 0)) (fun (r15 : Int32) => ((¬ r15 = 0 → (∃ x17 : Nat, (zu F a0 0 (.int 0)) a0 1 = .ref x17 ∧ False)) ∧ (r15 = 0 → (v_X9_refuse a0 2 T (zu F a0 0 (.int 0)) (fun (r18 : Int32) (F19 : zF) => Post r18 F19))))))))))))))) ∧ (r2 = 0 → (v_X9_refuse a0 1 T (zu F a0 0 (.int 0)) (fun (r32 : Int32) (F33 : zF) => Post r32 F33)))))))
set_option maxRecDepth 100000 in
set_option maxHeartbeats 4000000 in
theorem k_X9_rights {l : Launch} {D : va_G} {cA : Nat → ClassId} {N0 zE : Nat} {a0 : Nat} {p1 : Int32} {p2 : Int32} {p3 : Int32} {p4 : Int32} {T : zT} {F : zF} {Post : Int32 → zF → Prop} (h : v_X9_rights a0 p1 p2 p3 p4 T F Post) : z_Mt l D cA N0 zE yX9_rights cX9_rights 7 (some .int) ({ frames := 2, cells := 0, slots := 0, locals := 43 } : Room) [.ref a0, .int p1, .int p2, .int p3, .int p4] T F (fun v T' F' => ∃ r : Int32, v = some (.int r) ∧ T = T' ∧ Post r F') := by
  unfold v_X9_rights at h
  refine z_bodyT (by decide) (Nat.le_of_ble_eq_true rfl) ?_
  intro p e s m args below meth c C hnm
  have C : z_C p l s m args meth c RX9 cX9_rights 7 (some .int) D cA N0 zE := C
  show z_w p l e ({ frames := 2, cells := 0, slots := 0, locals := 43 } : Room) s m args below meth c D cA N0 7 0 0 (MQ below (z_Qc D cA N0 (fun v T' F' => ∃ r : Int32, v = some (.int r) ∧ T = T' ∧ Post r F')) args s 0 0 (fun q => N0 ≤ q)) 0 [(0, .ref a0), (1, .int p1), (2, .int p2), (3, .int p3), (4, .int p4)] [] T F
  refine zr_aload_n C 0 dX9_rights_0 rfl rfl ?_
  refine zr_iconst C 0 dX9_rights_1 (by decide) ?_
  obtain ⟨hT1, h⟩ := h
  refine zr_put C fl_X9_33 hT1 rfl rfl dX9_rights_2 ?_
  refine zr_aload_n C 0 dX9_rights_5 rfl rfl ?_
  refine zr_iload_n C 1 dX9_rights_6 rfl rfl ?_
  refine zr_callV (As := [.int p1]) (r := (RX9, TX9, 6)) C (k_X9_isAsset h) ok_X9_59 zq_1019 zq_17 hT1 (by decide) rfl rfl ⟨by decide, (Nat.le_of_ble_eq_true rfl)⟩ ⟨(Nat.le_of_ble_eq_true rfl), (Nat.le_of_ble_eq_true rfl)⟩ (Nat.le_of_ble_eq_true rfl) dX9_rights_7 (fun v37 U38 G39 hq => ?_)
  clear h
  · obtain ⟨r2, rfl, rfl, rfl, h⟩ := hq
    obtain ⟨h1, h2⟩ := h
    refine zr_if_ne C 19 dX9_rights_10 (by decide) (fun hc => ?_) (fun hc => ?_)
    · have h := h1 hc
      clear h1 h2
      refine zr_iload_n C 2 dX9_rights_19 rfl rfl ?_
      refine zr_iconst C 0 dX9_rights_20 (by decide) ?_
      refine zr_bipush C 15 dX9_rights_21 (by decide) ?_
      refine zr_callS (As := [.int p2, .int 0, .int 15]) C (k_X9_is h) ok_X9_41 zq_1022 rfl ⟨by decide, (Nat.le_of_ble_eq_true rfl)⟩ ⟨(Nat.le_of_ble_eq_true rfl), (Nat.le_of_ble_eq_true rfl)⟩ (Nat.le_of_ble_eq_true rfl) dX9_rights_23 (fun v29 U30 G31 hq => ?_)
      clear h
      · obtain ⟨r3, rfl, rfl, rfl, h⟩ := hq
        obtain ⟨h1, h2⟩ := h
        refine zr_if_eq C 47 dX9_rights_26 (by decide) (fun hc => ?_) (fun hc => ?_)
        · have h := h1 hc
          clear h1 h2
          refine zr_aload_n C 0 dX9_rights_47 rfl rfl ?_
          refine zr_iconst C 2 dX9_rights_48 (by decide) ?_
          refine zr_callV (As := [.int 2]) (r := (RX9, TX9, 6)) C (k_X9_refuse h) ok_X9_48 zq_985 zq_16 hT1 (by decide) rfl rfl ⟨by decide, (Nat.le_of_ble_eq_true rfl)⟩ ⟨(Nat.le_of_ble_eq_true rfl), (Nat.le_of_ble_eq_true rfl)⟩ (Nat.le_of_ble_eq_true rfl) dX9_rights_49 (fun v6 U7 G8 hq => ?_)
          clear h
          · obtain ⟨r4, rfl, rfl, h⟩ := hq
            exact zr_iret C rfl ⟨_, rfl, rfl, h⟩ (Nat.le_of_ble_eq_true rfl) (Nat.le_of_ble_eq_true rfl) dX9_rights_52
        · have h := h2 hc
          clear h1 h2
          refine zr_iload_n C 3 dX9_rights_29 rfl rfl ?_
          refine zr_callS (As := [.int p3]) C (k_X9_isDay h) ok_X9_92 zq_1064 rfl ⟨by decide, (Nat.le_of_ble_eq_true rfl)⟩ ⟨(Nat.le_of_ble_eq_true rfl), (Nat.le_of_ble_eq_true rfl)⟩ (Nat.le_of_ble_eq_true rfl) dX9_rights_30 (fun v26 U27 G28 hq => ?_)
          clear h
          · obtain ⟨r9, rfl, rfl, rfl, h⟩ := hq
            obtain ⟨h1, h2⟩ := h
            refine zr_if_eq C 47 dX9_rights_33 (by decide) (fun hc => ?_) (fun hc => ?_)
            · have h := h1 hc
              clear h1 h2
              refine zr_aload_n C 0 dX9_rights_47 rfl rfl ?_
              refine zr_iconst C 2 dX9_rights_48 (by decide) ?_
              refine zr_callV (As := [.int 2]) (r := (RX9, TX9, 6)) C (k_X9_refuse h) ok_X9_48 zq_985 zq_16 hT1 (by decide) rfl rfl ⟨by decide, (Nat.le_of_ble_eq_true rfl)⟩ ⟨(Nat.le_of_ble_eq_true rfl), (Nat.le_of_ble_eq_true rfl)⟩ (Nat.le_of_ble_eq_true rfl) dX9_rights_49 (fun v12 U13 G14 hq => ?_)
              clear h
              · obtain ⟨r10, rfl, rfl, h⟩ := hq
                exact zr_iret C rfl ⟨_, rfl, rfl, h⟩ (Nat.le_of_ble_eq_true rfl) (Nat.le_of_ble_eq_true rfl) dX9_rights_52
            · have h := h2 hc
              clear h1 h2
              refine zr_iload C 4 dX9_rights_36 rfl ?_
              refine zr_iload_n C 3 dX9_rights_38 rfl rfl ?_
              refine zr_bipush C 99 dX9_rights_39 (by decide) ?_
              refine zr_callS (As := [.int p4, .int p3, .int 99]) C (k_X9_is h) ok_X9_41 zq_1022 rfl ⟨by decide, (Nat.le_of_ble_eq_true rfl)⟩ ⟨(Nat.le_of_ble_eq_true rfl), (Nat.le_of_ble_eq_true rfl)⟩ (Nat.le_of_ble_eq_true rfl) dX9_rights_41 (fun v23 U24 G25 hq => ?_)
              clear h
              · obtain ⟨r15, rfl, rfl, rfl, h⟩ := hq
                obtain ⟨h1, h2⟩ := h
                refine zr_if_ne C 53 dX9_rights_44 (by decide) (fun hc => ?_) (fun hc => ?_)
                · have h := h1 hc
                  clear h1 h2
                  refine zr_aload_n C 0 dX9_rights_53 rfl rfl ?_
                  obtain ⟨x17, hv16, h⟩ := h
                  refine zr_get C fl_X9_10 hT1 hv16 dX9_rights_54 ?_
                  refine zr_iload_n C 1 dX9_rights_57 rfl rfl ?_
                  exact h.elim
                · have h := h2 hc
                  clear h1 h2
                  refine zr_aload_n C 0 dX9_rights_47 rfl rfl ?_
                  refine zr_iconst C 2 dX9_rights_48 (by decide) ?_
                  refine zr_callV (As := [.int 2]) (r := (RX9, TX9, 6)) C (k_X9_refuse h) ok_X9_48 zq_985 zq_16 hT1 (by decide) rfl rfl ⟨by decide, (Nat.le_of_ble_eq_true rfl)⟩ ⟨(Nat.le_of_ble_eq_true rfl), (Nat.le_of_ble_eq_true rfl)⟩ (Nat.le_of_ble_eq_true rfl) dX9_rights_49 (fun v20 U21 G22 hq => ?_)
                  clear h
                  · obtain ⟨r18, rfl, rfl, h⟩ := hq
                    exact zr_iret C rfl ⟨_, rfl, rfl, h⟩ (Nat.le_of_ble_eq_true rfl) (Nat.le_of_ble_eq_true rfl) dX9_rights_52
    · have h := h2 hc
      clear h1 h2
      refine zr_aload_n C 0 dX9_rights_13 rfl rfl ?_
      refine zr_iconst C 1 dX9_rights_14 (by decide) ?_
      refine zr_callV (As := [.int 1]) (r := (RX9, TX9, 6)) C (k_X9_refuse h) ok_X9_48 zq_985 zq_16 hT1 (by decide) rfl rfl ⟨by decide, (Nat.le_of_ble_eq_true rfl)⟩ ⟨(Nat.le_of_ble_eq_true rfl), (Nat.le_of_ble_eq_true rfl)⟩ (Nat.le_of_ble_eq_true rfl) dX9_rights_15 (fun v34 U35 G36 hq => ?_)
      clear h
      · obtain ⟨r32, rfl, rfl, h⟩ := hq
        exact zr_iret C rfl ⟨_, rfl, rfl, h⟩ (Nat.le_of_ble_eq_true rfl) (Nat.le_of_ble_eq_true rfl) dX9_rights_18
theorem dX9_versionOn_0 : decode cX9_versionOn 0 = .ok (.aload_n 0, 1) := by decide +kernel
theorem dX9_versionOn_1 : decode cX9_versionOn 1 = .ok (.iconst 0, 1) := by decide +kernel
theorem dX9_versionOn_2 : decode cX9_versionOn 2 = .ok (.putfield 33, 3) := by decide +kernel
theorem dX9_versionOn_5 : decode cX9_versionOn 5 = .ok (.aload_n 0, 1) := by decide +kernel
theorem dX9_versionOn_6 : decode cX9_versionOn 6 = .ok (.iload_n 1, 1) := by decide +kernel
theorem dX9_versionOn_10 : decode cX9_versionOn 10 = .ok (.ifCond .ne 9, 3) := by decide +kernel
theorem dX9_versionOn_19 : decode cX9_versionOn 19 = .ok (.iload_n 2, 1) := by decide +kernel
theorem dX9_versionOn_23 : decode cX9_versionOn 23 = .ok (.ifCond .eq 21, 3) := by decide +kernel
theorem dX9_versionOn_44 : decode cX9_versionOn 44 = .ok (.aload_n 0, 1) := by decide +kernel
theorem dX9_versionOn_45 : decode cX9_versionOn 45 = .ok (.iconst 2, 1) := by decide +kernel
theorem dX9_versionOn_49 : decode cX9_versionOn 49 = .ok (.ireturn, 1) := by decide +kernel
theorem dX9_versionOn_46 : decode cX9_versionOn 46 = .ok (.invokevirtual 48, 3) := by decide +kernel
theorem dX9_versionOn_26 : decode cX9_versionOn 26 = .ok (.aload_n 0, 1) := by decide +kernel
theorem dX9_versionOn_27 : decode cX9_versionOn 27 = .ok (.getfield 10, 3) := by decide +kernel
theorem dX9_versionOn_30 : decode cX9_versionOn 30 = .ok (.iload_n 1, 1) := by decide +kernel
theorem dX9_versionOn_20 : decode cX9_versionOn 20 = .ok (.invokestatic 92, 3) := by decide +kernel
theorem dX9_versionOn_13 : decode cX9_versionOn 13 = .ok (.aload_n 0, 1) := by decide +kernel
theorem dX9_versionOn_14 : decode cX9_versionOn 14 = .ok (.iconst 1, 1) := by decide +kernel
theorem dX9_versionOn_18 : decode cX9_versionOn 18 = .ok (.ireturn, 1) := by decide +kernel
theorem dX9_versionOn_15 : decode cX9_versionOn 15 = .ok (.invokevirtual 48, 3) := by decide +kernel
theorem dX9_versionOn_7 : decode cX9_versionOn 7 = .ok (.invokevirtual 59, 3) := by decide +kernel
def v_X9_versionOn (a0 : Nat) (p1 : Int32) (p2 : Int32) (T : zT) (F : zF) (Post : Int32 → zF → Prop) : Prop :=
  (T a0 = some (12, 6) ∧ (v_X9_isAsset a0 p1 T (zu F a0 0 (.int 0)) (fun (r2 : Int32) => ((¬ r2 = 0 → (v_X9_isDay p2 T (zu F a0 0 (.int 0)) (fun (r3 : Int32) => ((r3 = 0 → (v_X9_refuse a0 2 T (zu F a0 0 (.int 0)) (fun (r4 : Int32) (F5 : zF) => Post r4 F5))) ∧ (¬ r3 = 0 → (∃ x10 : Nat, (zu F a0 0 (.int 0)) a0 1 = .ref x10 ∧ False)))))) ∧ (r2 = 0 → (v_X9_refuse a0 1 T (zu F a0 0 (.int 0)) (fun (r14 : Int32) (F15 : zF) => Post r14 F15)))))))
set_option maxRecDepth 100000 in
set_option maxHeartbeats 4000000 in
theorem k_X9_versionOn {l : Launch} {D : va_G} {cA : Nat → ClassId} {N0 zE : Nat} {a0 : Nat} {p1 : Int32} {p2 : Int32} {T : zT} {F : zF} {Post : Int32 → zF → Prop} (h : v_X9_versionOn a0 p1 p2 T F Post) : z_Mt l D cA N0 zE yX9_versionOn cX9_versionOn 3 (some .int) ({ frames := 2, cells := 0, slots := 0, locals := 43 } : Room) [.ref a0, .int p1, .int p2] T F (fun v T' F' => ∃ r : Int32, v = some (.int r) ∧ T = T' ∧ Post r F') := by
  unfold v_X9_versionOn at h
  refine z_bodyT (by decide) (Nat.le_of_ble_eq_true rfl) ?_
  intro p e s m args below meth c C hnm
  have C : z_C p l s m args meth c RX9 cX9_versionOn 3 (some .int) D cA N0 zE := C
  show z_w p l e ({ frames := 2, cells := 0, slots := 0, locals := 43 } : Room) s m args below meth c D cA N0 3 0 0 (MQ below (z_Qc D cA N0 (fun v T' F' => ∃ r : Int32, v = some (.int r) ∧ T = T' ∧ Post r F')) args s 0 0 (fun q => N0 ≤ q)) 0 [(0, .ref a0), (1, .int p1), (2, .int p2)] [] T F
  refine zr_aload_n C 0 dX9_versionOn_0 rfl rfl ?_
  refine zr_iconst C 0 dX9_versionOn_1 (by decide) ?_
  obtain ⟨hT1, h⟩ := h
  refine zr_put C fl_X9_33 hT1 rfl rfl dX9_versionOn_2 ?_
  refine zr_aload_n C 0 dX9_versionOn_5 rfl rfl ?_
  refine zr_iload_n C 1 dX9_versionOn_6 rfl rfl ?_
  refine zr_callV (As := [.int p1]) (r := (RX9, TX9, 6)) C (k_X9_isAsset h) ok_X9_59 zq_1019 zq_17 hT1 (by decide) rfl rfl ⟨by decide, (Nat.le_of_ble_eq_true rfl)⟩ ⟨(Nat.le_of_ble_eq_true rfl), (Nat.le_of_ble_eq_true rfl)⟩ (Nat.le_of_ble_eq_true rfl) dX9_versionOn_7 (fun v19 U20 G21 hq => ?_)
  clear h
  · obtain ⟨r2, rfl, rfl, rfl, h⟩ := hq
    obtain ⟨h1, h2⟩ := h
    refine zr_if_ne C 19 dX9_versionOn_10 (by decide) (fun hc => ?_) (fun hc => ?_)
    · have h := h1 hc
      clear h1 h2
      refine zr_iload_n C 2 dX9_versionOn_19 rfl rfl ?_
      refine zr_callS (As := [.int p2]) C (k_X9_isDay h) ok_X9_92 zq_1064 rfl ⟨by decide, (Nat.le_of_ble_eq_true rfl)⟩ ⟨(Nat.le_of_ble_eq_true rfl), (Nat.le_of_ble_eq_true rfl)⟩ (Nat.le_of_ble_eq_true rfl) dX9_versionOn_20 (fun v11 U12 G13 hq => ?_)
      clear h
      · obtain ⟨r3, rfl, rfl, rfl, h⟩ := hq
        obtain ⟨h1, h2⟩ := h
        refine zr_if_eq C 44 dX9_versionOn_23 (by decide) (fun hc => ?_) (fun hc => ?_)
        · have h := h1 hc
          clear h1 h2
          refine zr_aload_n C 0 dX9_versionOn_44 rfl rfl ?_
          refine zr_iconst C 2 dX9_versionOn_45 (by decide) ?_
          refine zr_callV (As := [.int 2]) (r := (RX9, TX9, 6)) C (k_X9_refuse h) ok_X9_48 zq_985 zq_16 hT1 (by decide) rfl rfl ⟨by decide, (Nat.le_of_ble_eq_true rfl)⟩ ⟨(Nat.le_of_ble_eq_true rfl), (Nat.le_of_ble_eq_true rfl)⟩ (Nat.le_of_ble_eq_true rfl) dX9_versionOn_46 (fun v6 U7 G8 hq => ?_)
          clear h
          · obtain ⟨r4, rfl, rfl, h⟩ := hq
            exact zr_iret C rfl ⟨_, rfl, rfl, h⟩ (Nat.le_of_ble_eq_true rfl) (Nat.le_of_ble_eq_true rfl) dX9_versionOn_49
        · have h := h2 hc
          clear h1 h2
          refine zr_aload_n C 0 dX9_versionOn_26 rfl rfl ?_
          obtain ⟨x10, hv9, h⟩ := h
          refine zr_get C fl_X9_10 hT1 hv9 dX9_versionOn_27 ?_
          refine zr_iload_n C 1 dX9_versionOn_30 rfl rfl ?_
          exact h.elim
    · have h := h2 hc
      clear h1 h2
      refine zr_aload_n C 0 dX9_versionOn_13 rfl rfl ?_
      refine zr_iconst C 1 dX9_versionOn_14 (by decide) ?_
      refine zr_callV (As := [.int 1]) (r := (RX9, TX9, 6)) C (k_X9_refuse h) ok_X9_48 zq_985 zq_16 hT1 (by decide) rfl rfl ⟨by decide, (Nat.le_of_ble_eq_true rfl)⟩ ⟨(Nat.le_of_ble_eq_true rfl), (Nat.le_of_ble_eq_true rfl)⟩ (Nat.le_of_ble_eq_true rfl) dX9_versionOn_15 (fun v16 U17 G18 hq => ?_)
      clear h
      · obtain ⟨r14, rfl, rfl, h⟩ := hq
        exact zr_iret C rfl ⟨_, rfl, rfl, h⟩ (Nat.le_of_ble_eq_true rfl) (Nat.le_of_ble_eq_true rfl) dX9_versionOn_18
theorem dX9_isLand_0 : decode cX9_isLand 0 = .ok (.iload_n 0, 1) := by decide +kernel
theorem dX9_isLand_1 : decode cX9_isLand 1 = .ok (.iconst 0, 1) := by decide +kernel
theorem dX9_isLand_2 : decode cX9_isLand 2 = .ok (.iconst 3, 1) := by decide +kernel
theorem dX9_isLand_6 : decode cX9_isLand 6 = .ok (.ireturn, 1) := by decide +kernel
theorem dX9_isLand_3 : decode cX9_isLand 3 = .ok (.invokestatic 41, 3) := by decide +kernel
def v_X9_isLand (p0 : Int32) (T : zT) (F : zF) (Post : Int32 → Prop) : Prop :=
  (v_X9_is p0 0 3 T F (fun (r1 : Int32) => ((r1 = 0 ∨ r1 = 1) ∧ Post r1)))
set_option maxRecDepth 100000 in
set_option maxHeartbeats 4000000 in
theorem k_X9_isLand {l : Launch} {D : va_G} {cA : Nat → ClassId} {N0 zE : Nat} {p0 : Int32} {T : zT} {F : zF} {Post : Int32 → Prop} (h : v_X9_isLand p0 T F Post) : z_Mt l D cA N0 zE yX9_isLand cX9_isLand 1 (some .boolean) ({ frames := 1, cells := 0, slots := 0, locals := 22 } : Room) [.int p0] T F (fun v T' F' => ∃ r : Int32, v = some (.int r) ∧ T = T' ∧ F = F' ∧ Post r) := by
  unfold v_X9_isLand at h
  refine z_bodyT (by decide) (Nat.le_of_ble_eq_true rfl) ?_
  intro p e s m args below meth c C hnm
  have C : z_C p l s m args meth c RX9 cX9_isLand 1 (some .boolean) D cA N0 zE := C
  show z_w p l e ({ frames := 1, cells := 0, slots := 0, locals := 22 } : Room) s m args below meth c D cA N0 1 0 0 (MQ below (z_Qc D cA N0 (fun v T' F' => ∃ r : Int32, v = some (.int r) ∧ T = T' ∧ F = F' ∧ Post r)) args s 0 0 (fun q => N0 ≤ q)) 0 [(0, .int p0)] [] T F
  refine zr_iload_n C 0 dX9_isLand_0 rfl rfl ?_
  refine zr_iconst C 0 dX9_isLand_1 (by decide) ?_
  refine zr_iconst C 3 dX9_isLand_2 (by decide) ?_
  refine zr_callS (As := [.int p0, .int 0, .int 3]) C (k_X9_is h) ok_X9_41 zq_1022 rfl ⟨by decide, (Nat.le_of_ble_eq_true rfl)⟩ ⟨(Nat.le_of_ble_eq_true rfl), (Nat.le_of_ble_eq_true rfl)⟩ (Nat.le_of_ble_eq_true rfl) dX9_isLand_3 (fun v2 U3 G4 hq => ?_)
  clear h
  · obtain ⟨r1, rfl, rfl, rfl, h⟩ := hq
    obtain ⟨hb, h⟩ := h
    exact zr_zret C rfl hb ⟨_, rfl, rfl, rfl, h⟩ (Nat.le_of_ble_eq_true rfl) (Nat.le_of_ble_eq_true rfl) dX9_isLand_6
theorem dX9_hasRights_0 : decode cX9_hasRights 0 = .ok (.aload_n 0, 1) := by decide +kernel
theorem dX9_hasRights_1 : decode cX9_hasRights 1 = .ok (.aload_n 0, 1) := by decide +kernel
theorem dX9_hasRights_2 : decode cX9_hasRights 2 = .ok (.iload_n 1, 1) := by decide +kernel
theorem dX9_hasRights_6 : decode cX9_hasRights 6 = .ok (.ifCond .eq 10, 3) := by decide +kernel
theorem dX9_hasRights_16 : decode cX9_hasRights 16 = .ok (.iconst 1, 1) := by decide +kernel
theorem dX9_hasRights_17 : decode cX9_hasRights 17 = .ok (.goto 15, 3) := by decide +kernel
theorem dX9_hasRights_32 : decode cX9_hasRights 32 = .ok (.putfield 33, 3) := by decide +kernel
theorem dX9_hasRights_35 : decode cX9_hasRights 35 = .ok (.aload_n 0, 1) := by decide +kernel
theorem dX9_hasRights_36 : decode cX9_hasRights 36 = .ok (.getfield 33, 3) := by decide +kernel
theorem dX9_hasRights_39 : decode cX9_hasRights 39 = .ok (.ifCond .ne 26, 3) := by decide +kernel
theorem dX9_hasRights_65 : decode cX9_hasRights 65 = .ok (.iconst 0, 1) := by decide +kernel
theorem dX9_hasRights_66 : decode cX9_hasRights 66 = .ok (.ireturn, 1) := by decide +kernel
theorem dX9_hasRights_9 : decode cX9_hasRights 9 = .ok (.iload_n 2, 1) := by decide +kernel
theorem dX9_hasRights_13 : decode cX9_hasRights 13 = .ok (.ifCond .ne 7, 3) := by decide +kernel
theorem dX9_hasRights_20 : decode cX9_hasRights 20 = .ok (.iload_n 3, 1) := by decide +kernel
theorem dX9_hasRights_24 : decode cX9_hasRights 24 = .ok (.ifCond .ne 7, 3) := by decide +kernel
theorem dX9_hasRights_31 : decode cX9_hasRights 31 = .ok (.iconst 0, 1) := by decide +kernel
theorem dX9_hasRights_42 : decode cX9_hasRights 42 = .ok (.aload_n 0, 1) := by decide +kernel
theorem dX9_hasRights_43 : decode cX9_hasRights 43 = .ok (.getfield 10, 3) := by decide +kernel
theorem dX9_hasRights_46 : decode cX9_hasRights 46 = .ok (.iload_n 1, 1) := by decide +kernel
theorem dX9_hasRights_27 : decode cX9_hasRights 27 = .ok (.iconst 2, 1) := by decide +kernel
theorem dX9_hasRights_28 : decode cX9_hasRights 28 = .ok (.goto 4, 3) := by decide +kernel
theorem dX9_hasRights_21 : decode cX9_hasRights 21 = .ok (.invokestatic 92, 3) := by decide +kernel
theorem dX9_hasRights_10 : decode cX9_hasRights 10 = .ok (.invokestatic 107, 3) := by decide +kernel
theorem dX9_hasRights_3 : decode cX9_hasRights 3 = .ok (.invokevirtual 59, 3) := by decide +kernel
def v_X9_hasRights (a0 : Nat) (p1 : Int32) (p2 : Int32) (p3 : Int32) (T : zT) (F : zF) (Post : Int32 → zF → Prop) : Prop :=
  (T a0 = some (12, 6) ∧ (v_X9_isAsset a0 p1 T F (fun (r2 : Int32) => ((r2 = 0 → Post 0 (zu F a0 0 (.int 1))) ∧ (¬ r2 = 0 → (v_X9_isLand p2 T F (fun (r3 : Int32) => ((¬ r3 = 0 → (v_X9_isDay p3 T F (fun (r4 : Int32) => ((¬ r4 = 0 → (∃ x6 : Nat, (zu F a0 0 (.int 0)) a0 1 = .ref x6 ∧ False)) ∧ (r4 = 0 → Post 0 (zu F a0 0 (.int 2))))))) ∧ (r3 = 0 → Post 0 (zu F a0 0 (.int 1)))))))))))
set_option maxRecDepth 100000 in
set_option maxHeartbeats 4000000 in
theorem k_X9_hasRights {l : Launch} {D : va_G} {cA : Nat → ClassId} {N0 zE : Nat} {a0 : Nat} {p1 : Int32} {p2 : Int32} {p3 : Int32} {T : zT} {F : zF} {Post : Int32 → zF → Prop} (h : v_X9_hasRights a0 p1 p2 p3 T F Post) : z_Mt l D cA N0 zE yX9_hasRights cX9_hasRights 4 (some .boolean) ({ frames := 2, cells := 0, slots := 0, locals := 43 } : Room) [.ref a0, .int p1, .int p2, .int p3] T F (fun v T' F' => ∃ r : Int32, v = some (.int r) ∧ T = T' ∧ Post r F') := by
  unfold v_X9_hasRights at h
  refine z_bodyT (by decide) (Nat.le_of_ble_eq_true rfl) ?_
  intro p e s m args below meth c C hnm
  have C : z_C p l s m args meth c RX9 cX9_hasRights 4 (some .boolean) D cA N0 zE := C
  show z_w p l e ({ frames := 2, cells := 0, slots := 0, locals := 43 } : Room) s m args below meth c D cA N0 4 0 0 (MQ below (z_Qc D cA N0 (fun v T' F' => ∃ r : Int32, v = some (.int r) ∧ T = T' ∧ Post r F')) args s 0 0 (fun q => N0 ≤ q)) 0 [(0, .ref a0), (1, .int p1), (2, .int p2), (3, .int p3)] [] T F
  refine zr_aload_n C 0 dX9_hasRights_0 rfl rfl ?_
  refine zr_aload_n C 0 dX9_hasRights_1 rfl rfl ?_
  refine zr_iload_n C 1 dX9_hasRights_2 rfl rfl ?_
  obtain ⟨hT1, h⟩ := h
  refine zr_callV (As := [.int p1]) (r := (RX9, TX9, 6)) C (k_X9_isAsset h) ok_X9_59 zq_1019 zq_17 hT1 (by decide) rfl rfl ⟨by decide, (Nat.le_of_ble_eq_true rfl)⟩ ⟨(Nat.le_of_ble_eq_true rfl), (Nat.le_of_ble_eq_true rfl)⟩ (Nat.le_of_ble_eq_true rfl) dX9_hasRights_3 (fun v13 U14 G15 hq => ?_)
  clear h
  · obtain ⟨r2, rfl, rfl, rfl, h⟩ := hq
    obtain ⟨h1, h2⟩ := h
    refine zr_if_eq C 16 dX9_hasRights_6 (by decide) (fun hc => ?_) (fun hc => ?_)
    · have h := h1 hc
      clear h1 h2
      refine zr_iconst C 1 dX9_hasRights_16 (by decide) ?_
      refine zr_goto C 32 dX9_hasRights_17 (by decide) ?_
      refine zr_put C fl_X9_33 hT1 rfl rfl dX9_hasRights_32 ?_
      refine zr_aload_n C 0 dX9_hasRights_35 rfl rfl ?_
      refine zr_get C fl_X9_33 hT1 z_ueq dX9_hasRights_36 ?_
      refine zr_if_ne C 65 dX9_hasRights_39 (by decide) (fun _ => ?_) (fun hc => absurd hc (by decide))
      refine zr_iconst C 0 dX9_hasRights_65 (by decide) ?_
      exact zr_zret C rfl (Or.inl rfl) ⟨_, rfl, rfl, h⟩ (Nat.le_of_ble_eq_true rfl) (Nat.le_of_ble_eq_true rfl) dX9_hasRights_66
    · have h := h2 hc
      clear h1 h2
      refine zr_iload_n C 2 dX9_hasRights_9 rfl rfl ?_
      refine zr_callS (As := [.int p2]) C (k_X9_isLand h) ok_X9_107 zq_1083 rfl ⟨by decide, (Nat.le_of_ble_eq_true rfl)⟩ ⟨(Nat.le_of_ble_eq_true rfl), (Nat.le_of_ble_eq_true rfl)⟩ (Nat.le_of_ble_eq_true rfl) dX9_hasRights_10 (fun v10 U11 G12 hq => ?_)
      clear h
      · obtain ⟨r3, rfl, rfl, rfl, h⟩ := hq
        obtain ⟨h1, h2⟩ := h
        refine zr_if_ne C 20 dX9_hasRights_13 (by decide) (fun hc => ?_) (fun hc => ?_)
        · have h := h1 hc
          clear h1 h2
          refine zr_iload_n C 3 dX9_hasRights_20 rfl rfl ?_
          refine zr_callS (As := [.int p3]) C (k_X9_isDay h) ok_X9_92 zq_1064 rfl ⟨by decide, (Nat.le_of_ble_eq_true rfl)⟩ ⟨(Nat.le_of_ble_eq_true rfl), (Nat.le_of_ble_eq_true rfl)⟩ (Nat.le_of_ble_eq_true rfl) dX9_hasRights_21 (fun v7 U8 G9 hq => ?_)
          clear h
          · obtain ⟨r4, rfl, rfl, rfl, h⟩ := hq
            obtain ⟨h1, h2⟩ := h
            refine zr_if_ne C 31 dX9_hasRights_24 (by decide) (fun hc => ?_) (fun hc => ?_)
            · have h := h1 hc
              clear h1 h2
              refine zr_iconst C 0 dX9_hasRights_31 (by decide) ?_
              refine zr_put C fl_X9_33 hT1 rfl rfl dX9_hasRights_32 ?_
              refine zr_aload_n C 0 dX9_hasRights_35 rfl rfl ?_
              refine zr_get C fl_X9_33 hT1 z_ueq dX9_hasRights_36 ?_
              refine zr_if_ne C 65 dX9_hasRights_39 (by decide) (fun hc => absurd hc (by decide)) (fun _ => ?_)
              refine zr_aload_n C 0 dX9_hasRights_42 rfl rfl ?_
              obtain ⟨x6, hv5, h⟩ := h
              refine zr_get C fl_X9_10 hT1 hv5 dX9_hasRights_43 ?_
              refine zr_iload_n C 1 dX9_hasRights_46 rfl rfl ?_
              exact h.elim
            · have h := h2 hc
              clear h1 h2
              refine zr_iconst C 2 dX9_hasRights_27 (by decide) ?_
              refine zr_goto C 32 dX9_hasRights_28 (by decide) ?_
              refine zr_put C fl_X9_33 hT1 rfl rfl dX9_hasRights_32 ?_
              refine zr_aload_n C 0 dX9_hasRights_35 rfl rfl ?_
              refine zr_get C fl_X9_33 hT1 z_ueq dX9_hasRights_36 ?_
              refine zr_if_ne C 65 dX9_hasRights_39 (by decide) (fun _ => ?_) (fun hc => absurd hc (by decide))
              refine zr_iconst C 0 dX9_hasRights_65 (by decide) ?_
              exact zr_zret C rfl (Or.inl rfl) ⟨_, rfl, rfl, h⟩ (Nat.le_of_ble_eq_true rfl) (Nat.le_of_ble_eq_true rfl) dX9_hasRights_66
        · have h := h2 hc
          clear h1 h2
          refine zr_iconst C 1 dX9_hasRights_16 (by decide) ?_
          refine zr_goto C 32 dX9_hasRights_17 (by decide) ?_
          refine zr_put C fl_X9_33 hT1 rfl rfl dX9_hasRights_32 ?_
          refine zr_aload_n C 0 dX9_hasRights_35 rfl rfl ?_
          refine zr_get C fl_X9_33 hT1 z_ueq dX9_hasRights_36 ?_
          refine zr_if_ne C 65 dX9_hasRights_39 (by decide) (fun _ => ?_) (fun hc => absurd hc (by decide))
          refine zr_iconst C 0 dX9_hasRights_65 (by decide) ?_
          exact zr_zret C rfl (Or.inl rfl) ⟨_, rfl, rfl, h⟩ (Nat.le_of_ble_eq_true rfl) (Nat.le_of_ble_eq_true rfl) dX9_hasRights_66
theorem dX9_piece_0 : decode cX9_piece 0 = .ok (.aload_n 0, 1) := by decide +kernel
theorem dX9_piece_1 : decode cX9_piece 1 = .ok (.iconst 0, 1) := by decide +kernel
theorem dX9_piece_2 : decode cX9_piece 2 = .ok (.putfield 33, 3) := by decide +kernel
theorem dX9_piece_5 : decode cX9_piece 5 = .ok (.iload_n 1, 1) := by decide +kernel
theorem dX9_piece_6 : decode cX9_piece 6 = .ok (.iconst 0, 1) := by decide +kernel
theorem dX9_piece_7 : decode cX9_piece 7 = .ok (.iconst 2, 1) := by decide +kernel
theorem dX9_piece_11 : decode cX9_piece 11 = .ok (.ifCond .eq 22, 3) := by decide +kernel
theorem dX9_piece_33 : decode cX9_piece 33 = .ok (.aload_n 0, 1) := by decide +kernel
theorem dX9_piece_34 : decode cX9_piece 34 = .ok (.iconst 1, 1) := by decide +kernel
theorem dX9_piece_38 : decode cX9_piece 38 = .ok (.ireturn, 1) := by decide +kernel
theorem dX9_piece_35 : decode cX9_piece 35 = .ok (.invokevirtual 48, 3) := by decide +kernel
theorem dX9_piece_14 : decode cX9_piece 14 = .ok (.iload_n 2, 1) := by decide +kernel
theorem dX9_piece_15 : decode cX9_piece 15 = .ok (.iconst 1, 1) := by decide +kernel
theorem dX9_piece_16 : decode cX9_piece 16 = .ok (.iconst 1, 1) := by decide +kernel
theorem dX9_piece_17 : decode cX9_piece 17 = .ok (.aload_n 0, 1) := by decide +kernel
theorem dX9_piece_18 : decode cX9_piece 18 = .ok (.getfield 10, 3) := by decide +kernel
theorem dX9_piece_24 : decode cX9_piece 24 = .ok (.ishl, 1) := by decide +kernel
theorem dX9_piece_25 : decode cX9_piece 25 = .ok (.iconst 1, 1) := by decide +kernel
theorem dX9_piece_26 : decode cX9_piece 26 = .ok (.isub, 1) := by decide +kernel
theorem dX9_piece_30 : decode cX9_piece 30 = .ok (.ifCond .ne 9, 3) := by decide +kernel
theorem dX9_piece_39 : decode cX9_piece 39 = .ok (.aload_n 0, 1) := by decide +kernel
theorem dX9_piece_40 : decode cX9_piece 40 = .ok (.getfield 16, 3) := by decide +kernel
theorem dX9_piece_46 : decode cX9_piece 46 = .ok (.bipush 12, 2) := by decide +kernel
theorem dX9_piece_48 : decode cX9_piece 48 = .ok (.if_icmp .ne 9, 3) := by decide +kernel
theorem dX9_piece_57 : decode cX9_piece 57 = .ok (.aload_n 0, 1) := by decide +kernel
theorem dX9_piece_58 : decode cX9_piece 58 = .ok (.getfield 16, 3) := by decide +kernel
theorem dX9_piece_61 : decode cX9_piece 61 = .ok (.new 114, 3) := by decide +kernel
theorem dX9_piece_64 : decode cX9_piece 64 = .ok (.dup, 1) := by decide +kernel
theorem dX9_piece_65 : decode cX9_piece 65 = .ok (.aload_n 0, 1) := by decide +kernel
theorem dX9_piece_66 : decode cX9_piece 66 = .ok (.iload_n 1, 1) := by decide +kernel
theorem dX9_piece_67 : decode cX9_piece 67 = .ok (.iload_n 2, 1) := by decide +kernel
theorem dX9_piece_51 : decode cX9_piece 51 = .ok (.aload_n 0, 1) := by decide +kernel
theorem dX9_piece_52 : decode cX9_piece 52 = .ok (.iconst 2, 1) := by decide +kernel
theorem dX9_piece_56 : decode cX9_piece 56 = .ok (.ireturn, 1) := by decide +kernel
theorem dX9_piece_53 : decode cX9_piece 53 = .ok (.invokevirtual 48, 3) := by decide +kernel
theorem dX9_piece_43 : decode cX9_piece 43 = .ok (.invokevirtual 37, 3) := by decide +kernel
theorem dX9_piece_27 : decode cX9_piece 27 = .ok (.invokestatic 41, 3) := by decide +kernel
theorem dX9_piece_21 : decode cX9_piece 21 = .ok (.invokevirtual 37, 3) := by decide +kernel
theorem dX9_piece_8 : decode cX9_piece 8 = .ok (.invokestatic 41, 3) := by decide +kernel
def v_X9_piece (a0 : Nat) (p1 : Int32) (p2 : Int32) (T : zT) (F : zF) (Post : Int32 → zT → zF → Prop) : Prop :=
  (T a0 = some (12, 6) ∧ (v_X9_is p1 0 2 T (zu F a0 0 (.int 0)) (fun (r2 : Int32) => ((r2 = 0 → (v_X9_refuse a0 1 T (zu F a0 0 (.int 0)) (fun (r3 : Int32) (F4 : zF) => Post r3 T F4))) ∧ (¬ r2 = 0 → (∃ x9 : Nat, (zu F a0 0 (.int 0)) a0 1 = .ref x9 ∧ T x9 = some (2, 3) ∧ (v_Jx4a65c_size_8abf5 x9 T (zu F a0 0 (.int 0)) (fun (r11 : Int32) => (v_X9_is p2 1 (((1 : Int32) <<< (r11 &&& 31)) - 1) T (zu F a0 0 (.int 0)) (fun (r12 : Int32) => ((¬ r12 = 0 → (∃ x14 : Nat, (zu F a0 0 (.int 0)) a0 2 = .ref x14 ∧ T x14 = some (2, 3) ∧ (v_Jx4a65c_size_8abf5 x14 T (zu F a0 0 (.int 0)) (fun (r16 : Int32) => ((¬ r16 = 12 → (∀ q17 : Nat, (∀ b, q17 ≤ b → T b = none) → False)) ∧ (r16 = 12 → (v_X9_refuse a0 2 T (zu F a0 0 (.int 0)) (fun (r19 : Int32) (F20 : zF) => Post r19 T F20)))))))) ∧ (r12 = 0 → (v_X9_refuse a0 1 T (zu F a0 0 (.int 0)) (fun (r27 : Int32) (F28 : zF) => Post r27 T F28))))))))))))))
set_option maxRecDepth 100000 in
set_option maxHeartbeats 4000000 in
theorem k_X9_piece {l : Launch} {D : va_G} {cA : Nat → ClassId} {N0 zE : Nat} {a0 : Nat} {p1 : Int32} {p2 : Int32} {T : zT} {F : zF} {Post : Int32 → zT → zF → Prop} (h : v_X9_piece a0 p1 p2 T F Post) : z_Mt l D cA N0 zE yX9_piece cX9_piece 3 (some .int) ({ frames := 1, cells := 1, slots := 4, locals := 22 } : Room) [.ref a0, .int p1, .int p2] T F (fun v T' F' => ∃ r : Int32, v = some (.int r) ∧ Post r T' F') := by
  unfold v_X9_piece at h
  refine z_bodyT (by decide) (Nat.le_of_ble_eq_true rfl) ?_
  intro p e s m args below meth c C hnm
  have C : z_C p l s m args meth c RX9 cX9_piece 3 (some .int) D cA N0 zE := C
  show z_w p l e ({ frames := 1, cells := 1, slots := 4, locals := 22 } : Room) s m args below meth c D cA N0 3 0 0 (MQ below (z_Qc D cA N0 (fun v T' F' => ∃ r : Int32, v = some (.int r) ∧ Post r T' F')) args s 1 4 (fun q => N0 ≤ q)) 0 [(0, .ref a0), (1, .int p1), (2, .int p2)] [] T F
  refine zr_aload_n C 0 dX9_piece_0 rfl rfl ?_
  refine zr_iconst C 0 dX9_piece_1 (by decide) ?_
  obtain ⟨hT1, h⟩ := h
  refine zr_put C fl_X9_33 hT1 rfl rfl dX9_piece_2 ?_
  refine zr_iload_n C 1 dX9_piece_5 rfl rfl ?_
  refine zr_iconst C 0 dX9_piece_6 (by decide) ?_
  refine zr_iconst C 2 dX9_piece_7 (by decide) ?_
  refine zr_callS (As := [.int p1, .int 0, .int 2]) C (k_X9_is h) ok_X9_41 zq_1022 rfl ⟨by decide, (Nat.le_of_ble_eq_true rfl)⟩ ⟨(Nat.le_of_ble_eq_true rfl), (Nat.le_of_ble_eq_true rfl)⟩ (Nat.le_of_ble_eq_true rfl) dX9_piece_8 (fun v38 U39 G40 hq => ?_)
  clear h
  · obtain ⟨r2, rfl, rfl, rfl, h⟩ := hq
    obtain ⟨h1, h2⟩ := h
    refine zr_if_eq C 33 dX9_piece_11 (by decide) (fun hc => ?_) (fun hc => ?_)
    · have h := h1 hc
      clear h1 h2
      refine zr_aload_n C 0 dX9_piece_33 rfl rfl ?_
      refine zr_iconst C 1 dX9_piece_34 (by decide) ?_
      refine zr_callV (As := [.int 1]) (r := (RX9, TX9, 6)) C (k_X9_refuse h) ok_X9_48 zq_985 zq_16 hT1 (by decide) rfl rfl ⟨by decide, (Nat.le_of_ble_eq_true rfl)⟩ ⟨(Nat.le_of_ble_eq_true rfl), (Nat.le_of_ble_eq_true rfl)⟩ (Nat.le_of_ble_eq_true rfl) dX9_piece_35 (fun v5 U6 G7 hq => ?_)
      clear h
      · obtain ⟨r3, rfl, rfl, h⟩ := hq
        exact zr_iret C rfl ⟨_, rfl, h⟩ (Nat.le_of_ble_eq_true rfl) (Nat.le_of_ble_eq_true rfl) dX9_piece_38
    · have h := h2 hc
      clear h1 h2
      refine zr_iload_n C 2 dX9_piece_14 rfl rfl ?_
      refine zr_iconst C 1 dX9_piece_15 (by decide) ?_
      refine zr_iconst C 1 dX9_piece_16 (by decide) ?_
      refine zr_aload_n C 0 dX9_piece_17 rfl rfl ?_
      obtain ⟨x9, hv8, h⟩ := h
      refine zr_get C fl_X9_10 hT1 hv8 dX9_piece_18 ?_
      obtain ⟨hT10, h⟩ := h
      refine zr_callV (As := []) (r := (RJx4a65c, TJx4a65c, 3)) C (k_Jx4a65c_size_8abf5 h) ok_X9_37 zq_140 zq_141 hT10 (by decide) rfl rfl ⟨by decide, (Nat.le_of_ble_eq_true rfl)⟩ ⟨(Nat.le_of_ble_eq_true rfl), (Nat.le_of_ble_eq_true rfl)⟩ (Nat.le_of_ble_eq_true rfl) dX9_piece_21 (fun v35 U36 G37 hq => ?_)
      clear h
      · obtain ⟨r11, rfl, rfl, rfl, h⟩ := hq
        refine zr_ishl C dX9_piece_24 ?_
        refine zr_iconst C 1 dX9_piece_25 (by decide) ?_
        refine zr_isub C dX9_piece_26 ?_
        refine zr_callS (As := [.int p2, .int 1, .int (((1 : Int32) <<< (r11 &&& 31)) - 1)]) C (k_X9_is h) ok_X9_41 zq_1022 rfl ⟨by decide, (Nat.le_of_ble_eq_true rfl)⟩ ⟨(Nat.le_of_ble_eq_true rfl), (Nat.le_of_ble_eq_true rfl)⟩ (Nat.le_of_ble_eq_true rfl) dX9_piece_27 (fun v32 U33 G34 hq => ?_)
        clear h
        · obtain ⟨r12, rfl, rfl, rfl, h⟩ := hq
          obtain ⟨h1, h2⟩ := h
          refine zr_if_ne C 39 dX9_piece_30 (by decide) (fun hc => ?_) (fun hc => ?_)
          · have h := h1 hc
            clear h1 h2
            refine zr_aload_n C 0 dX9_piece_39 rfl rfl ?_
            obtain ⟨x14, hv13, h⟩ := h
            refine zr_get C fl_X9_16 hT1 hv13 dX9_piece_40 ?_
            obtain ⟨hT15, h⟩ := h
            refine zr_callV (As := []) (r := (RJx4a65c, TJx4a65c, 3)) C (k_Jx4a65c_size_8abf5 h) ok_X9_37 zq_140 zq_141 hT15 (by decide) rfl rfl ⟨by decide, (Nat.le_of_ble_eq_true rfl)⟩ ⟨(Nat.le_of_ble_eq_true rfl), (Nat.le_of_ble_eq_true rfl)⟩ (Nat.le_of_ble_eq_true rfl) dX9_piece_43 (fun v24 U25 G26 hq => ?_)
            clear h
            · obtain ⟨r16, rfl, rfl, rfl, h⟩ := hq
              refine zr_bipush C 12 dX9_piece_46 (by decide) ?_
              obtain ⟨h1, h2⟩ := h
              refine zr_icmp_ne C 57 dX9_piece_48 (by decide) (fun hc => ?_) (fun hc => ?_)
              · have h := h1 hc
                clear h1 h2
                refine zr_aload_n C 0 dX9_piece_57 rfl rfl ?_
                refine zr_get C fl_X9_16 hT1 hv13 dX9_piece_58 ?_
                refine zr_new C nw_X9_114 (Nat.le_of_ble_eq_true rfl) (Nat.le_of_ble_eq_true rfl) dX9_piece_61 (fun q17 hq18 => ?_)
                have h := h q17 hq18
                refine zr_dup C dX9_piece_64 rfl ?_
                refine zr_aload_n C 0 dX9_piece_65 rfl rfl ?_
                refine zr_iload_n C 1 dX9_piece_66 rfl rfl ?_
                refine zr_iload_n C 2 dX9_piece_67 rfl rfl ?_
                exact h.elim
              · have h := h2 hc
                clear h1 h2
                refine zr_aload_n C 0 dX9_piece_51 rfl rfl ?_
                refine zr_iconst C 2 dX9_piece_52 (by decide) ?_
                refine zr_callV (As := [.int 2]) (r := (RX9, TX9, 6)) C (k_X9_refuse h) ok_X9_48 zq_985 zq_16 hT1 (by decide) rfl rfl ⟨by decide, (Nat.le_of_ble_eq_true rfl)⟩ ⟨(Nat.le_of_ble_eq_true rfl), (Nat.le_of_ble_eq_true rfl)⟩ (Nat.le_of_ble_eq_true rfl) dX9_piece_53 (fun v21 U22 G23 hq => ?_)
                clear h
                · obtain ⟨r19, rfl, rfl, h⟩ := hq
                  exact zr_iret C rfl ⟨_, rfl, h⟩ (Nat.le_of_ble_eq_true rfl) (Nat.le_of_ble_eq_true rfl) dX9_piece_56
          · have h := h2 hc
            clear h1 h2
            refine zr_aload_n C 0 dX9_piece_33 rfl rfl ?_
            refine zr_iconst C 1 dX9_piece_34 (by decide) ?_
            refine zr_callV (As := [.int 1]) (r := (RX9, TX9, 6)) C (k_X9_refuse h) ok_X9_48 zq_985 zq_16 hT1 (by decide) rfl rfl ⟨by decide, (Nat.le_of_ble_eq_true rfl)⟩ ⟨(Nat.le_of_ble_eq_true rfl), (Nat.le_of_ble_eq_true rfl)⟩ (Nat.le_of_ble_eq_true rfl) dX9_piece_35 (fun v29 U30 G31 hq => ?_)
            clear h
            · obtain ⟨r27, rfl, rfl, h⟩ := hq
              exact zr_iret C rfl ⟨_, rfl, h⟩ (Nat.le_of_ble_eq_true rfl) (Nat.le_of_ble_eq_true rfl) dX9_piece_38
theorem dX9_isPiece_0 : decode cX9_isPiece 0 = .ok (.iload_n 1, 1) := by decide +kernel
theorem dX9_isPiece_1 : decode cX9_isPiece 1 = .ok (.iconst 0, 1) := by decide +kernel
theorem dX9_isPiece_2 : decode cX9_isPiece 2 = .ok (.aload_n 0, 1) := by decide +kernel
theorem dX9_isPiece_3 : decode cX9_isPiece 3 = .ok (.getfield 16, 3) := by decide +kernel
theorem dX9_isPiece_9 : decode cX9_isPiece 9 = .ok (.iconst 1, 1) := by decide +kernel
theorem dX9_isPiece_10 : decode cX9_isPiece 10 = .ok (.isub, 1) := by decide +kernel
theorem dX9_isPiece_14 : decode cX9_isPiece 14 = .ok (.ireturn, 1) := by decide +kernel
theorem dX9_isPiece_11 : decode cX9_isPiece 11 = .ok (.invokestatic 41, 3) := by decide +kernel
theorem dX9_isPiece_6 : decode cX9_isPiece 6 = .ok (.invokevirtual 37, 3) := by decide +kernel
def v_X9_isPiece (a0 : Nat) (p1 : Int32) (T : zT) (F : zF) (Post : Int32 → Prop) : Prop :=
  (T a0 = some (12, 6) ∧ ∃ x3 : Nat, F a0 2 = .ref x3 ∧ T x3 = some (2, 3) ∧ (v_Jx4a65c_size_8abf5 x3 T F (fun (r5 : Int32) => (v_X9_is p1 0 (r5 - 1) T F (fun (r6 : Int32) => ((r6 = 0 ∨ r6 = 1) ∧ Post r6))))))
set_option maxRecDepth 100000 in
set_option maxHeartbeats 4000000 in
theorem k_X9_isPiece {l : Launch} {D : va_G} {cA : Nat → ClassId} {N0 zE : Nat} {a0 : Nat} {p1 : Int32} {T : zT} {F : zF} {Post : Int32 → Prop} (h : v_X9_isPiece a0 p1 T F Post) : z_Mt l D cA N0 zE yX9_isPiece cX9_isPiece 2 (some .boolean) ({ frames := 1, cells := 0, slots := 0, locals := 22 } : Room) [.ref a0, .int p1] T F (fun v T' F' => ∃ r : Int32, v = some (.int r) ∧ T = T' ∧ F = F' ∧ Post r) := by
  unfold v_X9_isPiece at h
  refine z_bodyT (by decide) (Nat.le_of_ble_eq_true rfl) ?_
  intro p e s m args below meth c C hnm
  have C : z_C p l s m args meth c RX9 cX9_isPiece 2 (some .boolean) D cA N0 zE := C
  show z_w p l e ({ frames := 1, cells := 0, slots := 0, locals := 22 } : Room) s m args below meth c D cA N0 2 0 0 (MQ below (z_Qc D cA N0 (fun v T' F' => ∃ r : Int32, v = some (.int r) ∧ T = T' ∧ F = F' ∧ Post r)) args s 0 0 (fun q => N0 ≤ q)) 0 [(0, .ref a0), (1, .int p1)] [] T F
  refine zr_iload_n C 1 dX9_isPiece_0 rfl rfl ?_
  refine zr_iconst C 0 dX9_isPiece_1 (by decide) ?_
  refine zr_aload_n C 0 dX9_isPiece_2 rfl rfl ?_
  obtain ⟨hT1, x3, hv2, h⟩ := h
  refine zr_get C fl_X9_16 hT1 hv2 dX9_isPiece_3 ?_
  obtain ⟨hT4, h⟩ := h
  refine zr_callV (As := []) (r := (RJx4a65c, TJx4a65c, 3)) C (k_Jx4a65c_size_8abf5 h) ok_X9_37 zq_140 zq_141 hT4 (by decide) rfl rfl ⟨by decide, (Nat.le_of_ble_eq_true rfl)⟩ ⟨(Nat.le_of_ble_eq_true rfl), (Nat.le_of_ble_eq_true rfl)⟩ (Nat.le_of_ble_eq_true rfl) dX9_isPiece_6 (fun v10 U11 G12 hq => ?_)
  clear h
  · obtain ⟨r5, rfl, rfl, rfl, h⟩ := hq
    refine zr_iconst C 1 dX9_isPiece_9 (by decide) ?_
    refine zr_isub C dX9_isPiece_10 ?_
    refine zr_callS (As := [.int p1, .int 0, .int (r5 - 1)]) C (k_X9_is h) ok_X9_41 zq_1022 rfl ⟨by decide, (Nat.le_of_ble_eq_true rfl)⟩ ⟨(Nat.le_of_ble_eq_true rfl), (Nat.le_of_ble_eq_true rfl)⟩ (Nat.le_of_ble_eq_true rfl) dX9_isPiece_11 (fun v7 U8 G9 hq => ?_)
    clear h
    · obtain ⟨r6, rfl, rfl, rfl, h⟩ := hq
      obtain ⟨hb, h⟩ := h
      exact zr_zret C rfl hb ⟨_, rfl, rfl, rfl, h⟩ (Nat.le_of_ble_eq_true rfl) (Nat.le_of_ble_eq_true rfl) dX9_isPiece_14
theorem dX9_approve_0 : decode cX9_approve 0 = .ok (.aload_n 0, 1) := by decide +kernel
theorem dX9_approve_1 : decode cX9_approve 1 = .ok (.aload_n 0, 1) := by decide +kernel
theorem dX9_approve_2 : decode cX9_approve 2 = .ok (.iload_n 1, 1) := by decide +kernel
theorem dX9_approve_6 : decode cX9_approve 6 = .ok (.ifCond .eq 10, 3) := by decide +kernel
theorem dX9_approve_16 : decode cX9_approve 16 = .ok (.iconst 1, 1) := by decide +kernel
theorem dX9_approve_17 : decode cX9_approve 17 = .ok (.goto 32, 3) := by decide +kernel
theorem dX9_approve_49 : decode cX9_approve 49 = .ok (.putfield 33, 3) := by decide +kernel
theorem dX9_approve_52 : decode cX9_approve 52 = .ok (.aload_n 0, 1) := by decide +kernel
theorem dX9_approve_53 : decode cX9_approve 53 = .ok (.getfield 33, 3) := by decide +kernel
theorem dX9_approve_56 : decode cX9_approve 56 = .ok (.ifCond .le 5, 3) := by decide +kernel
theorem dX9_approve_59 : decode cX9_approve 59 = .ok (.iconst 0, 1) := by decide +kernel
theorem dX9_approve_60 : decode cX9_approve 60 = .ok (.ireturn, 1) := by decide +kernel
theorem dX9_approve_9 : decode cX9_approve 9 = .ok (.iload_n 2, 1) := by decide +kernel
theorem dX9_approve_13 : decode cX9_approve 13 = .ok (.ifCond .ne 7, 3) := by decide +kernel
theorem dX9_approve_20 : decode cX9_approve 20 = .ok (.aload_n 0, 1) := by decide +kernel
theorem dX9_approve_21 : decode cX9_approve 21 = .ok (.getfield 16, 3) := by decide +kernel
theorem dX9_approve_24 : decode cX9_approve 24 = .ok (.iload_n 1, 1) := by decide +kernel
theorem dX9_approve_10 : decode cX9_approve 10 = .ok (.invokestatic 107, 3) := by decide +kernel
theorem dX9_approve_3 : decode cX9_approve 3 = .ok (.invokevirtual 119, 3) := by decide +kernel
def v_X9_approve (a0 : Nat) (p1 : Int32) (p2 : Int32) (T : zT) (F : zF) (Post : Int32 → zF → Prop) : Prop :=
  (T a0 = some (12, 6) ∧ (v_X9_isPiece a0 p1 T F (fun (r2 : Int32) => ((r2 = 0 → Post 0 (zu F a0 0 (.int 1))) ∧ (¬ r2 = 0 → (v_X9_isLand p2 T F (fun (r3 : Int32) => ((¬ r3 = 0 → (∃ x5 : Nat, F a0 2 = .ref x5 ∧ False)) ∧ (r3 = 0 → Post 0 (zu F a0 0 (.int 1)))))))))))
set_option maxRecDepth 100000 in
set_option maxHeartbeats 4000000 in
theorem k_X9_approve {l : Launch} {D : va_G} {cA : Nat → ClassId} {N0 zE : Nat} {a0 : Nat} {p1 : Int32} {p2 : Int32} {T : zT} {F : zF} {Post : Int32 → zF → Prop} (h : v_X9_approve a0 p1 p2 T F Post) : z_Mt l D cA N0 zE yX9_approve cX9_approve 4 (some .boolean) ({ frames := 2, cells := 0, slots := 0, locals := 43 } : Room) [.ref a0, .int p1, .int p2] T F (fun v T' F' => ∃ r : Int32, v = some (.int r) ∧ T = T' ∧ Post r F') := by
  unfold v_X9_approve at h
  refine z_bodyT (by decide) (Nat.le_of_ble_eq_true rfl) ?_
  intro p e s m args below meth c C hnm
  have C : z_C p l s m args meth c RX9 cX9_approve 4 (some .boolean) D cA N0 zE := C
  show z_w p l e ({ frames := 2, cells := 0, slots := 0, locals := 43 } : Room) s m args below meth c D cA N0 4 0 0 (MQ below (z_Qc D cA N0 (fun v T' F' => ∃ r : Int32, v = some (.int r) ∧ T = T' ∧ Post r F')) args s 0 0 (fun q => N0 ≤ q)) 0 [(0, .ref a0), (1, .int p1), (2, .int p2)] [] T F
  refine zr_aload_n C 0 dX9_approve_0 rfl rfl ?_
  refine zr_aload_n C 0 dX9_approve_1 rfl rfl ?_
  refine zr_iload_n C 1 dX9_approve_2 rfl rfl ?_
  obtain ⟨hT1, h⟩ := h
  refine zr_callV (As := [.int p1]) (r := (RX9, TX9, 6)) C (k_X9_isPiece h) ok_X9_119 zq_1127 zq_18 hT1 (by decide) rfl rfl ⟨by decide, (Nat.le_of_ble_eq_true rfl)⟩ ⟨(Nat.le_of_ble_eq_true rfl), (Nat.le_of_ble_eq_true rfl)⟩ (Nat.le_of_ble_eq_true rfl) dX9_approve_3 (fun v9 U10 G11 hq => ?_)
  clear h
  · obtain ⟨r2, rfl, rfl, rfl, h⟩ := hq
    obtain ⟨h1, h2⟩ := h
    refine zr_if_eq C 16 dX9_approve_6 (by decide) (fun hc => ?_) (fun hc => ?_)
    · have h := h1 hc
      clear h1 h2
      refine zr_iconst C 1 dX9_approve_16 (by decide) ?_
      refine zr_goto C 49 dX9_approve_17 (by decide) ?_
      refine zr_put C fl_X9_33 hT1 rfl rfl dX9_approve_49 ?_
      refine zr_aload_n C 0 dX9_approve_52 rfl rfl ?_
      refine zr_get C fl_X9_33 hT1 z_ueq dX9_approve_53 ?_
      refine zr_if_le C 61 dX9_approve_56 (by decide) (fun hc => absurd hc (by decide)) (fun _ => ?_)
      refine zr_iconst C 0 dX9_approve_59 (by decide) ?_
      exact zr_zret C rfl (Or.inl rfl) ⟨_, rfl, rfl, h⟩ (Nat.le_of_ble_eq_true rfl) (Nat.le_of_ble_eq_true rfl) dX9_approve_60
    · have h := h2 hc
      clear h1 h2
      refine zr_iload_n C 2 dX9_approve_9 rfl rfl ?_
      refine zr_callS (As := [.int p2]) C (k_X9_isLand h) ok_X9_107 zq_1083 rfl ⟨by decide, (Nat.le_of_ble_eq_true rfl)⟩ ⟨(Nat.le_of_ble_eq_true rfl), (Nat.le_of_ble_eq_true rfl)⟩ (Nat.le_of_ble_eq_true rfl) dX9_approve_10 (fun v6 U7 G8 hq => ?_)
      clear h
      · obtain ⟨r3, rfl, rfl, rfl, h⟩ := hq
        obtain ⟨h1, h2⟩ := h
        refine zr_if_ne C 20 dX9_approve_13 (by decide) (fun hc => ?_) (fun hc => ?_)
        · have h := h1 hc
          clear h1 h2
          refine zr_aload_n C 0 dX9_approve_20 rfl rfl ?_
          obtain ⟨x5, hv4, h⟩ := h
          refine zr_get C fl_X9_16 hT1 hv4 dX9_approve_21 ?_
          refine zr_iload_n C 1 dX9_approve_24 rfl rfl ?_
          exact h.elim
        · have h := h2 hc
          clear h1 h2
          refine zr_iconst C 1 dX9_approve_16 (by decide) ?_
          refine zr_goto C 49 dX9_approve_17 (by decide) ?_
          refine zr_put C fl_X9_33 hT1 rfl rfl dX9_approve_49 ?_
          refine zr_aload_n C 0 dX9_approve_52 rfl rfl ?_
          refine zr_get C fl_X9_33 hT1 z_ueq dX9_approve_53 ?_
          refine zr_if_le C 61 dX9_approve_56 (by decide) (fun hc => absurd hc (by decide)) (fun _ => ?_)
          refine zr_iconst C 0 dX9_approve_59 (by decide) ?_
          exact zr_zret C rfl (Or.inl rfl) ⟨_, rfl, rfl, h⟩ (Nat.le_of_ble_eq_true rfl) (Nat.le_of_ble_eq_true rfl) dX9_approve_60
theorem dX9_hold_0 : decode cX9_hold 0 = .ok (.aload_n 0, 1) := by decide +kernel
theorem dX9_hold_1 : decode cX9_hold 1 = .ok (.aload_n 0, 1) := by decide +kernel
theorem dX9_hold_2 : decode cX9_hold 2 = .ok (.iload_n 1, 1) := by decide +kernel
theorem dX9_hold_6 : decode cX9_hold 6 = .ok (.ifCond .eq 10, 3) := by decide +kernel
theorem dX9_hold_16 : decode cX9_hold 16 = .ok (.iconst 1, 1) := by decide +kernel
theorem dX9_hold_17 : decode cX9_hold 17 = .ok (.goto 4, 3) := by decide +kernel
theorem dX9_hold_21 : decode cX9_hold 21 = .ok (.putfield 33, 3) := by decide +kernel
theorem dX9_hold_24 : decode cX9_hold 24 = .ok (.aload_n 0, 1) := by decide +kernel
theorem dX9_hold_25 : decode cX9_hold 25 = .ok (.getfield 33, 3) := by decide +kernel
theorem dX9_hold_28 : decode cX9_hold 28 = .ok (.ifCond .le 5, 3) := by decide +kernel
theorem dX9_hold_31 : decode cX9_hold 31 = .ok (.iconst 0, 1) := by decide +kernel
theorem dX9_hold_32 : decode cX9_hold 32 = .ok (.ireturn, 1) := by decide +kernel
theorem dX9_hold_9 : decode cX9_hold 9 = .ok (.iload_n 2, 1) := by decide +kernel
theorem dX9_hold_13 : decode cX9_hold 13 = .ok (.ifCond .ne 7, 3) := by decide +kernel
theorem dX9_hold_20 : decode cX9_hold 20 = .ok (.iconst 0, 1) := by decide +kernel
theorem dX9_hold_33 : decode cX9_hold 33 = .ok (.aload_n 0, 1) := by decide +kernel
theorem dX9_hold_34 : decode cX9_hold 34 = .ok (.getfield 16, 3) := by decide +kernel
theorem dX9_hold_37 : decode cX9_hold 37 = .ok (.iload_n 1, 1) := by decide +kernel
theorem dX9_hold_10 : decode cX9_hold 10 = .ok (.invokestatic 107, 3) := by decide +kernel
theorem dX9_hold_3 : decode cX9_hold 3 = .ok (.invokevirtual 119, 3) := by decide +kernel
def v_X9_hold (a0 : Nat) (p1 : Int32) (p2 : Int32) (T : zT) (F : zF) (Post : Int32 → zF → Prop) : Prop :=
  (T a0 = some (12, 6) ∧ (v_X9_isPiece a0 p1 T F (fun (r2 : Int32) => ((r2 = 0 → Post 0 (zu F a0 0 (.int 1))) ∧ (¬ r2 = 0 → (v_X9_isLand p2 T F (fun (r3 : Int32) => ((¬ r3 = 0 → (∃ x5 : Nat, (zu F a0 0 (.int 0)) a0 2 = .ref x5 ∧ False)) ∧ (r3 = 0 → Post 0 (zu F a0 0 (.int 1)))))))))))
set_option maxRecDepth 100000 in
set_option maxHeartbeats 4000000 in
theorem k_X9_hold {l : Launch} {D : va_G} {cA : Nat → ClassId} {N0 zE : Nat} {a0 : Nat} {p1 : Int32} {p2 : Int32} {T : zT} {F : zF} {Post : Int32 → zF → Prop} (h : v_X9_hold a0 p1 p2 T F Post) : z_Mt l D cA N0 zE yX9_hold cX9_hold 4 (some .boolean) ({ frames := 2, cells := 0, slots := 0, locals := 43 } : Room) [.ref a0, .int p1, .int p2] T F (fun v T' F' => ∃ r : Int32, v = some (.int r) ∧ T = T' ∧ Post r F') := by
  unfold v_X9_hold at h
  refine z_bodyT (by decide) (Nat.le_of_ble_eq_true rfl) ?_
  intro p e s m args below meth c C hnm
  have C : z_C p l s m args meth c RX9 cX9_hold 4 (some .boolean) D cA N0 zE := C
  show z_w p l e ({ frames := 2, cells := 0, slots := 0, locals := 43 } : Room) s m args below meth c D cA N0 4 0 0 (MQ below (z_Qc D cA N0 (fun v T' F' => ∃ r : Int32, v = some (.int r) ∧ T = T' ∧ Post r F')) args s 0 0 (fun q => N0 ≤ q)) 0 [(0, .ref a0), (1, .int p1), (2, .int p2)] [] T F
  refine zr_aload_n C 0 dX9_hold_0 rfl rfl ?_
  refine zr_aload_n C 0 dX9_hold_1 rfl rfl ?_
  refine zr_iload_n C 1 dX9_hold_2 rfl rfl ?_
  obtain ⟨hT1, h⟩ := h
  refine zr_callV (As := [.int p1]) (r := (RX9, TX9, 6)) C (k_X9_isPiece h) ok_X9_119 zq_1127 zq_18 hT1 (by decide) rfl rfl ⟨by decide, (Nat.le_of_ble_eq_true rfl)⟩ ⟨(Nat.le_of_ble_eq_true rfl), (Nat.le_of_ble_eq_true rfl)⟩ (Nat.le_of_ble_eq_true rfl) dX9_hold_3 (fun v9 U10 G11 hq => ?_)
  clear h
  · obtain ⟨r2, rfl, rfl, rfl, h⟩ := hq
    obtain ⟨h1, h2⟩ := h
    refine zr_if_eq C 16 dX9_hold_6 (by decide) (fun hc => ?_) (fun hc => ?_)
    · have h := h1 hc
      clear h1 h2
      refine zr_iconst C 1 dX9_hold_16 (by decide) ?_
      refine zr_goto C 21 dX9_hold_17 (by decide) ?_
      refine zr_put C fl_X9_33 hT1 rfl rfl dX9_hold_21 ?_
      refine zr_aload_n C 0 dX9_hold_24 rfl rfl ?_
      refine zr_get C fl_X9_33 hT1 z_ueq dX9_hold_25 ?_
      refine zr_if_le C 33 dX9_hold_28 (by decide) (fun hc => absurd hc (by decide)) (fun _ => ?_)
      refine zr_iconst C 0 dX9_hold_31 (by decide) ?_
      exact zr_zret C rfl (Or.inl rfl) ⟨_, rfl, rfl, h⟩ (Nat.le_of_ble_eq_true rfl) (Nat.le_of_ble_eq_true rfl) dX9_hold_32
    · have h := h2 hc
      clear h1 h2
      refine zr_iload_n C 2 dX9_hold_9 rfl rfl ?_
      refine zr_callS (As := [.int p2]) C (k_X9_isLand h) ok_X9_107 zq_1083 rfl ⟨by decide, (Nat.le_of_ble_eq_true rfl)⟩ ⟨(Nat.le_of_ble_eq_true rfl), (Nat.le_of_ble_eq_true rfl)⟩ (Nat.le_of_ble_eq_true rfl) dX9_hold_10 (fun v6 U7 G8 hq => ?_)
      clear h
      · obtain ⟨r3, rfl, rfl, rfl, h⟩ := hq
        obtain ⟨h1, h2⟩ := h
        refine zr_if_ne C 20 dX9_hold_13 (by decide) (fun hc => ?_) (fun hc => ?_)
        · have h := h1 hc
          clear h1 h2
          refine zr_iconst C 0 dX9_hold_20 (by decide) ?_
          refine zr_put C fl_X9_33 hT1 rfl rfl dX9_hold_21 ?_
          refine zr_aload_n C 0 dX9_hold_24 rfl rfl ?_
          refine zr_get C fl_X9_33 hT1 z_ueq dX9_hold_25 ?_
          refine zr_if_le C 33 dX9_hold_28 (by decide) (fun _ => ?_) (fun hc => absurd hc (by decide))
          refine zr_aload_n C 0 dX9_hold_33 rfl rfl ?_
          obtain ⟨x5, hv4, h⟩ := h
          refine zr_get C fl_X9_16 hT1 hv4 dX9_hold_34 ?_
          refine zr_iload_n C 1 dX9_hold_37 rfl rfl ?_
          exact h.elim
        · have h := h2 hc
          clear h1 h2
          refine zr_iconst C 1 dX9_hold_16 (by decide) ?_
          refine zr_goto C 21 dX9_hold_17 (by decide) ?_
          refine zr_put C fl_X9_33 hT1 rfl rfl dX9_hold_21 ?_
          refine zr_aload_n C 0 dX9_hold_24 rfl rfl ?_
          refine zr_get C fl_X9_33 hT1 z_ueq dX9_hold_25 ?_
          refine zr_if_le C 33 dX9_hold_28 (by decide) (fun hc => absurd hc (by decide)) (fun _ => ?_)
          refine zr_iconst C 0 dX9_hold_31 (by decide) ?_
          exact zr_zret C rfl (Or.inl rfl) ⟨_, rfl, rfl, h⟩ (Nat.le_of_ble_eq_true rfl) (Nat.le_of_ble_eq_true rfl) dX9_hold_32
theorem dX9_reason_0 : decode cX9_reason 0 = .ok (.aload_n 0, 1) := by decide +kernel
theorem dX9_reason_1 : decode cX9_reason 1 = .ok (.iconst 0, 1) := by decide +kernel
theorem dX9_reason_2 : decode cX9_reason 2 = .ok (.putfield 33, 3) := by decide +kernel
theorem dX9_reason_5 : decode cX9_reason 5 = .ok (.aload_n 0, 1) := by decide +kernel
theorem dX9_reason_6 : decode cX9_reason 6 = .ok (.iload_n 1, 1) := by decide +kernel
theorem dX9_reason_10 : decode cX9_reason 10 = .ok (.ifCond .eq 10, 3) := by decide +kernel
theorem dX9_reason_20 : decode cX9_reason 20 = .ok (.aload_n 0, 1) := by decide +kernel
theorem dX9_reason_21 : decode cX9_reason 21 = .ok (.iconst 1, 1) := by decide +kernel
theorem dX9_reason_25 : decode cX9_reason 25 = .ok (.ireturn, 1) := by decide +kernel
theorem dX9_reason_22 : decode cX9_reason 22 = .ok (.invokevirtual 48, 3) := by decide +kernel
theorem dX9_reason_13 : decode cX9_reason 13 = .ok (.iload_n 2, 1) := by decide +kernel
theorem dX9_reason_17 : decode cX9_reason 17 = .ok (.ifCond .ne 9, 3) := by decide +kernel
theorem dX9_reason_26 : decode cX9_reason 26 = .ok (.iload_n 3, 1) := by decide +kernel
theorem dX9_reason_30 : decode cX9_reason 30 = .ok (.ifCond .eq 22, 3) := by decide +kernel
theorem dX9_reason_52 : decode cX9_reason 52 = .ok (.aload_n 0, 1) := by decide +kernel
theorem dX9_reason_53 : decode cX9_reason 53 = .ok (.iconst 2, 1) := by decide +kernel
theorem dX9_reason_57 : decode cX9_reason 57 = .ok (.ireturn, 1) := by decide +kernel
theorem dX9_reason_54 : decode cX9_reason 54 = .ok (.invokevirtual 48, 3) := by decide +kernel
theorem dX9_reason_33 : decode cX9_reason 33 = .ok (.aload_n 0, 1) := by decide +kernel
theorem dX9_reason_34 : decode cX9_reason 34 = .ok (.getfield 16, 3) := by decide +kernel
theorem dX9_reason_37 : decode cX9_reason 37 = .ok (.iload_n 1, 1) := by decide +kernel
theorem dX9_reason_27 : decode cX9_reason 27 = .ok (.invokestatic 92, 3) := by decide +kernel
theorem dX9_reason_14 : decode cX9_reason 14 = .ok (.invokestatic 107, 3) := by decide +kernel
theorem dX9_reason_7 : decode cX9_reason 7 = .ok (.invokevirtual 119, 3) := by decide +kernel
def v_X9_reason (a0 : Nat) (p1 : Int32) (p2 : Int32) (p3 : Int32) (T : zT) (F : zF) (Post : Int32 → zF → Prop) : Prop :=
  (T a0 = some (12, 6) ∧ (v_X9_isPiece a0 p1 T (zu F a0 0 (.int 0)) (fun (r2 : Int32) => ((r2 = 0 → (v_X9_refuse a0 1 T (zu F a0 0 (.int 0)) (fun (r3 : Int32) (F4 : zF) => Post r3 F4))) ∧ (¬ r2 = 0 → (v_X9_isLand p2 T (zu F a0 0 (.int 0)) (fun (r8 : Int32) => ((¬ r8 = 0 → (v_X9_isDay p3 T (zu F a0 0 (.int 0)) (fun (r9 : Int32) => ((r9 = 0 → (v_X9_refuse a0 2 T (zu F a0 0 (.int 0)) (fun (r10 : Int32) (F11 : zF) => Post r10 F11))) ∧ (¬ r9 = 0 → (∃ x16 : Nat, (zu F a0 0 (.int 0)) a0 2 = .ref x16 ∧ False)))))) ∧ (r8 = 0 → (v_X9_refuse a0 1 T (zu F a0 0 (.int 0)) (fun (r20 : Int32) (F21 : zF) => Post r20 F21)))))))))))
set_option maxRecDepth 100000 in
set_option maxHeartbeats 4000000 in
theorem k_X9_reason {l : Launch} {D : va_G} {cA : Nat → ClassId} {N0 zE : Nat} {a0 : Nat} {p1 : Int32} {p2 : Int32} {p3 : Int32} {T : zT} {F : zF} {Post : Int32 → zF → Prop} (h : v_X9_reason a0 p1 p2 p3 T F Post) : z_Mt l D cA N0 zE yX9_reason cX9_reason 4 (some .int) ({ frames := 2, cells := 0, slots := 0, locals := 43 } : Room) [.ref a0, .int p1, .int p2, .int p3] T F (fun v T' F' => ∃ r : Int32, v = some (.int r) ∧ T = T' ∧ Post r F') := by
  unfold v_X9_reason at h
  refine z_bodyT (by decide) (Nat.le_of_ble_eq_true rfl) ?_
  intro p e s m args below meth c C hnm
  have C : z_C p l s m args meth c RX9 cX9_reason 4 (some .int) D cA N0 zE := C
  show z_w p l e ({ frames := 2, cells := 0, slots := 0, locals := 43 } : Room) s m args below meth c D cA N0 4 0 0 (MQ below (z_Qc D cA N0 (fun v T' F' => ∃ r : Int32, v = some (.int r) ∧ T = T' ∧ Post r F')) args s 0 0 (fun q => N0 ≤ q)) 0 [(0, .ref a0), (1, .int p1), (2, .int p2), (3, .int p3)] [] T F
  refine zr_aload_n C 0 dX9_reason_0 rfl rfl ?_
  refine zr_iconst C 0 dX9_reason_1 (by decide) ?_
  obtain ⟨hT1, h⟩ := h
  refine zr_put C fl_X9_33 hT1 rfl rfl dX9_reason_2 ?_
  refine zr_aload_n C 0 dX9_reason_5 rfl rfl ?_
  refine zr_iload_n C 1 dX9_reason_6 rfl rfl ?_
  refine zr_callV (As := [.int p1]) (r := (RX9, TX9, 6)) C (k_X9_isPiece h) ok_X9_119 zq_1127 zq_18 hT1 (by decide) rfl rfl ⟨by decide, (Nat.le_of_ble_eq_true rfl)⟩ ⟨(Nat.le_of_ble_eq_true rfl), (Nat.le_of_ble_eq_true rfl)⟩ (Nat.le_of_ble_eq_true rfl) dX9_reason_7 (fun v28 U29 G30 hq => ?_)
  clear h
  · obtain ⟨r2, rfl, rfl, rfl, h⟩ := hq
    obtain ⟨h1, h2⟩ := h
    refine zr_if_eq C 20 dX9_reason_10 (by decide) (fun hc => ?_) (fun hc => ?_)
    · have h := h1 hc
      clear h1 h2
      refine zr_aload_n C 0 dX9_reason_20 rfl rfl ?_
      refine zr_iconst C 1 dX9_reason_21 (by decide) ?_
      refine zr_callV (As := [.int 1]) (r := (RX9, TX9, 6)) C (k_X9_refuse h) ok_X9_48 zq_985 zq_16 hT1 (by decide) rfl rfl ⟨by decide, (Nat.le_of_ble_eq_true rfl)⟩ ⟨(Nat.le_of_ble_eq_true rfl), (Nat.le_of_ble_eq_true rfl)⟩ (Nat.le_of_ble_eq_true rfl) dX9_reason_22 (fun v5 U6 G7 hq => ?_)
      clear h
      · obtain ⟨r3, rfl, rfl, h⟩ := hq
        exact zr_iret C rfl ⟨_, rfl, rfl, h⟩ (Nat.le_of_ble_eq_true rfl) (Nat.le_of_ble_eq_true rfl) dX9_reason_25
    · have h := h2 hc
      clear h1 h2
      refine zr_iload_n C 2 dX9_reason_13 rfl rfl ?_
      refine zr_callS (As := [.int p2]) C (k_X9_isLand h) ok_X9_107 zq_1083 rfl ⟨by decide, (Nat.le_of_ble_eq_true rfl)⟩ ⟨(Nat.le_of_ble_eq_true rfl), (Nat.le_of_ble_eq_true rfl)⟩ (Nat.le_of_ble_eq_true rfl) dX9_reason_14 (fun v25 U26 G27 hq => ?_)
      clear h
      · obtain ⟨r8, rfl, rfl, rfl, h⟩ := hq
        obtain ⟨h1, h2⟩ := h
        refine zr_if_ne C 26 dX9_reason_17 (by decide) (fun hc => ?_) (fun hc => ?_)
        · have h := h1 hc
          clear h1 h2
          refine zr_iload_n C 3 dX9_reason_26 rfl rfl ?_
          refine zr_callS (As := [.int p3]) C (k_X9_isDay h) ok_X9_92 zq_1064 rfl ⟨by decide, (Nat.le_of_ble_eq_true rfl)⟩ ⟨(Nat.le_of_ble_eq_true rfl), (Nat.le_of_ble_eq_true rfl)⟩ (Nat.le_of_ble_eq_true rfl) dX9_reason_27 (fun v17 U18 G19 hq => ?_)
          clear h
          · obtain ⟨r9, rfl, rfl, rfl, h⟩ := hq
            obtain ⟨h1, h2⟩ := h
            refine zr_if_eq C 52 dX9_reason_30 (by decide) (fun hc => ?_) (fun hc => ?_)
            · have h := h1 hc
              clear h1 h2
              refine zr_aload_n C 0 dX9_reason_52 rfl rfl ?_
              refine zr_iconst C 2 dX9_reason_53 (by decide) ?_
              refine zr_callV (As := [.int 2]) (r := (RX9, TX9, 6)) C (k_X9_refuse h) ok_X9_48 zq_985 zq_16 hT1 (by decide) rfl rfl ⟨by decide, (Nat.le_of_ble_eq_true rfl)⟩ ⟨(Nat.le_of_ble_eq_true rfl), (Nat.le_of_ble_eq_true rfl)⟩ (Nat.le_of_ble_eq_true rfl) dX9_reason_54 (fun v12 U13 G14 hq => ?_)
              clear h
              · obtain ⟨r10, rfl, rfl, h⟩ := hq
                exact zr_iret C rfl ⟨_, rfl, rfl, h⟩ (Nat.le_of_ble_eq_true rfl) (Nat.le_of_ble_eq_true rfl) dX9_reason_57
            · have h := h2 hc
              clear h1 h2
              refine zr_aload_n C 0 dX9_reason_33 rfl rfl ?_
              obtain ⟨x16, hv15, h⟩ := h
              refine zr_get C fl_X9_16 hT1 hv15 dX9_reason_34 ?_
              refine zr_iload_n C 1 dX9_reason_37 rfl rfl ?_
              exact h.elim
        · have h := h2 hc
          clear h1 h2
          refine zr_aload_n C 0 dX9_reason_20 rfl rfl ?_
          refine zr_iconst C 1 dX9_reason_21 (by decide) ?_
          refine zr_callV (As := [.int 1]) (r := (RX9, TX9, 6)) C (k_X9_refuse h) ok_X9_48 zq_985 zq_16 hT1 (by decide) rfl rfl ⟨by decide, (Nat.le_of_ble_eq_true rfl)⟩ ⟨(Nat.le_of_ble_eq_true rfl), (Nat.le_of_ble_eq_true rfl)⟩ (Nat.le_of_ble_eq_true rfl) dX9_reason_22 (fun v22 U23 G24 hq => ?_)
          clear h
          · obtain ⟨r20, rfl, rfl, h⟩ := hq
            exact zr_iret C rfl ⟨_, rfl, rfl, h⟩ (Nat.le_of_ble_eq_true rfl) (Nat.le_of_ble_eq_true rfl) dX9_reason_25
theorem dX9_isFit_0 : decode cX9_isFit 0 = .ok (.aload_n 0, 1) := by decide +kernel
theorem dX9_isFit_1 : decode cX9_isFit 1 = .ok (.aload_n 0, 1) := by decide +kernel
theorem dX9_isFit_2 : decode cX9_isFit 2 = .ok (.iload_n 1, 1) := by decide +kernel
theorem dX9_isFit_6 : decode cX9_isFit 6 = .ok (.ifCond .eq 10, 3) := by decide +kernel
theorem dX9_isFit_16 : decode cX9_isFit 16 = .ok (.iconst 1, 1) := by decide +kernel
theorem dX9_isFit_17 : decode cX9_isFit 17 = .ok (.goto 15, 3) := by decide +kernel
theorem dX9_isFit_32 : decode cX9_isFit 32 = .ok (.putfield 33, 3) := by decide +kernel
theorem dX9_isFit_35 : decode cX9_isFit 35 = .ok (.aload_n 0, 1) := by decide +kernel
theorem dX9_isFit_36 : decode cX9_isFit 36 = .ok (.getfield 33, 3) := by decide +kernel
theorem dX9_isFit_39 : decode cX9_isFit 39 = .ok (.ifCond .ne 26, 3) := by decide +kernel
theorem dX9_isFit_65 : decode cX9_isFit 65 = .ok (.iconst 0, 1) := by decide +kernel
theorem dX9_isFit_66 : decode cX9_isFit 66 = .ok (.ireturn, 1) := by decide +kernel
theorem dX9_isFit_9 : decode cX9_isFit 9 = .ok (.iload_n 2, 1) := by decide +kernel
theorem dX9_isFit_13 : decode cX9_isFit 13 = .ok (.ifCond .ne 7, 3) := by decide +kernel
theorem dX9_isFit_20 : decode cX9_isFit 20 = .ok (.iload_n 3, 1) := by decide +kernel
theorem dX9_isFit_24 : decode cX9_isFit 24 = .ok (.ifCond .ne 7, 3) := by decide +kernel
theorem dX9_isFit_31 : decode cX9_isFit 31 = .ok (.iconst 0, 1) := by decide +kernel
theorem dX9_isFit_42 : decode cX9_isFit 42 = .ok (.aload_n 0, 1) := by decide +kernel
theorem dX9_isFit_43 : decode cX9_isFit 43 = .ok (.getfield 16, 3) := by decide +kernel
theorem dX9_isFit_46 : decode cX9_isFit 46 = .ok (.iload_n 1, 1) := by decide +kernel
theorem dX9_isFit_27 : decode cX9_isFit 27 = .ok (.iconst 2, 1) := by decide +kernel
theorem dX9_isFit_28 : decode cX9_isFit 28 = .ok (.goto 4, 3) := by decide +kernel
theorem dX9_isFit_21 : decode cX9_isFit 21 = .ok (.invokestatic 92, 3) := by decide +kernel
theorem dX9_isFit_10 : decode cX9_isFit 10 = .ok (.invokestatic 107, 3) := by decide +kernel
theorem dX9_isFit_3 : decode cX9_isFit 3 = .ok (.invokevirtual 119, 3) := by decide +kernel
def v_X9_isFit (a0 : Nat) (p1 : Int32) (p2 : Int32) (p3 : Int32) (T : zT) (F : zF) (Post : Int32 → zF → Prop) : Prop :=
  (T a0 = some (12, 6) ∧ (v_X9_isPiece a0 p1 T F (fun (r2 : Int32) => ((r2 = 0 → Post 0 (zu F a0 0 (.int 1))) ∧ (¬ r2 = 0 → (v_X9_isLand p2 T F (fun (r3 : Int32) => ((¬ r3 = 0 → (v_X9_isDay p3 T F (fun (r4 : Int32) => ((¬ r4 = 0 → (∃ x6 : Nat, (zu F a0 0 (.int 0)) a0 2 = .ref x6 ∧ False)) ∧ (r4 = 0 → Post 0 (zu F a0 0 (.int 2))))))) ∧ (r3 = 0 → Post 0 (zu F a0 0 (.int 1)))))))))))
set_option maxRecDepth 100000 in
set_option maxHeartbeats 4000000 in
theorem k_X9_isFit {l : Launch} {D : va_G} {cA : Nat → ClassId} {N0 zE : Nat} {a0 : Nat} {p1 : Int32} {p2 : Int32} {p3 : Int32} {T : zT} {F : zF} {Post : Int32 → zF → Prop} (h : v_X9_isFit a0 p1 p2 p3 T F Post) : z_Mt l D cA N0 zE yX9_isFit cX9_isFit 4 (some .boolean) ({ frames := 2, cells := 0, slots := 0, locals := 43 } : Room) [.ref a0, .int p1, .int p2, .int p3] T F (fun v T' F' => ∃ r : Int32, v = some (.int r) ∧ T = T' ∧ Post r F') := by
  unfold v_X9_isFit at h
  refine z_bodyT (by decide) (Nat.le_of_ble_eq_true rfl) ?_
  intro p e s m args below meth c C hnm
  have C : z_C p l s m args meth c RX9 cX9_isFit 4 (some .boolean) D cA N0 zE := C
  show z_w p l e ({ frames := 2, cells := 0, slots := 0, locals := 43 } : Room) s m args below meth c D cA N0 4 0 0 (MQ below (z_Qc D cA N0 (fun v T' F' => ∃ r : Int32, v = some (.int r) ∧ T = T' ∧ Post r F')) args s 0 0 (fun q => N0 ≤ q)) 0 [(0, .ref a0), (1, .int p1), (2, .int p2), (3, .int p3)] [] T F
  refine zr_aload_n C 0 dX9_isFit_0 rfl rfl ?_
  refine zr_aload_n C 0 dX9_isFit_1 rfl rfl ?_
  refine zr_iload_n C 1 dX9_isFit_2 rfl rfl ?_
  obtain ⟨hT1, h⟩ := h
  refine zr_callV (As := [.int p1]) (r := (RX9, TX9, 6)) C (k_X9_isPiece h) ok_X9_119 zq_1127 zq_18 hT1 (by decide) rfl rfl ⟨by decide, (Nat.le_of_ble_eq_true rfl)⟩ ⟨(Nat.le_of_ble_eq_true rfl), (Nat.le_of_ble_eq_true rfl)⟩ (Nat.le_of_ble_eq_true rfl) dX9_isFit_3 (fun v13 U14 G15 hq => ?_)
  clear h
  · obtain ⟨r2, rfl, rfl, rfl, h⟩ := hq
    obtain ⟨h1, h2⟩ := h
    refine zr_if_eq C 16 dX9_isFit_6 (by decide) (fun hc => ?_) (fun hc => ?_)
    · have h := h1 hc
      clear h1 h2
      refine zr_iconst C 1 dX9_isFit_16 (by decide) ?_
      refine zr_goto C 32 dX9_isFit_17 (by decide) ?_
      refine zr_put C fl_X9_33 hT1 rfl rfl dX9_isFit_32 ?_
      refine zr_aload_n C 0 dX9_isFit_35 rfl rfl ?_
      refine zr_get C fl_X9_33 hT1 z_ueq dX9_isFit_36 ?_
      refine zr_if_ne C 65 dX9_isFit_39 (by decide) (fun _ => ?_) (fun hc => absurd hc (by decide))
      refine zr_iconst C 0 dX9_isFit_65 (by decide) ?_
      exact zr_zret C rfl (Or.inl rfl) ⟨_, rfl, rfl, h⟩ (Nat.le_of_ble_eq_true rfl) (Nat.le_of_ble_eq_true rfl) dX9_isFit_66
    · have h := h2 hc
      clear h1 h2
      refine zr_iload_n C 2 dX9_isFit_9 rfl rfl ?_
      refine zr_callS (As := [.int p2]) C (k_X9_isLand h) ok_X9_107 zq_1083 rfl ⟨by decide, (Nat.le_of_ble_eq_true rfl)⟩ ⟨(Nat.le_of_ble_eq_true rfl), (Nat.le_of_ble_eq_true rfl)⟩ (Nat.le_of_ble_eq_true rfl) dX9_isFit_10 (fun v10 U11 G12 hq => ?_)
      clear h
      · obtain ⟨r3, rfl, rfl, rfl, h⟩ := hq
        obtain ⟨h1, h2⟩ := h
        refine zr_if_ne C 20 dX9_isFit_13 (by decide) (fun hc => ?_) (fun hc => ?_)
        · have h := h1 hc
          clear h1 h2
          refine zr_iload_n C 3 dX9_isFit_20 rfl rfl ?_
          refine zr_callS (As := [.int p3]) C (k_X9_isDay h) ok_X9_92 zq_1064 rfl ⟨by decide, (Nat.le_of_ble_eq_true rfl)⟩ ⟨(Nat.le_of_ble_eq_true rfl), (Nat.le_of_ble_eq_true rfl)⟩ (Nat.le_of_ble_eq_true rfl) dX9_isFit_21 (fun v7 U8 G9 hq => ?_)
          clear h
          · obtain ⟨r4, rfl, rfl, rfl, h⟩ := hq
            obtain ⟨h1, h2⟩ := h
            refine zr_if_ne C 31 dX9_isFit_24 (by decide) (fun hc => ?_) (fun hc => ?_)
            · have h := h1 hc
              clear h1 h2
              refine zr_iconst C 0 dX9_isFit_31 (by decide) ?_
              refine zr_put C fl_X9_33 hT1 rfl rfl dX9_isFit_32 ?_
              refine zr_aload_n C 0 dX9_isFit_35 rfl rfl ?_
              refine zr_get C fl_X9_33 hT1 z_ueq dX9_isFit_36 ?_
              refine zr_if_ne C 65 dX9_isFit_39 (by decide) (fun hc => absurd hc (by decide)) (fun _ => ?_)
              refine zr_aload_n C 0 dX9_isFit_42 rfl rfl ?_
              obtain ⟨x6, hv5, h⟩ := h
              refine zr_get C fl_X9_16 hT1 hv5 dX9_isFit_43 ?_
              refine zr_iload_n C 1 dX9_isFit_46 rfl rfl ?_
              exact h.elim
            · have h := h2 hc
              clear h1 h2
              refine zr_iconst C 2 dX9_isFit_27 (by decide) ?_
              refine zr_goto C 32 dX9_isFit_28 (by decide) ?_
              refine zr_put C fl_X9_33 hT1 rfl rfl dX9_isFit_32 ?_
              refine zr_aload_n C 0 dX9_isFit_35 rfl rfl ?_
              refine zr_get C fl_X9_33 hT1 z_ueq dX9_isFit_36 ?_
              refine zr_if_ne C 65 dX9_isFit_39 (by decide) (fun _ => ?_) (fun hc => absurd hc (by decide))
              refine zr_iconst C 0 dX9_isFit_65 (by decide) ?_
              exact zr_zret C rfl (Or.inl rfl) ⟨_, rfl, rfl, h⟩ (Nat.le_of_ble_eq_true rfl) (Nat.le_of_ble_eq_true rfl) dX9_isFit_66
        · have h := h2 hc
          clear h1 h2
          refine zr_iconst C 1 dX9_isFit_16 (by decide) ?_
          refine zr_goto C 32 dX9_isFit_17 (by decide) ?_
          refine zr_put C fl_X9_33 hT1 rfl rfl dX9_isFit_32 ?_
          refine zr_aload_n C 0 dX9_isFit_35 rfl rfl ?_
          refine zr_get C fl_X9_33 hT1 z_ueq dX9_isFit_36 ?_
          refine zr_if_ne C 65 dX9_isFit_39 (by decide) (fun _ => ?_) (fun hc => absurd hc (by decide))
          refine zr_iconst C 0 dX9_isFit_65 (by decide) ?_
          exact zr_zret C rfl (Or.inl rfl) ⟨_, rfl, rfl, h⟩ (Nat.le_of_ble_eq_true rfl) (Nat.le_of_ble_eq_true rfl) dX9_isFit_66
theorem dX9_ofPiece_0 : decode cX9_ofPiece 0 = .ok (.aload_n 0, 1) := by decide +kernel
theorem dX9_ofPiece_1 : decode cX9_ofPiece 1 = .ok (.iconst 0, 1) := by decide +kernel
theorem dX9_ofPiece_2 : decode cX9_ofPiece 2 = .ok (.putfield 33, 3) := by decide +kernel
theorem dX9_ofPiece_5 : decode cX9_ofPiece 5 = .ok (.aload_n 0, 1) := by decide +kernel
theorem dX9_ofPiece_6 : decode cX9_ofPiece 6 = .ok (.iload_n 1, 1) := by decide +kernel
theorem dX9_ofPiece_10 : decode cX9_ofPiece 10 = .ok (.ifCond .ne 9, 3) := by decide +kernel
theorem dX9_ofPiece_19 : decode cX9_ofPiece 19 = .ok (.iload_n 2, 1) := by decide +kernel
theorem dX9_ofPiece_20 : decode cX9_ofPiece 20 = .ok (.iconst 0, 1) := by decide +kernel
theorem dX9_ofPiece_21 : decode cX9_ofPiece 21 = .ok (.iconst 4, 1) := by decide +kernel
theorem dX9_ofPiece_25 : decode cX9_ofPiece 25 = .ok (.ifCond .eq 12, 3) := by decide +kernel
theorem dX9_ofPiece_37 : decode cX9_ofPiece 37 = .ok (.aload_n 0, 1) := by decide +kernel
theorem dX9_ofPiece_38 : decode cX9_ofPiece 38 = .ok (.iconst 2, 1) := by decide +kernel
theorem dX9_ofPiece_42 : decode cX9_ofPiece 42 = .ok (.ireturn, 1) := by decide +kernel
theorem dX9_ofPiece_39 : decode cX9_ofPiece 39 = .ok (.invokevirtual 48, 3) := by decide +kernel
theorem dX9_ofPiece_28 : decode cX9_ofPiece 28 = .ok (.aload_n 0, 1) := by decide +kernel
theorem dX9_ofPiece_29 : decode cX9_ofPiece 29 = .ok (.iload_n 1, 1) := by decide +kernel
theorem dX9_ofPiece_30 : decode cX9_ofPiece 30 = .ok (.iload_n 2, 1) := by decide +kernel
theorem dX9_ofPiece_22 : decode cX9_ofPiece 22 = .ok (.invokestatic 41, 3) := by decide +kernel
theorem dX9_ofPiece_13 : decode cX9_ofPiece 13 = .ok (.aload_n 0, 1) := by decide +kernel
theorem dX9_ofPiece_14 : decode cX9_ofPiece 14 = .ok (.iconst 1, 1) := by decide +kernel
theorem dX9_ofPiece_18 : decode cX9_ofPiece 18 = .ok (.ireturn, 1) := by decide +kernel
theorem dX9_ofPiece_15 : decode cX9_ofPiece 15 = .ok (.invokevirtual 48, 3) := by decide +kernel
theorem dX9_ofPiece_7 : decode cX9_ofPiece 7 = .ok (.invokevirtual 119, 3) := by decide +kernel
def v_X9_ofPiece (a0 : Nat) (p1 : Int32) (p2 : Int32) (T : zT) (F : zF) (Post : Int32 → zF → Prop) : Prop :=
  (T a0 = some (12, 6) ∧ (v_X9_isPiece a0 p1 T (zu F a0 0 (.int 0)) (fun (r2 : Int32) => ((¬ r2 = 0 → (v_X9_is p2 0 4 T (zu F a0 0 (.int 0)) (fun (r3 : Int32) => ((r3 = 0 → (v_X9_refuse a0 2 T (zu F a0 0 (.int 0)) (fun (r4 : Int32) (F5 : zF) => Post r4 F5))) ∧ (¬ r3 = 0 → False))))) ∧ (r2 = 0 → (v_X9_refuse a0 1 T (zu F a0 0 (.int 0)) (fun (r12 : Int32) (F13 : zF) => Post r12 F13)))))))
set_option maxRecDepth 100000 in
set_option maxHeartbeats 4000000 in
theorem k_X9_ofPiece {l : Launch} {D : va_G} {cA : Nat → ClassId} {N0 zE : Nat} {a0 : Nat} {p1 : Int32} {p2 : Int32} {T : zT} {F : zF} {Post : Int32 → zF → Prop} (h : v_X9_ofPiece a0 p1 p2 T F Post) : z_Mt l D cA N0 zE yX9_ofPiece cX9_ofPiece 3 (some .int) ({ frames := 2, cells := 0, slots := 0, locals := 43 } : Room) [.ref a0, .int p1, .int p2] T F (fun v T' F' => ∃ r : Int32, v = some (.int r) ∧ T = T' ∧ Post r F') := by
  unfold v_X9_ofPiece at h
  refine z_bodyT (by decide) (Nat.le_of_ble_eq_true rfl) ?_
  intro p e s m args below meth c C hnm
  have C : z_C p l s m args meth c RX9 cX9_ofPiece 3 (some .int) D cA N0 zE := C
  show z_w p l e ({ frames := 2, cells := 0, slots := 0, locals := 43 } : Room) s m args below meth c D cA N0 3 0 0 (MQ below (z_Qc D cA N0 (fun v T' F' => ∃ r : Int32, v = some (.int r) ∧ T = T' ∧ Post r F')) args s 0 0 (fun q => N0 ≤ q)) 0 [(0, .ref a0), (1, .int p1), (2, .int p2)] [] T F
  refine zr_aload_n C 0 dX9_ofPiece_0 rfl rfl ?_
  refine zr_iconst C 0 dX9_ofPiece_1 (by decide) ?_
  obtain ⟨hT1, h⟩ := h
  refine zr_put C fl_X9_33 hT1 rfl rfl dX9_ofPiece_2 ?_
  refine zr_aload_n C 0 dX9_ofPiece_5 rfl rfl ?_
  refine zr_iload_n C 1 dX9_ofPiece_6 rfl rfl ?_
  refine zr_callV (As := [.int p1]) (r := (RX9, TX9, 6)) C (k_X9_isPiece h) ok_X9_119 zq_1127 zq_18 hT1 (by decide) rfl rfl ⟨by decide, (Nat.le_of_ble_eq_true rfl)⟩ ⟨(Nat.le_of_ble_eq_true rfl), (Nat.le_of_ble_eq_true rfl)⟩ (Nat.le_of_ble_eq_true rfl) dX9_ofPiece_7 (fun v17 U18 G19 hq => ?_)
  clear h
  · obtain ⟨r2, rfl, rfl, rfl, h⟩ := hq
    obtain ⟨h1, h2⟩ := h
    refine zr_if_ne C 19 dX9_ofPiece_10 (by decide) (fun hc => ?_) (fun hc => ?_)
    · have h := h1 hc
      clear h1 h2
      refine zr_iload_n C 2 dX9_ofPiece_19 rfl rfl ?_
      refine zr_iconst C 0 dX9_ofPiece_20 (by decide) ?_
      refine zr_iconst C 4 dX9_ofPiece_21 (by decide) ?_
      refine zr_callS (As := [.int p2, .int 0, .int 4]) C (k_X9_is h) ok_X9_41 zq_1022 rfl ⟨by decide, (Nat.le_of_ble_eq_true rfl)⟩ ⟨(Nat.le_of_ble_eq_true rfl), (Nat.le_of_ble_eq_true rfl)⟩ (Nat.le_of_ble_eq_true rfl) dX9_ofPiece_22 (fun v9 U10 G11 hq => ?_)
      clear h
      · obtain ⟨r3, rfl, rfl, rfl, h⟩ := hq
        obtain ⟨h1, h2⟩ := h
        refine zr_if_eq C 37 dX9_ofPiece_25 (by decide) (fun hc => ?_) (fun hc => ?_)
        · have h := h1 hc
          clear h1 h2
          refine zr_aload_n C 0 dX9_ofPiece_37 rfl rfl ?_
          refine zr_iconst C 2 dX9_ofPiece_38 (by decide) ?_
          refine zr_callV (As := [.int 2]) (r := (RX9, TX9, 6)) C (k_X9_refuse h) ok_X9_48 zq_985 zq_16 hT1 (by decide) rfl rfl ⟨by decide, (Nat.le_of_ble_eq_true rfl)⟩ ⟨(Nat.le_of_ble_eq_true rfl), (Nat.le_of_ble_eq_true rfl)⟩ (Nat.le_of_ble_eq_true rfl) dX9_ofPiece_39 (fun v6 U7 G8 hq => ?_)
          clear h
          · obtain ⟨r4, rfl, rfl, h⟩ := hq
            exact zr_iret C rfl ⟨_, rfl, rfl, h⟩ (Nat.le_of_ble_eq_true rfl) (Nat.le_of_ble_eq_true rfl) dX9_ofPiece_42
        · have h := h2 hc
          clear h1 h2
          refine zr_aload_n C 0 dX9_ofPiece_28 rfl rfl ?_
          refine zr_iload_n C 1 dX9_ofPiece_29 rfl rfl ?_
          refine zr_iload_n C 2 dX9_ofPiece_30 rfl rfl ?_
          exact h.elim
    · have h := h2 hc
      clear h1 h2
      refine zr_aload_n C 0 dX9_ofPiece_13 rfl rfl ?_
      refine zr_iconst C 1 dX9_ofPiece_14 (by decide) ?_
      refine zr_callV (As := [.int 1]) (r := (RX9, TX9, 6)) C (k_X9_refuse h) ok_X9_48 zq_985 zq_16 hT1 (by decide) rfl rfl ⟨by decide, (Nat.le_of_ble_eq_true rfl)⟩ ⟨(Nat.le_of_ble_eq_true rfl), (Nat.le_of_ble_eq_true rfl)⟩ (Nat.le_of_ble_eq_true rfl) dX9_ofPiece_15 (fun v14 U15 G16 hq => ?_)
      clear h
      · obtain ⟨r12, rfl, rfl, h⟩ := hq
        exact zr_iret C rfl ⟨_, rfl, rfl, h⟩ (Nat.le_of_ble_eq_true rfl) (Nat.le_of_ble_eq_true rfl) dX9_ofPiece_18
theorem dX9_isMedium_0 : decode cX9_isMedium 0 = .ok (.iload_n 0, 1) := by decide +kernel
theorem dX9_isMedium_1 : decode cX9_isMedium 1 = .ok (.iconst 0, 1) := by decide +kernel
theorem dX9_isMedium_2 : decode cX9_isMedium 2 = .ok (.iconst 3, 1) := by decide +kernel
theorem dX9_isMedium_6 : decode cX9_isMedium 6 = .ok (.ireturn, 1) := by decide +kernel
theorem dX9_isMedium_3 : decode cX9_isMedium 3 = .ok (.invokestatic 41, 3) := by decide +kernel
def v_X9_isMedium (p0 : Int32) (T : zT) (F : zF) (Post : Int32 → Prop) : Prop :=
  (v_X9_is p0 0 3 T F (fun (r1 : Int32) => ((r1 = 0 ∨ r1 = 1) ∧ Post r1)))
set_option maxRecDepth 100000 in
set_option maxHeartbeats 4000000 in
theorem k_X9_isMedium {l : Launch} {D : va_G} {cA : Nat → ClassId} {N0 zE : Nat} {p0 : Int32} {T : zT} {F : zF} {Post : Int32 → Prop} (h : v_X9_isMedium p0 T F Post) : z_Mt l D cA N0 zE yX9_isMedium cX9_isMedium 1 (some .boolean) ({ frames := 1, cells := 0, slots := 0, locals := 22 } : Room) [.int p0] T F (fun v T' F' => ∃ r : Int32, v = some (.int r) ∧ T = T' ∧ F = F' ∧ Post r) := by
  unfold v_X9_isMedium at h
  refine z_bodyT (by decide) (Nat.le_of_ble_eq_true rfl) ?_
  intro p e s m args below meth c C hnm
  have C : z_C p l s m args meth c RX9 cX9_isMedium 1 (some .boolean) D cA N0 zE := C
  show z_w p l e ({ frames := 1, cells := 0, slots := 0, locals := 22 } : Room) s m args below meth c D cA N0 1 0 0 (MQ below (z_Qc D cA N0 (fun v T' F' => ∃ r : Int32, v = some (.int r) ∧ T = T' ∧ F = F' ∧ Post r)) args s 0 0 (fun q => N0 ≤ q)) 0 [(0, .int p0)] [] T F
  refine zr_iload_n C 0 dX9_isMedium_0 rfl rfl ?_
  refine zr_iconst C 0 dX9_isMedium_1 (by decide) ?_
  refine zr_iconst C 3 dX9_isMedium_2 (by decide) ?_
  refine zr_callS (As := [.int p0, .int 0, .int 3]) C (k_X9_is h) ok_X9_41 zq_1022 rfl ⟨by decide, (Nat.le_of_ble_eq_true rfl)⟩ ⟨(Nat.le_of_ble_eq_true rfl), (Nat.le_of_ble_eq_true rfl)⟩ (Nat.le_of_ble_eq_true rfl) dX9_isMedium_3 (fun v2 U3 G4 hq => ?_)
  clear h
  · obtain ⟨r1, rfl, rfl, rfl, h⟩ := hq
    obtain ⟨hb, h⟩ := h
    exact zr_zret C rfl hb ⟨_, rfl, rfl, rfl, h⟩ (Nat.le_of_ble_eq_true rfl) (Nat.le_of_ble_eq_true rfl) dX9_isMedium_6
theorem dX9_isSpan_0 : decode cX9_isSpan 0 = .ok (.iload_n 1, 1) := by decide +kernel
theorem dX9_isSpan_1 : decode cX9_isSpan 1 = .ok (.aload_n 0, 1) := by decide +kernel
theorem dX9_isSpan_2 : decode cX9_isSpan 2 = .ok (.getfield 29, 3) := by decide +kernel
theorem dX9_isSpan_5 : decode cX9_isSpan 5 = .ok (.getfield 63, 3) := by decide +kernel
theorem dX9_isSpan_8 : decode cX9_isSpan 8 = .ok (.if_icmp .le 28, 3) := by decide +kernel
theorem dX9_isSpan_36 : decode cX9_isSpan 36 = .ok (.iconst 0, 1) := by decide +kernel
theorem dX9_isSpan_37 : decode cX9_isSpan 37 = .ok (.ireturn, 1) := by decide +kernel
theorem dX9_isSpan_11 : decode cX9_isSpan 11 = .ok (.iload_n 2, 1) := by decide +kernel
theorem dX9_isSpan_12 : decode cX9_isSpan 12 = .ok (.iload_n 1, 1) := by decide +kernel
theorem dX9_isSpan_13 : decode cX9_isSpan 13 = .ok (.bipush 99, 2) := by decide +kernel
theorem dX9_isSpan_18 : decode cX9_isSpan 18 = .ok (.ifCond .eq 18, 3) := by decide +kernel
theorem dX9_isSpan_21 : decode cX9_isSpan 21 = .ok (.iload_n 3, 1) := by decide +kernel
theorem dX9_isSpan_22 : decode cX9_isSpan 22 = .ok (.iconst 1, 1) := by decide +kernel
theorem dX9_isSpan_23 : decode cX9_isSpan 23 = .ok (.sipush 999, 3) := by decide +kernel
theorem dX9_isSpan_29 : decode cX9_isSpan 29 = .ok (.ifCond .eq 7, 3) := by decide +kernel
theorem dX9_isSpan_32 : decode cX9_isSpan 32 = .ok (.iconst 1, 1) := by decide +kernel
theorem dX9_isSpan_33 : decode cX9_isSpan 33 = .ok (.goto 4, 3) := by decide +kernel
theorem dX9_isSpan_26 : decode cX9_isSpan 26 = .ok (.invokestatic 41, 3) := by decide +kernel
theorem dX9_isSpan_15 : decode cX9_isSpan 15 = .ok (.invokestatic 41, 3) := by decide +kernel
def v_X9_isSpan (a0 : Nat) (p1 : Int32) (p2 : Int32) (p3 : Int32) (T : zT) (F : zF) (Post : Int32 → Prop) : Prop :=
  (T a0 = some (12, 6) ∧ ∃ x3 : Nat, F a0 4 = .ref x3 ∧ T x3 = some (9, 3) ∧ ∃ x6 : Int32, F x3 1 = .int x6 ∧ ((p1 ≤ x6 → Post 0) ∧ (¬ p1 ≤ x6 → (v_X9_is p2 p1 99 T F (fun (r7 : Int32) => ((r7 = 0 → Post 0) ∧ (¬ r7 = 0 → (v_X9_is p3 1 999 T F (fun (r8 : Int32) => ((r8 = 0 → Post 0) ∧ (¬ r8 = 0 → Post 1)))))))))))
set_option maxRecDepth 100000 in
set_option maxHeartbeats 4000000 in
theorem k_X9_isSpan {l : Launch} {D : va_G} {cA : Nat → ClassId} {N0 zE : Nat} {a0 : Nat} {p1 : Int32} {p2 : Int32} {p3 : Int32} {T : zT} {F : zF} {Post : Int32 → Prop} (h : v_X9_isSpan a0 p1 p2 p3 T F Post) : z_Mt l D cA N0 zE yX9_isSpan cX9_isSpan 4 (some .boolean) ({ frames := 1, cells := 0, slots := 0, locals := 22 } : Room) [.ref a0, .int p1, .int p2, .int p3] T F (fun v T' F' => ∃ r : Int32, v = some (.int r) ∧ T = T' ∧ F = F' ∧ Post r) := by
  unfold v_X9_isSpan at h
  refine z_bodyT (by decide) (Nat.le_of_ble_eq_true rfl) ?_
  intro p e s m args below meth c C hnm
  have C : z_C p l s m args meth c RX9 cX9_isSpan 4 (some .boolean) D cA N0 zE := C
  show z_w p l e ({ frames := 1, cells := 0, slots := 0, locals := 22 } : Room) s m args below meth c D cA N0 4 0 0 (MQ below (z_Qc D cA N0 (fun v T' F' => ∃ r : Int32, v = some (.int r) ∧ T = T' ∧ F = F' ∧ Post r)) args s 0 0 (fun q => N0 ≤ q)) 0 [(0, .ref a0), (1, .int p1), (2, .int p2), (3, .int p3)] [] T F
  refine zr_iload_n C 1 dX9_isSpan_0 rfl rfl ?_
  refine zr_aload_n C 0 dX9_isSpan_1 rfl rfl ?_
  obtain ⟨hT1, x3, hv2, h⟩ := h
  refine zr_get C fl_X9_29 hT1 hv2 dX9_isSpan_2 ?_
  obtain ⟨hT4, x6, hv5, h⟩ := h
  refine zr_get C fl_X9_63 hT4 hv5 dX9_isSpan_5 ?_
  obtain ⟨h1, h2⟩ := h
  refine zr_icmp_le C 36 dX9_isSpan_8 (by decide) (fun hc => ?_) (fun hc => ?_)
  · have h := h1 hc
    clear h1 h2
    refine zr_iconst C 0 dX9_isSpan_36 (by decide) ?_
    exact zr_zret C rfl (Or.inl rfl) ⟨_, rfl, rfl, rfl, h⟩ (Nat.le_of_ble_eq_true rfl) (Nat.le_of_ble_eq_true rfl) dX9_isSpan_37
  · have h := h2 hc
    clear h1 h2
    refine zr_iload_n C 2 dX9_isSpan_11 rfl rfl ?_
    refine zr_iload_n C 1 dX9_isSpan_12 rfl rfl ?_
    refine zr_bipush C 99 dX9_isSpan_13 (by decide) ?_
    refine zr_callS (As := [.int p2, .int p1, .int 99]) C (k_X9_is h) ok_X9_41 zq_1022 rfl ⟨by decide, (Nat.le_of_ble_eq_true rfl)⟩ ⟨(Nat.le_of_ble_eq_true rfl), (Nat.le_of_ble_eq_true rfl)⟩ (Nat.le_of_ble_eq_true rfl) dX9_isSpan_15 (fun v12 U13 G14 hq => ?_)
    clear h
    · obtain ⟨r7, rfl, rfl, rfl, h⟩ := hq
      obtain ⟨h1, h2⟩ := h
      refine zr_if_eq C 36 dX9_isSpan_18 (by decide) (fun hc => ?_) (fun hc => ?_)
      · have h := h1 hc
        clear h1 h2
        refine zr_iconst C 0 dX9_isSpan_36 (by decide) ?_
        exact zr_zret C rfl (Or.inl rfl) ⟨_, rfl, rfl, rfl, h⟩ (Nat.le_of_ble_eq_true rfl) (Nat.le_of_ble_eq_true rfl) dX9_isSpan_37
      · have h := h2 hc
        clear h1 h2
        refine zr_iload_n C 3 dX9_isSpan_21 rfl rfl ?_
        refine zr_iconst C 1 dX9_isSpan_22 (by decide) ?_
        refine zr_sipush C 999 dX9_isSpan_23 (by decide) ?_
        refine zr_callS (As := [.int p3, .int 1, .int 999]) C (k_X9_is h) ok_X9_41 zq_1022 rfl ⟨by decide, (Nat.le_of_ble_eq_true rfl)⟩ ⟨(Nat.le_of_ble_eq_true rfl), (Nat.le_of_ble_eq_true rfl)⟩ (Nat.le_of_ble_eq_true rfl) dX9_isSpan_26 (fun v9 U10 G11 hq => ?_)
        clear h
        · obtain ⟨r8, rfl, rfl, rfl, h⟩ := hq
          obtain ⟨h1, h2⟩ := h
          refine zr_if_eq C 36 dX9_isSpan_29 (by decide) (fun hc => ?_) (fun hc => ?_)
          · have h := h1 hc
            clear h1 h2
            refine zr_iconst C 0 dX9_isSpan_36 (by decide) ?_
            exact zr_zret C rfl (Or.inl rfl) ⟨_, rfl, rfl, rfl, h⟩ (Nat.le_of_ble_eq_true rfl) (Nat.le_of_ble_eq_true rfl) dX9_isSpan_37
          · have h := h2 hc
            clear h1 h2
            refine zr_iconst C 1 dX9_isSpan_32 (by decide) ?_
            refine zr_goto C 37 dX9_isSpan_33 (by decide) ?_
            exact zr_zret C rfl (Or.inr rfl) ⟨_, rfl, rfl, rfl, h⟩ (Nat.le_of_ble_eq_true rfl) (Nat.le_of_ble_eq_true rfl) dX9_isSpan_37
theorem dX9_priceOf_0 : decode cX9_priceOf 0 = .ok (.iload_n 3, 1) := by decide +kernel
theorem dX9_priceOf_1 : decode cX9_priceOf 1 = .ok (.iload_n 2, 1) := by decide +kernel
theorem dX9_priceOf_2 : decode cX9_priceOf 2 = .ok (.iload_n 1, 1) := by decide +kernel
theorem dX9_priceOf_3 : decode cX9_priceOf 3 = .ok (.isub, 1) := by decide +kernel
theorem dX9_priceOf_4 : decode cX9_priceOf 4 = .ok (.iconst 1, 1) := by decide +kernel
theorem dX9_priceOf_5 : decode cX9_priceOf 5 = .ok (.iadd, 1) := by decide +kernel
theorem dX9_priceOf_6 : decode cX9_priceOf 6 = .ok (.imul, 1) := by decide +kernel
theorem dX9_priceOf_7 : decode cX9_priceOf 7 = .ok (.istore 4, 2) := by decide +kernel
theorem dX9_priceOf_9 : decode cX9_priceOf 9 = .ok (.iload 4, 2) := by decide +kernel
theorem dX9_priceOf_11 : decode cX9_priceOf 11 = .ok (.iconst 0, 1) := by decide +kernel
theorem dX9_priceOf_12 : decode cX9_priceOf 12 = .ok (.aload_n 0, 1) := by decide +kernel
theorem dX9_priceOf_13 : decode cX9_priceOf 13 = .ok (.getfield 29, 3) := by decide +kernel
theorem dX9_priceOf_16 : decode cX9_priceOf 16 = .ok (.getfield 63, 3) := by decide +kernel
theorem dX9_priceOf_19 : decode cX9_priceOf 19 = .ok (.iload_n 1, 1) := by decide +kernel
theorem dX9_priceOf_20 : decode cX9_priceOf 20 = .ok (.isub, 1) := by decide +kernel
theorem dX9_priceOf_21 : decode cX9_priceOf 21 = .ok (.bipush 10, 2) := by decide +kernel
theorem dX9_priceOf_23 : decode cX9_priceOf 23 = .ok (.iadd, 1) := by decide +kernel
theorem dX9_priceOf_24 : decode cX9_priceOf 24 = .ok (.invokestatic 168, 3) := by decide +kernel
theorem dX9_priceOf_27 : decode cX9_priceOf 27 = .ok (.iload 4, 2) := by decide +kernel
theorem dX9_priceOf_29 : decode cX9_priceOf 29 = .ok (.bipush 10, 2) := by decide +kernel
theorem dX9_priceOf_31 : decode cX9_priceOf 31 = .ok (.idiv, 1) := by decide +kernel
theorem dX9_priceOf_32 : decode cX9_priceOf 32 = .ok (.imul, 1) := by decide +kernel
theorem dX9_priceOf_33 : decode cX9_priceOf 33 = .ok (.iadd, 1) := by decide +kernel
theorem dX9_priceOf_34 : decode cX9_priceOf 34 = .ok (.ireturn, 1) := by decide +kernel
def v_X9_priceOf (a0 : Nat) (p1 : Int32) (p2 : Int32) (p3 : Int32) (T : zT) (F : zF) (Post : Int32 → Prop) : Prop :=
  (T a0 = some (12, 6) ∧ ∃ x3 : Nat, F a0 4 = .ref x3 ∧ T x3 = some (9, 3) ∧ ∃ x6 : Int32, F x3 1 = .int x6 ∧ Post ((p3 * ((p2 - p1) + 1)) + ((if (0 : Int32) < ((x6 - p1) + 10) then ((x6 - p1) + 10) else (0 : Int32)) * ((p3 * ((p2 - p1) + 1)) / 10))))
set_option maxRecDepth 100000 in
set_option maxHeartbeats 4000000 in
theorem k_X9_priceOf {l : Launch} {D : va_G} {cA : Nat → ClassId} {N0 zE : Nat} {a0 : Nat} {p1 : Int32} {p2 : Int32} {p3 : Int32} {T : zT} {F : zF} {Post : Int32 → Prop} (h : v_X9_priceOf a0 p1 p2 p3 T F Post) : z_Mt l D cA N0 zE yX9_priceOf cX9_priceOf 5 (some .int) ({ frames := 1, cells := 0, slots := 0, locals := 21 } : Room) [.ref a0, .int p1, .int p2, .int p3] T F (fun v T' F' => ∃ r : Int32, v = some (.int r) ∧ T = T' ∧ F = F' ∧ Post r) := by
  unfold v_X9_priceOf at h
  refine z_bodyT (by decide) (Nat.le_of_ble_eq_true rfl) ?_
  intro p e s m args below meth c C hnm
  have C : z_C p l s m args meth c RX9 cX9_priceOf 5 (some .int) D cA N0 zE := C
  show z_w p l e ({ frames := 1, cells := 0, slots := 0, locals := 21 } : Room) s m args below meth c D cA N0 5 0 0 (MQ below (z_Qc D cA N0 (fun v T' F' => ∃ r : Int32, v = some (.int r) ∧ T = T' ∧ F = F' ∧ Post r)) args s 0 0 (fun q => N0 ≤ q)) 0 [(0, .ref a0), (1, .int p1), (2, .int p2), (3, .int p3)] [] T F
  refine zr_iload_n C 3 dX9_priceOf_0 rfl rfl ?_
  refine zr_iload_n C 2 dX9_priceOf_1 rfl rfl ?_
  refine zr_iload_n C 1 dX9_priceOf_2 rfl rfl ?_
  refine zr_isub C dX9_priceOf_3 ?_
  refine zr_iconst C 1 dX9_priceOf_4 (by decide) ?_
  refine zr_iadd C dX9_priceOf_5 ?_
  refine zr_imul C dX9_priceOf_6 ?_
  refine zr_istore C [(4, .int (p3 * ((p2 - p1) + 1))), (0, .ref a0), (1, .int p1), (2, .int p2), (3, .int p3)] dX9_priceOf_7 (by decide) rfl ?_
  refine zr_iload C 0 dX9_priceOf_9 rfl ?_
  refine zr_iconst C 0 dX9_priceOf_11 (by decide) ?_
  refine zr_aload_n C 1 dX9_priceOf_12 rfl rfl ?_
  obtain ⟨hT1, x3, hv2, h⟩ := h
  refine zr_get C fl_X9_29 hT1 hv2 dX9_priceOf_13 ?_
  obtain ⟨hT4, x6, hv5, h⟩ := h
  refine zr_get C fl_X9_63 hT4 hv5 dX9_priceOf_16 ?_
  refine zr_iload_n C 2 dX9_priceOf_19 rfl rfl ?_
  refine zr_isub C dX9_priceOf_20 ?_
  refine zr_bipush C 10 dX9_priceOf_21 (by decide) ?_
  refine zr_iadd C dX9_priceOf_23 ?_
  refine zr_max C zq_1350 zq_337 zq_45 zq_338 (by decide) (Nat.le_of_ble_eq_true rfl) (Nat.le_of_ble_eq_true rfl) (Nat.le_of_ble_eq_true rfl) dX9_priceOf_24 ?_
  refine zr_iload C 0 dX9_priceOf_27 rfl ?_
  refine zr_bipush C 10 dX9_priceOf_29 (by decide) ?_
  refine zr_idiv C dX9_priceOf_31 (by decide) ?_
  refine zr_imul C dX9_priceOf_32 ?_
  refine zr_iadd C dX9_priceOf_33 ?_
  exact zr_iret C rfl ⟨_, rfl, rfl, rfl, h⟩ (Nat.le_of_ble_eq_true rfl) (Nat.le_of_ble_eq_true rfl) dX9_priceOf_34
theorem dX9_book_0 : decode cX9_book 0 = .ok (.aload_n 0, 1) := by decide +kernel
theorem dX9_book_1 : decode cX9_book 1 = .ok (.iconst 0, 1) := by decide +kernel
theorem dX9_book_2 : decode cX9_book 2 = .ok (.putfield 33, 3) := by decide +kernel
theorem dX9_book_5 : decode cX9_book 5 = .ok (.aload_n 0, 1) := by decide +kernel
theorem dX9_book_6 : decode cX9_book 6 = .ok (.iload_n 1, 1) := by decide +kernel
theorem dX9_book_10 : decode cX9_book 10 = .ok (.ifCond .eq 17, 3) := by decide +kernel
theorem dX9_book_27 : decode cX9_book 27 = .ok (.aload_n 0, 1) := by decide +kernel
theorem dX9_book_28 : decode cX9_book 28 = .ok (.iconst 1, 1) := by decide +kernel
theorem dX9_book_32 : decode cX9_book 32 = .ok (.ireturn, 1) := by decide +kernel
theorem dX9_book_29 : decode cX9_book 29 = .ok (.invokevirtual 48, 3) := by decide +kernel
theorem dX9_book_13 : decode cX9_book 13 = .ok (.iload_n 2, 1) := by decide +kernel
theorem dX9_book_17 : decode cX9_book 17 = .ok (.ifCond .eq 10, 3) := by decide +kernel
theorem dX9_book_20 : decode cX9_book 20 = .ok (.iload_n 3, 1) := by decide +kernel
theorem dX9_book_24 : decode cX9_book 24 = .ok (.ifCond .ne 9, 3) := by decide +kernel
theorem dX9_book_33 : decode cX9_book 33 = .ok (.aload_n 0, 1) := by decide +kernel
theorem dX9_book_34 : decode cX9_book 34 = .ok (.iload 4, 2) := by decide +kernel
theorem dX9_book_36 : decode cX9_book 36 = .ok (.iload 5, 2) := by decide +kernel
theorem dX9_book_38 : decode cX9_book 38 = .ok (.iload 6, 2) := by decide +kernel
theorem dX9_book_43 : decode cX9_book 43 = .ok (.ifCond .ne 9, 3) := by decide +kernel
theorem dX9_book_52 : decode cX9_book 52 = .ok (.new 149, 3) := by decide +kernel
theorem dX9_book_55 : decode cX9_book 55 = .ok (.dup, 1) := by decide +kernel
theorem dX9_book_56 : decode cX9_book 56 = .ok (.iload_n 1, 1) := by decide +kernel
theorem dX9_book_57 : decode cX9_book 57 = .ok (.iload_n 2, 1) := by decide +kernel
theorem dX9_book_58 : decode cX9_book 58 = .ok (.iload_n 3, 1) := by decide +kernel
theorem dX9_book_59 : decode cX9_book 59 = .ok (.iload 4, 2) := by decide +kernel
theorem dX9_book_61 : decode cX9_book 61 = .ok (.iload 5, 2) := by decide +kernel
theorem dX9_book_63 : decode cX9_book 63 = .ok (.aload_n 0, 1) := by decide +kernel
theorem dX9_book_64 : decode cX9_book 64 = .ok (.iload 4, 2) := by decide +kernel
theorem dX9_book_66 : decode cX9_book 66 = .ok (.iload 5, 2) := by decide +kernel
theorem dX9_book_68 : decode cX9_book 68 = .ok (.iload 6, 2) := by decide +kernel
theorem dX9_book_70 : decode cX9_book 70 = .ok (.invokevirtual 177, 3) := by decide +kernel
theorem dX9_book_46 : decode cX9_book 46 = .ok (.aload_n 0, 1) := by decide +kernel
theorem dX9_book_47 : decode cX9_book 47 = .ok (.iconst 2, 1) := by decide +kernel
theorem dX9_book_51 : decode cX9_book 51 = .ok (.ireturn, 1) := by decide +kernel
theorem dX9_book_48 : decode cX9_book 48 = .ok (.invokevirtual 48, 3) := by decide +kernel
theorem dX9_book_40 : decode cX9_book 40 = .ok (.invokevirtual 174, 3) := by decide +kernel
theorem dX9_book_21 : decode cX9_book 21 = .ok (.invokestatic 171, 3) := by decide +kernel
theorem dX9_book_14 : decode cX9_book 14 = .ok (.invokestatic 107, 3) := by decide +kernel
theorem dX9_book_7 : decode cX9_book 7 = .ok (.invokevirtual 119, 3) := by decide +kernel
def v_X9_book (a0 : Nat) (p1 : Int32) (p2 : Int32) (p3 : Int32) (p4 : Int32) (p5 : Int32) (p6 : Int32) (T : zT) (F : zF) (Post : Int32 → zT → zF → Prop) : Prop :=
  (T a0 = some (12, 6) ∧ (v_X9_isPiece a0 p1 T (zu F a0 0 (.int 0)) (fun (r2 : Int32) => ((r2 = 0 → (v_X9_refuse a0 1 T (zu F a0 0 (.int 0)) (fun (r3 : Int32) (F4 : zF) => Post r3 T F4))) ∧ (¬ r2 = 0 → (v_X9_isLand p2 T (zu F a0 0 (.int 0)) (fun (r8 : Int32) => ((r8 = 0 → (v_X9_refuse a0 1 T (zu F a0 0 (.int 0)) (fun (r9 : Int32) (F10 : zF) => Post r9 T F10))) ∧ (¬ r8 = 0 → (v_X9_isMedium p3 T (zu F a0 0 (.int 0)) (fun (r14 : Int32) => ((¬ r14 = 0 → (v_X9_isSpan a0 p4 p5 p6 T (zu F a0 0 (.int 0)) (fun (r15 : Int32) => ((¬ r15 = 0 → (∀ q16 : Nat, (∀ b, q16 ≤ b → T b = none) → (zn T q16 (10, 12) a0 = some (12, 6) ∧ (v_X9_priceOf a0 p4 p5 p6 (zn T q16 (10, 12)) (zm (zu F a0 0 (.int 0)) q16 (fun j => defaultValue (tyX7 j))) (fun (r19 : Int32) => False))))) ∧ (r15 = 0 → (v_X9_refuse a0 2 T (zu F a0 0 (.int 0)) (fun (r23 : Int32) (F24 : zF) => Post r23 T F24))))))) ∧ (r14 = 0 → (v_X9_refuse a0 1 T (zu F a0 0 (.int 0)) (fun (r31 : Int32) (F32 : zF) => Post r31 T F32)))))))))))))))
set_option maxRecDepth 100000 in
set_option maxHeartbeats 4000000 in
theorem k_X9_book {l : Launch} {D : va_G} {cA : Nat → ClassId} {N0 zE : Nat} {a0 : Nat} {p1 : Int32} {p2 : Int32} {p3 : Int32} {p4 : Int32} {p5 : Int32} {p6 : Int32} {T : zT} {F : zF} {Post : Int32 → zT → zF → Prop} (h : v_X9_book a0 p1 p2 p3 p4 p5 p6 T F Post) : z_Mt l D cA N0 zE yX9_book cX9_book 8 (some .int) ({ frames := 2, cells := 1, slots := 12, locals := 45 } : Room) [.ref a0, .int p1, .int p2, .int p3, .int p4, .int p5, .int p6] T F (fun v T' F' => ∃ r : Int32, v = some (.int r) ∧ Post r T' F') := by
  unfold v_X9_book at h
  refine z_bodyT (by decide) (Nat.le_of_ble_eq_true rfl) ?_
  intro p e s m args below meth c C hnm
  have C : z_C p l s m args meth c RX9 cX9_book 8 (some .int) D cA N0 zE := C
  show z_w p l e ({ frames := 2, cells := 1, slots := 12, locals := 45 } : Room) s m args below meth c D cA N0 8 0 0 (MQ below (z_Qc D cA N0 (fun v T' F' => ∃ r : Int32, v = some (.int r) ∧ Post r T' F')) args s 1 12 (fun q => N0 ≤ q)) 0 [(0, .ref a0), (1, .int p1), (2, .int p2), (3, .int p3), (4, .int p4), (5, .int p5), (6, .int p6)] [] T F
  refine zr_aload_n C 0 dX9_book_0 rfl rfl ?_
  refine zr_iconst C 0 dX9_book_1 (by decide) ?_
  obtain ⟨hT1, h⟩ := h
  refine zr_put C fl_X9_33 hT1 rfl rfl dX9_book_2 ?_
  refine zr_aload_n C 0 dX9_book_5 rfl rfl ?_
  refine zr_iload_n C 1 dX9_book_6 rfl rfl ?_
  refine zr_callV (As := [.int p1]) (r := (RX9, TX9, 6)) C (k_X9_isPiece h) ok_X9_119 zq_1127 zq_18 hT1 (by decide) rfl rfl ⟨by decide, (Nat.le_of_ble_eq_true rfl)⟩ ⟨(Nat.le_of_ble_eq_true rfl), (Nat.le_of_ble_eq_true rfl)⟩ (Nat.le_of_ble_eq_true rfl) dX9_book_7 (fun v42 U43 G44 hq => ?_)
  clear h
  · obtain ⟨r2, rfl, rfl, rfl, h⟩ := hq
    obtain ⟨h1, h2⟩ := h
    refine zr_if_eq C 27 dX9_book_10 (by decide) (fun hc => ?_) (fun hc => ?_)
    · have h := h1 hc
      clear h1 h2
      refine zr_aload_n C 0 dX9_book_27 rfl rfl ?_
      refine zr_iconst C 1 dX9_book_28 (by decide) ?_
      refine zr_callV (As := [.int 1]) (r := (RX9, TX9, 6)) C (k_X9_refuse h) ok_X9_48 zq_985 zq_16 hT1 (by decide) rfl rfl ⟨by decide, (Nat.le_of_ble_eq_true rfl)⟩ ⟨(Nat.le_of_ble_eq_true rfl), (Nat.le_of_ble_eq_true rfl)⟩ (Nat.le_of_ble_eq_true rfl) dX9_book_29 (fun v5 U6 G7 hq => ?_)
      clear h
      · obtain ⟨r3, rfl, rfl, h⟩ := hq
        exact zr_iret C rfl ⟨_, rfl, h⟩ (Nat.le_of_ble_eq_true rfl) (Nat.le_of_ble_eq_true rfl) dX9_book_32
    · have h := h2 hc
      clear h1 h2
      refine zr_iload_n C 2 dX9_book_13 rfl rfl ?_
      refine zr_callS (As := [.int p2]) C (k_X9_isLand h) ok_X9_107 zq_1083 rfl ⟨by decide, (Nat.le_of_ble_eq_true rfl)⟩ ⟨(Nat.le_of_ble_eq_true rfl), (Nat.le_of_ble_eq_true rfl)⟩ (Nat.le_of_ble_eq_true rfl) dX9_book_14 (fun v39 U40 G41 hq => ?_)
      clear h
      · obtain ⟨r8, rfl, rfl, rfl, h⟩ := hq
        obtain ⟨h1, h2⟩ := h
        refine zr_if_eq C 27 dX9_book_17 (by decide) (fun hc => ?_) (fun hc => ?_)
        · have h := h1 hc
          clear h1 h2
          refine zr_aload_n C 0 dX9_book_27 rfl rfl ?_
          refine zr_iconst C 1 dX9_book_28 (by decide) ?_
          refine zr_callV (As := [.int 1]) (r := (RX9, TX9, 6)) C (k_X9_refuse h) ok_X9_48 zq_985 zq_16 hT1 (by decide) rfl rfl ⟨by decide, (Nat.le_of_ble_eq_true rfl)⟩ ⟨(Nat.le_of_ble_eq_true rfl), (Nat.le_of_ble_eq_true rfl)⟩ (Nat.le_of_ble_eq_true rfl) dX9_book_29 (fun v11 U12 G13 hq => ?_)
          clear h
          · obtain ⟨r9, rfl, rfl, h⟩ := hq
            exact zr_iret C rfl ⟨_, rfl, h⟩ (Nat.le_of_ble_eq_true rfl) (Nat.le_of_ble_eq_true rfl) dX9_book_32
        · have h := h2 hc
          clear h1 h2
          refine zr_iload_n C 3 dX9_book_20 rfl rfl ?_
          refine zr_callS (As := [.int p3]) C (k_X9_isMedium h) ok_X9_171 zq_1339 rfl ⟨by decide, (Nat.le_of_ble_eq_true rfl)⟩ ⟨(Nat.le_of_ble_eq_true rfl), (Nat.le_of_ble_eq_true rfl)⟩ (Nat.le_of_ble_eq_true rfl) dX9_book_21 (fun v36 U37 G38 hq => ?_)
          clear h
          · obtain ⟨r14, rfl, rfl, rfl, h⟩ := hq
            obtain ⟨h1, h2⟩ := h
            refine zr_if_ne C 33 dX9_book_24 (by decide) (fun hc => ?_) (fun hc => ?_)
            · have h := h1 hc
              clear h1 h2
              refine zr_aload_n C 0 dX9_book_33 rfl rfl ?_
              refine zr_iload C 4 dX9_book_34 rfl ?_
              refine zr_iload C 5 dX9_book_36 rfl ?_
              refine zr_iload C 6 dX9_book_38 rfl ?_
              refine zr_callV (As := [.int p4, .int p5, .int p6]) (r := (RX9, TX9, 6)) C (k_X9_isSpan h) ok_X9_174 zq_1343 zq_20 hT1 (by decide) rfl rfl ⟨by decide, (Nat.le_of_ble_eq_true rfl)⟩ ⟨(Nat.le_of_ble_eq_true rfl), (Nat.le_of_ble_eq_true rfl)⟩ (Nat.le_of_ble_eq_true rfl) dX9_book_40 (fun v28 U29 G30 hq => ?_)
              clear h
              · obtain ⟨r15, rfl, rfl, rfl, h⟩ := hq
                obtain ⟨h1, h2⟩ := h
                refine zr_if_ne C 52 dX9_book_43 (by decide) (fun hc => ?_) (fun hc => ?_)
                · have h := h1 hc
                  clear h1 h2
                  refine zr_new C nw_X9_149 (Nat.le_of_ble_eq_true rfl) (Nat.le_of_ble_eq_true rfl) dX9_book_52 (fun q16 hq17 => ?_)
                  have h := h q16 hq17
                  refine zr_dup C dX9_book_55 rfl ?_
                  refine zr_iload_n C 1 dX9_book_56 rfl rfl ?_
                  refine zr_iload_n C 2 dX9_book_57 rfl rfl ?_
                  refine zr_iload_n C 3 dX9_book_58 rfl rfl ?_
                  refine zr_iload C 4 dX9_book_59 rfl ?_
                  refine zr_iload C 5 dX9_book_61 rfl ?_
                  refine zr_aload_n C 0 dX9_book_63 rfl rfl ?_
                  refine zr_iload C 4 dX9_book_64 rfl ?_
                  refine zr_iload C 5 dX9_book_66 rfl ?_
                  refine zr_iload C 6 dX9_book_68 rfl ?_
                  obtain ⟨hT18, h⟩ := h
                  refine zr_callV (As := [.int p4, .int p5, .int p6]) (r := (RX9, TX9, 6)) C (k_X9_priceOf h) ok_X9_177 zq_1348 zq_21 hT18 (by decide) rfl rfl ⟨by decide, (Nat.le_of_ble_eq_true rfl)⟩ ⟨(Nat.le_of_ble_eq_true rfl), (Nat.le_of_ble_eq_true rfl)⟩ (Nat.le_of_ble_eq_true rfl) dX9_book_70 (fun v20 U21 G22 hq => ?_)
                  clear h
                  · obtain ⟨r19, rfl, rfl, rfl, h⟩ := hq
                    exact h.elim
                · have h := h2 hc
                  clear h1 h2
                  refine zr_aload_n C 0 dX9_book_46 rfl rfl ?_
                  refine zr_iconst C 2 dX9_book_47 (by decide) ?_
                  refine zr_callV (As := [.int 2]) (r := (RX9, TX9, 6)) C (k_X9_refuse h) ok_X9_48 zq_985 zq_16 hT1 (by decide) rfl rfl ⟨by decide, (Nat.le_of_ble_eq_true rfl)⟩ ⟨(Nat.le_of_ble_eq_true rfl), (Nat.le_of_ble_eq_true rfl)⟩ (Nat.le_of_ble_eq_true rfl) dX9_book_48 (fun v25 U26 G27 hq => ?_)
                  clear h
                  · obtain ⟨r23, rfl, rfl, h⟩ := hq
                    exact zr_iret C rfl ⟨_, rfl, h⟩ (Nat.le_of_ble_eq_true rfl) (Nat.le_of_ble_eq_true rfl) dX9_book_51
            · have h := h2 hc
              clear h1 h2
              refine zr_aload_n C 0 dX9_book_27 rfl rfl ?_
              refine zr_iconst C 1 dX9_book_28 (by decide) ?_
              refine zr_callV (As := [.int 1]) (r := (RX9, TX9, 6)) C (k_X9_refuse h) ok_X9_48 zq_985 zq_16 hT1 (by decide) rfl rfl ⟨by decide, (Nat.le_of_ble_eq_true rfl)⟩ ⟨(Nat.le_of_ble_eq_true rfl), (Nat.le_of_ble_eq_true rfl)⟩ (Nat.le_of_ble_eq_true rfl) dX9_book_29 (fun v33 U34 G35 hq => ?_)
              clear h
              · obtain ⟨r31, rfl, rfl, h⟩ := hq
                exact zr_iret C rfl ⟨_, rfl, h⟩ (Nat.le_of_ble_eq_true rfl) (Nat.le_of_ble_eq_true rfl) dX9_book_32
theorem dX9_isBooking_0 : decode cX9_isBooking 0 = .ok (.iload_n 1, 1) := by decide +kernel
theorem dX9_isBooking_1 : decode cX9_isBooking 1 = .ok (.iconst 0, 1) := by decide +kernel
theorem dX9_isBooking_2 : decode cX9_isBooking 2 = .ok (.aload_n 0, 1) := by decide +kernel
theorem dX9_isBooking_3 : decode cX9_isBooking 3 = .ok (.getfield 29, 3) := by decide +kernel
theorem dX9_isBooking_6 : decode cX9_isBooking 6 = .ok (.getfield 45, 3) := by decide +kernel
theorem dX9_isBooking_12 : decode cX9_isBooking 12 = .ok (.iconst 1, 1) := by decide +kernel
theorem dX9_isBooking_13 : decode cX9_isBooking 13 = .ok (.isub, 1) := by decide +kernel
theorem dX9_isBooking_17 : decode cX9_isBooking 17 = .ok (.ireturn, 1) := by decide +kernel
theorem dX9_isBooking_14 : decode cX9_isBooking 14 = .ok (.invokestatic 41, 3) := by decide +kernel
theorem dX9_isBooking_9 : decode cX9_isBooking 9 = .ok (.invokevirtual 37, 3) := by decide +kernel
def v_X9_isBooking (a0 : Nat) (p1 : Int32) (T : zT) (F : zF) (Post : Int32 → Prop) : Prop :=
  (T a0 = some (12, 6) ∧ ∃ x3 : Nat, F a0 4 = .ref x3 ∧ T x3 = some (9, 3) ∧ ∃ x6 : Nat, F x3 0 = .ref x6 ∧ T x6 = some (2, 3) ∧ (v_Jx4a65c_size_8abf5 x6 T F (fun (r8 : Int32) => (v_X9_is p1 0 (r8 - 1) T F (fun (r9 : Int32) => ((r9 = 0 ∨ r9 = 1) ∧ Post r9))))))
set_option maxRecDepth 100000 in
set_option maxHeartbeats 4000000 in
theorem k_X9_isBooking {l : Launch} {D : va_G} {cA : Nat → ClassId} {N0 zE : Nat} {a0 : Nat} {p1 : Int32} {T : zT} {F : zF} {Post : Int32 → Prop} (h : v_X9_isBooking a0 p1 T F Post) : z_Mt l D cA N0 zE yX9_isBooking cX9_isBooking 2 (some .boolean) ({ frames := 1, cells := 0, slots := 0, locals := 22 } : Room) [.ref a0, .int p1] T F (fun v T' F' => ∃ r : Int32, v = some (.int r) ∧ T = T' ∧ F = F' ∧ Post r) := by
  unfold v_X9_isBooking at h
  refine z_bodyT (by decide) (Nat.le_of_ble_eq_true rfl) ?_
  intro p e s m args below meth c C hnm
  have C : z_C p l s m args meth c RX9 cX9_isBooking 2 (some .boolean) D cA N0 zE := C
  show z_w p l e ({ frames := 1, cells := 0, slots := 0, locals := 22 } : Room) s m args below meth c D cA N0 2 0 0 (MQ below (z_Qc D cA N0 (fun v T' F' => ∃ r : Int32, v = some (.int r) ∧ T = T' ∧ F = F' ∧ Post r)) args s 0 0 (fun q => N0 ≤ q)) 0 [(0, .ref a0), (1, .int p1)] [] T F
  refine zr_iload_n C 1 dX9_isBooking_0 rfl rfl ?_
  refine zr_iconst C 0 dX9_isBooking_1 (by decide) ?_
  refine zr_aload_n C 0 dX9_isBooking_2 rfl rfl ?_
  obtain ⟨hT1, x3, hv2, h⟩ := h
  refine zr_get C fl_X9_29 hT1 hv2 dX9_isBooking_3 ?_
  obtain ⟨hT4, x6, hv5, h⟩ := h
  refine zr_get C fl_X9_45 hT4 hv5 dX9_isBooking_6 ?_
  obtain ⟨hT7, h⟩ := h
  refine zr_callV (As := []) (r := (RJx4a65c, TJx4a65c, 3)) C (k_Jx4a65c_size_8abf5 h) ok_X9_37 zq_140 zq_141 hT7 (by decide) rfl rfl ⟨by decide, (Nat.le_of_ble_eq_true rfl)⟩ ⟨(Nat.le_of_ble_eq_true rfl), (Nat.le_of_ble_eq_true rfl)⟩ (Nat.le_of_ble_eq_true rfl) dX9_isBooking_9 (fun v13 U14 G15 hq => ?_)
  clear h
  · obtain ⟨r8, rfl, rfl, rfl, h⟩ := hq
    refine zr_iconst C 1 dX9_isBooking_12 (by decide) ?_
    refine zr_isub C dX9_isBooking_13 ?_
    refine zr_callS (As := [.int p1, .int 0, .int (r8 - 1)]) C (k_X9_is h) ok_X9_41 zq_1022 rfl ⟨by decide, (Nat.le_of_ble_eq_true rfl)⟩ ⟨(Nat.le_of_ble_eq_true rfl), (Nat.le_of_ble_eq_true rfl)⟩ (Nat.le_of_ble_eq_true rfl) dX9_isBooking_14 (fun v10 U11 G12 hq => ?_)
    clear h
    · obtain ⟨r9, rfl, rfl, rfl, h⟩ := hq
      obtain ⟨hb, h⟩ := h
      exact zr_zret C rfl hb ⟨_, rfl, rfl, rfl, h⟩ (Nat.le_of_ble_eq_true rfl) (Nat.le_of_ble_eq_true rfl) dX9_isBooking_17
theorem dX9_cancel_0 : decode cX9_cancel 0 = .ok (.aload_n 0, 1) := by decide +kernel
theorem dX9_cancel_1 : decode cX9_cancel 1 = .ok (.iconst 0, 1) := by decide +kernel
theorem dX9_cancel_2 : decode cX9_cancel 2 = .ok (.putfield 33, 3) := by decide +kernel
theorem dX9_cancel_5 : decode cX9_cancel 5 = .ok (.aload_n 0, 1) := by decide +kernel
theorem dX9_cancel_6 : decode cX9_cancel 6 = .ok (.iload_n 1, 1) := by decide +kernel
theorem dX9_cancel_10 : decode cX9_cancel 10 = .ok (.ifCond .ne 9, 3) := by decide +kernel
theorem dX9_cancel_19 : decode cX9_cancel 19 = .ok (.aload_n 0, 1) := by decide +kernel
theorem dX9_cancel_20 : decode cX9_cancel 20 = .ok (.getfield 29, 3) := by decide +kernel
theorem dX9_cancel_23 : decode cX9_cancel 23 = .ok (.getfield 45, 3) := by decide +kernel
theorem dX9_cancel_26 : decode cX9_cancel 26 = .ok (.iload_n 1, 1) := by decide +kernel
theorem dX9_cancel_13 : decode cX9_cancel 13 = .ok (.aload_n 0, 1) := by decide +kernel
theorem dX9_cancel_14 : decode cX9_cancel 14 = .ok (.iconst 1, 1) := by decide +kernel
theorem dX9_cancel_18 : decode cX9_cancel 18 = .ok (.ireturn, 1) := by decide +kernel
theorem dX9_cancel_15 : decode cX9_cancel 15 = .ok (.invokevirtual 48, 3) := by decide +kernel
theorem dX9_cancel_7 : decode cX9_cancel 7 = .ok (.invokevirtual 188, 3) := by decide +kernel
def v_X9_cancel (a0 : Nat) (p1 : Int32) (T : zT) (F : zF) (Post : Int32 → zF → Prop) : Prop :=
  (T a0 = some (12, 6) ∧ (v_X9_isBooking a0 p1 T (zu F a0 0 (.int 0)) (fun (r2 : Int32) => ((¬ r2 = 0 → (∃ x4 : Nat, (zu F a0 0 (.int 0)) a0 4 = .ref x4 ∧ T x4 = some (9, 3) ∧ ∃ x7 : Nat, (zu F a0 0 (.int 0)) x4 0 = .ref x7 ∧ False)) ∧ (r2 = 0 → (v_X9_refuse a0 1 T (zu F a0 0 (.int 0)) (fun (r8 : Int32) (F9 : zF) => Post r8 F9)))))))
set_option maxRecDepth 100000 in
set_option maxHeartbeats 4000000 in
theorem k_X9_cancel {l : Launch} {D : va_G} {cA : Nat → ClassId} {N0 zE : Nat} {a0 : Nat} {p1 : Int32} {T : zT} {F : zF} {Post : Int32 → zF → Prop} (h : v_X9_cancel a0 p1 T F Post) : z_Mt l D cA N0 zE yX9_cancel cX9_cancel 3 (some .int) ({ frames := 2, cells := 0, slots := 0, locals := 43 } : Room) [.ref a0, .int p1] T F (fun v T' F' => ∃ r : Int32, v = some (.int r) ∧ T = T' ∧ Post r F') := by
  unfold v_X9_cancel at h
  refine z_bodyT (by decide) (Nat.le_of_ble_eq_true rfl) ?_
  intro p e s m args below meth c C hnm
  have C : z_C p l s m args meth c RX9 cX9_cancel 3 (some .int) D cA N0 zE := C
  show z_w p l e ({ frames := 2, cells := 0, slots := 0, locals := 43 } : Room) s m args below meth c D cA N0 3 0 0 (MQ below (z_Qc D cA N0 (fun v T' F' => ∃ r : Int32, v = some (.int r) ∧ T = T' ∧ Post r F')) args s 0 0 (fun q => N0 ≤ q)) 0 [(0, .ref a0), (1, .int p1)] [] T F
  refine zr_aload_n C 0 dX9_cancel_0 rfl rfl ?_
  refine zr_iconst C 0 dX9_cancel_1 (by decide) ?_
  obtain ⟨hT1, h⟩ := h
  refine zr_put C fl_X9_33 hT1 rfl rfl dX9_cancel_2 ?_
  refine zr_aload_n C 0 dX9_cancel_5 rfl rfl ?_
  refine zr_iload_n C 1 dX9_cancel_6 rfl rfl ?_
  refine zr_callV (As := [.int p1]) (r := (RX9, TX9, 6)) C (k_X9_isBooking h) ok_X9_188 zq_1435 zq_22 hT1 (by decide) rfl rfl ⟨by decide, (Nat.le_of_ble_eq_true rfl)⟩ ⟨(Nat.le_of_ble_eq_true rfl), (Nat.le_of_ble_eq_true rfl)⟩ (Nat.le_of_ble_eq_true rfl) dX9_cancel_7 (fun v13 U14 G15 hq => ?_)
  clear h
  · obtain ⟨r2, rfl, rfl, rfl, h⟩ := hq
    obtain ⟨h1, h2⟩ := h
    refine zr_if_ne C 19 dX9_cancel_10 (by decide) (fun hc => ?_) (fun hc => ?_)
    · have h := h1 hc
      clear h1 h2
      refine zr_aload_n C 0 dX9_cancel_19 rfl rfl ?_
      obtain ⟨x4, hv3, h⟩ := h
      refine zr_get C fl_X9_29 hT1 hv3 dX9_cancel_20 ?_
      obtain ⟨hT5, x7, hv6, h⟩ := h
      refine zr_get C fl_X9_45 hT5 hv6 dX9_cancel_23 ?_
      refine zr_iload_n C 1 dX9_cancel_26 rfl rfl ?_
      exact h.elim
    · have h := h2 hc
      clear h1 h2
      refine zr_aload_n C 0 dX9_cancel_13 rfl rfl ?_
      refine zr_iconst C 1 dX9_cancel_14 (by decide) ?_
      refine zr_callV (As := [.int 1]) (r := (RX9, TX9, 6)) C (k_X9_refuse h) ok_X9_48 zq_985 zq_16 hT1 (by decide) rfl rfl ⟨by decide, (Nat.le_of_ble_eq_true rfl)⟩ ⟨(Nat.le_of_ble_eq_true rfl), (Nat.le_of_ble_eq_true rfl)⟩ (Nat.le_of_ble_eq_true rfl) dX9_cancel_15 (fun v10 U11 G12 hq => ?_)
      clear h
      · obtain ⟨r8, rfl, rfl, h⟩ := hq
        exact zr_iret C rfl ⟨_, rfl, rfl, h⟩ (Nat.le_of_ble_eq_true rfl) (Nat.le_of_ble_eq_true rfl) dX9_cancel_18
theorem dX9_swap_0 : decode cX9_swap 0 = .ok (.aload_n 0, 1) := by decide +kernel
theorem dX9_swap_1 : decode cX9_swap 1 = .ok (.iconst 0, 1) := by decide +kernel
theorem dX9_swap_2 : decode cX9_swap 2 = .ok (.putfield 33, 3) := by decide +kernel
theorem dX9_swap_5 : decode cX9_swap 5 = .ok (.aload_n 0, 1) := by decide +kernel
theorem dX9_swap_6 : decode cX9_swap 6 = .ok (.iload_n 1, 1) := by decide +kernel
theorem dX9_swap_10 : decode cX9_swap 10 = .ok (.ifCond .eq 11, 3) := by decide +kernel
theorem dX9_swap_21 : decode cX9_swap 21 = .ok (.aload_n 0, 1) := by decide +kernel
theorem dX9_swap_22 : decode cX9_swap 22 = .ok (.iconst 1, 1) := by decide +kernel
theorem dX9_swap_26 : decode cX9_swap 26 = .ok (.ireturn, 1) := by decide +kernel
theorem dX9_swap_23 : decode cX9_swap 23 = .ok (.invokevirtual 48, 3) := by decide +kernel
theorem dX9_swap_13 : decode cX9_swap 13 = .ok (.aload_n 0, 1) := by decide +kernel
theorem dX9_swap_14 : decode cX9_swap 14 = .ok (.iload_n 2, 1) := by decide +kernel
theorem dX9_swap_18 : decode cX9_swap 18 = .ok (.ifCond .ne 9, 3) := by decide +kernel
theorem dX9_swap_27 : decode cX9_swap 27 = .ok (.aload_n 0, 1) := by decide +kernel
theorem dX9_swap_28 : decode cX9_swap 28 = .ok (.getfield 29, 3) := by decide +kernel
theorem dX9_swap_31 : decode cX9_swap 31 = .ok (.getfield 45, 3) := by decide +kernel
theorem dX9_swap_34 : decode cX9_swap 34 = .ok (.iload_n 1, 1) := by decide +kernel
theorem dX9_swap_15 : decode cX9_swap 15 = .ok (.invokevirtual 119, 3) := by decide +kernel
theorem dX9_swap_7 : decode cX9_swap 7 = .ok (.invokevirtual 188, 3) := by decide +kernel
def v_X9_swap (a0 : Nat) (p1 : Int32) (p2 : Int32) (T : zT) (F : zF) (Post : Int32 → zF → Prop) : Prop :=
  (T a0 = some (12, 6) ∧ (v_X9_isBooking a0 p1 T (zu F a0 0 (.int 0)) (fun (r2 : Int32) => ((r2 = 0 → (v_X9_refuse a0 1 T (zu F a0 0 (.int 0)) (fun (r3 : Int32) (F4 : zF) => Post r3 F4))) ∧ (¬ r2 = 0 → (v_X9_isPiece a0 p2 T (zu F a0 0 (.int 0)) (fun (r8 : Int32) => ((¬ r8 = 0 → (∃ x10 : Nat, (zu F a0 0 (.int 0)) a0 4 = .ref x10 ∧ T x10 = some (9, 3) ∧ ∃ x13 : Nat, (zu F a0 0 (.int 0)) x10 0 = .ref x13 ∧ False)) ∧ (r8 = 0 → (v_X9_refuse a0 1 T (zu F a0 0 (.int 0)) (fun (r14 : Int32) (F15 : zF) => Post r14 F15)))))))))))
set_option maxRecDepth 100000 in
set_option maxHeartbeats 4000000 in
theorem k_X9_swap {l : Launch} {D : va_G} {cA : Nat → ClassId} {N0 zE : Nat} {a0 : Nat} {p1 : Int32} {p2 : Int32} {T : zT} {F : zF} {Post : Int32 → zF → Prop} (h : v_X9_swap a0 p1 p2 T F Post) : z_Mt l D cA N0 zE yX9_swap cX9_swap 5 (some .int) ({ frames := 2, cells := 0, slots := 0, locals := 43 } : Room) [.ref a0, .int p1, .int p2] T F (fun v T' F' => ∃ r : Int32, v = some (.int r) ∧ T = T' ∧ Post r F') := by
  unfold v_X9_swap at h
  refine z_bodyT (by decide) (Nat.le_of_ble_eq_true rfl) ?_
  intro p e s m args below meth c C hnm
  have C : z_C p l s m args meth c RX9 cX9_swap 5 (some .int) D cA N0 zE := C
  show z_w p l e ({ frames := 2, cells := 0, slots := 0, locals := 43 } : Room) s m args below meth c D cA N0 5 0 0 (MQ below (z_Qc D cA N0 (fun v T' F' => ∃ r : Int32, v = some (.int r) ∧ T = T' ∧ Post r F')) args s 0 0 (fun q => N0 ≤ q)) 0 [(0, .ref a0), (1, .int p1), (2, .int p2)] [] T F
  refine zr_aload_n C 0 dX9_swap_0 rfl rfl ?_
  refine zr_iconst C 0 dX9_swap_1 (by decide) ?_
  obtain ⟨hT1, h⟩ := h
  refine zr_put C fl_X9_33 hT1 rfl rfl dX9_swap_2 ?_
  refine zr_aload_n C 0 dX9_swap_5 rfl rfl ?_
  refine zr_iload_n C 1 dX9_swap_6 rfl rfl ?_
  refine zr_callV (As := [.int p1]) (r := (RX9, TX9, 6)) C (k_X9_isBooking h) ok_X9_188 zq_1435 zq_22 hT1 (by decide) rfl rfl ⟨by decide, (Nat.le_of_ble_eq_true rfl)⟩ ⟨(Nat.le_of_ble_eq_true rfl), (Nat.le_of_ble_eq_true rfl)⟩ (Nat.le_of_ble_eq_true rfl) dX9_swap_7 (fun v22 U23 G24 hq => ?_)
  clear h
  · obtain ⟨r2, rfl, rfl, rfl, h⟩ := hq
    obtain ⟨h1, h2⟩ := h
    refine zr_if_eq C 21 dX9_swap_10 (by decide) (fun hc => ?_) (fun hc => ?_)
    · have h := h1 hc
      clear h1 h2
      refine zr_aload_n C 0 dX9_swap_21 rfl rfl ?_
      refine zr_iconst C 1 dX9_swap_22 (by decide) ?_
      refine zr_callV (As := [.int 1]) (r := (RX9, TX9, 6)) C (k_X9_refuse h) ok_X9_48 zq_985 zq_16 hT1 (by decide) rfl rfl ⟨by decide, (Nat.le_of_ble_eq_true rfl)⟩ ⟨(Nat.le_of_ble_eq_true rfl), (Nat.le_of_ble_eq_true rfl)⟩ (Nat.le_of_ble_eq_true rfl) dX9_swap_23 (fun v5 U6 G7 hq => ?_)
      clear h
      · obtain ⟨r3, rfl, rfl, h⟩ := hq
        exact zr_iret C rfl ⟨_, rfl, rfl, h⟩ (Nat.le_of_ble_eq_true rfl) (Nat.le_of_ble_eq_true rfl) dX9_swap_26
    · have h := h2 hc
      clear h1 h2
      refine zr_aload_n C 0 dX9_swap_13 rfl rfl ?_
      refine zr_iload_n C 2 dX9_swap_14 rfl rfl ?_
      refine zr_callV (As := [.int p2]) (r := (RX9, TX9, 6)) C (k_X9_isPiece h) ok_X9_119 zq_1127 zq_18 hT1 (by decide) rfl rfl ⟨by decide, (Nat.le_of_ble_eq_true rfl)⟩ ⟨(Nat.le_of_ble_eq_true rfl), (Nat.le_of_ble_eq_true rfl)⟩ (Nat.le_of_ble_eq_true rfl) dX9_swap_15 (fun v19 U20 G21 hq => ?_)
      clear h
      · obtain ⟨r8, rfl, rfl, rfl, h⟩ := hq
        obtain ⟨h1, h2⟩ := h
        refine zr_if_ne C 27 dX9_swap_18 (by decide) (fun hc => ?_) (fun hc => ?_)
        · have h := h1 hc
          clear h1 h2
          refine zr_aload_n C 0 dX9_swap_27 rfl rfl ?_
          obtain ⟨x10, hv9, h⟩ := h
          refine zr_get C fl_X9_29 hT1 hv9 dX9_swap_28 ?_
          obtain ⟨hT11, x13, hv12, h⟩ := h
          refine zr_get C fl_X9_45 hT11 hv12 dX9_swap_31 ?_
          refine zr_iload_n C 1 dX9_swap_34 rfl rfl ?_
          exact h.elim
        · have h := h2 hc
          clear h1 h2
          refine zr_aload_n C 0 dX9_swap_21 rfl rfl ?_
          refine zr_iconst C 1 dX9_swap_22 (by decide) ?_
          refine zr_callV (As := [.int 1]) (r := (RX9, TX9, 6)) C (k_X9_refuse h) ok_X9_48 zq_985 zq_16 hT1 (by decide) rfl rfl ⟨by decide, (Nat.le_of_ble_eq_true rfl)⟩ ⟨(Nat.le_of_ble_eq_true rfl), (Nat.le_of_ble_eq_true rfl)⟩ (Nat.le_of_ble_eq_true rfl) dX9_swap_23 (fun v16 U17 G18 hq => ?_)
          clear h
          · obtain ⟨r14, rfl, rfl, h⟩ := hq
            exact zr_iret C rfl ⟨_, rfl, rfl, h⟩ (Nat.le_of_ble_eq_true rfl) (Nat.le_of_ble_eq_true rfl) dX9_swap_26
theorem dX9_ofBooking_0 : decode cX9_ofBooking 0 = .ok (.aload_n 0, 1) := by decide +kernel
theorem dX9_ofBooking_1 : decode cX9_ofBooking 1 = .ok (.iconst 0, 1) := by decide +kernel
theorem dX9_ofBooking_2 : decode cX9_ofBooking 2 = .ok (.putfield 33, 3) := by decide +kernel
theorem dX9_ofBooking_5 : decode cX9_ofBooking 5 = .ok (.aload_n 0, 1) := by decide +kernel
theorem dX9_ofBooking_6 : decode cX9_ofBooking 6 = .ok (.iload_n 1, 1) := by decide +kernel
theorem dX9_ofBooking_10 : decode cX9_ofBooking 10 = .ok (.ifCond .ne 9, 3) := by decide +kernel
theorem dX9_ofBooking_19 : decode cX9_ofBooking 19 = .ok (.iload_n 2, 1) := by decide +kernel
theorem dX9_ofBooking_20 : decode cX9_ofBooking 20 = .ok (.iconst 0, 1) := by decide +kernel
theorem dX9_ofBooking_21 : decode cX9_ofBooking 21 = .ok (.bipush 11, 2) := by decide +kernel
theorem dX9_ofBooking_26 : decode cX9_ofBooking 26 = .ok (.ifCond .eq 24, 3) := by decide +kernel
theorem dX9_ofBooking_50 : decode cX9_ofBooking 50 = .ok (.aload_n 0, 1) := by decide +kernel
theorem dX9_ofBooking_51 : decode cX9_ofBooking 51 = .ok (.iconst 2, 1) := by decide +kernel
theorem dX9_ofBooking_55 : decode cX9_ofBooking 55 = .ok (.ireturn, 1) := by decide +kernel
theorem dX9_ofBooking_52 : decode cX9_ofBooking 52 = .ok (.invokevirtual 48, 3) := by decide +kernel
theorem dX9_ofBooking_29 : decode cX9_ofBooking 29 = .ok (.aload_n 0, 1) := by decide +kernel
theorem dX9_ofBooking_30 : decode cX9_ofBooking 30 = .ok (.getfield 29, 3) := by decide +kernel
theorem dX9_ofBooking_33 : decode cX9_ofBooking 33 = .ok (.getfield 45, 3) := by decide +kernel
theorem dX9_ofBooking_36 : decode cX9_ofBooking 36 = .ok (.iload_n 1, 1) := by decide +kernel
theorem dX9_ofBooking_23 : decode cX9_ofBooking 23 = .ok (.invokestatic 41, 3) := by decide +kernel
theorem dX9_ofBooking_13 : decode cX9_ofBooking 13 = .ok (.aload_n 0, 1) := by decide +kernel
theorem dX9_ofBooking_14 : decode cX9_ofBooking 14 = .ok (.iconst 1, 1) := by decide +kernel
theorem dX9_ofBooking_18 : decode cX9_ofBooking 18 = .ok (.ireturn, 1) := by decide +kernel
theorem dX9_ofBooking_15 : decode cX9_ofBooking 15 = .ok (.invokevirtual 48, 3) := by decide +kernel
theorem dX9_ofBooking_7 : decode cX9_ofBooking 7 = .ok (.invokevirtual 188, 3) := by decide +kernel
def v_X9_ofBooking (a0 : Nat) (p1 : Int32) (p2 : Int32) (T : zT) (F : zF) (Post : Int32 → zF → Prop) : Prop :=
  (T a0 = some (12, 6) ∧ (v_X9_isBooking a0 p1 T (zu F a0 0 (.int 0)) (fun (r2 : Int32) => ((¬ r2 = 0 → (v_X9_is p2 0 11 T (zu F a0 0 (.int 0)) (fun (r3 : Int32) => ((r3 = 0 → (v_X9_refuse a0 2 T (zu F a0 0 (.int 0)) (fun (r4 : Int32) (F5 : zF) => Post r4 F5))) ∧ (¬ r3 = 0 → (∃ x10 : Nat, (zu F a0 0 (.int 0)) a0 4 = .ref x10 ∧ T x10 = some (9, 3) ∧ ∃ x13 : Nat, (zu F a0 0 (.int 0)) x10 0 = .ref x13 ∧ False)))))) ∧ (r2 = 0 → (v_X9_refuse a0 1 T (zu F a0 0 (.int 0)) (fun (r17 : Int32) (F18 : zF) => Post r17 F18)))))))
set_option maxRecDepth 100000 in
set_option maxHeartbeats 4000000 in
theorem k_X9_ofBooking {l : Launch} {D : va_G} {cA : Nat → ClassId} {N0 zE : Nat} {a0 : Nat} {p1 : Int32} {p2 : Int32} {T : zT} {F : zF} {Post : Int32 → zF → Prop} (h : v_X9_ofBooking a0 p1 p2 T F Post) : z_Mt l D cA N0 zE yX9_ofBooking cX9_ofBooking 3 (some .int) ({ frames := 2, cells := 0, slots := 0, locals := 43 } : Room) [.ref a0, .int p1, .int p2] T F (fun v T' F' => ∃ r : Int32, v = some (.int r) ∧ T = T' ∧ Post r F') := by
  unfold v_X9_ofBooking at h
  refine z_bodyT (by decide) (Nat.le_of_ble_eq_true rfl) ?_
  intro p e s m args below meth c C hnm
  have C : z_C p l s m args meth c RX9 cX9_ofBooking 3 (some .int) D cA N0 zE := C
  show z_w p l e ({ frames := 2, cells := 0, slots := 0, locals := 43 } : Room) s m args below meth c D cA N0 3 0 0 (MQ below (z_Qc D cA N0 (fun v T' F' => ∃ r : Int32, v = some (.int r) ∧ T = T' ∧ Post r F')) args s 0 0 (fun q => N0 ≤ q)) 0 [(0, .ref a0), (1, .int p1), (2, .int p2)] [] T F
  refine zr_aload_n C 0 dX9_ofBooking_0 rfl rfl ?_
  refine zr_iconst C 0 dX9_ofBooking_1 (by decide) ?_
  obtain ⟨hT1, h⟩ := h
  refine zr_put C fl_X9_33 hT1 rfl rfl dX9_ofBooking_2 ?_
  refine zr_aload_n C 0 dX9_ofBooking_5 rfl rfl ?_
  refine zr_iload_n C 1 dX9_ofBooking_6 rfl rfl ?_
  refine zr_callV (As := [.int p1]) (r := (RX9, TX9, 6)) C (k_X9_isBooking h) ok_X9_188 zq_1435 zq_22 hT1 (by decide) rfl rfl ⟨by decide, (Nat.le_of_ble_eq_true rfl)⟩ ⟨(Nat.le_of_ble_eq_true rfl), (Nat.le_of_ble_eq_true rfl)⟩ (Nat.le_of_ble_eq_true rfl) dX9_ofBooking_7 (fun v22 U23 G24 hq => ?_)
  clear h
  · obtain ⟨r2, rfl, rfl, rfl, h⟩ := hq
    obtain ⟨h1, h2⟩ := h
    refine zr_if_ne C 19 dX9_ofBooking_10 (by decide) (fun hc => ?_) (fun hc => ?_)
    · have h := h1 hc
      clear h1 h2
      refine zr_iload_n C 2 dX9_ofBooking_19 rfl rfl ?_
      refine zr_iconst C 0 dX9_ofBooking_20 (by decide) ?_
      refine zr_bipush C 11 dX9_ofBooking_21 (by decide) ?_
      refine zr_callS (As := [.int p2, .int 0, .int 11]) C (k_X9_is h) ok_X9_41 zq_1022 rfl ⟨by decide, (Nat.le_of_ble_eq_true rfl)⟩ ⟨(Nat.le_of_ble_eq_true rfl), (Nat.le_of_ble_eq_true rfl)⟩ (Nat.le_of_ble_eq_true rfl) dX9_ofBooking_23 (fun v14 U15 G16 hq => ?_)
      clear h
      · obtain ⟨r3, rfl, rfl, rfl, h⟩ := hq
        obtain ⟨h1, h2⟩ := h
        refine zr_if_eq C 50 dX9_ofBooking_26 (by decide) (fun hc => ?_) (fun hc => ?_)
        · have h := h1 hc
          clear h1 h2
          refine zr_aload_n C 0 dX9_ofBooking_50 rfl rfl ?_
          refine zr_iconst C 2 dX9_ofBooking_51 (by decide) ?_
          refine zr_callV (As := [.int 2]) (r := (RX9, TX9, 6)) C (k_X9_refuse h) ok_X9_48 zq_985 zq_16 hT1 (by decide) rfl rfl ⟨by decide, (Nat.le_of_ble_eq_true rfl)⟩ ⟨(Nat.le_of_ble_eq_true rfl), (Nat.le_of_ble_eq_true rfl)⟩ (Nat.le_of_ble_eq_true rfl) dX9_ofBooking_52 (fun v6 U7 G8 hq => ?_)
          clear h
          · obtain ⟨r4, rfl, rfl, h⟩ := hq
            exact zr_iret C rfl ⟨_, rfl, rfl, h⟩ (Nat.le_of_ble_eq_true rfl) (Nat.le_of_ble_eq_true rfl) dX9_ofBooking_55
        · have h := h2 hc
          clear h1 h2
          refine zr_aload_n C 0 dX9_ofBooking_29 rfl rfl ?_
          obtain ⟨x10, hv9, h⟩ := h
          refine zr_get C fl_X9_29 hT1 hv9 dX9_ofBooking_30 ?_
          obtain ⟨hT11, x13, hv12, h⟩ := h
          refine zr_get C fl_X9_45 hT11 hv12 dX9_ofBooking_33 ?_
          refine zr_iload_n C 1 dX9_ofBooking_36 rfl rfl ?_
          exact h.elim
    · have h := h2 hc
      clear h1 h2
      refine zr_aload_n C 0 dX9_ofBooking_13 rfl rfl ?_
      refine zr_iconst C 1 dX9_ofBooking_14 (by decide) ?_
      refine zr_callV (As := [.int 1]) (r := (RX9, TX9, 6)) C (k_X9_refuse h) ok_X9_48 zq_985 zq_16 hT1 (by decide) rfl rfl ⟨by decide, (Nat.le_of_ble_eq_true rfl)⟩ ⟨(Nat.le_of_ble_eq_true rfl), (Nat.le_of_ble_eq_true rfl)⟩ (Nat.le_of_ble_eq_true rfl) dX9_ofBooking_15 (fun v19 U20 G21 hq => ?_)
      clear h
      · obtain ⟨r17, rfl, rfl, h⟩ := hq
        exact zr_iret C rfl ⟨_, rfl, rfl, h⟩ (Nat.le_of_ble_eq_true rfl) (Nat.le_of_ble_eq_true rfl) dX9_ofBooking_18
theorem dX6_next_0 : decode cX6_next 0 = .ok (.aload_n 0, 1) := by decide +kernel
theorem dX6_next_1 : decode cX6_next 1 = .ok (.dup, 1) := by decide +kernel
theorem dX6_next_2 : decode cX6_next 2 = .ok (.getfield 49, 3) := by decide +kernel
theorem dX6_next_5 : decode cX6_next 5 = .ok (.iconst 1, 1) := by decide +kernel
theorem dX6_next_6 : decode cX6_next 6 = .ok (.iadd, 1) := by decide +kernel
theorem dX6_next_7 : decode cX6_next 7 = .ok (.putfield 49, 3) := by decide +kernel
theorem dX6_next_10 : decode cX6_next 10 = .ok (.iconst 0, 1) := by decide +kernel
theorem dX6_next_11 : decode cX6_next 11 = .ok (.istore_n 1, 1) := by decide +kernel
theorem dX6_next_12 : decode cX6_next 12 = .ok (.aload_n 0, 1) := by decide +kernel
theorem dX6_next_13 : decode cX6_next 13 = .ok (.getfield 18, 3) := by decide +kernel
theorem dX6_next_19 : decode cX6_next 19 = .ok (.astore_n 2, 1) := by decide +kernel
theorem dX6_next_20 : decode cX6_next 20 = .ok (.aload_n 2, 1) := by decide +kernel
theorem dX6_next_26 : decode cX6_next 26 = .ok (.ifCond .eq 47, 3) := by decide +kernel
theorem dX6_next_73 : decode cX6_next 73 = .ok (.aload_n 0, 1) := by decide +kernel
theorem dX6_next_74 : decode cX6_next 74 = .ok (.getfield 18, 3) := by decide +kernel
theorem dX6_next_80 : decode cX6_next 80 = .ok (.astore_n 2, 1) := by decide +kernel
theorem dX6_next_81 : decode cX6_next 81 = .ok (.aload_n 2, 1) := by decide +kernel
theorem dX6_next_87 : decode cX6_next 87 = .ok (.ifCond .eq 101, 3) := by decide +kernel
theorem dX6_next_188 : decode cX6_next 188 = .ok (.aload_n 0, 1) := by decide +kernel
theorem dX6_next_189 : decode cX6_next 189 = .ok (.getfield 18, 3) := by decide +kernel
theorem dX6_next_195 : decode cX6_next 195 = .ok (.astore_n 2, 1) := by decide +kernel
theorem dX6_next_196 : decode cX6_next 196 = .ok (.aload_n 2, 1) := by decide +kernel
theorem dX6_next_202 : decode cX6_next 202 = .ok (.ifCond .eq 88, 3) := by decide +kernel
theorem dX6_next_290 : decode cX6_next 290 = .ok (.iload_n 1, 1) := by decide +kernel
theorem dX6_next_291 : decode cX6_next 291 = .ok (.ireturn, 1) := by decide +kernel
theorem dX6_next_205 : decode cX6_next 205 = .ok (.aload_n 2, 1) := by decide +kernel
theorem dX6_next_197 : decode cX6_next 197 = .ok (.invokeinterface 29 1, 5) := by decide +kernel
theorem dX6_next_192 : decode cX6_next 192 = .ok (.invokevirtual 25, 3) := by decide +kernel
theorem dX6_next_90 : decode cX6_next 90 = .ok (.aload_n 2, 1) := by decide +kernel
theorem dX6_next_82 : decode cX6_next 82 = .ok (.invokeinterface 29 1, 5) := by decide +kernel
theorem dX6_next_77 : decode cX6_next 77 = .ok (.invokevirtual 25, 3) := by decide +kernel
theorem dX6_next_29 : decode cX6_next 29 = .ok (.aload_n 2, 1) := by decide +kernel
theorem dX6_next_21 : decode cX6_next 21 = .ok (.invokeinterface 29 1, 5) := by decide +kernel
theorem dX6_next_16 : decode cX6_next 16 = .ok (.invokevirtual 25, 3) := by decide +kernel
def v_X6_next (a0 : Nat) (T : zT) (F : zF) (Post : Int32 → zT → zF → Prop) : Prop :=
  (T a0 = some (9, 3) ∧ ∃ x3 : Int32, F a0 1 = .int x3 ∧ ∃ x5 : Nat, (zu F a0 1 (.int (x3 + 1))) a0 0 = .ref x5 ∧ T x5 = some (2, 3) ∧ (v_Jx4a65c_iterator_32c93 x5 T (zu F a0 1 (.int (x3 + 1))) (fun (r7 : Nat) (T8 : zT) (F9 : zF) => (T8 r7 = some (1, 4) ∧ (v_Jx35411_hasNext_aae02 r7 T8 F9 (fun (r11 : Int32) => ((r11 = 0 → (T8 a0 = some (9, 3) ∧ ∃ x14 : Nat, F9 a0 0 = .ref x14 ∧ T8 x14 = some (2, 3) ∧ (v_Jx4a65c_iterator_32c93 x14 T8 F9 (fun (r16 : Nat) (T17 : zT) (F18 : zF) => (T17 r16 = some (1, 4) ∧ (v_Jx35411_hasNext_aae02 r16 T17 F18 (fun (r20 : Int32) => ((r20 = 0 → (T17 a0 = some (9, 3) ∧ ∃ x23 : Nat, F18 a0 0 = .ref x23 ∧ T17 x23 = some (2, 3) ∧ (v_Jx4a65c_iterator_32c93 x23 T17 F18 (fun (r25 : Nat) (T26 : zT) (F27 : zF) => (T26 r25 = some (1, 4) ∧ (v_Jx35411_hasNext_aae02 r25 T26 F27 (fun (r29 : Int32) => ((r29 = 0 → Post 0 T26 F27) ∧ (¬ r29 = 0 → False))))))))) ∧ (¬ r20 = 0 → False))))))))) ∧ (¬ r11 = 0 → False))))))))
set_option maxRecDepth 100000 in
set_option maxHeartbeats 4000000 in
theorem k_X6_next {l : Launch} {D : va_G} {cA : Nat → ClassId} {N0 zE : Nat} {a0 : Nat} {T : zT} {F : zF} {Post : Int32 → zT → zF → Prop} (h : v_X6_next a0 T F Post) : z_Mt l D cA N0 zE yX6_next cX6_next 4 (some .int) ({ frames := 3, cells := 3, slots := 12, locals := 61 } : Room) [.ref a0] T F (fun v T' F' => ∃ r : Int32, v = some (.int r) ∧ Post r T' F') := by
  unfold v_X6_next at h
  refine z_bodyT (by decide) (Nat.le_of_ble_eq_true rfl) ?_
  intro p e s m args below meth c C hnm
  have C : z_C p l s m args meth c RX6 cX6_next 4 (some .int) D cA N0 zE := C
  show z_w p l e ({ frames := 3, cells := 3, slots := 12, locals := 61 } : Room) s m args below meth c D cA N0 4 0 0 (MQ below (z_Qc D cA N0 (fun v T' F' => ∃ r : Int32, v = some (.int r) ∧ Post r T' F')) args s 3 12 (fun q => N0 ≤ q)) 0 [(0, .ref a0)] [] T F
  refine zr_aload_n C 0 dX6_next_0 rfl rfl ?_
  refine zr_dup C dX6_next_1 rfl ?_
  obtain ⟨hT1, x3, hv2, h⟩ := h
  refine zr_get C fl_X6_49 hT1 hv2 dX6_next_2 ?_
  refine zr_iconst C 1 dX6_next_5 (by decide) ?_
  refine zr_iadd C dX6_next_6 ?_
  refine zr_put C fl_X6_49 hT1 rfl rfl dX6_next_7 ?_
  refine zr_iconst C 0 dX6_next_10 (by decide) ?_
  refine zr_istore_n C [(1, .int 0), (0, .ref a0)] dX6_next_11 rfl (by decide) rfl ?_
  refine zr_aload_n C 1 dX6_next_12 rfl rfl ?_
  obtain ⟨x5, hv4, h⟩ := h
  refine zr_get C fl_X6_18 hT1 hv4 dX6_next_13 ?_
  obtain ⟨hT6, h⟩ := h
  refine zr_callV (As := []) (r := (RJx4a65c, TJx4a65c, 3)) C (k_Jx4a65c_iterator_32c93 h) ok_X6_25 zq_1280 zq_1281 hT6 (by decide) rfl rfl ⟨by decide, (Nat.le_of_ble_eq_true rfl)⟩ ⟨(Nat.le_of_ble_eq_true rfl), (Nat.le_of_ble_eq_true rfl)⟩ (Nat.le_of_ble_eq_true rfl) dX6_next_16 (fun v45 U46 G47 hq => ?_)
  clear h
  · obtain ⟨r7, rfl, h⟩ := hq
    skip
    refine zr_astore_n C [(2, .ref r7), (1, .int 0), (0, .ref a0)] dX6_next_19 rfl (by decide) rfl ?_
    refine zr_aload_n C 0 dX6_next_20 rfl rfl ?_
    obtain ⟨hT10, h⟩ := h
    refine zr_callF (As := []) (r := (RJx35411, TJx35411, 4)) C (k_Jx35411_hasNext_aae02 h) ok_X6_29 hT10 (by decide) rfl rfl ⟨by decide, (Nat.le_of_ble_eq_true rfl)⟩ ⟨(Nat.le_of_ble_eq_true rfl), (Nat.le_of_ble_eq_true rfl)⟩ (Nat.le_of_ble_eq_true rfl) dX6_next_21 (fun v42 U43 G44 hq => ?_)
    clear h
    · obtain ⟨r11, rfl, rfl, rfl, h⟩ := hq
      obtain ⟨h1, h2⟩ := h
      refine zr_if_eq C 73 dX6_next_26 (by decide) (fun hc => ?_) (fun hc => ?_)
      · have h := h1 hc
        clear h1 h2
        refine zr_aload_n C 2 dX6_next_73 rfl rfl ?_
        obtain ⟨hT12, x14, hv13, h⟩ := h
        refine zr_get C fl_X6_18 hT12 hv13 dX6_next_74 ?_
        obtain ⟨hT15, h⟩ := h
        refine zr_callV (As := []) (r := (RJx4a65c, TJx4a65c, 3)) C (k_Jx4a65c_iterator_32c93 h) ok_X6_25 zq_1280 zq_1281 hT15 (by decide) rfl rfl ⟨by decide, (Nat.le_of_ble_eq_true rfl)⟩ ⟨(Nat.le_of_ble_eq_true rfl), (Nat.le_of_ble_eq_true rfl)⟩ (Nat.le_of_ble_eq_true rfl) dX6_next_77 (fun v39 U40 G41 hq => ?_)
        clear h
        · obtain ⟨r16, rfl, h⟩ := hq
          skip
          refine zr_astore_n C [(2, .ref r16), (1, .int 0), (0, .ref a0)] dX6_next_80 rfl (by decide) rfl ?_
          refine zr_aload_n C 0 dX6_next_81 rfl rfl ?_
          obtain ⟨hT19, h⟩ := h
          refine zr_callF (As := []) (r := (RJx35411, TJx35411, 4)) C (k_Jx35411_hasNext_aae02 h) ok_X6_29 hT19 (by decide) rfl rfl ⟨by decide, (Nat.le_of_ble_eq_true rfl)⟩ ⟨(Nat.le_of_ble_eq_true rfl), (Nat.le_of_ble_eq_true rfl)⟩ (Nat.le_of_ble_eq_true rfl) dX6_next_82 (fun v36 U37 G38 hq => ?_)
          clear h
          · obtain ⟨r20, rfl, rfl, rfl, h⟩ := hq
            obtain ⟨h1, h2⟩ := h
            refine zr_if_eq C 188 dX6_next_87 (by decide) (fun hc => ?_) (fun hc => ?_)
            · have h := h1 hc
              clear h1 h2
              refine zr_aload_n C 2 dX6_next_188 rfl rfl ?_
              obtain ⟨hT21, x23, hv22, h⟩ := h
              refine zr_get C fl_X6_18 hT21 hv22 dX6_next_189 ?_
              obtain ⟨hT24, h⟩ := h
              refine zr_callV (As := []) (r := (RJx4a65c, TJx4a65c, 3)) C (k_Jx4a65c_iterator_32c93 h) ok_X6_25 zq_1280 zq_1281 hT24 (by decide) rfl rfl ⟨by decide, (Nat.le_of_ble_eq_true rfl)⟩ ⟨(Nat.le_of_ble_eq_true rfl), (Nat.le_of_ble_eq_true rfl)⟩ (Nat.le_of_ble_eq_true rfl) dX6_next_192 (fun v33 U34 G35 hq => ?_)
              clear h
              · obtain ⟨r25, rfl, h⟩ := hq
                skip
                refine zr_astore_n C [(2, .ref r25), (1, .int 0), (0, .ref a0)] dX6_next_195 rfl (by decide) rfl ?_
                refine zr_aload_n C 0 dX6_next_196 rfl rfl ?_
                obtain ⟨hT28, h⟩ := h
                refine zr_callF (As := []) (r := (RJx35411, TJx35411, 4)) C (k_Jx35411_hasNext_aae02 h) ok_X6_29 hT28 (by decide) rfl rfl ⟨by decide, (Nat.le_of_ble_eq_true rfl)⟩ ⟨(Nat.le_of_ble_eq_true rfl), (Nat.le_of_ble_eq_true rfl)⟩ (Nat.le_of_ble_eq_true rfl) dX6_next_197 (fun v30 U31 G32 hq => ?_)
                clear h
                · obtain ⟨r29, rfl, rfl, rfl, h⟩ := hq
                  obtain ⟨h1, h2⟩ := h
                  refine zr_if_eq C 290 dX6_next_202 (by decide) (fun hc => ?_) (fun hc => ?_)
                  · have h := h1 hc
                    clear h1 h2
                    refine zr_iload_n C 1 dX6_next_290 rfl rfl ?_
                    exact zr_iret C rfl ⟨_, rfl, h⟩ (Nat.le_of_ble_eq_true rfl) (Nat.le_of_ble_eq_true rfl) dX6_next_291
                  · have h := h2 hc
                    clear h1 h2
                    refine zr_aload_n C 0 dX6_next_205 rfl rfl ?_
                    exact h.elim
            · have h := h2 hc
              clear h1 h2
              refine zr_aload_n C 0 dX6_next_90 rfl rfl ?_
              exact h.elim
      · have h := h2 hc
        clear h1 h2
        refine zr_aload_n C 0 dX6_next_29 rfl rfl ?_
        exact h.elim
theorem dX9_day_0 : decode cX9_day 0 = .ok (.aload_n 0, 1) := by decide +kernel
theorem dX9_day_1 : decode cX9_day 1 = .ok (.iconst 0, 1) := by decide +kernel
theorem dX9_day_2 : decode cX9_day 2 = .ok (.putfield 33, 3) := by decide +kernel
theorem dX9_day_5 : decode cX9_day 5 = .ok (.aload_n 0, 1) := by decide +kernel
theorem dX9_day_6 : decode cX9_day 6 = .ok (.getfield 29, 3) := by decide +kernel
theorem dX9_day_9 : decode cX9_day 9 = .ok (.getfield 63, 3) := by decide +kernel
theorem dX9_day_12 : decode cX9_day 12 = .ok (.bipush 99, 2) := by decide +kernel
theorem dX9_day_14 : decode cX9_day 14 = .ok (.if_icmp .ne 11, 3) := by decide +kernel
theorem dX9_day_25 : decode cX9_day 25 = .ok (.aload_n 0, 1) := by decide +kernel
theorem dX9_day_26 : decode cX9_day 26 = .ok (.getfield 29, 3) := by decide +kernel
theorem dX9_day_32 : decode cX9_day 32 = .ok (.ireturn, 1) := by decide +kernel
theorem dX9_day_29 : decode cX9_day 29 = .ok (.invokevirtual 236, 3) := by decide +kernel
theorem dX9_day_17 : decode cX9_day 17 = .ok (.aload_n 0, 1) := by decide +kernel
theorem dX9_day_18 : decode cX9_day 18 = .ok (.iconst 1, 1) := by decide +kernel
theorem dX9_day_22 : decode cX9_day 22 = .ok (.goto 10, 3) := by decide +kernel
theorem dX9_day_19 : decode cX9_day 19 = .ok (.invokevirtual 48, 3) := by decide +kernel
def v_X9_day (a0 : Nat) (T : zT) (F : zF) (Post : Int32 → zT → zF → Prop) : Prop :=
  (T a0 = some (12, 6) ∧ ∃ x3 : Nat, (zu F a0 0 (.int 0)) a0 4 = .ref x3 ∧ T x3 = some (9, 3) ∧ ∃ x6 : Int32, (zu F a0 0 (.int 0)) x3 1 = .int x6 ∧ ((¬ x6 = 99 → (v_X6_next x3 T (zu F a0 0 (.int 0)) (fun (r7 : Int32) (T8 : zT) (F9 : zF) => Post r7 T8 F9))) ∧ (x6 = 99 → (v_X9_refuse a0 1 T (zu F a0 0 (.int 0)) (fun (r13 : Int32) (F14 : zF) => Post r13 T F14)))))
set_option maxRecDepth 100000 in
set_option maxHeartbeats 4000000 in
theorem k_X9_day {l : Launch} {D : va_G} {cA : Nat → ClassId} {N0 zE : Nat} {a0 : Nat} {T : zT} {F : zF} {Post : Int32 → zT → zF → Prop} (h : v_X9_day a0 T F Post) : z_Mt l D cA N0 zE yX9_day cX9_day 1 (some .int) ({ frames := 4, cells := 3, slots := 12, locals := 84 } : Room) [.ref a0] T F (fun v T' F' => ∃ r : Int32, v = some (.int r) ∧ Post r T' F') := by
  unfold v_X9_day at h
  refine z_bodyT (by decide) (Nat.le_of_ble_eq_true rfl) ?_
  intro p e s m args below meth c C hnm
  have C : z_C p l s m args meth c RX9 cX9_day 1 (some .int) D cA N0 zE := C
  show z_w p l e ({ frames := 4, cells := 3, slots := 12, locals := 84 } : Room) s m args below meth c D cA N0 1 0 0 (MQ below (z_Qc D cA N0 (fun v T' F' => ∃ r : Int32, v = some (.int r) ∧ Post r T' F')) args s 3 12 (fun q => N0 ≤ q)) 0 [(0, .ref a0)] [] T F
  refine zr_aload_n C 0 dX9_day_0 rfl rfl ?_
  refine zr_iconst C 0 dX9_day_1 (by decide) ?_
  obtain ⟨hT1, h⟩ := h
  refine zr_put C fl_X9_33 hT1 rfl rfl dX9_day_2 ?_
  refine zr_aload_n C 0 dX9_day_5 rfl rfl ?_
  obtain ⟨x3, hv2, h⟩ := h
  refine zr_get C fl_X9_29 hT1 hv2 dX9_day_6 ?_
  obtain ⟨hT4, x6, hv5, h⟩ := h
  refine zr_get C fl_X9_63 hT4 hv5 dX9_day_9 ?_
  refine zr_bipush C 99 dX9_day_12 (by decide) ?_
  obtain ⟨h1, h2⟩ := h
  refine zr_icmp_ne C 25 dX9_day_14 (by decide) (fun hc => ?_) (fun hc => ?_)
  · have h := h1 hc
    clear h1 h2
    refine zr_aload_n C 0 dX9_day_25 rfl rfl ?_
    refine zr_get C fl_X9_29 hT1 hv2 dX9_day_26 ?_
    refine zr_callV (As := []) (r := (RX6, TX6, 3)) C (k_X6_next h) ok_X9_236 zq_1474 zq_1475 hT4 (by decide) rfl rfl ⟨by decide, (Nat.le_of_ble_eq_true rfl)⟩ ⟨(Nat.le_of_ble_eq_true rfl), (Nat.le_of_ble_eq_true rfl)⟩ (Nat.le_of_ble_eq_true rfl) dX9_day_29 (fun v10 U11 G12 hq => ?_)
    clear h
    · obtain ⟨r7, rfl, h⟩ := hq
      skip
      exact zr_iret C rfl ⟨_, rfl, h⟩ (Nat.le_of_ble_eq_true rfl) (Nat.le_of_ble_eq_true rfl) dX9_day_32
  · have h := h2 hc
    clear h1 h2
    refine zr_aload_n C 0 dX9_day_17 rfl rfl ?_
    refine zr_iconst C 1 dX9_day_18 (by decide) ?_
    refine zr_callV (As := [.int 1]) (r := (RX9, TX9, 6)) C (k_X9_refuse h) ok_X9_48 zq_985 zq_16 hT1 (by decide) rfl rfl ⟨by decide, (Nat.le_of_ble_eq_true rfl)⟩ ⟨(Nat.le_of_ble_eq_true rfl), (Nat.le_of_ble_eq_true rfl)⟩ (Nat.le_of_ble_eq_true rfl) dX9_day_19 (fun v15 U16 G17 hq => ?_)
    clear h
    · obtain ⟨r13, rfl, rfl, h⟩ := hq
      refine zr_goto C 32 dX9_day_22 (by decide) ?_
      exact zr_iret C rfl ⟨_, rfl, h⟩ (Nat.le_of_ble_eq_true rfl) (Nat.le_of_ble_eq_true rfl) dX9_day_32
theorem dX9_atNow_0 : decode cX9_atNow 0 = .ok (.iconst 0, 1) := by decide +kernel
theorem dX9_atNow_1 : decode cX9_atNow 1 = .ok (.istore 4, 2) := by decide +kernel
theorem dX9_atNow_3 : decode cX9_atNow 3 = .ok (.iload 4, 2) := by decide +kernel
theorem dX9_atNow_5 : decode cX9_atNow 5 = .ok (.aload_n 0, 1) := by decide +kernel
theorem dX9_atNow_6 : decode cX9_atNow 6 = .ok (.getfield 29, 3) := by decide +kernel
theorem dX9_atNow_9 : decode cX9_atNow 9 = .ok (.getfield 45, 3) := by decide +kernel
theorem dX9_atNow_15 : decode cX9_atNow 15 = .ok (.if_icmp .ge 73, 3) := by decide +kernel
theorem dX9_atNow_88 : decode cX9_atNow 88 = .ok (.iconst (-1), 1) := by decide +kernel
theorem dX9_atNow_89 : decode cX9_atNow 89 = .ok (.ireturn, 1) := by decide +kernel
theorem dX9_atNow_18 : decode cX9_atNow 18 = .ok (.aload_n 0, 1) := by decide +kernel
theorem dX9_atNow_19 : decode cX9_atNow 19 = .ok (.getfield 29, 3) := by decide +kernel
theorem dX9_atNow_22 : decode cX9_atNow 22 = .ok (.getfield 45, 3) := by decide +kernel
theorem dX9_atNow_25 : decode cX9_atNow 25 = .ok (.iload 4, 2) := by decide +kernel
theorem dX9_atNow_12 : decode cX9_atNow 12 = .ok (.invokevirtual 37, 3) := by decide +kernel
def v_X9_atNow (a0 : Nat) (p1 : Int32) (p2 : Int32) (p3 : Int32) (T : zT) (F : zF) (Post : Int32 → Prop) : Prop :=
  (T a0 = some (12, 6) ∧ ∃ x3 : Nat, F a0 4 = .ref x3 ∧ T x3 = some (9, 3) ∧ ∃ x6 : Nat, F x3 0 = .ref x6 ∧ T x6 = some (2, 3) ∧ (v_Jx4a65c_size_8abf5 x6 T F (fun (r8 : Int32) => ((r8 ≤ (0 : Int32) → Post ((-1))) ∧ (¬ r8 ≤ (0 : Int32) → False)))))
set_option maxRecDepth 100000 in
set_option maxHeartbeats 4000000 in
theorem k_X9_atNow {l : Launch} {D : va_G} {cA : Nat → ClassId} {N0 zE : Nat} {a0 : Nat} {p1 : Int32} {p2 : Int32} {p3 : Int32} {T : zT} {F : zF} {Post : Int32 → Prop} (h : v_X9_atNow a0 p1 p2 p3 T F Post) : z_Mt l D cA N0 zE yX9_atNow cX9_atNow 6 (some .int) ({ frames := 1, cells := 0, slots := 0, locals := 20 } : Room) [.ref a0, .int p1, .int p2, .int p3] T F (fun v T' F' => ∃ r : Int32, v = some (.int r) ∧ T = T' ∧ F = F' ∧ Post r) := by
  unfold v_X9_atNow at h
  refine z_bodyT (by decide) (Nat.le_of_ble_eq_true rfl) ?_
  intro p e s m args below meth c C hnm
  have C : z_C p l s m args meth c RX9 cX9_atNow 6 (some .int) D cA N0 zE := C
  show z_w p l e ({ frames := 1, cells := 0, slots := 0, locals := 20 } : Room) s m args below meth c D cA N0 6 0 0 (MQ below (z_Qc D cA N0 (fun v T' F' => ∃ r : Int32, v = some (.int r) ∧ T = T' ∧ F = F' ∧ Post r)) args s 0 0 (fun q => N0 ≤ q)) 0 [(0, .ref a0), (1, .int p1), (2, .int p2), (3, .int p3)] [] T F
  refine zr_iconst C 0 dX9_atNow_0 (by decide) ?_
  refine zr_istore C [(4, .int 0), (0, .ref a0), (1, .int p1), (2, .int p2), (3, .int p3)] dX9_atNow_1 (by decide) rfl ?_
  refine zr_iload C 0 dX9_atNow_3 rfl ?_
  refine zr_aload_n C 1 dX9_atNow_5 rfl rfl ?_
  obtain ⟨hT1, x3, hv2, h⟩ := h
  refine zr_get C fl_X9_29 hT1 hv2 dX9_atNow_6 ?_
  obtain ⟨hT4, x6, hv5, h⟩ := h
  refine zr_get C fl_X9_45 hT4 hv5 dX9_atNow_9 ?_
  obtain ⟨hT7, h⟩ := h
  refine zr_callV (As := []) (r := (RJx4a65c, TJx4a65c, 3)) C (k_Jx4a65c_size_8abf5 h) ok_X9_37 zq_140 zq_141 hT7 (by decide) rfl rfl ⟨by decide, (Nat.le_of_ble_eq_true rfl)⟩ ⟨(Nat.le_of_ble_eq_true rfl), (Nat.le_of_ble_eq_true rfl)⟩ (Nat.le_of_ble_eq_true rfl) dX9_atNow_12 (fun v9 U10 G11 hq => ?_)
  clear h
  · obtain ⟨r8, rfl, rfl, rfl, h⟩ := hq
    obtain ⟨h1, h2⟩ := h
    refine zr_icmp_ge C 88 dX9_atNow_15 (by decide) (fun hc => ?_) (fun hc => ?_)
    · have h := h1 hc
      clear h1 h2
      refine zr_iconst C (-1) dX9_atNow_88 (by decide) ?_
      exact zr_iret C rfl ⟨_, rfl, rfl, rfl, h⟩ (Nat.le_of_ble_eq_true rfl) (Nat.le_of_ble_eq_true rfl) dX9_atNow_89
    · have h := h2 hc
      clear h1 h2
      refine zr_aload_n C 1 dX9_atNow_18 rfl rfl ?_
      refine zr_get C fl_X9_29 hT1 hv2 dX9_atNow_19 ?_
      refine zr_get C fl_X9_45 hT4 hv5 dX9_atNow_22 ?_
      refine zr_iload C 0 dX9_atNow_25 rfl ?_
      exact h.elim
theorem dX9_at_0 : decode cX9_at 0 = .ok (.aload_n 0, 1) := by decide +kernel
theorem dX9_at_1 : decode cX9_at 1 = .ok (.iconst 0, 1) := by decide +kernel
theorem dX9_at_2 : decode cX9_at 2 = .ok (.putfield 33, 3) := by decide +kernel
theorem dX9_at_5 : decode cX9_at 5 = .ok (.iload_n 1, 1) := by decide +kernel
theorem dX9_at_9 : decode cX9_at 9 = .ok (.ifCond .eq 10, 3) := by decide +kernel
theorem dX9_at_19 : decode cX9_at 19 = .ok (.aload_n 0, 1) := by decide +kernel
theorem dX9_at_20 : decode cX9_at 20 = .ok (.iconst 1, 1) := by decide +kernel
theorem dX9_at_24 : decode cX9_at 24 = .ok (.ireturn, 1) := by decide +kernel
theorem dX9_at_21 : decode cX9_at 21 = .ok (.invokevirtual 48, 3) := by decide +kernel
theorem dX9_at_12 : decode cX9_at 12 = .ok (.iload_n 2, 1) := by decide +kernel
theorem dX9_at_16 : decode cX9_at 16 = .ok (.ifCond .ne 9, 3) := by decide +kernel
theorem dX9_at_25 : decode cX9_at 25 = .ok (.iload_n 3, 1) := by decide +kernel
theorem dX9_at_29 : decode cX9_at 29 = .ok (.ifCond .eq 13, 3) := by decide +kernel
theorem dX9_at_42 : decode cX9_at 42 = .ok (.aload_n 0, 1) := by decide +kernel
theorem dX9_at_43 : decode cX9_at 43 = .ok (.iconst 2, 1) := by decide +kernel
theorem dX9_at_47 : decode cX9_at 47 = .ok (.ireturn, 1) := by decide +kernel
theorem dX9_at_44 : decode cX9_at 44 = .ok (.invokevirtual 48, 3) := by decide +kernel
theorem dX9_at_32 : decode cX9_at 32 = .ok (.aload_n 0, 1) := by decide +kernel
theorem dX9_at_33 : decode cX9_at 33 = .ok (.iload_n 1, 1) := by decide +kernel
theorem dX9_at_34 : decode cX9_at 34 = .ok (.iload_n 2, 1) := by decide +kernel
theorem dX9_at_35 : decode cX9_at 35 = .ok (.iload_n 3, 1) := by decide +kernel
theorem dX9_at_39 : decode cX9_at 39 = .ok (.goto 8, 3) := by decide +kernel
theorem dX9_at_36 : decode cX9_at 36 = .ok (.invokevirtual 238, 3) := by decide +kernel
theorem dX9_at_26 : decode cX9_at 26 = .ok (.invokestatic 92, 3) := by decide +kernel
theorem dX9_at_13 : decode cX9_at 13 = .ok (.invokestatic 171, 3) := by decide +kernel
theorem dX9_at_6 : decode cX9_at 6 = .ok (.invokestatic 107, 3) := by decide +kernel
def v_X9_at (a0 : Nat) (p1 : Int32) (p2 : Int32) (p3 : Int32) (T : zT) (F : zF) (Post : Int32 → zF → Prop) : Prop :=
  (T a0 = some (12, 6) ∧ (v_X9_isLand p1 T (zu F a0 0 (.int 0)) (fun (r2 : Int32) => ((r2 = 0 → (v_X9_refuse a0 1 T (zu F a0 0 (.int 0)) (fun (r3 : Int32) (F4 : zF) => Post r3 F4))) ∧ (¬ r2 = 0 → (v_X9_isMedium p2 T (zu F a0 0 (.int 0)) (fun (r8 : Int32) => ((¬ r8 = 0 → (v_X9_isDay p3 T (zu F a0 0 (.int 0)) (fun (r9 : Int32) => ((r9 = 0 → (v_X9_refuse a0 2 T (zu F a0 0 (.int 0)) (fun (r10 : Int32) (F11 : zF) => Post r10 F11))) ∧ (¬ r9 = 0 → (v_X9_atNow a0 p1 p2 p3 T (zu F a0 0 (.int 0)) (fun (r15 : Int32) => Post r15 (zu F a0 0 (.int 0))))))))) ∧ (r8 = 0 → (v_X9_refuse a0 1 T (zu F a0 0 (.int 0)) (fun (r22 : Int32) (F23 : zF) => Post r22 F23)))))))))))
set_option maxRecDepth 100000 in
set_option maxHeartbeats 4000000 in
theorem k_X9_at {l : Launch} {D : va_G} {cA : Nat → ClassId} {N0 zE : Nat} {a0 : Nat} {p1 : Int32} {p2 : Int32} {p3 : Int32} {T : zT} {F : zF} {Post : Int32 → zF → Prop} (h : v_X9_at a0 p1 p2 p3 T F Post) : z_Mt l D cA N0 zE yX9_at cX9_at 4 (some .int) ({ frames := 2, cells := 0, slots := 0, locals := 45 } : Room) [.ref a0, .int p1, .int p2, .int p3] T F (fun v T' F' => ∃ r : Int32, v = some (.int r) ∧ T = T' ∧ Post r F') := by
  unfold v_X9_at at h
  refine z_bodyT (by decide) (Nat.le_of_ble_eq_true rfl) ?_
  intro p e s m args below meth c C hnm
  have C : z_C p l s m args meth c RX9 cX9_at 4 (some .int) D cA N0 zE := C
  show z_w p l e ({ frames := 2, cells := 0, slots := 0, locals := 45 } : Room) s m args below meth c D cA N0 4 0 0 (MQ below (z_Qc D cA N0 (fun v T' F' => ∃ r : Int32, v = some (.int r) ∧ T = T' ∧ Post r F')) args s 0 0 (fun q => N0 ≤ q)) 0 [(0, .ref a0), (1, .int p1), (2, .int p2), (3, .int p3)] [] T F
  refine zr_aload_n C 0 dX9_at_0 rfl rfl ?_
  refine zr_iconst C 0 dX9_at_1 (by decide) ?_
  obtain ⟨hT1, h⟩ := h
  refine zr_put C fl_X9_33 hT1 rfl rfl dX9_at_2 ?_
  refine zr_iload_n C 1 dX9_at_5 rfl rfl ?_
  refine zr_callS (As := [.int p1]) C (k_X9_isLand h) ok_X9_107 zq_1083 rfl ⟨by decide, (Nat.le_of_ble_eq_true rfl)⟩ ⟨(Nat.le_of_ble_eq_true rfl), (Nat.le_of_ble_eq_true rfl)⟩ (Nat.le_of_ble_eq_true rfl) dX9_at_6 (fun v30 U31 G32 hq => ?_)
  clear h
  · obtain ⟨r2, rfl, rfl, rfl, h⟩ := hq
    obtain ⟨h1, h2⟩ := h
    refine zr_if_eq C 19 dX9_at_9 (by decide) (fun hc => ?_) (fun hc => ?_)
    · have h := h1 hc
      clear h1 h2
      refine zr_aload_n C 0 dX9_at_19 rfl rfl ?_
      refine zr_iconst C 1 dX9_at_20 (by decide) ?_
      refine zr_callV (As := [.int 1]) (r := (RX9, TX9, 6)) C (k_X9_refuse h) ok_X9_48 zq_985 zq_16 hT1 (by decide) rfl rfl ⟨by decide, (Nat.le_of_ble_eq_true rfl)⟩ ⟨(Nat.le_of_ble_eq_true rfl), (Nat.le_of_ble_eq_true rfl)⟩ (Nat.le_of_ble_eq_true rfl) dX9_at_21 (fun v5 U6 G7 hq => ?_)
      clear h
      · obtain ⟨r3, rfl, rfl, h⟩ := hq
        exact zr_iret C rfl ⟨_, rfl, rfl, h⟩ (Nat.le_of_ble_eq_true rfl) (Nat.le_of_ble_eq_true rfl) dX9_at_24
    · have h := h2 hc
      clear h1 h2
      refine zr_iload_n C 2 dX9_at_12 rfl rfl ?_
      refine zr_callS (As := [.int p2]) C (k_X9_isMedium h) ok_X9_171 zq_1339 rfl ⟨by decide, (Nat.le_of_ble_eq_true rfl)⟩ ⟨(Nat.le_of_ble_eq_true rfl), (Nat.le_of_ble_eq_true rfl)⟩ (Nat.le_of_ble_eq_true rfl) dX9_at_13 (fun v27 U28 G29 hq => ?_)
      clear h
      · obtain ⟨r8, rfl, rfl, rfl, h⟩ := hq
        obtain ⟨h1, h2⟩ := h
        refine zr_if_ne C 25 dX9_at_16 (by decide) (fun hc => ?_) (fun hc => ?_)
        · have h := h1 hc
          clear h1 h2
          refine zr_iload_n C 3 dX9_at_25 rfl rfl ?_
          refine zr_callS (As := [.int p3]) C (k_X9_isDay h) ok_X9_92 zq_1064 rfl ⟨by decide, (Nat.le_of_ble_eq_true rfl)⟩ ⟨(Nat.le_of_ble_eq_true rfl), (Nat.le_of_ble_eq_true rfl)⟩ (Nat.le_of_ble_eq_true rfl) dX9_at_26 (fun v19 U20 G21 hq => ?_)
          clear h
          · obtain ⟨r9, rfl, rfl, rfl, h⟩ := hq
            obtain ⟨h1, h2⟩ := h
            refine zr_if_eq C 42 dX9_at_29 (by decide) (fun hc => ?_) (fun hc => ?_)
            · have h := h1 hc
              clear h1 h2
              refine zr_aload_n C 0 dX9_at_42 rfl rfl ?_
              refine zr_iconst C 2 dX9_at_43 (by decide) ?_
              refine zr_callV (As := [.int 2]) (r := (RX9, TX9, 6)) C (k_X9_refuse h) ok_X9_48 zq_985 zq_16 hT1 (by decide) rfl rfl ⟨by decide, (Nat.le_of_ble_eq_true rfl)⟩ ⟨(Nat.le_of_ble_eq_true rfl), (Nat.le_of_ble_eq_true rfl)⟩ (Nat.le_of_ble_eq_true rfl) dX9_at_44 (fun v12 U13 G14 hq => ?_)
              clear h
              · obtain ⟨r10, rfl, rfl, h⟩ := hq
                exact zr_iret C rfl ⟨_, rfl, rfl, h⟩ (Nat.le_of_ble_eq_true rfl) (Nat.le_of_ble_eq_true rfl) dX9_at_47
            · have h := h2 hc
              clear h1 h2
              refine zr_aload_n C 0 dX9_at_32 rfl rfl ?_
              refine zr_iload_n C 1 dX9_at_33 rfl rfl ?_
              refine zr_iload_n C 2 dX9_at_34 rfl rfl ?_
              refine zr_iload_n C 3 dX9_at_35 rfl rfl ?_
              refine zr_callV (As := [.int p1, .int p2, .int p3]) (r := (RX9, TX9, 6)) C (k_X9_atNow h) ok_X9_238 zq_1496 zq_24 hT1 (by decide) rfl rfl ⟨by decide, (Nat.le_of_ble_eq_true rfl)⟩ ⟨(Nat.le_of_ble_eq_true rfl), (Nat.le_of_ble_eq_true rfl)⟩ (Nat.le_of_ble_eq_true rfl) dX9_at_36 (fun v16 U17 G18 hq => ?_)
              clear h
              · obtain ⟨r15, rfl, rfl, rfl, h⟩ := hq
                refine zr_goto C 47 dX9_at_39 (by decide) ?_
                exact zr_iret C rfl ⟨_, rfl, rfl, h⟩ (Nat.le_of_ble_eq_true rfl) (Nat.le_of_ble_eq_true rfl) dX9_at_47
        · have h := h2 hc
          clear h1 h2
          refine zr_aload_n C 0 dX9_at_19 rfl rfl ?_
          refine zr_iconst C 1 dX9_at_20 (by decide) ?_
          refine zr_callV (As := [.int 1]) (r := (RX9, TX9, 6)) C (k_X9_refuse h) ok_X9_48 zq_985 zq_16 hT1 (by decide) rfl rfl ⟨by decide, (Nat.le_of_ble_eq_true rfl)⟩ ⟨(Nat.le_of_ble_eq_true rfl), (Nat.le_of_ble_eq_true rfl)⟩ (Nat.le_of_ble_eq_true rfl) dX9_at_21 (fun v24 U25 G26 hq => ?_)
          clear h
          · obtain ⟨r22, rfl, rfl, h⟩ := hq
            exact zr_iret C rfl ⟨_, rfl, rfl, h⟩ (Nat.le_of_ble_eq_true rfl) (Nat.le_of_ble_eq_true rfl) dX9_at_24
theorem dX6_inState_0 : decode cX6_inState 0 = .ok (.iconst 0, 1) := by decide +kernel
theorem dX6_inState_1 : decode cX6_inState 1 = .ok (.istore_n 2, 1) := by decide +kernel
theorem dX6_inState_2 : decode cX6_inState 2 = .ok (.aload_n 0, 1) := by decide +kernel
theorem dX6_inState_3 : decode cX6_inState 3 = .ok (.getfield 18, 3) := by decide +kernel
theorem dX6_inState_9 : decode cX6_inState 9 = .ok (.astore_n 3, 1) := by decide +kernel
theorem dX6_inState_10 : decode cX6_inState 10 = .ok (.aload_n 3, 1) := by decide +kernel
theorem dX6_inState_16 : decode cX6_inState 16 = .ok (.ifCond .eq 34, 3) := by decide +kernel
theorem dX6_inState_50 : decode cX6_inState 50 = .ok (.iload_n 2, 1) := by decide +kernel
theorem dX6_inState_51 : decode cX6_inState 51 = .ok (.ireturn, 1) := by decide +kernel
theorem dX6_inState_19 : decode cX6_inState 19 = .ok (.aload_n 3, 1) := by decide +kernel
theorem dX6_inState_11 : decode cX6_inState 11 = .ok (.invokeinterface 29 1, 5) := by decide +kernel
theorem dX6_inState_6 : decode cX6_inState 6 = .ok (.invokevirtual 25, 3) := by decide +kernel
def v_X6_inState (a0 : Nat) (p1 : Int32) (T : zT) (F : zF) (Post : Int32 → zT → zF → Prop) : Prop :=
  (T a0 = some (9, 3) ∧ ∃ x3 : Nat, F a0 0 = .ref x3 ∧ T x3 = some (2, 3) ∧ (v_Jx4a65c_iterator_32c93 x3 T F (fun (r5 : Nat) (T6 : zT) (F7 : zF) => (T6 r5 = some (1, 4) ∧ (v_Jx35411_hasNext_aae02 r5 T6 F7 (fun (r9 : Int32) => ((r9 = 0 → Post 0 T6 F7) ∧ (¬ r9 = 0 → False))))))))
set_option maxRecDepth 100000 in
set_option maxHeartbeats 4000000 in
theorem k_X6_inState {l : Launch} {D : va_G} {cA : Nat → ClassId} {N0 zE : Nat} {a0 : Nat} {p1 : Int32} {T : zT} {F : zF} {Post : Int32 → zT → zF → Prop} (h : v_X6_inState a0 p1 T F Post) : z_Mt l D cA N0 zE yX6_inState cX6_inState 5 (some .int) ({ frames := 3, cells := 1, slots := 4, locals := 61 } : Room) [.ref a0, .int p1] T F (fun v T' F' => ∃ r : Int32, v = some (.int r) ∧ Post r T' F') := by
  unfold v_X6_inState at h
  refine z_bodyT (by decide) (Nat.le_of_ble_eq_true rfl) ?_
  intro p e s m args below meth c C hnm
  have C : z_C p l s m args meth c RX6 cX6_inState 5 (some .int) D cA N0 zE := C
  show z_w p l e ({ frames := 3, cells := 1, slots := 4, locals := 61 } : Room) s m args below meth c D cA N0 5 0 0 (MQ below (z_Qc D cA N0 (fun v T' F' => ∃ r : Int32, v = some (.int r) ∧ Post r T' F')) args s 1 4 (fun q => N0 ≤ q)) 0 [(0, .ref a0), (1, .int p1)] [] T F
  refine zr_iconst C 0 dX6_inState_0 (by decide) ?_
  refine zr_istore_n C [(2, .int 0), (0, .ref a0), (1, .int p1)] dX6_inState_1 rfl (by decide) rfl ?_
  refine zr_aload_n C 1 dX6_inState_2 rfl rfl ?_
  obtain ⟨hT1, x3, hv2, h⟩ := h
  refine zr_get C fl_X6_18 hT1 hv2 dX6_inState_3 ?_
  obtain ⟨hT4, h⟩ := h
  refine zr_callV (As := []) (r := (RJx4a65c, TJx4a65c, 3)) C (k_Jx4a65c_iterator_32c93 h) ok_X6_25 zq_1280 zq_1281 hT4 (by decide) rfl rfl ⟨by decide, (Nat.le_of_ble_eq_true rfl)⟩ ⟨(Nat.le_of_ble_eq_true rfl), (Nat.le_of_ble_eq_true rfl)⟩ (Nat.le_of_ble_eq_true rfl) dX6_inState_6 (fun v13 U14 G15 hq => ?_)
  clear h
  · obtain ⟨r5, rfl, h⟩ := hq
    skip
    refine zr_astore_n C [(3, .ref r5), (2, .int 0), (0, .ref a0), (1, .int p1)] dX6_inState_9 rfl (by decide) rfl ?_
    refine zr_aload_n C 0 dX6_inState_10 rfl rfl ?_
    obtain ⟨hT8, h⟩ := h
    refine zr_callF (As := []) (r := (RJx35411, TJx35411, 4)) C (k_Jx35411_hasNext_aae02 h) ok_X6_29 hT8 (by decide) rfl rfl ⟨by decide, (Nat.le_of_ble_eq_true rfl)⟩ ⟨(Nat.le_of_ble_eq_true rfl), (Nat.le_of_ble_eq_true rfl)⟩ (Nat.le_of_ble_eq_true rfl) dX6_inState_11 (fun v10 U11 G12 hq => ?_)
    clear h
    · obtain ⟨r9, rfl, rfl, rfl, h⟩ := hq
      obtain ⟨h1, h2⟩ := h
      refine zr_if_eq C 50 dX6_inState_16 (by decide) (fun hc => ?_) (fun hc => ?_)
      · have h := h1 hc
        clear h1 h2
        refine zr_iload_n C 1 dX6_inState_50 rfl rfl ?_
        exact zr_iret C rfl ⟨_, rfl, h⟩ (Nat.le_of_ble_eq_true rfl) (Nat.le_of_ble_eq_true rfl) dX6_inState_51
      · have h := h2 hc
        clear h1 h2
        refine zr_aload_n C 0 dX6_inState_19 rfl rfl ?_
        exact h.elim
theorem dX9_manyNow_0 : decode cX9_manyNow 0 = .ok (.iconst 0, 1) := by decide +kernel
theorem dX9_manyNow_1 : decode cX9_manyNow 1 = .ok (.istore_n 2, 1) := by decide +kernel
theorem dX9_manyNow_2 : decode cX9_manyNow 2 = .ok (.iload_n 1, 1) := by decide +kernel
theorem dX9_manyNow_191 : decode cX9_manyNow 191 = .ok (.aload_n 0, 1) := by decide +kernel
theorem dX9_manyNow_192 : decode cX9_manyNow 192 = .ok (.getfield 29, 3) := by decide +kernel
theorem dX9_manyNow_195 : decode cX9_manyNow 195 = .ok (.iload_n 1, 1) := by decide +kernel
theorem dX9_manyNow_196 : decode cX9_manyNow 196 = .ok (.iconst 3, 1) := by decide +kernel
theorem dX9_manyNow_197 : decode cX9_manyNow 197 = .ok (.isub, 1) := by decide +kernel
theorem dX9_manyNow_201 : decode cX9_manyNow 201 = .ok (.ireturn, 1) := by decide +kernel
theorem dX9_manyNow_198 : decode cX9_manyNow 198 = .ok (.invokevirtual 241, 3) := by decide +kernel
theorem dX9_manyNow_60 : decode cX9_manyNow 60 = .ok (.aload_n 0, 1) := by decide +kernel
theorem dX9_manyNow_61 : decode cX9_manyNow 61 = .ok (.getfield 10, 3) := by decide +kernel
theorem dX9_manyNow_67 : decode cX9_manyNow 67 = .ok (.ireturn, 1) := by decide +kernel
theorem dX9_manyNow_64 : decode cX9_manyNow 64 = .ok (.invokevirtual 37, 3) := by decide +kernel
theorem dX9_manyNow_68 : decode cX9_manyNow 68 = .ok (.aload_n 0, 1) := by decide +kernel
theorem dX9_manyNow_69 : decode cX9_manyNow 69 = .ok (.getfield 16, 3) := by decide +kernel
theorem dX9_manyNow_75 : decode cX9_manyNow 75 = .ok (.ireturn, 1) := by decide +kernel
theorem dX9_manyNow_72 : decode cX9_manyNow 72 = .ok (.invokevirtual 37, 3) := by decide +kernel
theorem dX9_manyNow_76 : decode cX9_manyNow 76 = .ok (.aload_n 0, 1) := by decide +kernel
theorem dX9_manyNow_77 : decode cX9_manyNow 77 = .ok (.getfield 29, 3) := by decide +kernel
theorem dX9_manyNow_80 : decode cX9_manyNow 80 = .ok (.getfield 45, 3) := by decide +kernel
theorem dX9_manyNow_86 : decode cX9_manyNow 86 = .ok (.ireturn, 1) := by decide +kernel
theorem dX9_manyNow_83 : decode cX9_manyNow 83 = .ok (.invokevirtual 37, 3) := by decide +kernel
theorem dX9_manyNow_87 : decode cX9_manyNow 87 = .ok (.aload_n 0, 1) := by decide +kernel
theorem dX9_manyNow_88 : decode cX9_manyNow 88 = .ok (.getfield 29, 3) := by decide +kernel
theorem dX9_manyNow_91 : decode cX9_manyNow 91 = .ok (.getfield 45, 3) := by decide +kernel
theorem dX9_manyNow_97 : decode cX9_manyNow 97 = .ok (.astore_n 3, 1) := by decide +kernel
theorem dX9_manyNow_98 : decode cX9_manyNow 98 = .ok (.aload_n 3, 1) := by decide +kernel
theorem dX9_manyNow_104 : decode cX9_manyNow 104 = .ok (.ifCond .eq 33, 3) := by decide +kernel
theorem dX9_manyNow_137 : decode cX9_manyNow 137 = .ok (.iload_n 2, 1) := by decide +kernel
theorem dX9_manyNow_138 : decode cX9_manyNow 138 = .ok (.ireturn, 1) := by decide +kernel
theorem dX9_manyNow_107 : decode cX9_manyNow 107 = .ok (.aload_n 3, 1) := by decide +kernel
theorem dX9_manyNow_99 : decode cX9_manyNow 99 = .ok (.invokeinterface 139 1, 5) := by decide +kernel
theorem dX9_manyNow_94 : decode cX9_manyNow 94 = .ok (.invokevirtual 135, 3) := by decide +kernel
theorem dX9_manyNow_139 : decode cX9_manyNow 139 = .ok (.aload_n 0, 1) := by decide +kernel
theorem dX9_manyNow_140 : decode cX9_manyNow 140 = .ok (.getfield 29, 3) := by decide +kernel
theorem dX9_manyNow_143 : decode cX9_manyNow 143 = .ok (.getfield 45, 3) := by decide +kernel
theorem dX9_manyNow_149 : decode cX9_manyNow 149 = .ok (.astore_n 3, 1) := by decide +kernel
theorem dX9_manyNow_150 : decode cX9_manyNow 150 = .ok (.aload_n 3, 1) := by decide +kernel
theorem dX9_manyNow_156 : decode cX9_manyNow 156 = .ok (.ifCond .eq 25, 3) := by decide +kernel
theorem dX9_manyNow_181 : decode cX9_manyNow 181 = .ok (.iload_n 2, 1) := by decide +kernel
theorem dX9_manyNow_182 : decode cX9_manyNow 182 = .ok (.ireturn, 1) := by decide +kernel
theorem dX9_manyNow_159 : decode cX9_manyNow 159 = .ok (.aload_n 3, 1) := by decide +kernel
theorem dX9_manyNow_151 : decode cX9_manyNow 151 = .ok (.invokeinterface 139 1, 5) := by decide +kernel
theorem dX9_manyNow_146 : decode cX9_manyNow 146 = .ok (.invokevirtual 135, 3) := by decide +kernel
theorem dX9_manyNow_183 : decode cX9_manyNow 183 = .ok (.aload_n 0, 1) := by decide +kernel
theorem dX9_manyNow_184 : decode cX9_manyNow 184 = .ok (.getfield 29, 3) := by decide +kernel
theorem dX9_manyNow_187 : decode cX9_manyNow 187 = .ok (.getfield 63, 3) := by decide +kernel
theorem dX9_manyNow_190 : decode cX9_manyNow 190 = .ok (.ireturn, 1) := by decide +kernel
theorem dX9_manyNow_3 : decode cX9_manyNow 3 = .ok (.tableswitch 188 0 10 #[57, 65, 73, 188, 188, 188, 188, 188, 84, 136, 180], 57) := by decide +kernel
def v_X9_manyNow (a0 : Nat) (p1 : Int32) (T : zT) (F : zF) (Post : Int32 → zT → zF → Prop) : Prop :=
  (((p1.toInt < 0 ∨ 10 < p1.toInt) → (T a0 = some (12, 6) ∧ ∃ x3 : Nat, F a0 4 = .ref x3 ∧ T x3 = some (9, 3) ∧ (v_X6_inState x3 (p1 - 3) T F (fun (r5 : Int32) (T6 : zT) (F7 : zF) => Post r5 T6 F7)))) ∧ (p1 = 0 → (T a0 = some (12, 6) ∧ ∃ x14 : Nat, F a0 1 = .ref x14 ∧ T x14 = some (2, 3) ∧ (v_Jx4a65c_size_8abf5 x14 T F (fun (r16 : Int32) => Post r16 T F)))) ∧ (p1 = 1 → (T a0 = some (12, 6) ∧ ∃ x23 : Nat, F a0 2 = .ref x23 ∧ T x23 = some (2, 3) ∧ (v_Jx4a65c_size_8abf5 x23 T F (fun (r25 : Int32) => Post r25 T F)))) ∧ (p1 = 2 → (T a0 = some (12, 6) ∧ ∃ x32 : Nat, F a0 4 = .ref x32 ∧ T x32 = some (9, 3) ∧ ∃ x35 : Nat, F x32 0 = .ref x35 ∧ T x35 = some (2, 3) ∧ (v_Jx4a65c_size_8abf5 x35 T F (fun (r37 : Int32) => Post r37 T F)))) ∧ (p1 = 3 → (T a0 = some (12, 6) ∧ ∃ x44 : Nat, F a0 4 = .ref x44 ∧ T x44 = some (9, 3) ∧ (v_X6_inState x44 (p1 - 3) T F (fun (r46 : Int32) (T47 : zT) (F48 : zF) => Post r46 T47 F48)))) ∧ (p1 = 4 → (T a0 = some (12, 6) ∧ ∃ x55 : Nat, F a0 4 = .ref x55 ∧ T x55 = some (9, 3) ∧ (v_X6_inState x55 (p1 - 3) T F (fun (r57 : Int32) (T58 : zT) (F59 : zF) => Post r57 T58 F59)))) ∧ (p1 = 5 → (T a0 = some (12, 6) ∧ ∃ x66 : Nat, F a0 4 = .ref x66 ∧ T x66 = some (9, 3) ∧ (v_X6_inState x66 (p1 - 3) T F (fun (r68 : Int32) (T69 : zT) (F70 : zF) => Post r68 T69 F70)))) ∧ (p1 = 6 → (T a0 = some (12, 6) ∧ ∃ x77 : Nat, F a0 4 = .ref x77 ∧ T x77 = some (9, 3) ∧ (v_X6_inState x77 (p1 - 3) T F (fun (r79 : Int32) (T80 : zT) (F81 : zF) => Post r79 T80 F81)))) ∧ (p1 = 7 → (T a0 = some (12, 6) ∧ ∃ x88 : Nat, F a0 4 = .ref x88 ∧ T x88 = some (9, 3) ∧ (v_X6_inState x88 (p1 - 3) T F (fun (r90 : Int32) (T91 : zT) (F92 : zF) => Post r90 T91 F92)))) ∧ (p1 = 8 → (T a0 = some (12, 6) ∧ ∃ x99 : Nat, F a0 4 = .ref x99 ∧ T x99 = some (9, 3) ∧ ∃ x102 : Nat, F x99 0 = .ref x102 ∧ T x102 = some (2, 3) ∧ (v_Jx4a65c_iterator_32c93 x102 T F (fun (r104 : Nat) (T105 : zT) (F106 : zF) => (T105 r104 = some (1, 4) ∧ (v_Jx35411_hasNext_aae02 r104 T105 F106 (fun (r108 : Int32) => ((r108 = 0 → Post 0 T105 F106) ∧ (¬ r108 = 0 → False))))))))) ∧ (p1 = 9 → (T a0 = some (12, 6) ∧ ∃ x118 : Nat, F a0 4 = .ref x118 ∧ T x118 = some (9, 3) ∧ ∃ x121 : Nat, F x118 0 = .ref x121 ∧ T x121 = some (2, 3) ∧ (v_Jx4a65c_iterator_32c93 x121 T F (fun (r123 : Nat) (T124 : zT) (F125 : zF) => (T124 r123 = some (1, 4) ∧ (v_Jx35411_hasNext_aae02 r123 T124 F125 (fun (r127 : Int32) => ((r127 = 0 → Post 0 T124 F125) ∧ (¬ r127 = 0 → False))))))))) ∧ (p1 = 10 → (T a0 = some (12, 6) ∧ ∃ x137 : Nat, F a0 4 = .ref x137 ∧ T x137 = some (9, 3) ∧ ∃ x140 : Int32, F x137 1 = .int x140 ∧ Post x140 T F)))
set_option maxRecDepth 100000 in
set_option maxHeartbeats 4000000 in
theorem k_X9_manyNow {l : Launch} {D : va_G} {cA : Nat → ClassId} {N0 zE : Nat} {a0 : Nat} {p1 : Int32} {T : zT} {F : zF} {Post : Int32 → zT → zF → Prop} (h : v_X9_manyNow a0 p1 T F Post) : z_Mt l D cA N0 zE yX9_manyNow cX9_manyNow 5 (some .int) ({ frames := 4, cells := 3, slots := 12, locals := 85 } : Room) [.ref a0, .int p1] T F (fun v T' F' => ∃ r : Int32, v = some (.int r) ∧ Post r T' F') := by
  unfold v_X9_manyNow at h
  refine z_bodyT (by decide) (Nat.le_of_ble_eq_true rfl) ?_
  intro p e s m args below meth c C hnm
  have C : z_C p l s m args meth c RX9 cX9_manyNow 5 (some .int) D cA N0 zE := C
  show z_w p l e ({ frames := 4, cells := 3, slots := 12, locals := 85 } : Room) s m args below meth c D cA N0 5 0 0 (MQ below (z_Qc D cA N0 (fun v T' F' => ∃ r : Int32, v = some (.int r) ∧ Post r T' F')) args s 3 12 (fun q => N0 ≤ q)) 0 [(0, .ref a0), (1, .int p1)] [] T F
  refine zr_iconst C 0 dX9_manyNow_0 (by decide) ?_
  refine zr_istore_n C [(2, .int 0), (0, .ref a0), (1, .int p1)] dX9_manyNow_1 rfl (by decide) rfl ?_
  refine zr_iload_n C 2 dX9_manyNow_2 rfl rfl ?_
  obtain ⟨hs11, hs20, hs29, hs41, hs52, hs63, hs74, hs85, hs96, hs115, hs134, hs141⟩ := h
  by_cases hw : (p1).toInt < 0 ∨ 10 < (p1).toInt
  · have h := hs11 hw
    refine zr_tableOut C 191 dX9_manyNow_3 hw (by decide) ?_
    refine zr_aload_n C 1 dX9_manyNow_191 rfl rfl ?_
    obtain ⟨hT1, x3, hv2, h⟩ := h
    refine zr_get C fl_X9_29 hT1 hv2 dX9_manyNow_192 ?_
    refine zr_iload_n C 2 dX9_manyNow_195 rfl rfl ?_
    refine zr_iconst C 3 dX9_manyNow_196 (by decide) ?_
    refine zr_isub C dX9_manyNow_197 ?_
    obtain ⟨hT4, h⟩ := h
    refine zr_callV (As := [.int (p1 - 3)]) (r := (RX6, TX6, 3)) C (k_X6_inState h) ok_X9_241 zq_1507 zq_1508 hT4 (by decide) rfl rfl ⟨by decide, (Nat.le_of_ble_eq_true rfl)⟩ ⟨(Nat.le_of_ble_eq_true rfl), (Nat.le_of_ble_eq_true rfl)⟩ (Nat.le_of_ble_eq_true rfl) dX9_manyNow_198 (fun v8 U9 G10 hq => ?_)
    clear h
    · obtain ⟨r5, rfl, h⟩ := hq
      skip
      exact zr_iret C rfl ⟨_, rfl, h⟩ (Nat.le_of_ble_eq_true rfl) (Nat.le_of_ble_eq_true rfl) dX9_manyNow_201
  by_cases hk0 : p1 = 0
  · have h := hs20 hk0
    refine zr_tableIn C 60 dX9_manyNow_3 (by rw [hk0]; decide) (by rw [hk0]; decide) (by rw [hk0]; rfl) (by decide) ?_
    refine zr_aload_n C 1 dX9_manyNow_60 rfl rfl ?_
    obtain ⟨hT12, x14, hv13, h⟩ := h
    refine zr_get C fl_X9_10 hT12 hv13 dX9_manyNow_61 ?_
    obtain ⟨hT15, h⟩ := h
    refine zr_callV (As := []) (r := (RJx4a65c, TJx4a65c, 3)) C (k_Jx4a65c_size_8abf5 h) ok_X9_37 zq_140 zq_141 hT15 (by decide) rfl rfl ⟨by decide, (Nat.le_of_ble_eq_true rfl)⟩ ⟨(Nat.le_of_ble_eq_true rfl), (Nat.le_of_ble_eq_true rfl)⟩ (Nat.le_of_ble_eq_true rfl) dX9_manyNow_64 (fun v17 U18 G19 hq => ?_)
    clear h
    · obtain ⟨r16, rfl, rfl, rfl, h⟩ := hq
      exact zr_iret C rfl ⟨_, rfl, h⟩ (Nat.le_of_ble_eq_true rfl) (Nat.le_of_ble_eq_true rfl) dX9_manyNow_67
  by_cases hk1 : p1 = 1
  · have h := hs29 hk1
    refine zr_tableIn C 68 dX9_manyNow_3 (by rw [hk1]; decide) (by rw [hk1]; decide) (by rw [hk1]; rfl) (by decide) ?_
    refine zr_aload_n C 1 dX9_manyNow_68 rfl rfl ?_
    obtain ⟨hT21, x23, hv22, h⟩ := h
    refine zr_get C fl_X9_16 hT21 hv22 dX9_manyNow_69 ?_
    obtain ⟨hT24, h⟩ := h
    refine zr_callV (As := []) (r := (RJx4a65c, TJx4a65c, 3)) C (k_Jx4a65c_size_8abf5 h) ok_X9_37 zq_140 zq_141 hT24 (by decide) rfl rfl ⟨by decide, (Nat.le_of_ble_eq_true rfl)⟩ ⟨(Nat.le_of_ble_eq_true rfl), (Nat.le_of_ble_eq_true rfl)⟩ (Nat.le_of_ble_eq_true rfl) dX9_manyNow_72 (fun v26 U27 G28 hq => ?_)
    clear h
    · obtain ⟨r25, rfl, rfl, rfl, h⟩ := hq
      exact zr_iret C rfl ⟨_, rfl, h⟩ (Nat.le_of_ble_eq_true rfl) (Nat.le_of_ble_eq_true rfl) dX9_manyNow_75
  by_cases hk2 : p1 = 2
  · have h := hs41 hk2
    refine zr_tableIn C 76 dX9_manyNow_3 (by rw [hk2]; decide) (by rw [hk2]; decide) (by rw [hk2]; rfl) (by decide) ?_
    refine zr_aload_n C 1 dX9_manyNow_76 rfl rfl ?_
    obtain ⟨hT30, x32, hv31, h⟩ := h
    refine zr_get C fl_X9_29 hT30 hv31 dX9_manyNow_77 ?_
    obtain ⟨hT33, x35, hv34, h⟩ := h
    refine zr_get C fl_X9_45 hT33 hv34 dX9_manyNow_80 ?_
    obtain ⟨hT36, h⟩ := h
    refine zr_callV (As := []) (r := (RJx4a65c, TJx4a65c, 3)) C (k_Jx4a65c_size_8abf5 h) ok_X9_37 zq_140 zq_141 hT36 (by decide) rfl rfl ⟨by decide, (Nat.le_of_ble_eq_true rfl)⟩ ⟨(Nat.le_of_ble_eq_true rfl), (Nat.le_of_ble_eq_true rfl)⟩ (Nat.le_of_ble_eq_true rfl) dX9_manyNow_83 (fun v38 U39 G40 hq => ?_)
    clear h
    · obtain ⟨r37, rfl, rfl, rfl, h⟩ := hq
      exact zr_iret C rfl ⟨_, rfl, h⟩ (Nat.le_of_ble_eq_true rfl) (Nat.le_of_ble_eq_true rfl) dX9_manyNow_86
  by_cases hk3 : p1 = 3
  · have h := hs52 hk3
    refine zr_tableIn C 191 dX9_manyNow_3 (by rw [hk3]; decide) (by rw [hk3]; decide) (by rw [hk3]; rfl) (by decide) ?_
    refine zr_aload_n C 1 dX9_manyNow_191 rfl rfl ?_
    obtain ⟨hT42, x44, hv43, h⟩ := h
    refine zr_get C fl_X9_29 hT42 hv43 dX9_manyNow_192 ?_
    refine zr_iload_n C 2 dX9_manyNow_195 rfl rfl ?_
    refine zr_iconst C 3 dX9_manyNow_196 (by decide) ?_
    refine zr_isub C dX9_manyNow_197 ?_
    obtain ⟨hT45, h⟩ := h
    refine zr_callV (As := [.int (p1 - 3)]) (r := (RX6, TX6, 3)) C (k_X6_inState h) ok_X9_241 zq_1507 zq_1508 hT45 (by decide) rfl rfl ⟨by decide, (Nat.le_of_ble_eq_true rfl)⟩ ⟨(Nat.le_of_ble_eq_true rfl), (Nat.le_of_ble_eq_true rfl)⟩ (Nat.le_of_ble_eq_true rfl) dX9_manyNow_198 (fun v49 U50 G51 hq => ?_)
    clear h
    · obtain ⟨r46, rfl, h⟩ := hq
      skip
      exact zr_iret C rfl ⟨_, rfl, h⟩ (Nat.le_of_ble_eq_true rfl) (Nat.le_of_ble_eq_true rfl) dX9_manyNow_201
  by_cases hk4 : p1 = 4
  · have h := hs63 hk4
    refine zr_tableIn C 191 dX9_manyNow_3 (by rw [hk4]; decide) (by rw [hk4]; decide) (by rw [hk4]; rfl) (by decide) ?_
    refine zr_aload_n C 1 dX9_manyNow_191 rfl rfl ?_
    obtain ⟨hT53, x55, hv54, h⟩ := h
    refine zr_get C fl_X9_29 hT53 hv54 dX9_manyNow_192 ?_
    refine zr_iload_n C 2 dX9_manyNow_195 rfl rfl ?_
    refine zr_iconst C 3 dX9_manyNow_196 (by decide) ?_
    refine zr_isub C dX9_manyNow_197 ?_
    obtain ⟨hT56, h⟩ := h
    refine zr_callV (As := [.int (p1 - 3)]) (r := (RX6, TX6, 3)) C (k_X6_inState h) ok_X9_241 zq_1507 zq_1508 hT56 (by decide) rfl rfl ⟨by decide, (Nat.le_of_ble_eq_true rfl)⟩ ⟨(Nat.le_of_ble_eq_true rfl), (Nat.le_of_ble_eq_true rfl)⟩ (Nat.le_of_ble_eq_true rfl) dX9_manyNow_198 (fun v60 U61 G62 hq => ?_)
    clear h
    · obtain ⟨r57, rfl, h⟩ := hq
      skip
      exact zr_iret C rfl ⟨_, rfl, h⟩ (Nat.le_of_ble_eq_true rfl) (Nat.le_of_ble_eq_true rfl) dX9_manyNow_201
  by_cases hk5 : p1 = 5
  · have h := hs74 hk5
    refine zr_tableIn C 191 dX9_manyNow_3 (by rw [hk5]; decide) (by rw [hk5]; decide) (by rw [hk5]; rfl) (by decide) ?_
    refine zr_aload_n C 1 dX9_manyNow_191 rfl rfl ?_
    obtain ⟨hT64, x66, hv65, h⟩ := h
    refine zr_get C fl_X9_29 hT64 hv65 dX9_manyNow_192 ?_
    refine zr_iload_n C 2 dX9_manyNow_195 rfl rfl ?_
    refine zr_iconst C 3 dX9_manyNow_196 (by decide) ?_
    refine zr_isub C dX9_manyNow_197 ?_
    obtain ⟨hT67, h⟩ := h
    refine zr_callV (As := [.int (p1 - 3)]) (r := (RX6, TX6, 3)) C (k_X6_inState h) ok_X9_241 zq_1507 zq_1508 hT67 (by decide) rfl rfl ⟨by decide, (Nat.le_of_ble_eq_true rfl)⟩ ⟨(Nat.le_of_ble_eq_true rfl), (Nat.le_of_ble_eq_true rfl)⟩ (Nat.le_of_ble_eq_true rfl) dX9_manyNow_198 (fun v71 U72 G73 hq => ?_)
    clear h
    · obtain ⟨r68, rfl, h⟩ := hq
      skip
      exact zr_iret C rfl ⟨_, rfl, h⟩ (Nat.le_of_ble_eq_true rfl) (Nat.le_of_ble_eq_true rfl) dX9_manyNow_201
  by_cases hk6 : p1 = 6
  · have h := hs85 hk6
    refine zr_tableIn C 191 dX9_manyNow_3 (by rw [hk6]; decide) (by rw [hk6]; decide) (by rw [hk6]; rfl) (by decide) ?_
    refine zr_aload_n C 1 dX9_manyNow_191 rfl rfl ?_
    obtain ⟨hT75, x77, hv76, h⟩ := h
    refine zr_get C fl_X9_29 hT75 hv76 dX9_manyNow_192 ?_
    refine zr_iload_n C 2 dX9_manyNow_195 rfl rfl ?_
    refine zr_iconst C 3 dX9_manyNow_196 (by decide) ?_
    refine zr_isub C dX9_manyNow_197 ?_
    obtain ⟨hT78, h⟩ := h
    refine zr_callV (As := [.int (p1 - 3)]) (r := (RX6, TX6, 3)) C (k_X6_inState h) ok_X9_241 zq_1507 zq_1508 hT78 (by decide) rfl rfl ⟨by decide, (Nat.le_of_ble_eq_true rfl)⟩ ⟨(Nat.le_of_ble_eq_true rfl), (Nat.le_of_ble_eq_true rfl)⟩ (Nat.le_of_ble_eq_true rfl) dX9_manyNow_198 (fun v82 U83 G84 hq => ?_)
    clear h
    · obtain ⟨r79, rfl, h⟩ := hq
      skip
      exact zr_iret C rfl ⟨_, rfl, h⟩ (Nat.le_of_ble_eq_true rfl) (Nat.le_of_ble_eq_true rfl) dX9_manyNow_201
  by_cases hk7 : p1 = 7
  · have h := hs96 hk7
    refine zr_tableIn C 191 dX9_manyNow_3 (by rw [hk7]; decide) (by rw [hk7]; decide) (by rw [hk7]; rfl) (by decide) ?_
    refine zr_aload_n C 1 dX9_manyNow_191 rfl rfl ?_
    obtain ⟨hT86, x88, hv87, h⟩ := h
    refine zr_get C fl_X9_29 hT86 hv87 dX9_manyNow_192 ?_
    refine zr_iload_n C 2 dX9_manyNow_195 rfl rfl ?_
    refine zr_iconst C 3 dX9_manyNow_196 (by decide) ?_
    refine zr_isub C dX9_manyNow_197 ?_
    obtain ⟨hT89, h⟩ := h
    refine zr_callV (As := [.int (p1 - 3)]) (r := (RX6, TX6, 3)) C (k_X6_inState h) ok_X9_241 zq_1507 zq_1508 hT89 (by decide) rfl rfl ⟨by decide, (Nat.le_of_ble_eq_true rfl)⟩ ⟨(Nat.le_of_ble_eq_true rfl), (Nat.le_of_ble_eq_true rfl)⟩ (Nat.le_of_ble_eq_true rfl) dX9_manyNow_198 (fun v93 U94 G95 hq => ?_)
    clear h
    · obtain ⟨r90, rfl, h⟩ := hq
      skip
      exact zr_iret C rfl ⟨_, rfl, h⟩ (Nat.le_of_ble_eq_true rfl) (Nat.le_of_ble_eq_true rfl) dX9_manyNow_201
  by_cases hk8 : p1 = 8
  · have h := hs115 hk8
    refine zr_tableIn C 87 dX9_manyNow_3 (by rw [hk8]; decide) (by rw [hk8]; decide) (by rw [hk8]; rfl) (by decide) ?_
    refine zr_aload_n C 1 dX9_manyNow_87 rfl rfl ?_
    obtain ⟨hT97, x99, hv98, h⟩ := h
    refine zr_get C fl_X9_29 hT97 hv98 dX9_manyNow_88 ?_
    obtain ⟨hT100, x102, hv101, h⟩ := h
    refine zr_get C fl_X9_45 hT100 hv101 dX9_manyNow_91 ?_
    obtain ⟨hT103, h⟩ := h
    refine zr_callV (As := []) (r := (RJx4a65c, TJx4a65c, 3)) C (k_Jx4a65c_iterator_32c93 h) ok_X9_135 zq_1280 zq_1281 hT103 (by decide) rfl rfl ⟨by decide, (Nat.le_of_ble_eq_true rfl)⟩ ⟨(Nat.le_of_ble_eq_true rfl), (Nat.le_of_ble_eq_true rfl)⟩ (Nat.le_of_ble_eq_true rfl) dX9_manyNow_94 (fun v112 U113 G114 hq => ?_)
    clear h
    · obtain ⟨r104, rfl, h⟩ := hq
      skip
      refine zr_astore_n C [(3, .ref r104), (2, .int 0), (0, .ref a0), (1, .int p1)] dX9_manyNow_97 rfl (by decide) rfl ?_
      refine zr_aload_n C 0 dX9_manyNow_98 rfl rfl ?_
      obtain ⟨hT107, h⟩ := h
      refine zr_callF (As := []) (r := (RJx35411, TJx35411, 4)) C (k_Jx35411_hasNext_aae02 h) ok_X9_139 hT107 (by decide) rfl rfl ⟨by decide, (Nat.le_of_ble_eq_true rfl)⟩ ⟨(Nat.le_of_ble_eq_true rfl), (Nat.le_of_ble_eq_true rfl)⟩ (Nat.le_of_ble_eq_true rfl) dX9_manyNow_99 (fun v109 U110 G111 hq => ?_)
      clear h
      · obtain ⟨r108, rfl, rfl, rfl, h⟩ := hq
        obtain ⟨h1, h2⟩ := h
        refine zr_if_eq C 137 dX9_manyNow_104 (by decide) (fun hc => ?_) (fun hc => ?_)
        · have h := h1 hc
          clear h1 h2
          refine zr_iload_n C 1 dX9_manyNow_137 rfl rfl ?_
          exact zr_iret C rfl ⟨_, rfl, h⟩ (Nat.le_of_ble_eq_true rfl) (Nat.le_of_ble_eq_true rfl) dX9_manyNow_138
        · have h := h2 hc
          clear h1 h2
          refine zr_aload_n C 0 dX9_manyNow_107 rfl rfl ?_
          exact h.elim
  by_cases hk9 : p1 = 9
  · have h := hs134 hk9
    refine zr_tableIn C 139 dX9_manyNow_3 (by rw [hk9]; decide) (by rw [hk9]; decide) (by rw [hk9]; rfl) (by decide) ?_
    refine zr_aload_n C 1 dX9_manyNow_139 rfl rfl ?_
    obtain ⟨hT116, x118, hv117, h⟩ := h
    refine zr_get C fl_X9_29 hT116 hv117 dX9_manyNow_140 ?_
    obtain ⟨hT119, x121, hv120, h⟩ := h
    refine zr_get C fl_X9_45 hT119 hv120 dX9_manyNow_143 ?_
    obtain ⟨hT122, h⟩ := h
    refine zr_callV (As := []) (r := (RJx4a65c, TJx4a65c, 3)) C (k_Jx4a65c_iterator_32c93 h) ok_X9_135 zq_1280 zq_1281 hT122 (by decide) rfl rfl ⟨by decide, (Nat.le_of_ble_eq_true rfl)⟩ ⟨(Nat.le_of_ble_eq_true rfl), (Nat.le_of_ble_eq_true rfl)⟩ (Nat.le_of_ble_eq_true rfl) dX9_manyNow_146 (fun v131 U132 G133 hq => ?_)
    clear h
    · obtain ⟨r123, rfl, h⟩ := hq
      skip
      refine zr_astore_n C [(3, .ref r123), (2, .int 0), (0, .ref a0), (1, .int p1)] dX9_manyNow_149 rfl (by decide) rfl ?_
      refine zr_aload_n C 0 dX9_manyNow_150 rfl rfl ?_
      obtain ⟨hT126, h⟩ := h
      refine zr_callF (As := []) (r := (RJx35411, TJx35411, 4)) C (k_Jx35411_hasNext_aae02 h) ok_X9_139 hT126 (by decide) rfl rfl ⟨by decide, (Nat.le_of_ble_eq_true rfl)⟩ ⟨(Nat.le_of_ble_eq_true rfl), (Nat.le_of_ble_eq_true rfl)⟩ (Nat.le_of_ble_eq_true rfl) dX9_manyNow_151 (fun v128 U129 G130 hq => ?_)
      clear h
      · obtain ⟨r127, rfl, rfl, rfl, h⟩ := hq
        obtain ⟨h1, h2⟩ := h
        refine zr_if_eq C 181 dX9_manyNow_156 (by decide) (fun hc => ?_) (fun hc => ?_)
        · have h := h1 hc
          clear h1 h2
          refine zr_iload_n C 1 dX9_manyNow_181 rfl rfl ?_
          exact zr_iret C rfl ⟨_, rfl, h⟩ (Nat.le_of_ble_eq_true rfl) (Nat.le_of_ble_eq_true rfl) dX9_manyNow_182
        · have h := h2 hc
          clear h1 h2
          refine zr_aload_n C 0 dX9_manyNow_159 rfl rfl ?_
          exact h.elim
  by_cases hk10 : p1 = 10
  · have h := hs141 hk10
    refine zr_tableIn C 183 dX9_manyNow_3 (by rw [hk10]; decide) (by rw [hk10]; decide) (by rw [hk10]; rfl) (by decide) ?_
    refine zr_aload_n C 1 dX9_manyNow_183 rfl rfl ?_
    obtain ⟨hT135, x137, hv136, h⟩ := h
    refine zr_get C fl_X9_29 hT135 hv136 dX9_manyNow_184 ?_
    obtain ⟨hT138, x140, hv139, h⟩ := h
    refine zr_get C fl_X9_63 hT138 hv139 dX9_manyNow_187 ?_
    exact zr_iret C rfl ⟨_, rfl, h⟩ (Nat.le_of_ble_eq_true rfl) (Nat.le_of_ble_eq_true rfl) dX9_manyNow_190
  obtain ⟨j9, hj9, e9⟩ := z_sw 10 hw
  have hc9 : j9 = 0 ∨ j9 = 1 ∨ j9 = 2 ∨ j9 = 3 ∨ j9 = 4 ∨ j9 = 5 ∨ j9 = 6 ∨ j9 = 7 ∨ j9 = 8 ∨ j9 = 9 ∨ j9 = 10 := by omega
  rcases hc9 with rfl | rfl | rfl | rfl | rfl | rfl | rfl | rfl | rfl | rfl | rfl
  · exact absurd (e9.trans (by decide)) hk0
  · exact absurd (e9.trans (by decide)) hk1
  · exact absurd (e9.trans (by decide)) hk2
  · exact absurd (e9.trans (by decide)) hk3
  · exact absurd (e9.trans (by decide)) hk4
  · exact absurd (e9.trans (by decide)) hk5
  · exact absurd (e9.trans (by decide)) hk6
  · exact absurd (e9.trans (by decide)) hk7
  · exact absurd (e9.trans (by decide)) hk8
  · exact absurd (e9.trans (by decide)) hk9
  · exact absurd (e9.trans (by decide)) hk10
theorem dX9_many_0 : decode cX9_many 0 = .ok (.aload_n 0, 1) := by decide +kernel
theorem dX9_many_1 : decode cX9_many 1 = .ok (.iconst 0, 1) := by decide +kernel
theorem dX9_many_2 : decode cX9_many 2 = .ok (.putfield 33, 3) := by decide +kernel
theorem dX9_many_5 : decode cX9_many 5 = .ok (.iload_n 1, 1) := by decide +kernel
theorem dX9_many_6 : decode cX9_many 6 = .ok (.iconst 0, 1) := by decide +kernel
theorem dX9_many_7 : decode cX9_many 7 = .ok (.bipush 10, 2) := by decide +kernel
theorem dX9_many_12 : decode cX9_many 12 = .ok (.ifCond .eq 11, 3) := by decide +kernel
theorem dX9_many_23 : decode cX9_many 23 = .ok (.aload_n 0, 1) := by decide +kernel
theorem dX9_many_24 : decode cX9_many 24 = .ok (.iconst 1, 1) := by decide +kernel
theorem dX9_many_28 : decode cX9_many 28 = .ok (.ireturn, 1) := by decide +kernel
theorem dX9_many_25 : decode cX9_many 25 = .ok (.invokevirtual 48, 3) := by decide +kernel
theorem dX9_many_15 : decode cX9_many 15 = .ok (.aload_n 0, 1) := by decide +kernel
theorem dX9_many_16 : decode cX9_many 16 = .ok (.iload_n 1, 1) := by decide +kernel
theorem dX9_many_20 : decode cX9_many 20 = .ok (.goto 8, 3) := by decide +kernel
theorem dX9_many_17 : decode cX9_many 17 = .ok (.invokevirtual 244, 3) := by decide +kernel
theorem dX9_many_9 : decode cX9_many 9 = .ok (.invokestatic 41, 3) := by decide +kernel
def v_X9_many (a0 : Nat) (p1 : Int32) (T : zT) (F : zF) (Post : Int32 → zT → zF → Prop) : Prop :=
  (T a0 = some (12, 6) ∧ (v_X9_is p1 0 10 T (zu F a0 0 (.int 0)) (fun (r2 : Int32) => ((r2 = 0 → (v_X9_refuse a0 1 T (zu F a0 0 (.int 0)) (fun (r3 : Int32) (F4 : zF) => Post r3 T F4))) ∧ (¬ r2 = 0 → (v_X9_manyNow a0 p1 T (zu F a0 0 (.int 0)) (fun (r8 : Int32) (T9 : zT) (F10 : zF) => Post r8 T9 F10)))))))
set_option maxRecDepth 100000 in
set_option maxHeartbeats 4000000 in
theorem k_X9_many {l : Launch} {D : va_G} {cA : Nat → ClassId} {N0 zE : Nat} {a0 : Nat} {p1 : Int32} {T : zT} {F : zF} {Post : Int32 → zT → zF → Prop} (h : v_X9_many a0 p1 T F Post) : z_Mt l D cA N0 zE yX9_many cX9_many 2 (some .int) ({ frames := 5, cells := 3, slots := 12, locals := 109 } : Room) [.ref a0, .int p1] T F (fun v T' F' => ∃ r : Int32, v = some (.int r) ∧ Post r T' F') := by
  unfold v_X9_many at h
  refine z_bodyT (by decide) (Nat.le_of_ble_eq_true rfl) ?_
  intro p e s m args below meth c C hnm
  have C : z_C p l s m args meth c RX9 cX9_many 2 (some .int) D cA N0 zE := C
  show z_w p l e ({ frames := 5, cells := 3, slots := 12, locals := 109 } : Room) s m args below meth c D cA N0 2 0 0 (MQ below (z_Qc D cA N0 (fun v T' F' => ∃ r : Int32, v = some (.int r) ∧ Post r T' F')) args s 3 12 (fun q => N0 ≤ q)) 0 [(0, .ref a0), (1, .int p1)] [] T F
  refine zr_aload_n C 0 dX9_many_0 rfl rfl ?_
  refine zr_iconst C 0 dX9_many_1 (by decide) ?_
  obtain ⟨hT1, h⟩ := h
  refine zr_put C fl_X9_33 hT1 rfl rfl dX9_many_2 ?_
  refine zr_iload_n C 1 dX9_many_5 rfl rfl ?_
  refine zr_iconst C 0 dX9_many_6 (by decide) ?_
  refine zr_bipush C 10 dX9_many_7 (by decide) ?_
  refine zr_callS (As := [.int p1, .int 0, .int 10]) C (k_X9_is h) ok_X9_41 zq_1022 rfl ⟨by decide, (Nat.le_of_ble_eq_true rfl)⟩ ⟨(Nat.le_of_ble_eq_true rfl), (Nat.le_of_ble_eq_true rfl)⟩ (Nat.le_of_ble_eq_true rfl) dX9_many_9 (fun v14 U15 G16 hq => ?_)
  clear h
  · obtain ⟨r2, rfl, rfl, rfl, h⟩ := hq
    obtain ⟨h1, h2⟩ := h
    refine zr_if_eq C 23 dX9_many_12 (by decide) (fun hc => ?_) (fun hc => ?_)
    · have h := h1 hc
      clear h1 h2
      refine zr_aload_n C 0 dX9_many_23 rfl rfl ?_
      refine zr_iconst C 1 dX9_many_24 (by decide) ?_
      refine zr_callV (As := [.int 1]) (r := (RX9, TX9, 6)) C (k_X9_refuse h) ok_X9_48 zq_985 zq_16 hT1 (by decide) rfl rfl ⟨by decide, (Nat.le_of_ble_eq_true rfl)⟩ ⟨(Nat.le_of_ble_eq_true rfl), (Nat.le_of_ble_eq_true rfl)⟩ (Nat.le_of_ble_eq_true rfl) dX9_many_25 (fun v5 U6 G7 hq => ?_)
      clear h
      · obtain ⟨r3, rfl, rfl, h⟩ := hq
        exact zr_iret C rfl ⟨_, rfl, h⟩ (Nat.le_of_ble_eq_true rfl) (Nat.le_of_ble_eq_true rfl) dX9_many_28
    · have h := h2 hc
      clear h1 h2
      refine zr_aload_n C 0 dX9_many_15 rfl rfl ?_
      refine zr_iload_n C 1 dX9_many_16 rfl rfl ?_
      refine zr_callV (As := [.int p1]) (r := (RX9, TX9, 6)) C (k_X9_manyNow h) ok_X9_244 zq_1504 zq_25 hT1 (by decide) rfl rfl ⟨by decide, (Nat.le_of_ble_eq_true rfl)⟩ ⟨(Nat.le_of_ble_eq_true rfl), (Nat.le_of_ble_eq_true rfl)⟩ (Nat.le_of_ble_eq_true rfl) dX9_many_17 (fun v11 U12 G13 hq => ?_)
      clear h
      · obtain ⟨r8, rfl, h⟩ := hq
        skip
        refine zr_goto C 28 dX9_many_20 (by decide) ?_
        exact zr_iret C rfl ⟨_, rfl, h⟩ (Nat.le_of_ble_eq_true rfl) (Nat.le_of_ble_eq_true rfl) dX9_many_28
theorem dX9_meanPrice_0 : decode cX9_meanPrice 0 = .ok (.aload_n 0, 1) := by decide +kernel
theorem dX9_meanPrice_1 : decode cX9_meanPrice 1 = .ok (.iconst 0, 1) := by decide +kernel
theorem dX9_meanPrice_2 : decode cX9_meanPrice 2 = .ok (.putfield 33, 3) := by decide +kernel
theorem dX9_meanPrice_5 : decode cX9_meanPrice 5 = .ok (.iconst 0, 1) := by decide +kernel
theorem dX9_meanPrice_6 : decode cX9_meanPrice 6 = .ok (.istore_n 1, 1) := by decide +kernel
theorem dX9_meanPrice_7 : decode cX9_meanPrice 7 = .ok (.aload_n 0, 1) := by decide +kernel
theorem dX9_meanPrice_8 : decode cX9_meanPrice 8 = .ok (.getfield 29, 3) := by decide +kernel
theorem dX9_meanPrice_11 : decode cX9_meanPrice 11 = .ok (.getfield 45, 3) := by decide +kernel
theorem dX9_meanPrice_17 : decode cX9_meanPrice 17 = .ok (.astore_n 2, 1) := by decide +kernel
theorem dX9_meanPrice_18 : decode cX9_meanPrice 18 = .ok (.aload_n 2, 1) := by decide +kernel
theorem dX9_meanPrice_24 : decode cX9_meanPrice 24 = .ok (.ifCond .eq 23, 3) := by decide +kernel
theorem dX9_meanPrice_47 : decode cX9_meanPrice 47 = .ok (.aload_n 0, 1) := by decide +kernel
theorem dX9_meanPrice_48 : decode cX9_meanPrice 48 = .ok (.getfield 29, 3) := by decide +kernel
theorem dX9_meanPrice_51 : decode cX9_meanPrice 51 = .ok (.getfield 45, 3) := by decide +kernel
theorem dX9_meanPrice_57 : decode cX9_meanPrice 57 = .ok (.ifCond .eq 7, 3) := by decide +kernel
theorem dX9_meanPrice_64 : decode cX9_meanPrice 64 = .ok (.iload_n 1, 1) := by decide +kernel
theorem dX9_meanPrice_60 : decode cX9_meanPrice 60 = .ok (.dconst 0, 1) := by decide +kernel
theorem dX9_meanPrice_61 : decode cX9_meanPrice 61 = .ok (.goto 17, 3) := by decide +kernel
theorem dX9_meanPrice_78 : decode cX9_meanPrice 78 = .ok (.dreturn, 1) := by decide +kernel
theorem dX9_meanPrice_54 : decode cX9_meanPrice 54 = .ok (.invokevirtual 247, 3) := by decide +kernel
theorem dX9_meanPrice_27 : decode cX9_meanPrice 27 = .ok (.aload_n 2, 1) := by decide +kernel
theorem dX9_meanPrice_19 : decode cX9_meanPrice 19 = .ok (.invokeinterface 139 1, 5) := by decide +kernel
theorem dX9_meanPrice_14 : decode cX9_meanPrice 14 = .ok (.invokevirtual 135, 3) := by decide +kernel
def v_X9_meanPrice (a0 : Nat) (T : zT) (F : zF) (Post : UInt64 → zT → zF → Prop) : Prop :=
  (T a0 = some (12, 6) ∧ ∃ x3 : Nat, (zu F a0 0 (.int 0)) a0 4 = .ref x3 ∧ T x3 = some (9, 3) ∧ ∃ x6 : Nat, (zu F a0 0 (.int 0)) x3 0 = .ref x6 ∧ T x6 = some (2, 3) ∧ (v_Jx4a65c_iterator_32c93 x6 T (zu F a0 0 (.int 0)) (fun (r8 : Nat) (T9 : zT) (F10 : zF) => (T9 r8 = some (1, 4) ∧ (v_Jx35411_hasNext_aae02 r8 T9 F10 (fun (r12 : Int32) => ((r12 = 0 → (T9 a0 = some (12, 6) ∧ ∃ x15 : Nat, F10 a0 4 = .ref x15 ∧ T9 x15 = some (9, 3) ∧ ∃ x18 : Nat, F10 x15 0 = .ref x18 ∧ T9 x18 = some (2, 3) ∧ (v_Jx4a65c_isEmpty_aae02 x18 T9 F10 (fun (r20 : Int32) => ((r20 = 0 → False) ∧ (¬ r20 = 0 → Post FP.dconst0 T9 F10)))))) ∧ (¬ r12 = 0 → False))))))))
set_option maxRecDepth 100000 in
set_option maxHeartbeats 4000000 in
theorem k_X9_meanPrice {l : Launch} {D : va_G} {cA : Nat → ClassId} {N0 zE : Nat} {a0 : Nat} {T : zT} {F : zF} {Post : UInt64 → zT → zF → Prop} (h : v_X9_meanPrice a0 T F Post) : z_Mt l D cA N0 zE yX9_meanPrice cX9_meanPrice 4 (some .double) ({ frames := 3, cells := 1, slots := 4, locals := 61 } : Room) [.ref a0] T F (fun v T' F' => ∃ r : UInt64, v = some (.double r) ∧ Post r T' F') := by
  unfold v_X9_meanPrice at h
  refine z_bodyT (by decide) (Nat.le_of_ble_eq_true rfl) ?_
  intro p e s m args below meth c C hnm
  have C : z_C p l s m args meth c RX9 cX9_meanPrice 4 (some .double) D cA N0 zE := C
  show z_w p l e ({ frames := 3, cells := 1, slots := 4, locals := 61 } : Room) s m args below meth c D cA N0 4 0 0 (MQ below (z_Qc D cA N0 (fun v T' F' => ∃ r : UInt64, v = some (.double r) ∧ Post r T' F')) args s 1 4 (fun q => N0 ≤ q)) 0 [(0, .ref a0)] [] T F
  refine zr_aload_n C 0 dX9_meanPrice_0 rfl rfl ?_
  refine zr_iconst C 0 dX9_meanPrice_1 (by decide) ?_
  obtain ⟨hT1, h⟩ := h
  refine zr_put C fl_X9_33 hT1 rfl rfl dX9_meanPrice_2 ?_
  refine zr_iconst C 0 dX9_meanPrice_5 (by decide) ?_
  refine zr_istore_n C [(1, .int 0), (0, .ref a0)] dX9_meanPrice_6 rfl (by decide) rfl ?_
  refine zr_aload_n C 1 dX9_meanPrice_7 rfl rfl ?_
  obtain ⟨x3, hv2, h⟩ := h
  refine zr_get C fl_X9_29 hT1 hv2 dX9_meanPrice_8 ?_
  obtain ⟨hT4, x6, hv5, h⟩ := h
  refine zr_get C fl_X9_45 hT4 hv5 dX9_meanPrice_11 ?_
  obtain ⟨hT7, h⟩ := h
  refine zr_callV (As := []) (r := (RJx4a65c, TJx4a65c, 3)) C (k_Jx4a65c_iterator_32c93 h) ok_X9_135 zq_1280 zq_1281 hT7 (by decide) rfl rfl ⟨by decide, (Nat.le_of_ble_eq_true rfl)⟩ ⟨(Nat.le_of_ble_eq_true rfl), (Nat.le_of_ble_eq_true rfl)⟩ (Nat.le_of_ble_eq_true rfl) dX9_meanPrice_14 (fun v27 U28 G29 hq => ?_)
  clear h
  · obtain ⟨r8, rfl, h⟩ := hq
    skip
    refine zr_astore_n C [(2, .ref r8), (1, .int 0), (0, .ref a0)] dX9_meanPrice_17 rfl (by decide) rfl ?_
    refine zr_aload_n C 0 dX9_meanPrice_18 rfl rfl ?_
    obtain ⟨hT11, h⟩ := h
    refine zr_callF (As := []) (r := (RJx35411, TJx35411, 4)) C (k_Jx35411_hasNext_aae02 h) ok_X9_139 hT11 (by decide) rfl rfl ⟨by decide, (Nat.le_of_ble_eq_true rfl)⟩ ⟨(Nat.le_of_ble_eq_true rfl), (Nat.le_of_ble_eq_true rfl)⟩ (Nat.le_of_ble_eq_true rfl) dX9_meanPrice_19 (fun v24 U25 G26 hq => ?_)
    clear h
    · obtain ⟨r12, rfl, rfl, rfl, h⟩ := hq
      obtain ⟨h1, h2⟩ := h
      refine zr_if_eq C 47 dX9_meanPrice_24 (by decide) (fun hc => ?_) (fun hc => ?_)
      · have h := h1 hc
        clear h1 h2
        refine zr_aload_n C 2 dX9_meanPrice_47 rfl rfl ?_
        obtain ⟨hT13, x15, hv14, h⟩ := h
        refine zr_get C fl_X9_29 hT13 hv14 dX9_meanPrice_48 ?_
        obtain ⟨hT16, x18, hv17, h⟩ := h
        refine zr_get C fl_X9_45 hT16 hv17 dX9_meanPrice_51 ?_
        obtain ⟨hT19, h⟩ := h
        refine zr_callV (As := []) (r := (RJx4a65c, TJx4a65c, 3)) C (k_Jx4a65c_isEmpty_aae02 h) ok_X9_247 zq_1515 zq_1516 hT19 (by decide) rfl rfl ⟨by decide, (Nat.le_of_ble_eq_true rfl)⟩ ⟨(Nat.le_of_ble_eq_true rfl), (Nat.le_of_ble_eq_true rfl)⟩ (Nat.le_of_ble_eq_true rfl) dX9_meanPrice_54 (fun v21 U22 G23 hq => ?_)
        clear h
        · obtain ⟨r20, rfl, rfl, rfl, h⟩ := hq
          obtain ⟨h1, h2⟩ := h
          refine zr_if_eq C 64 dX9_meanPrice_57 (by decide) (fun hc => ?_) (fun hc => ?_)
          · have h := h1 hc
            clear h1 h2
            refine zr_iload_n C 1 dX9_meanPrice_64 rfl rfl ?_
            exact h.elim
          · have h := h2 hc
            clear h1 h2
            refine zr_dconst C dX9_meanPrice_60 ?_
            refine zr_goto C 78 dX9_meanPrice_61 (by decide) ?_
            exact zr_dret C rfl ⟨_, rfl, h⟩ (Nat.le_of_ble_eq_true rfl) (Nat.le_of_ble_eq_true rfl) dX9_meanPrice_78
      · have h := h2 hc
        clear h1 h2
        refine zr_aload_n C 0 dX9_meanPrice_27 rfl rfl ?_
        exact h.elim
theorem dX9_groups_0 : decode cX9_groups 0 = .ok (.aload_n 0, 1) := by decide +kernel
theorem dX9_groups_1 : decode cX9_groups 1 = .ok (.iconst 0, 1) := by decide +kernel
theorem dX9_groups_2 : decode cX9_groups 2 = .ok (.putfield 33, 3) := by decide +kernel
theorem dX9_groups_5 : decode cX9_groups 5 = .ok (.iload_n 1, 1) := by decide +kernel
theorem dX9_groups_9 : decode cX9_groups 9 = .ok (.ifCond .eq 10, 3) := by decide +kernel
theorem dX9_groups_19 : decode cX9_groups 19 = .ok (.aload_n 0, 1) := by decide +kernel
theorem dX9_groups_20 : decode cX9_groups 20 = .ok (.iconst 1, 1) := by decide +kernel
theorem dX9_groups_24 : decode cX9_groups 24 = .ok (.ireturn, 1) := by decide +kernel
theorem dX9_groups_21 : decode cX9_groups 21 = .ok (.invokevirtual 48, 3) := by decide +kernel
theorem dX9_groups_12 : decode cX9_groups 12 = .ok (.iload_n 2, 1) := by decide +kernel
theorem dX9_groups_16 : decode cX9_groups 16 = .ok (.ifCond .ne 9, 3) := by decide +kernel
theorem dX9_groups_25 : decode cX9_groups 25 = .ok (.iload_n 3, 1) := by decide +kernel
theorem dX9_groups_26 : decode cX9_groups 26 = .ok (.iconst 0, 1) := by decide +kernel
theorem dX9_groups_27 : decode cX9_groups 27 = .ok (.sipush 1023, 3) := by decide +kernel
theorem dX9_groups_33 : decode cX9_groups 33 = .ok (.ifCond .ne 9, 3) := by decide +kernel
theorem dX9_groups_42 : decode cX9_groups 42 = .ok (.aload_n 0, 1) := by decide +kernel
theorem dX9_groups_43 : decode cX9_groups 43 = .ok (.getfield 21, 3) := by decide +kernel
theorem dX9_groups_46 : decode cX9_groups 46 = .ok (.iload_n 1, 1) := by decide +kernel
theorem dX9_groups_47 : decode cX9_groups 47 = .ok (.aaload, 1) := by decide +kernel
theorem dX9_groups_48 : decode cX9_groups 48 = .ok (.iload_n 2, 1) := by decide +kernel
theorem dX9_groups_49 : decode cX9_groups 49 = .ok (.iaload, 1) := by decide +kernel
theorem dX9_groups_50 : decode cX9_groups 50 = .ok (.istore 4, 2) := by decide +kernel
theorem dX9_groups_52 : decode cX9_groups 52 = .ok (.aload_n 0, 1) := by decide +kernel
theorem dX9_groups_53 : decode cX9_groups 53 = .ok (.getfield 21, 3) := by decide +kernel
theorem dX9_groups_56 : decode cX9_groups 56 = .ok (.iload_n 1, 1) := by decide +kernel
theorem dX9_groups_57 : decode cX9_groups 57 = .ok (.aaload, 1) := by decide +kernel
theorem dX9_groups_58 : decode cX9_groups 58 = .ok (.iload_n 2, 1) := by decide +kernel
theorem dX9_groups_59 : decode cX9_groups 59 = .ok (.iload_n 3, 1) := by decide +kernel
theorem dX9_groups_60 : decode cX9_groups 60 = .ok (.iastore, 1) := by decide +kernel
theorem dX9_groups_61 : decode cX9_groups 61 = .ok (.iload 4, 2) := by decide +kernel
theorem dX9_groups_63 : decode cX9_groups 63 = .ok (.ireturn, 1) := by decide +kernel
theorem dX9_groups_36 : decode cX9_groups 36 = .ok (.aload_n 0, 1) := by decide +kernel
theorem dX9_groups_37 : decode cX9_groups 37 = .ok (.iconst 2, 1) := by decide +kernel
theorem dX9_groups_41 : decode cX9_groups 41 = .ok (.ireturn, 1) := by decide +kernel
theorem dX9_groups_38 : decode cX9_groups 38 = .ok (.invokevirtual 48, 3) := by decide +kernel
theorem dX9_groups_30 : decode cX9_groups 30 = .ok (.invokestatic 41, 3) := by decide +kernel
theorem dX9_groups_13 : decode cX9_groups 13 = .ok (.invokestatic 107, 3) := by decide +kernel
theorem dX9_groups_6 : decode cX9_groups 6 = .ok (.invokestatic 171, 3) := by decide +kernel
def v_X9_groups (a0 : Nat) (p1 : Int32) (p2 : Int32) (p3 : Int32) (T : zT) (F : zF) (Post : Int32 → zF → Prop) : Prop :=
  (T a0 = some (12, 6) ∧ (v_X9_isMedium p1 T (zu F a0 0 (.int 0)) (fun (r2 : Int32) => ((r2 = 0 → (v_X9_refuse a0 1 T (zu F a0 0 (.int 0)) (fun (r3 : Int32) (F4 : zF) => Post r3 F4))) ∧ (¬ r2 = 0 → (v_X9_isLand p2 T (zu F a0 0 (.int 0)) (fun (r8 : Int32) => ((¬ r8 = 0 → (v_X9_is p3 0 1023 T (zu F a0 0 (.int 0)) (fun (r9 : Int32) => ((¬ r9 = 0 → (∃ x11 : Nat, (zu F a0 0 (.int 0)) a0 3 = .ref x11 ∧ ∃ n12 : Nat, T x11 = some (102, n12) ∧ vp_in p1 n12 ∧ ∃ x15 : Nat, (zu F a0 0 (.int 0)) x11 (p1).toNatClampNeg = .ref x15 ∧ ∃ n17 : Nat, T x15 = some (100, n17) ∧ vp_in p2 n17 ∧ ∃ x20 : Int32, (zu F a0 0 (.int 0)) x15 (p2).toNatClampNeg = .int x20 ∧ vp_in p1 n12 ∧ ∃ x23 : Nat, (zu F a0 0 (.int 0)) x11 (p1).toNatClampNeg = .ref x23 ∧ ∃ n25 : Nat, T x23 = some (100, n25) ∧ vp_in p2 n25 ∧ Post x20 (zu (zu F a0 0 (.int 0)) x23 (p2).toNatClampNeg (.int p3)))) ∧ (r9 = 0 → (v_X9_refuse a0 2 T (zu F a0 0 (.int 0)) (fun (r28 : Int32) (F29 : zF) => Post r28 F29))))))) ∧ (r8 = 0 → (v_X9_refuse a0 1 T (zu F a0 0 (.int 0)) (fun (r36 : Int32) (F37 : zF) => Post r36 F37)))))))))))
set_option maxRecDepth 100000 in
set_option maxHeartbeats 4000000 in
theorem k_X9_groups {l : Launch} {D : va_G} {cA : Nat → ClassId} {N0 zE : Nat} {a0 : Nat} {p1 : Int32} {p2 : Int32} {p3 : Int32} {T : zT} {F : zF} {Post : Int32 → zF → Prop} (h : v_X9_groups a0 p1 p2 p3 T F Post) : z_Mt l D cA N0 zE yX9_groups cX9_groups 5 (some .int) ({ frames := 2, cells := 0, slots := 0, locals := 42 } : Room) [.ref a0, .int p1, .int p2, .int p3] T F (fun v T' F' => ∃ r : Int32, v = some (.int r) ∧ T = T' ∧ Post r F') := by
  unfold v_X9_groups at h
  refine z_bodyT (by decide) (Nat.le_of_ble_eq_true rfl) ?_
  intro p e s m args below meth c C hnm
  have C : z_C p l s m args meth c RX9 cX9_groups 5 (some .int) D cA N0 zE := C
  show z_w p l e ({ frames := 2, cells := 0, slots := 0, locals := 42 } : Room) s m args below meth c D cA N0 5 0 0 (MQ below (z_Qc D cA N0 (fun v T' F' => ∃ r : Int32, v = some (.int r) ∧ T = T' ∧ Post r F')) args s 0 0 (fun q => N0 ≤ q)) 0 [(0, .ref a0), (1, .int p1), (2, .int p2), (3, .int p3)] [] T F
  refine zr_aload_n C 0 dX9_groups_0 rfl rfl ?_
  refine zr_iconst C 0 dX9_groups_1 (by decide) ?_
  obtain ⟨hT1, h⟩ := h
  refine zr_put C fl_X9_33 hT1 rfl rfl dX9_groups_2 ?_
  refine zr_iload_n C 1 dX9_groups_5 rfl rfl ?_
  refine zr_callS (As := [.int p1]) C (k_X9_isMedium h) ok_X9_171 zq_1339 rfl ⟨by decide, (Nat.le_of_ble_eq_true rfl)⟩ ⟨(Nat.le_of_ble_eq_true rfl), (Nat.le_of_ble_eq_true rfl)⟩ (Nat.le_of_ble_eq_true rfl) dX9_groups_6 (fun v44 U45 G46 hq => ?_)
  clear h
  · obtain ⟨r2, rfl, rfl, rfl, h⟩ := hq
    obtain ⟨h1, h2⟩ := h
    refine zr_if_eq C 19 dX9_groups_9 (by decide) (fun hc => ?_) (fun hc => ?_)
    · have h := h1 hc
      clear h1 h2
      refine zr_aload_n C 0 dX9_groups_19 rfl rfl ?_
      refine zr_iconst C 1 dX9_groups_20 (by decide) ?_
      refine zr_callV (As := [.int 1]) (r := (RX9, TX9, 6)) C (k_X9_refuse h) ok_X9_48 zq_985 zq_16 hT1 (by decide) rfl rfl ⟨by decide, (Nat.le_of_ble_eq_true rfl)⟩ ⟨(Nat.le_of_ble_eq_true rfl), (Nat.le_of_ble_eq_true rfl)⟩ (Nat.le_of_ble_eq_true rfl) dX9_groups_21 (fun v5 U6 G7 hq => ?_)
      clear h
      · obtain ⟨r3, rfl, rfl, h⟩ := hq
        exact zr_iret C rfl ⟨_, rfl, rfl, h⟩ (Nat.le_of_ble_eq_true rfl) (Nat.le_of_ble_eq_true rfl) dX9_groups_24
    · have h := h2 hc
      clear h1 h2
      refine zr_iload_n C 2 dX9_groups_12 rfl rfl ?_
      refine zr_callS (As := [.int p2]) C (k_X9_isLand h) ok_X9_107 zq_1083 rfl ⟨by decide, (Nat.le_of_ble_eq_true rfl)⟩ ⟨(Nat.le_of_ble_eq_true rfl), (Nat.le_of_ble_eq_true rfl)⟩ (Nat.le_of_ble_eq_true rfl) dX9_groups_13 (fun v41 U42 G43 hq => ?_)
      clear h
      · obtain ⟨r8, rfl, rfl, rfl, h⟩ := hq
        obtain ⟨h1, h2⟩ := h
        refine zr_if_ne C 25 dX9_groups_16 (by decide) (fun hc => ?_) (fun hc => ?_)
        · have h := h1 hc
          clear h1 h2
          refine zr_iload_n C 3 dX9_groups_25 rfl rfl ?_
          refine zr_iconst C 0 dX9_groups_26 (by decide) ?_
          refine zr_sipush C 1023 dX9_groups_27 (by decide) ?_
          refine zr_callS (As := [.int p3, .int 0, .int 1023]) C (k_X9_is h) ok_X9_41 zq_1022 rfl ⟨by decide, (Nat.le_of_ble_eq_true rfl)⟩ ⟨(Nat.le_of_ble_eq_true rfl), (Nat.le_of_ble_eq_true rfl)⟩ (Nat.le_of_ble_eq_true rfl) dX9_groups_30 (fun v33 U34 G35 hq => ?_)
          clear h
          · obtain ⟨r9, rfl, rfl, rfl, h⟩ := hq
            obtain ⟨h1, h2⟩ := h
            refine zr_if_ne C 42 dX9_groups_33 (by decide) (fun hc => ?_) (fun hc => ?_)
            · have h := h1 hc
              clear h1 h2
              refine zr_aload_n C 0 dX9_groups_42 rfl rfl ?_
              obtain ⟨x11, hv10, h⟩ := h
              refine zr_get C fl_X9_21 hT1 hv10 dX9_groups_43 ?_
              refine zr_iload_n C 1 dX9_groups_46 rfl rfl ?_
              obtain ⟨n12, hT13, hi14, x15, hv16, h⟩ := h
              refine zr_aald C hT13 (by decide) rfl rfl hi14 hv16 dX9_groups_47 ?_
              refine zr_iload_n C 2 dX9_groups_48 rfl rfl ?_
              obtain ⟨n17, hT18, hi19, x20, hv21, h⟩ := h
              refine zr_iald C rfl hT18 hi19 hv21 dX9_groups_49 ?_
              refine zr_istore C [(4, .int x20), (0, .ref a0), (1, .int p1), (2, .int p2), (3, .int p3)] dX9_groups_50 (by decide) rfl ?_
              refine zr_aload_n C 1 dX9_groups_52 rfl rfl ?_
              refine zr_get C fl_X9_21 hT1 hv10 dX9_groups_53 ?_
              refine zr_iload_n C 2 dX9_groups_56 rfl rfl ?_
              obtain ⟨hi22, x23, hv24, h⟩ := h
              refine zr_aald C hT13 (by decide) rfl rfl hi22 hv24 dX9_groups_57 ?_
              refine zr_iload_n C 3 dX9_groups_58 rfl rfl ?_
              refine zr_iload_n C 4 dX9_groups_59 rfl rfl ?_
              obtain ⟨n25, hT26, hi27, h⟩ := h
              refine zr_iast C rfl hT26 hi27 dX9_groups_60 ?_
              refine zr_iload C 0 dX9_groups_61 rfl ?_
              exact zr_iret C rfl ⟨_, rfl, rfl, h⟩ (Nat.le_of_ble_eq_true rfl) (Nat.le_of_ble_eq_true rfl) dX9_groups_63
            · have h := h2 hc
              clear h1 h2
              refine zr_aload_n C 0 dX9_groups_36 rfl rfl ?_
              refine zr_iconst C 2 dX9_groups_37 (by decide) ?_
              refine zr_callV (As := [.int 2]) (r := (RX9, TX9, 6)) C (k_X9_refuse h) ok_X9_48 zq_985 zq_16 hT1 (by decide) rfl rfl ⟨by decide, (Nat.le_of_ble_eq_true rfl)⟩ ⟨(Nat.le_of_ble_eq_true rfl), (Nat.le_of_ble_eq_true rfl)⟩ (Nat.le_of_ble_eq_true rfl) dX9_groups_38 (fun v30 U31 G32 hq => ?_)
              clear h
              · obtain ⟨r28, rfl, rfl, h⟩ := hq
                exact zr_iret C rfl ⟨_, rfl, rfl, h⟩ (Nat.le_of_ble_eq_true rfl) (Nat.le_of_ble_eq_true rfl) dX9_groups_41
        · have h := h2 hc
          clear h1 h2
          refine zr_aload_n C 0 dX9_groups_19 rfl rfl ?_
          refine zr_iconst C 1 dX9_groups_20 (by decide) ?_
          refine zr_callV (As := [.int 1]) (r := (RX9, TX9, 6)) C (k_X9_refuse h) ok_X9_48 zq_985 zq_16 hT1 (by decide) rfl rfl ⟨by decide, (Nat.le_of_ble_eq_true rfl)⟩ ⟨(Nat.le_of_ble_eq_true rfl), (Nat.le_of_ble_eq_true rfl)⟩ (Nat.le_of_ble_eq_true rfl) dX9_groups_21 (fun v38 U39 G40 hq => ?_)
          clear h
          · obtain ⟨r36, rfl, rfl, h⟩ := hq
            exact zr_iret C rfl ⟨_, rfl, rfl, h⟩ (Nat.le_of_ble_eq_true rfl) (Nat.le_of_ble_eq_true rfl) dX9_groups_24
theorem dX9_reachNow_0 : decode cX9_reachNow 0 = .ok (.iconst 0, 1) := by decide +kernel
theorem dX9_reachNow_1 : decode cX9_reachNow 1 = .ok (.istore_n 3, 1) := by decide +kernel
theorem dX9_reachNow_2 : decode cX9_reachNow 2 = .ok (.aload_n 0, 1) := by decide +kernel
theorem dX9_reachNow_3 : decode cX9_reachNow 3 = .ok (.getfield 29, 3) := by decide +kernel
theorem dX9_reachNow_6 : decode cX9_reachNow 6 = .ok (.getfield 45, 3) := by decide +kernel
theorem dX9_reachNow_12 : decode cX9_reachNow 12 = .ok (.astore 4, 2) := by decide +kernel
theorem dX9_reachNow_14 : decode cX9_reachNow 14 = .ok (.aload 4, 2) := by decide +kernel
theorem dX9_reachNow_21 : decode cX9_reachNow 21 = .ok (.ifCond .eq 56, 3) := by decide +kernel
theorem dX9_reachNow_77 : decode cX9_reachNow 77 = .ok (.iload_n 3, 1) := by decide +kernel
theorem dX9_reachNow_81 : decode cX9_reachNow 81 = .ok (.ireturn, 1) := by decide +kernel
theorem dX9_reachNow_78 : decode cX9_reachNow 78 = .ok (.invokestatic 250, 3) := by decide +kernel
theorem dX9_reachNow_24 : decode cX9_reachNow 24 = .ok (.aload 4, 2) := by decide +kernel
theorem dX9_reachNow_16 : decode cX9_reachNow 16 = .ok (.invokeinterface 139 1, 5) := by decide +kernel
theorem dX9_reachNow_9 : decode cX9_reachNow 9 = .ok (.invokevirtual 135, 3) := by decide +kernel
def v_X9_reachNow (a0 : Nat) (p1 : Int32) (T : zT) (F : zF) (Post : Int32 → zT → zF → Prop) : Prop :=
  (T a0 = some (12, 6) ∧ ∃ x3 : Nat, F a0 4 = .ref x3 ∧ T x3 = some (9, 3) ∧ ∃ x6 : Nat, F x3 0 = .ref x6 ∧ T x6 = some (2, 3) ∧ (v_Jx4a65c_iterator_32c93 x6 T F (fun (r8 : Nat) (T9 : zT) (F10 : zF) => (T9 r8 = some (1, 4) ∧ (v_Jx35411_hasNext_aae02 r8 T9 F10 (fun (r12 : Int32) => ((r12 = 0 → (v_J6_bitCount_0f7a4 0 T9 F10 (fun (r13 : Int32) => Post r13 T9 F10))) ∧ (¬ r12 = 0 → False))))))))
set_option maxRecDepth 100000 in
set_option maxHeartbeats 4000000 in
theorem k_X9_reachNow {l : Launch} {D : va_G} {cA : Nat → ClassId} {N0 zE : Nat} {a0 : Nat} {p1 : Int32} {T : zT} {F : zF} {Post : Int32 → zT → zF → Prop} (h : v_X9_reachNow a0 p1 T F Post) : z_Mt l D cA N0 zE yX9_reachNow cX9_reachNow 6 (some .int) ({ frames := 3, cells := 1, slots := 4, locals := 61 } : Room) [.ref a0, .int p1, .null] T F (fun v T' F' => ∃ r : Int32, v = some (.int r) ∧ Post r T' F') := by
  unfold v_X9_reachNow at h
  refine z_bodyT (by decide) (Nat.le_of_ble_eq_true rfl) ?_
  intro p e s m args below meth c C hnm
  have C : z_C p l s m args meth c RX9 cX9_reachNow 6 (some .int) D cA N0 zE := C
  show z_w p l e ({ frames := 3, cells := 1, slots := 4, locals := 61 } : Room) s m args below meth c D cA N0 6 0 0 (MQ below (z_Qc D cA N0 (fun v T' F' => ∃ r : Int32, v = some (.int r) ∧ Post r T' F')) args s 1 4 (fun q => N0 ≤ q)) 0 [(0, .ref a0), (1, .int p1), (2, .null)] [] T F
  refine zr_iconst C 0 dX9_reachNow_0 (by decide) ?_
  refine zr_istore_n C [(3, .int 0), (0, .ref a0), (1, .int p1), (2, .null)] dX9_reachNow_1 rfl (by decide) rfl ?_
  refine zr_aload_n C 1 dX9_reachNow_2 rfl rfl ?_
  obtain ⟨hT1, x3, hv2, h⟩ := h
  refine zr_get C fl_X9_29 hT1 hv2 dX9_reachNow_3 ?_
  obtain ⟨hT4, x6, hv5, h⟩ := h
  refine zr_get C fl_X9_45 hT4 hv5 dX9_reachNow_6 ?_
  obtain ⟨hT7, h⟩ := h
  refine zr_callV (As := []) (r := (RJx4a65c, TJx4a65c, 3)) C (k_Jx4a65c_iterator_32c93 h) ok_X9_135 zq_1280 zq_1281 hT7 (by decide) rfl rfl ⟨by decide, (Nat.le_of_ble_eq_true rfl)⟩ ⟨(Nat.le_of_ble_eq_true rfl), (Nat.le_of_ble_eq_true rfl)⟩ (Nat.le_of_ble_eq_true rfl) dX9_reachNow_9 (fun v20 U21 G22 hq => ?_)
  clear h
  · obtain ⟨r8, rfl, h⟩ := hq
    skip
    refine zr_astore C [(4, .ref r8), (3, .int 0), (0, .ref a0), (1, .int p1), (2, .null)] dX9_reachNow_12 (by decide) rfl ?_
    refine zr_aload C 0 dX9_reachNow_14 rfl ?_
    obtain ⟨hT11, h⟩ := h
    refine zr_callF (As := []) (r := (RJx35411, TJx35411, 4)) C (k_Jx35411_hasNext_aae02 h) ok_X9_139 hT11 (by decide) rfl rfl ⟨by decide, (Nat.le_of_ble_eq_true rfl)⟩ ⟨(Nat.le_of_ble_eq_true rfl), (Nat.le_of_ble_eq_true rfl)⟩ (Nat.le_of_ble_eq_true rfl) dX9_reachNow_16 (fun v17 U18 G19 hq => ?_)
    clear h
    · obtain ⟨r12, rfl, rfl, rfl, h⟩ := hq
      obtain ⟨h1, h2⟩ := h
      refine zr_if_eq C 77 dX9_reachNow_21 (by decide) (fun hc => ?_) (fun hc => ?_)
      · have h := h1 hc
        clear h1 h2
        refine zr_iload_n C 1 dX9_reachNow_77 rfl rfl ?_
        refine zr_callS (As := [.int 0]) C (k_J6_bitCount_0f7a4 h) ok_X9_250 zq_423 rfl ⟨by decide, (Nat.le_of_ble_eq_true rfl)⟩ ⟨(Nat.le_of_ble_eq_true rfl), (Nat.le_of_ble_eq_true rfl)⟩ (Nat.le_of_ble_eq_true rfl) dX9_reachNow_78 (fun v14 U15 G16 hq => ?_)
        clear h
        · obtain ⟨r13, rfl, rfl, rfl, h⟩ := hq
          exact zr_iret C rfl ⟨_, rfl, h⟩ (Nat.le_of_ble_eq_true rfl) (Nat.le_of_ble_eq_true rfl) dX9_reachNow_81
      · have h := h2 hc
        clear h1 h2
        refine zr_aload C 0 dX9_reachNow_24 rfl ?_
        exact h.elim
theorem dX9_reach_0 : decode cX9_reach 0 = .ok (.aload_n 0, 1) := by decide +kernel
theorem dX9_reach_1 : decode cX9_reach 1 = .ok (.iconst 0, 1) := by decide +kernel
theorem dX9_reach_2 : decode cX9_reach 2 = .ok (.putfield 33, 3) := by decide +kernel
theorem dX9_reach_5 : decode cX9_reach 5 = .ok (.iload_n 1, 1) := by decide +kernel
theorem dX9_reach_9 : decode cX9_reach 9 = .ok (.ifCond .eq 12, 3) := by decide +kernel
theorem dX9_reach_21 : decode cX9_reach 21 = .ok (.aload_n 0, 1) := by decide +kernel
theorem dX9_reach_22 : decode cX9_reach 22 = .ok (.iconst 1, 1) := by decide +kernel
theorem dX9_reach_26 : decode cX9_reach 26 = .ok (.ireturn, 1) := by decide +kernel
theorem dX9_reach_23 : decode cX9_reach 23 = .ok (.invokevirtual 48, 3) := by decide +kernel
theorem dX9_reach_12 : decode cX9_reach 12 = .ok (.aload_n 0, 1) := by decide +kernel
theorem dX9_reach_13 : decode cX9_reach 13 = .ok (.iload_n 1, 1) := by decide +kernel
theorem dX9_reach_14 : decode cX9_reach 14 = .ok (.aconst_null, 1) := by decide +kernel
theorem dX9_reach_18 : decode cX9_reach 18 = .ok (.goto 8, 3) := by decide +kernel
theorem dX9_reach_15 : decode cX9_reach 15 = .ok (.invokevirtual 253, 3) := by decide +kernel
theorem dX9_reach_6 : decode cX9_reach 6 = .ok (.invokestatic 107, 3) := by decide +kernel
def v_X9_reach (a0 : Nat) (p1 : Int32) (T : zT) (F : zF) (Post : Int32 → zT → zF → Prop) : Prop :=
  (T a0 = some (12, 6) ∧ (v_X9_isLand p1 T (zu F a0 0 (.int 0)) (fun (r2 : Int32) => ((r2 = 0 → (v_X9_refuse a0 1 T (zu F a0 0 (.int 0)) (fun (r3 : Int32) (F4 : zF) => Post r3 T F4))) ∧ (¬ r2 = 0 → (v_X9_reachNow a0 p1 T (zu F a0 0 (.int 0)) (fun (r8 : Int32) (T9 : zT) (F10 : zF) => Post r8 T9 F10)))))))
set_option maxRecDepth 100000 in
set_option maxHeartbeats 4000000 in
theorem k_X9_reach {l : Launch} {D : va_G} {cA : Nat → ClassId} {N0 zE : Nat} {a0 : Nat} {p1 : Int32} {T : zT} {F : zF} {Post : Int32 → zT → zF → Prop} (h : v_X9_reach a0 p1 T F Post) : z_Mt l D cA N0 zE yX9_reach cX9_reach 2 (some .int) ({ frames := 4, cells := 1, slots := 4, locals := 86 } : Room) [.ref a0, .int p1] T F (fun v T' F' => ∃ r : Int32, v = some (.int r) ∧ Post r T' F') := by
  unfold v_X9_reach at h
  refine z_bodyT (by decide) (Nat.le_of_ble_eq_true rfl) ?_
  intro p e s m args below meth c C hnm
  have C : z_C p l s m args meth c RX9 cX9_reach 2 (some .int) D cA N0 zE := C
  show z_w p l e ({ frames := 4, cells := 1, slots := 4, locals := 86 } : Room) s m args below meth c D cA N0 2 0 0 (MQ below (z_Qc D cA N0 (fun v T' F' => ∃ r : Int32, v = some (.int r) ∧ Post r T' F')) args s 1 4 (fun q => N0 ≤ q)) 0 [(0, .ref a0), (1, .int p1)] [] T F
  refine zr_aload_n C 0 dX9_reach_0 rfl rfl ?_
  refine zr_iconst C 0 dX9_reach_1 (by decide) ?_
  obtain ⟨hT1, h⟩ := h
  refine zr_put C fl_X9_33 hT1 rfl rfl dX9_reach_2 ?_
  refine zr_iload_n C 1 dX9_reach_5 rfl rfl ?_
  refine zr_callS (As := [.int p1]) C (k_X9_isLand h) ok_X9_107 zq_1083 rfl ⟨by decide, (Nat.le_of_ble_eq_true rfl)⟩ ⟨(Nat.le_of_ble_eq_true rfl), (Nat.le_of_ble_eq_true rfl)⟩ (Nat.le_of_ble_eq_true rfl) dX9_reach_6 (fun v14 U15 G16 hq => ?_)
  clear h
  · obtain ⟨r2, rfl, rfl, rfl, h⟩ := hq
    obtain ⟨h1, h2⟩ := h
    refine zr_if_eq C 21 dX9_reach_9 (by decide) (fun hc => ?_) (fun hc => ?_)
    · have h := h1 hc
      clear h1 h2
      refine zr_aload_n C 0 dX9_reach_21 rfl rfl ?_
      refine zr_iconst C 1 dX9_reach_22 (by decide) ?_
      refine zr_callV (As := [.int 1]) (r := (RX9, TX9, 6)) C (k_X9_refuse h) ok_X9_48 zq_985 zq_16 hT1 (by decide) rfl rfl ⟨by decide, (Nat.le_of_ble_eq_true rfl)⟩ ⟨(Nat.le_of_ble_eq_true rfl), (Nat.le_of_ble_eq_true rfl)⟩ (Nat.le_of_ble_eq_true rfl) dX9_reach_23 (fun v5 U6 G7 hq => ?_)
      clear h
      · obtain ⟨r3, rfl, rfl, h⟩ := hq
        exact zr_iret C rfl ⟨_, rfl, h⟩ (Nat.le_of_ble_eq_true rfl) (Nat.le_of_ble_eq_true rfl) dX9_reach_26
    · have h := h2 hc
      clear h1 h2
      refine zr_aload_n C 0 dX9_reach_12 rfl rfl ?_
      refine zr_iload_n C 1 dX9_reach_13 rfl rfl ?_
      refine zr_null C dX9_reach_14 ?_
      refine zr_callV (As := [.int p1, .null]) (r := (RX9, TX9, 6)) C (k_X9_reachNow h) ok_X9_253 zq_1528 zq_26 hT1 (by decide) rfl rfl ⟨by decide, (Nat.le_of_ble_eq_true rfl)⟩ ⟨(Nat.le_of_ble_eq_true rfl), (Nat.le_of_ble_eq_true rfl)⟩ (Nat.le_of_ble_eq_true rfl) dX9_reach_15 (fun v11 U12 G13 hq => ?_)
      clear h
      · obtain ⟨r8, rfl, h⟩ := hq
        skip
        refine zr_goto C 26 dX9_reach_18 (by decide) ?_
        exact zr_iret C rfl ⟨_, rfl, h⟩ (Nat.le_of_ble_eq_true rfl) (Nat.le_of_ble_eq_true rfl) dX9_reach_26
theorem dX9_price_0 : decode cX9_price 0 = .ok (.aload_n 0, 1) := by decide +kernel
theorem dX9_price_1 : decode cX9_price 1 = .ok (.iconst 0, 1) := by decide +kernel
theorem dX9_price_2 : decode cX9_price 2 = .ok (.putfield 33, 3) := by decide +kernel
theorem dX9_price_5 : decode cX9_price 5 = .ok (.aload_n 0, 1) := by decide +kernel
theorem dX9_price_6 : decode cX9_price 6 = .ok (.iload_n 1, 1) := by decide +kernel
theorem dX9_price_7 : decode cX9_price 7 = .ok (.iload_n 2, 1) := by decide +kernel
theorem dX9_price_8 : decode cX9_price 8 = .ok (.iload_n 3, 1) := by decide +kernel
theorem dX9_price_12 : decode cX9_price 12 = .ok (.ifCond .eq 13, 3) := by decide +kernel
theorem dX9_price_25 : decode cX9_price 25 = .ok (.aload_n 0, 1) := by decide +kernel
theorem dX9_price_26 : decode cX9_price 26 = .ok (.iconst 1, 1) := by decide +kernel
theorem dX9_price_30 : decode cX9_price 30 = .ok (.ireturn, 1) := by decide +kernel
theorem dX9_price_27 : decode cX9_price 27 = .ok (.invokevirtual 48, 3) := by decide +kernel
theorem dX9_price_15 : decode cX9_price 15 = .ok (.aload_n 0, 1) := by decide +kernel
theorem dX9_price_16 : decode cX9_price 16 = .ok (.iload_n 1, 1) := by decide +kernel
theorem dX9_price_17 : decode cX9_price 17 = .ok (.iload_n 2, 1) := by decide +kernel
theorem dX9_price_18 : decode cX9_price 18 = .ok (.iload_n 3, 1) := by decide +kernel
theorem dX9_price_22 : decode cX9_price 22 = .ok (.goto 8, 3) := by decide +kernel
theorem dX9_price_19 : decode cX9_price 19 = .ok (.invokevirtual 177, 3) := by decide +kernel
theorem dX9_price_9 : decode cX9_price 9 = .ok (.invokevirtual 174, 3) := by decide +kernel
def v_X9_price (a0 : Nat) (p1 : Int32) (p2 : Int32) (p3 : Int32) (T : zT) (F : zF) (Post : Int32 → zF → Prop) : Prop :=
  (T a0 = some (12, 6) ∧ (v_X9_isSpan a0 p1 p2 p3 T (zu F a0 0 (.int 0)) (fun (r2 : Int32) => ((r2 = 0 → (v_X9_refuse a0 1 T (zu F a0 0 (.int 0)) (fun (r3 : Int32) (F4 : zF) => Post r3 F4))) ∧ (¬ r2 = 0 → (v_X9_priceOf a0 p1 p2 p3 T (zu F a0 0 (.int 0)) (fun (r8 : Int32) => Post r8 (zu F a0 0 (.int 0)))))))))
set_option maxRecDepth 100000 in
set_option maxHeartbeats 4000000 in
theorem k_X9_price {l : Launch} {D : va_G} {cA : Nat → ClassId} {N0 zE : Nat} {a0 : Nat} {p1 : Int32} {p2 : Int32} {p3 : Int32} {T : zT} {F : zF} {Post : Int32 → zF → Prop} (h : v_X9_price a0 p1 p2 p3 T F Post) : z_Mt l D cA N0 zE yX9_price cX9_price 4 (some .int) ({ frames := 2, cells := 0, slots := 0, locals := 45 } : Room) [.ref a0, .int p1, .int p2, .int p3] T F (fun v T' F' => ∃ r : Int32, v = some (.int r) ∧ T = T' ∧ Post r F') := by
  unfold v_X9_price at h
  refine z_bodyT (by decide) (Nat.le_of_ble_eq_true rfl) ?_
  intro p e s m args below meth c C hnm
  have C : z_C p l s m args meth c RX9 cX9_price 4 (some .int) D cA N0 zE := C
  show z_w p l e ({ frames := 2, cells := 0, slots := 0, locals := 45 } : Room) s m args below meth c D cA N0 4 0 0 (MQ below (z_Qc D cA N0 (fun v T' F' => ∃ r : Int32, v = some (.int r) ∧ T = T' ∧ Post r F')) args s 0 0 (fun q => N0 ≤ q)) 0 [(0, .ref a0), (1, .int p1), (2, .int p2), (3, .int p3)] [] T F
  refine zr_aload_n C 0 dX9_price_0 rfl rfl ?_
  refine zr_iconst C 0 dX9_price_1 (by decide) ?_
  obtain ⟨hT1, h⟩ := h
  refine zr_put C fl_X9_33 hT1 rfl rfl dX9_price_2 ?_
  refine zr_aload_n C 0 dX9_price_5 rfl rfl ?_
  refine zr_iload_n C 1 dX9_price_6 rfl rfl ?_
  refine zr_iload_n C 2 dX9_price_7 rfl rfl ?_
  refine zr_iload_n C 3 dX9_price_8 rfl rfl ?_
  refine zr_callV (As := [.int p1, .int p2, .int p3]) (r := (RX9, TX9, 6)) C (k_X9_isSpan h) ok_X9_174 zq_1343 zq_20 hT1 (by decide) rfl rfl ⟨by decide, (Nat.le_of_ble_eq_true rfl)⟩ ⟨(Nat.le_of_ble_eq_true rfl), (Nat.le_of_ble_eq_true rfl)⟩ (Nat.le_of_ble_eq_true rfl) dX9_price_9 (fun v12 U13 G14 hq => ?_)
  clear h
  · obtain ⟨r2, rfl, rfl, rfl, h⟩ := hq
    obtain ⟨h1, h2⟩ := h
    refine zr_if_eq C 25 dX9_price_12 (by decide) (fun hc => ?_) (fun hc => ?_)
    · have h := h1 hc
      clear h1 h2
      refine zr_aload_n C 0 dX9_price_25 rfl rfl ?_
      refine zr_iconst C 1 dX9_price_26 (by decide) ?_
      refine zr_callV (As := [.int 1]) (r := (RX9, TX9, 6)) C (k_X9_refuse h) ok_X9_48 zq_985 zq_16 hT1 (by decide) rfl rfl ⟨by decide, (Nat.le_of_ble_eq_true rfl)⟩ ⟨(Nat.le_of_ble_eq_true rfl), (Nat.le_of_ble_eq_true rfl)⟩ (Nat.le_of_ble_eq_true rfl) dX9_price_27 (fun v5 U6 G7 hq => ?_)
      clear h
      · obtain ⟨r3, rfl, rfl, h⟩ := hq
        exact zr_iret C rfl ⟨_, rfl, rfl, h⟩ (Nat.le_of_ble_eq_true rfl) (Nat.le_of_ble_eq_true rfl) dX9_price_30
    · have h := h2 hc
      clear h1 h2
      refine zr_aload_n C 0 dX9_price_15 rfl rfl ?_
      refine zr_iload_n C 1 dX9_price_16 rfl rfl ?_
      refine zr_iload_n C 2 dX9_price_17 rfl rfl ?_
      refine zr_iload_n C 3 dX9_price_18 rfl rfl ?_
      refine zr_callV (As := [.int p1, .int p2, .int p3]) (r := (RX9, TX9, 6)) C (k_X9_priceOf h) ok_X9_177 zq_1348 zq_21 hT1 (by decide) rfl rfl ⟨by decide, (Nat.le_of_ble_eq_true rfl)⟩ ⟨(Nat.le_of_ble_eq_true rfl), (Nat.le_of_ble_eq_true rfl)⟩ (Nat.le_of_ble_eq_true rfl) dX9_price_19 (fun v9 U10 G11 hq => ?_)
      clear h
      · obtain ⟨r8, rfl, rfl, rfl, h⟩ := hq
        refine zr_goto C 30 dX9_price_22 (by decide) ?_
        exact zr_iret C rfl ⟨_, rfl, rfl, h⟩ (Nat.le_of_ble_eq_true rfl) (Nat.le_of_ble_eq_true rfl) dX9_price_30
theorem dX9_swapFor_0 : decode cX9_swapFor 0 = .ok (.aload_n 0, 1) := by decide +kernel
theorem dX9_swapFor_1 : decode cX9_swapFor 1 = .ok (.iconst 0, 1) := by decide +kernel
theorem dX9_swapFor_2 : decode cX9_swapFor 2 = .ok (.putfield 33, 3) := by decide +kernel
theorem dX9_swapFor_5 : decode cX9_swapFor 5 = .ok (.aload_n 0, 1) := by decide +kernel
theorem dX9_swapFor_6 : decode cX9_swapFor 6 = .ok (.iload_n 1, 1) := by decide +kernel
theorem dX9_swapFor_10 : decode cX9_swapFor 10 = .ok (.ifCond .eq 27, 3) := by decide +kernel
theorem dX9_swapFor_37 : decode cX9_swapFor 37 = .ok (.aload_n 0, 1) := by decide +kernel
theorem dX9_swapFor_38 : decode cX9_swapFor 38 = .ok (.iconst 1, 1) := by decide +kernel
theorem dX9_swapFor_42 : decode cX9_swapFor 42 = .ok (.ireturn, 1) := by decide +kernel
theorem dX9_swapFor_39 : decode cX9_swapFor 39 = .ok (.invokevirtual 48, 3) := by decide +kernel
theorem dX9_swapFor_13 : decode cX9_swapFor 13 = .ok (.aload_n 0, 1) := by decide +kernel
theorem dX9_swapFor_14 : decode cX9_swapFor 14 = .ok (.getfield 29, 3) := by decide +kernel
theorem dX9_swapFor_17 : decode cX9_swapFor 17 = .ok (.aload_n 0, 1) := by decide +kernel
theorem dX9_swapFor_18 : decode cX9_swapFor 18 = .ok (.getfield 29, 3) := by decide +kernel
theorem dX9_swapFor_21 : decode cX9_swapFor 21 = .ok (.getfield 45, 3) := by decide +kernel
theorem dX9_swapFor_24 : decode cX9_swapFor 24 = .ok (.iload_n 1, 1) := by decide +kernel
theorem dX9_swapFor_7 : decode cX9_swapFor 7 = .ok (.invokevirtual 188, 3) := by decide +kernel
def v_X9_swapFor (a0 : Nat) (p1 : Int32) (T : zT) (F : zF) (Post : Int32 → zF → Prop) : Prop :=
  (T a0 = some (12, 6) ∧ (v_X9_isBooking a0 p1 T (zu F a0 0 (.int 0)) (fun (r2 : Int32) => ((r2 = 0 → (v_X9_refuse a0 1 T (zu F a0 0 (.int 0)) (fun (r3 : Int32) (F4 : zF) => Post r3 F4))) ∧ (¬ r2 = 0 → (∃ x9 : Nat, (zu F a0 0 (.int 0)) a0 4 = .ref x9 ∧ T x9 = some (9, 3) ∧ ∃ x12 : Nat, (zu F a0 0 (.int 0)) x9 0 = .ref x12 ∧ False))))))
set_option maxRecDepth 100000 in
set_option maxHeartbeats 4000000 in
theorem k_X9_swapFor {l : Launch} {D : va_G} {cA : Nat → ClassId} {N0 zE : Nat} {a0 : Nat} {p1 : Int32} {T : zT} {F : zF} {Post : Int32 → zF → Prop} (h : v_X9_swapFor a0 p1 T F Post) : z_Mt l D cA N0 zE yX9_swapFor cX9_swapFor 2 (some .int) ({ frames := 2, cells := 0, slots := 0, locals := 43 } : Room) [.ref a0, .int p1] T F (fun v T' F' => ∃ r : Int32, v = some (.int r) ∧ T = T' ∧ Post r F') := by
  unfold v_X9_swapFor at h
  refine z_bodyT (by decide) (Nat.le_of_ble_eq_true rfl) ?_
  intro p e s m args below meth c C hnm
  have C : z_C p l s m args meth c RX9 cX9_swapFor 2 (some .int) D cA N0 zE := C
  show z_w p l e ({ frames := 2, cells := 0, slots := 0, locals := 43 } : Room) s m args below meth c D cA N0 2 0 0 (MQ below (z_Qc D cA N0 (fun v T' F' => ∃ r : Int32, v = some (.int r) ∧ T = T' ∧ Post r F')) args s 0 0 (fun q => N0 ≤ q)) 0 [(0, .ref a0), (1, .int p1)] [] T F
  refine zr_aload_n C 0 dX9_swapFor_0 rfl rfl ?_
  refine zr_iconst C 0 dX9_swapFor_1 (by decide) ?_
  obtain ⟨hT1, h⟩ := h
  refine zr_put C fl_X9_33 hT1 rfl rfl dX9_swapFor_2 ?_
  refine zr_aload_n C 0 dX9_swapFor_5 rfl rfl ?_
  refine zr_iload_n C 1 dX9_swapFor_6 rfl rfl ?_
  refine zr_callV (As := [.int p1]) (r := (RX9, TX9, 6)) C (k_X9_isBooking h) ok_X9_188 zq_1435 zq_22 hT1 (by decide) rfl rfl ⟨by decide, (Nat.le_of_ble_eq_true rfl)⟩ ⟨(Nat.le_of_ble_eq_true rfl), (Nat.le_of_ble_eq_true rfl)⟩ (Nat.le_of_ble_eq_true rfl) dX9_swapFor_7 (fun v13 U14 G15 hq => ?_)
  clear h
  · obtain ⟨r2, rfl, rfl, rfl, h⟩ := hq
    obtain ⟨h1, h2⟩ := h
    refine zr_if_eq C 37 dX9_swapFor_10 (by decide) (fun hc => ?_) (fun hc => ?_)
    · have h := h1 hc
      clear h1 h2
      refine zr_aload_n C 0 dX9_swapFor_37 rfl rfl ?_
      refine zr_iconst C 1 dX9_swapFor_38 (by decide) ?_
      refine zr_callV (As := [.int 1]) (r := (RX9, TX9, 6)) C (k_X9_refuse h) ok_X9_48 zq_985 zq_16 hT1 (by decide) rfl rfl ⟨by decide, (Nat.le_of_ble_eq_true rfl)⟩ ⟨(Nat.le_of_ble_eq_true rfl), (Nat.le_of_ble_eq_true rfl)⟩ (Nat.le_of_ble_eq_true rfl) dX9_swapFor_39 (fun v5 U6 G7 hq => ?_)
      clear h
      · obtain ⟨r3, rfl, rfl, h⟩ := hq
        exact zr_iret C rfl ⟨_, rfl, rfl, h⟩ (Nat.le_of_ble_eq_true rfl) (Nat.le_of_ble_eq_true rfl) dX9_swapFor_42
    · have h := h2 hc
      clear h1 h2
      refine zr_aload_n C 0 dX9_swapFor_13 rfl rfl ?_
      obtain ⟨x9, hv8, h⟩ := h
      refine zr_get C fl_X9_29 hT1 hv8 dX9_swapFor_14 ?_
      refine zr_aload_n C 0 dX9_swapFor_17 rfl rfl ?_
      refine zr_get C fl_X9_29 hT1 hv8 dX9_swapFor_18 ?_
      obtain ⟨hT10, x12, hv11, h⟩ := h
      refine zr_get C fl_X9_45 hT10 hv11 dX9_swapFor_21 ?_
      refine zr_iload_n C 1 dX9_swapFor_24 rfl rfl ?_
      exact h.elim
theorem dX9_offIn_0 : decode cX9_offIn 0 = .ok (.aload_n 0, 1) := by decide +kernel
theorem dX9_offIn_1 : decode cX9_offIn 1 = .ok (.iconst 0, 1) := by decide +kernel
theorem dX9_offIn_2 : decode cX9_offIn 2 = .ok (.putfield 33, 3) := by decide +kernel
theorem dX9_offIn_5 : decode cX9_offIn 5 = .ok (.aload_n 0, 1) := by decide +kernel
theorem dX9_offIn_6 : decode cX9_offIn 6 = .ok (.iload_n 1, 1) := by decide +kernel
theorem dX9_offIn_10 : decode cX9_offIn 10 = .ok (.ifCond .eq 24, 3) := by decide +kernel
theorem dX9_offIn_34 : decode cX9_offIn 34 = .ok (.aload_n 0, 1) := by decide +kernel
theorem dX9_offIn_35 : decode cX9_offIn 35 = .ok (.iconst 1, 1) := by decide +kernel
theorem dX9_offIn_39 : decode cX9_offIn 39 = .ok (.ireturn, 1) := by decide +kernel
theorem dX9_offIn_36 : decode cX9_offIn 36 = .ok (.invokevirtual 48, 3) := by decide +kernel
theorem dX9_offIn_13 : decode cX9_offIn 13 = .ok (.aload_n 0, 1) := by decide +kernel
theorem dX9_offIn_14 : decode cX9_offIn 14 = .ok (.aload_n 0, 1) := by decide +kernel
theorem dX9_offIn_15 : decode cX9_offIn 15 = .ok (.getfield 29, 3) := by decide +kernel
theorem dX9_offIn_18 : decode cX9_offIn 18 = .ok (.getfield 45, 3) := by decide +kernel
theorem dX9_offIn_21 : decode cX9_offIn 21 = .ok (.iload_n 1, 1) := by decide +kernel
theorem dX9_offIn_7 : decode cX9_offIn 7 = .ok (.invokevirtual 188, 3) := by decide +kernel
def v_X9_offIn (a0 : Nat) (p1 : Int32) (T : zT) (F : zF) (Post : Int32 → zF → Prop) : Prop :=
  (T a0 = some (12, 6) ∧ (v_X9_isBooking a0 p1 T (zu F a0 0 (.int 0)) (fun (r2 : Int32) => ((r2 = 0 → (v_X9_refuse a0 1 T (zu F a0 0 (.int 0)) (fun (r3 : Int32) (F4 : zF) => Post r3 F4))) ∧ (¬ r2 = 0 → (∃ x9 : Nat, (zu F a0 0 (.int 0)) a0 4 = .ref x9 ∧ T x9 = some (9, 3) ∧ ∃ x12 : Nat, (zu F a0 0 (.int 0)) x9 0 = .ref x12 ∧ False))))))
set_option maxRecDepth 100000 in
set_option maxHeartbeats 4000000 in
theorem k_X9_offIn {l : Launch} {D : va_G} {cA : Nat → ClassId} {N0 zE : Nat} {a0 : Nat} {p1 : Int32} {T : zT} {F : zF} {Post : Int32 → zF → Prop} (h : v_X9_offIn a0 p1 T F Post) : z_Mt l D cA N0 zE yX9_offIn cX9_offIn 2 (some .int) ({ frames := 2, cells := 0, slots := 0, locals := 43 } : Room) [.ref a0, .int p1] T F (fun v T' F' => ∃ r : Int32, v = some (.int r) ∧ T = T' ∧ Post r F') := by
  unfold v_X9_offIn at h
  refine z_bodyT (by decide) (Nat.le_of_ble_eq_true rfl) ?_
  intro p e s m args below meth c C hnm
  have C : z_C p l s m args meth c RX9 cX9_offIn 2 (some .int) D cA N0 zE := C
  show z_w p l e ({ frames := 2, cells := 0, slots := 0, locals := 43 } : Room) s m args below meth c D cA N0 2 0 0 (MQ below (z_Qc D cA N0 (fun v T' F' => ∃ r : Int32, v = some (.int r) ∧ T = T' ∧ Post r F')) args s 0 0 (fun q => N0 ≤ q)) 0 [(0, .ref a0), (1, .int p1)] [] T F
  refine zr_aload_n C 0 dX9_offIn_0 rfl rfl ?_
  refine zr_iconst C 0 dX9_offIn_1 (by decide) ?_
  obtain ⟨hT1, h⟩ := h
  refine zr_put C fl_X9_33 hT1 rfl rfl dX9_offIn_2 ?_
  refine zr_aload_n C 0 dX9_offIn_5 rfl rfl ?_
  refine zr_iload_n C 1 dX9_offIn_6 rfl rfl ?_
  refine zr_callV (As := [.int p1]) (r := (RX9, TX9, 6)) C (k_X9_isBooking h) ok_X9_188 zq_1435 zq_22 hT1 (by decide) rfl rfl ⟨by decide, (Nat.le_of_ble_eq_true rfl)⟩ ⟨(Nat.le_of_ble_eq_true rfl), (Nat.le_of_ble_eq_true rfl)⟩ (Nat.le_of_ble_eq_true rfl) dX9_offIn_7 (fun v13 U14 G15 hq => ?_)
  clear h
  · obtain ⟨r2, rfl, rfl, rfl, h⟩ := hq
    obtain ⟨h1, h2⟩ := h
    refine zr_if_eq C 34 dX9_offIn_10 (by decide) (fun hc => ?_) (fun hc => ?_)
    · have h := h1 hc
      clear h1 h2
      refine zr_aload_n C 0 dX9_offIn_34 rfl rfl ?_
      refine zr_iconst C 1 dX9_offIn_35 (by decide) ?_
      refine zr_callV (As := [.int 1]) (r := (RX9, TX9, 6)) C (k_X9_refuse h) ok_X9_48 zq_985 zq_16 hT1 (by decide) rfl rfl ⟨by decide, (Nat.le_of_ble_eq_true rfl)⟩ ⟨(Nat.le_of_ble_eq_true rfl), (Nat.le_of_ble_eq_true rfl)⟩ (Nat.le_of_ble_eq_true rfl) dX9_offIn_36 (fun v5 U6 G7 hq => ?_)
      clear h
      · obtain ⟨r3, rfl, rfl, h⟩ := hq
        exact zr_iret C rfl ⟨_, rfl, rfl, h⟩ (Nat.le_of_ble_eq_true rfl) (Nat.le_of_ble_eq_true rfl) dX9_offIn_39
    · have h := h2 hc
      clear h1 h2
      refine zr_aload_n C 0 dX9_offIn_13 rfl rfl ?_
      refine zr_aload_n C 0 dX9_offIn_14 rfl rfl ?_
      obtain ⟨x9, hv8, h⟩ := h
      refine zr_get C fl_X9_29 hT1 hv8 dX9_offIn_15 ?_
      obtain ⟨hT10, x12, hv11, h⟩ := h
      refine zr_get C fl_X9_45 hT10 hv11 dX9_offIn_18 ?_
      refine zr_iload_n C 1 dX9_offIn_21 rfl rfl ?_
      exact h.elim
theorem dX6_copy_0 : decode cX6_copy 0 = .ok (.new 4, 3) := by decide +kernel
theorem dX6_copy_3 : decode cX6_copy 3 = .ok (.dup, 1) := by decide +kernel
theorem dX6_copy_4 : decode cX6_copy 4 = .ok (.aload_n 0, 1) := by decide +kernel
theorem dX6_copy_5 : decode cX6_copy 5 = .ok (.getfield 3, 3) := by decide +kernel
theorem dX6_copy_11 : decode cX6_copy 11 = .ok (.astore_n 1, 1) := by decide +kernel
theorem dX6_copy_12 : decode cX6_copy 12 = .ok (.aload_n 0, 1) := by decide +kernel
theorem dX6_copy_13 : decode cX6_copy 13 = .ok (.getfield 18, 3) := by decide +kernel
theorem dX6_copy_19 : decode cX6_copy 19 = .ok (.astore_n 2, 1) := by decide +kernel
theorem dX6_copy_20 : decode cX6_copy 20 = .ok (.aload_n 2, 1) := by decide +kernel
theorem dX6_copy_26 : decode cX6_copy 26 = .ok (.ifCond .eq 28, 3) := by decide +kernel
theorem dX6_copy_54 : decode cX6_copy 54 = .ok (.aload_n 1, 1) := by decide +kernel
theorem dX6_copy_55 : decode cX6_copy 55 = .ok (.aload_n 0, 1) := by decide +kernel
theorem dX6_copy_56 : decode cX6_copy 56 = .ok (.getfield 49, 3) := by decide +kernel
theorem dX6_copy_59 : decode cX6_copy 59 = .ok (.putfield 49, 3) := by decide +kernel
theorem dX6_copy_62 : decode cX6_copy 62 = .ok (.aload_n 1, 1) := by decide +kernel
theorem dX6_copy_63 : decode cX6_copy 63 = .ok (.areturn, 1) := by decide +kernel
theorem dX6_copy_29 : decode cX6_copy 29 = .ok (.aload_n 2, 1) := by decide +kernel
theorem dX6_copy_21 : decode cX6_copy 21 = .ok (.invokeinterface 29 1, 5) := by decide +kernel
theorem dX6_copy_16 : decode cX6_copy 16 = .ok (.invokevirtual 25, 3) := by decide +kernel
theorem dX6_copy_8 : decode cX6_copy 8 = .ok (.invokespecial 22, 3) := by decide +kernel
def v_X6_copy (zE : Nat) (a0 : Nat) (T : zT) (F : zF) (Post : Nat → zT → zF → Prop) : Prop :=
  (∀ q1 : Nat, (∀ b, q1 ≤ b → T b = none) → (zn T q1 (9, 3) a0 = some (9, 3) ∧ ∃ x5 : Nat, (zm F q1 (fun j => defaultValue (tyX6 j))) a0 2 = .ref x5 ∧ (v_X6_init zE q1 x5 (zn T q1 (9, 3)) (zm F q1 (fun j => defaultValue (tyX6 j))) (fun (T6 : zT) (F7 : zF) => (T6 a0 = some (9, 3) ∧ ∃ x10 : Nat, F7 a0 0 = .ref x10 ∧ T6 x10 = some (2, 3) ∧ (v_Jx4a65c_iterator_32c93 x10 T6 F7 (fun (r12 : Nat) (T13 : zT) (F14 : zF) => (T13 r12 = some (1, 4) ∧ (v_Jx35411_hasNext_aae02 r12 T13 F14 (fun (r16 : Int32) => ((r16 = 0 → (T13 a0 = some (9, 3) ∧ ∃ x19 : Int32, F14 a0 1 = .int x19 ∧ T13 q1 = some (9, 3) ∧ Post q1 T13 (zu F14 q1 1 (.int x19)))) ∧ (¬ r16 = 0 → False))))))))))))
set_option maxRecDepth 100000 in
set_option maxHeartbeats 4000000 in
theorem k_X6_copy {l : Launch} {D : va_G} {cA : Nat → ClassId} {N0 zE : Nat} {a0 : Nat} {T : zT} {F : zF} {Post : Nat → zT → zF → Prop} (h : v_X6_copy zE a0 T F Post) : z_Mt l D cA N0 zE yX6_copy cX6_copy 4 (some (.object "BrandRoomModel$Book")) ({ frames := 5, cells := 3, slots := 10, locals := 101 } : Room) [.ref a0] T F (fun v T' F' => ∃ r : Nat, v = some (.ref r) ∧ Post r T' F') := by
  unfold v_X6_copy at h
  refine z_bodyT (by decide) (Nat.le_of_ble_eq_true rfl) ?_
  intro p e s m args below meth c C hnm
  have C : z_C p l s m args meth c RX6 cX6_copy 4 (some (.object "BrandRoomModel$Book")) D cA N0 zE := C
  show z_w p l e ({ frames := 5, cells := 3, slots := 10, locals := 101 } : Room) s m args below meth c D cA N0 4 0 0 (MQ below (z_Qc D cA N0 (fun v T' F' => ∃ r : Nat, v = some (.ref r) ∧ Post r T' F')) args s 3 10 (fun q => N0 ≤ q)) 0 [(0, .ref a0)] [] T F
  refine zr_new C nw_X6_4 (Nat.le_of_ble_eq_true rfl) (Nat.le_of_ble_eq_true rfl) dX6_copy_0 (fun q1 hq2 => ?_)
  have h := h q1 hq2
  refine zr_dup C dX6_copy_3 rfl ?_
  refine zr_aload_n C 0 dX6_copy_4 rfl rfl ?_
  obtain ⟨hT3, x5, hv4, h⟩ := h
  refine zr_get C fl_X6_3 hT3 hv4 dX6_copy_5 ?_
  refine zr_callI (As := [.ref x5]) C (k_X6_init h) ok_X6_22 zq_936 rfl rfl ⟨by decide, (Nat.le_of_ble_eq_true rfl)⟩ ⟨(Nat.le_of_ble_eq_true rfl), (Nat.le_of_ble_eq_true rfl)⟩ (Nat.le_of_ble_eq_true rfl) dX6_copy_8 (fun v27 U28 G29 hq => ?_)
  clear h
  · obtain ⟨rfl, h⟩ := hq
    skip
    refine zr_astore_n C [(1, .ref q1), (0, .ref a0)] dX6_copy_11 rfl (by decide) rfl ?_
    refine zr_aload_n C 1 dX6_copy_12 rfl rfl ?_
    obtain ⟨hT8, x10, hv9, h⟩ := h
    refine zr_get C fl_X6_18 hT8 hv9 dX6_copy_13 ?_
    obtain ⟨hT11, h⟩ := h
    refine zr_callV (As := []) (r := (RJx4a65c, TJx4a65c, 3)) C (k_Jx4a65c_iterator_32c93 h) ok_X6_25 zq_1280 zq_1281 hT11 (by decide) rfl rfl ⟨by decide, (Nat.le_of_ble_eq_true rfl)⟩ ⟨(Nat.le_of_ble_eq_true rfl), (Nat.le_of_ble_eq_true rfl)⟩ (Nat.le_of_ble_eq_true rfl) dX6_copy_16 (fun v24 U25 G26 hq => ?_)
    clear h
    · obtain ⟨r12, rfl, h⟩ := hq
      skip
      refine zr_astore_n C [(2, .ref r12), (1, .ref q1), (0, .ref a0)] dX6_copy_19 rfl (by decide) rfl ?_
      refine zr_aload_n C 0 dX6_copy_20 rfl rfl ?_
      obtain ⟨hT15, h⟩ := h
      refine zr_callF (As := []) (r := (RJx35411, TJx35411, 4)) C (k_Jx35411_hasNext_aae02 h) ok_X6_29 hT15 (by decide) rfl rfl ⟨by decide, (Nat.le_of_ble_eq_true rfl)⟩ ⟨(Nat.le_of_ble_eq_true rfl), (Nat.le_of_ble_eq_true rfl)⟩ (Nat.le_of_ble_eq_true rfl) dX6_copy_21 (fun v21 U22 G23 hq => ?_)
      clear h
      · obtain ⟨r16, rfl, rfl, rfl, h⟩ := hq
        obtain ⟨h1, h2⟩ := h
        refine zr_if_eq C 54 dX6_copy_26 (by decide) (fun hc => ?_) (fun hc => ?_)
        · have h := h1 hc
          clear h1 h2
          refine zr_aload_n C 1 dX6_copy_54 rfl rfl ?_
          refine zr_aload_n C 2 dX6_copy_55 rfl rfl ?_
          obtain ⟨hT17, x19, hv18, h⟩ := h
          refine zr_get C fl_X6_49 hT17 hv18 dX6_copy_56 ?_
          obtain ⟨hT20, h⟩ := h
          refine zr_put C fl_X6_49 hT20 rfl rfl dX6_copy_59 ?_
          refine zr_aload_n C 1 dX6_copy_62 rfl rfl ?_
          exact zr_aret C rfl (Or.inl ⟨_, rfl⟩) (Or.inr ⟨_, rfl⟩) ⟨_, rfl, h⟩ (Nat.le_of_ble_eq_true rfl) (Nat.le_of_ble_eq_true rfl) dX6_copy_63
        · have h := h2 hc
          clear h1 h2
          refine zr_aload_n C 0 dX6_copy_29 rfl rfl ?_
          exact h.elim
theorem dX9_lostInNow_0 : decode cX9_lostInNow 0 = .ok (.aload_n 0, 1) := by decide +kernel
theorem dX9_lostInNow_1 : decode cX9_lostInNow 1 = .ok (.getfield 29, 3) := by decide +kernel
theorem dX9_lostInNow_7 : decode cX9_lostInNow 7 = .ok (.astore_n 2, 1) := by decide +kernel
theorem dX9_lostInNow_8 : decode cX9_lostInNow 8 = .ok (.iconst 0, 1) := by decide +kernel
theorem dX9_lostInNow_9 : decode cX9_lostInNow 9 = .ok (.istore_n 3, 1) := by decide +kernel
theorem dX9_lostInNow_10 : decode cX9_lostInNow 10 = .ok (.iload_n 3, 1) := by decide +kernel
theorem dX9_lostInNow_11 : decode cX9_lostInNow 11 = .ok (.iload_n 1, 1) := by decide +kernel
theorem dX9_lostInNow_12 : decode cX9_lostInNow 12 = .ok (.if_icmp .ge 23, 3) := by decide +kernel
theorem dX9_lostInNow_35 : decode cX9_lostInNow 35 = .ok (.aload_n 2, 1) := by decide +kernel
theorem dX9_lostInNow_36 : decode cX9_lostInNow 36 = .ok (.iconst 4, 1) := by decide +kernel
theorem dX9_lostInNow_40 : decode cX9_lostInNow 40 = .ok (.aload_n 0, 1) := by decide +kernel
theorem dX9_lostInNow_41 : decode cX9_lostInNow 41 = .ok (.getfield 29, 3) := by decide +kernel
theorem dX9_lostInNow_44 : decode cX9_lostInNow 44 = .ok (.iconst 4, 1) := by decide +kernel
theorem dX9_lostInNow_48 : decode cX9_lostInNow 48 = .ok (.isub, 1) := by decide +kernel
theorem dX9_lostInNow_49 : decode cX9_lostInNow 49 = .ok (.ireturn, 1) := by decide +kernel
theorem dX9_lostInNow_45 : decode cX9_lostInNow 45 = .ok (.invokevirtual 241, 3) := by decide +kernel
theorem dX9_lostInNow_37 : decode cX9_lostInNow 37 = .ok (.invokevirtual 241, 3) := by decide +kernel
theorem dX9_lostInNow_15 : decode cX9_lostInNow 15 = .ok (.aload_n 2, 1) := by decide +kernel
theorem dX9_lostInNow_16 : decode cX9_lostInNow 16 = .ok (.getfield 63, 3) := by decide +kernel
theorem dX9_lostInNow_19 : decode cX9_lostInNow 19 = .ok (.bipush 99, 2) := by decide +kernel
theorem dX9_lostInNow_21 : decode cX9_lostInNow 21 = .ok (.if_icmp .ge 14, 3) := by decide +kernel
theorem dX9_lostInNow_24 : decode cX9_lostInNow 24 = .ok (.aload_n 2, 1) := by decide +kernel
theorem dX9_lostInNow_28 : decode cX9_lostInNow 28 = .ok (.pop, 1) := by decide +kernel
theorem dX9_lostInNow_29 : decode cX9_lostInNow 29 = .ok (.iinc 3 1, 3) := by decide +kernel
theorem dX9_lostInNow_32 : decode cX9_lostInNow 32 = .ok (.goto (-22), 3) := by decide +kernel
theorem dX9_lostInNow_25 : decode cX9_lostInNow 25 = .ok (.invokevirtual 236, 3) := by decide +kernel
theorem dX9_lostInNow_4 : decode cX9_lostInNow 4 = .ok (.invokevirtual 264, 3) := by decide +kernel
def v_X9_lostInNow (zE : Nat) (a0 : Nat) (p1 : Int32) (T : zT) (F : zF) (Post : Int32 → zT → zF → Prop) : Prop :=
  (T a0 = some (12, 6) ∧ ∃ x3 : Nat, F a0 4 = .ref x3 ∧ T x3 = some (9, 3) ∧ (v_X6_copy zE x3 T F (fun (r5 : Nat) (T6 : zT) (F7 : zF) => (∃ I8 : Nat → Int32 → zT → zF → Prop, (∃ n10 : Nat, n10 ≤ 31 ∧ I8 n10 0 T6 F7) ∧ (∀ (n9 : Nat) (y11 : Int32) (T12 : zT) (F13 : zF), n9 ≤ 31 → I8 n9 y11 T12 F13 → ((p1 ≤ y11 → (T12 r5 = some (9, 3) ∧ (v_X6_inState r5 4 T12 F13 (fun (r17 : Int32) (T18 : zT) (F19 : zF) => (T18 a0 = some (12, 6) ∧ ∃ x22 : Nat, F19 a0 4 = .ref x22 ∧ T18 x22 = some (9, 3) ∧ (v_X6_inState x22 4 T18 F19 (fun (r24 : Int32) (T25 : zT) (F26 : zF) => Post (r17 - r24) T25 F26))))))) ∧ (¬ p1 ≤ y11 → (T12 r5 = some (9, 3) ∧ ∃ x35 : Int32, F13 r5 1 = .int x35 ∧ ((99 ≤ x35 → (v_X6_inState r5 4 T12 F13 (fun (r36 : Int32) (T37 : zT) (F38 : zF) => (T37 a0 = some (12, 6) ∧ ∃ x41 : Nat, F38 a0 4 = .ref x41 ∧ T37 x41 = some (9, 3) ∧ (v_X6_inState x41 4 T37 F38 (fun (r43 : Int32) (T44 : zT) (F45 : zF) => Post (r36 - r43) T44 F45)))))) ∧ (¬ 99 ≤ x35 → (v_X6_next r5 T12 F13 (fun (r52 : Int32) (T53 : zT) (F54 : zF) => (∃ n55 : Nat, n55 < n9 ∧ I8 n55 (y11 + 1) T53 F54)))))))))))))
set_option maxRecDepth 100000 in
set_option maxHeartbeats 4000000 in
theorem k_X9_lostInNow {l : Launch} {D : va_G} {cA : Nat → ClassId} {N0 zE : Nat} {a0 : Nat} {p1 : Int32} {T : zT} {F : zF} {Post : Int32 → zT → zF → Prop} (h : v_X9_lostInNow zE a0 p1 T F Post) : z_Mt l D cA N0 zE yX9_lostInNow cX9_lostInNow 4 (some .int) ({ frames := 6, cells := 101, slots := 402, locals := 124 } : Room) [.ref a0, .int p1] T F (fun v T' F' => ∃ r : Int32, v = some (.int r) ∧ Post r T' F') := by
  unfold v_X9_lostInNow at h
  refine z_bodyT (by decide) (Nat.le_of_ble_eq_true rfl) ?_
  intro p e s m args below meth c C hnm
  have C : z_C p l s m args meth c RX9 cX9_lostInNow 4 (some .int) D cA N0 zE := C
  show z_w p l e ({ frames := 6, cells := 101, slots := 402, locals := 124 } : Room) s m args below meth c D cA N0 4 0 0 (MQ below (z_Qc D cA N0 (fun v T' F' => ∃ r : Int32, v = some (.int r) ∧ Post r T' F')) args s 101 402 (fun q => N0 ≤ q)) 0 [(0, .ref a0), (1, .int p1)] [] T F
  refine zr_aload_n C 0 dX9_lostInNow_0 rfl rfl ?_
  obtain ⟨hT1, x3, hv2, h⟩ := h
  refine zr_get C fl_X9_29 hT1 hv2 dX9_lostInNow_1 ?_
  obtain ⟨hT4, h⟩ := h
  refine zr_callV (As := []) (r := (RX6, TX6, 3)) C (k_X6_copy h) ok_X9_264 zq_1557 zq_1558 hT4 (by decide) rfl rfl ⟨by decide, (Nat.le_of_ble_eq_true rfl)⟩ ⟨(Nat.le_of_ble_eq_true rfl), (Nat.le_of_ble_eq_true rfl)⟩ (Nat.le_of_ble_eq_true rfl) dX9_lostInNow_4 (fun v62 U63 G64 hq => ?_)
  clear h
  · obtain ⟨r5, rfl, h⟩ := hq
    skip
    refine zr_astore_n C [(2, .ref r5), (0, .ref a0), (1, .int p1)] dX9_lostInNow_7 rfl (by decide) rfl ?_
    refine zr_iconst C 0 dX9_lostInNow_8 (by decide) ?_
    refine zr_istore_n C [(3, .int 0), (2, .ref r5), (0, .ref a0), (1, .int p1)] dX9_lostInNow_9 rfl (by decide) rfl ?_
    obtain ⟨I8, ⟨n10, hb15, h060⟩, hI59⟩ := h
    have ky61 : ∀ (n9 : Nat) (y11 : Int32) (T12 : zT) (F13 : zF), n9 ≤ 31 → I8 n9 y11 T12 F13 → z_w p l e ({ frames := 6, cells := 101, slots := 402, locals := 124 } : Room) s m args below meth c D cA N0 4 (3 + (31 - n9) * 3) (10 + (31 - n9) * 12) (MQ below (z_Qc D cA N0 (fun v T' F' => ∃ r : Int32, v = some (.int r) ∧ Post r T' F')) args s 101 402 (fun q => N0 ≤ q)) 10 [(0, .ref a0), (1, .int p1), (2, .ref r5), (3, .int y11)] [] T12 F13 := by
      intro n9
      induction n9 using Nat.strongRecOn with
      | _ n9 ih14 =>
        intro y11 T12 F13 hb15 hin
        have h := hI59 n9 y11 T12 F13 hb15 hin
        refine zr_iload_n C 3 dX9_lostInNow_10 rfl rfl ?_
        refine zr_iload_n C 1 dX9_lostInNow_11 rfl rfl ?_
        obtain ⟨h1, h2⟩ := h
        refine zr_icmp_ge C 35 dX9_lostInNow_12 (by decide) (fun hc => ?_) (fun hc => ?_)
        · have h := h1 hc
          clear h1 h2
          refine zr_aload_n C 2 dX9_lostInNow_35 rfl rfl ?_
          refine zr_iconst C 4 dX9_lostInNow_36 (by decide) ?_
          obtain ⟨hT16, h⟩ := h
          refine zr_callV (As := [.int 4]) (r := (RX6, TX6, 3)) C (k_X6_inState h) ok_X9_241 zq_1507 zq_1508 hT16 (by decide) rfl rfl ⟨by decide, (Nat.le_of_ble_eq_true rfl)⟩ ⟨(by show 3 + (31 - n9) * 3 + 1 ≤ 101; omega), (by show 10 + (31 - n9) * 12 + 4 ≤ 402; omega)⟩ (Nat.le_of_ble_eq_true rfl) dX9_lostInNow_37 (fun v30 U31 G32 hq => ?_)
          clear h
          · obtain ⟨r17, rfl, h⟩ := hq
            skip
            refine zr_aload_n C 0 dX9_lostInNow_40 rfl rfl ?_
            obtain ⟨hT20, x22, hv21, h⟩ := h
            refine zr_get C fl_X9_29 hT20 hv21 dX9_lostInNow_41 ?_
            refine zr_iconst C 4 dX9_lostInNow_44 (by decide) ?_
            obtain ⟨hT23, h⟩ := h
            refine zr_callV (As := [.int 4]) (r := (RX6, TX6, 3)) C (k_X6_inState h) ok_X9_241 zq_1507 zq_1508 hT23 (by decide) rfl rfl ⟨by decide, (Nat.le_of_ble_eq_true rfl)⟩ ⟨(by show 3 + (31 - n9) * 3 + 1 + 1 ≤ 101; omega), (by show 10 + (31 - n9) * 12 + 4 + 4 ≤ 402; omega)⟩ (Nat.le_of_ble_eq_true rfl) dX9_lostInNow_45 (fun v27 U28 G29 hq => ?_)
            clear h
            · obtain ⟨r24, rfl, h⟩ := hq
              skip
              refine zr_isub C dX9_lostInNow_48 ?_
              exact zr_iret C rfl ⟨_, rfl, h⟩ (by show 3 + (31 - n9) * 3 + 1 + 1 ≤ 101; omega) (by show 10 + (31 - n9) * 12 + 4 + 4 ≤ 402; omega) dX9_lostInNow_49
        · have h := h2 hc
          clear h1 h2
          refine zr_aload_n C 2 dX9_lostInNow_15 rfl rfl ?_
          obtain ⟨hT33, x35, hv34, h⟩ := h
          refine zr_get C fl_X9_63 hT33 hv34 dX9_lostInNow_16 ?_
          refine zr_bipush C 99 dX9_lostInNow_19 (by decide) ?_
          obtain ⟨h1, h2⟩ := h
          refine zr_icmp_ge C 35 dX9_lostInNow_21 (by decide) (fun hc => ?_) (fun hc => ?_)
          · have h := h1 hc
            clear h1 h2
            refine zr_aload_n C 2 dX9_lostInNow_35 rfl rfl ?_
            refine zr_iconst C 4 dX9_lostInNow_36 (by decide) ?_
            refine zr_callV (As := [.int 4]) (r := (RX6, TX6, 3)) C (k_X6_inState h) ok_X9_241 zq_1507 zq_1508 hT33 (by decide) rfl rfl ⟨by decide, (Nat.le_of_ble_eq_true rfl)⟩ ⟨(by show 3 + (31 - n9) * 3 + 1 ≤ 101; omega), (by show 10 + (31 - n9) * 12 + 4 ≤ 402; omega)⟩ (Nat.le_of_ble_eq_true rfl) dX9_lostInNow_37 (fun v49 U50 G51 hq => ?_)
            clear h
            · obtain ⟨r36, rfl, h⟩ := hq
              skip
              refine zr_aload_n C 0 dX9_lostInNow_40 rfl rfl ?_
              obtain ⟨hT39, x41, hv40, h⟩ := h
              refine zr_get C fl_X9_29 hT39 hv40 dX9_lostInNow_41 ?_
              refine zr_iconst C 4 dX9_lostInNow_44 (by decide) ?_
              obtain ⟨hT42, h⟩ := h
              refine zr_callV (As := [.int 4]) (r := (RX6, TX6, 3)) C (k_X6_inState h) ok_X9_241 zq_1507 zq_1508 hT42 (by decide) rfl rfl ⟨by decide, (Nat.le_of_ble_eq_true rfl)⟩ ⟨(by show 3 + (31 - n9) * 3 + 1 + 1 ≤ 101; omega), (by show 10 + (31 - n9) * 12 + 4 + 4 ≤ 402; omega)⟩ (Nat.le_of_ble_eq_true rfl) dX9_lostInNow_45 (fun v46 U47 G48 hq => ?_)
              clear h
              · obtain ⟨r43, rfl, h⟩ := hq
                skip
                refine zr_isub C dX9_lostInNow_48 ?_
                exact zr_iret C rfl ⟨_, rfl, h⟩ (by show 3 + (31 - n9) * 3 + 1 + 1 ≤ 101; omega) (by show 10 + (31 - n9) * 12 + 4 + 4 ≤ 402; omega) dX9_lostInNow_49
          · have h := h2 hc
            clear h1 h2
            refine zr_aload_n C 2 dX9_lostInNow_24 rfl rfl ?_
            refine zr_callV (As := []) (r := (RX6, TX6, 3)) C (k_X6_next h) ok_X9_236 zq_1474 zq_1475 hT33 (by decide) rfl rfl ⟨by decide, (Nat.le_of_ble_eq_true rfl)⟩ ⟨(by show 3 + (31 - n9) * 3 + 3 ≤ 101; omega), (by show 10 + (31 - n9) * 12 + 12 ≤ 402; omega)⟩ (Nat.le_of_ble_eq_true rfl) dX9_lostInNow_25 (fun v56 U57 G58 hq => ?_)
            clear h
            · obtain ⟨r52, rfl, h⟩ := hq
              skip
              refine zr_pop C dX9_lostInNow_28 rfl ?_
              refine zr_iinc C [(3, .int (y11 + 1)), (0, .ref a0), (1, .int p1), (2, .ref r5)] 3 dX9_lostInNow_29 rfl rfl (by decide) rfl ?_
              refine zr_goto C 10 dX9_lostInNow_32 (by decide) ?_
              obtain ⟨n55, hlt, h⟩ := h
              exact zr_widen (by show 3 + (31 - n9) * 3 + 3 ≤ 3 + (31 - n55) * 3; omega) (by show 10 + (31 - n9) * 12 + 12 ≤ 10 + (31 - n55) * 12; omega) (zr_sub [1, 2, 3, 0] rfl (ih14 n55 hlt (y11 + 1) U57 G58 (by omega) h))
    exact zr_widen (by show 3 ≤ 3 + (31 - n10) * 3; omega) (by show 10 ≤ 10 + (31 - n10) * 12; omega) (zr_sub [2, 3, 1, 0] rfl (ky61 n10 0 U63 G64 hb15 h060))
theorem dX9_lostIn_0 : decode cX9_lostIn 0 = .ok (.aload_n 0, 1) := by decide +kernel
theorem dX9_lostIn_1 : decode cX9_lostIn 1 = .ok (.iconst 0, 1) := by decide +kernel
theorem dX9_lostIn_2 : decode cX9_lostIn 2 = .ok (.putfield 33, 3) := by decide +kernel
theorem dX9_lostIn_5 : decode cX9_lostIn 5 = .ok (.iload_n 1, 1) := by decide +kernel
theorem dX9_lostIn_6 : decode cX9_lostIn 6 = .ok (.iconst 1, 1) := by decide +kernel
theorem dX9_lostIn_7 : decode cX9_lostIn 7 = .ok (.bipush 30, 2) := by decide +kernel
theorem dX9_lostIn_12 : decode cX9_lostIn 12 = .ok (.ifCond .eq 11, 3) := by decide +kernel
theorem dX9_lostIn_23 : decode cX9_lostIn 23 = .ok (.aload_n 0, 1) := by decide +kernel
theorem dX9_lostIn_24 : decode cX9_lostIn 24 = .ok (.iconst 1, 1) := by decide +kernel
theorem dX9_lostIn_28 : decode cX9_lostIn 28 = .ok (.ireturn, 1) := by decide +kernel
theorem dX9_lostIn_25 : decode cX9_lostIn 25 = .ok (.invokevirtual 48, 3) := by decide +kernel
theorem dX9_lostIn_15 : decode cX9_lostIn 15 = .ok (.aload_n 0, 1) := by decide +kernel
theorem dX9_lostIn_16 : decode cX9_lostIn 16 = .ok (.iload_n 1, 1) := by decide +kernel
theorem dX9_lostIn_20 : decode cX9_lostIn 20 = .ok (.goto 8, 3) := by decide +kernel
theorem dX9_lostIn_17 : decode cX9_lostIn 17 = .ok (.invokevirtual 268, 3) := by decide +kernel
theorem dX9_lostIn_9 : decode cX9_lostIn 9 = .ok (.invokestatic 41, 3) := by decide +kernel
def v_X9_lostIn (zE : Nat) (a0 : Nat) (p1 : Int32) (T : zT) (F : zF) (Post : Int32 → zT → zF → Prop) : Prop :=
  (T a0 = some (12, 6) ∧ (v_X9_is p1 1 30 T (zu F a0 0 (.int 0)) (fun (r2 : Int32) => ((r2 = 0 → (v_X9_refuse a0 1 T (zu F a0 0 (.int 0)) (fun (r3 : Int32) (F4 : zF) => Post r3 T F4))) ∧ (¬ r2 = 0 → (v_X9_lostInNow zE a0 p1 T (zu F a0 0 (.int 0)) (fun (r8 : Int32) (T9 : zT) (F10 : zF) => Post r8 T9 F10)))))))
set_option maxRecDepth 100000 in
set_option maxHeartbeats 4000000 in
theorem k_X9_lostIn {l : Launch} {D : va_G} {cA : Nat → ClassId} {N0 zE : Nat} {a0 : Nat} {p1 : Int32} {T : zT} {F : zF} {Post : Int32 → zT → zF → Prop} (h : v_X9_lostIn zE a0 p1 T F Post) : z_Mt l D cA N0 zE yX9_lostIn cX9_lostIn 2 (some .int) ({ frames := 7, cells := 101, slots := 402, locals := 147 } : Room) [.ref a0, .int p1] T F (fun v T' F' => ∃ r : Int32, v = some (.int r) ∧ Post r T' F') := by
  unfold v_X9_lostIn at h
  refine z_bodyT (by decide) (Nat.le_of_ble_eq_true rfl) ?_
  intro p e s m args below meth c C hnm
  have C : z_C p l s m args meth c RX9 cX9_lostIn 2 (some .int) D cA N0 zE := C
  show z_w p l e ({ frames := 7, cells := 101, slots := 402, locals := 147 } : Room) s m args below meth c D cA N0 2 0 0 (MQ below (z_Qc D cA N0 (fun v T' F' => ∃ r : Int32, v = some (.int r) ∧ Post r T' F')) args s 101 402 (fun q => N0 ≤ q)) 0 [(0, .ref a0), (1, .int p1)] [] T F
  refine zr_aload_n C 0 dX9_lostIn_0 rfl rfl ?_
  refine zr_iconst C 0 dX9_lostIn_1 (by decide) ?_
  obtain ⟨hT1, h⟩ := h
  refine zr_put C fl_X9_33 hT1 rfl rfl dX9_lostIn_2 ?_
  refine zr_iload_n C 1 dX9_lostIn_5 rfl rfl ?_
  refine zr_iconst C 1 dX9_lostIn_6 (by decide) ?_
  refine zr_bipush C 30 dX9_lostIn_7 (by decide) ?_
  refine zr_callS (As := [.int p1, .int 1, .int 30]) C (k_X9_is h) ok_X9_41 zq_1022 rfl ⟨by decide, (Nat.le_of_ble_eq_true rfl)⟩ ⟨(Nat.le_of_ble_eq_true rfl), (Nat.le_of_ble_eq_true rfl)⟩ (Nat.le_of_ble_eq_true rfl) dX9_lostIn_9 (fun v14 U15 G16 hq => ?_)
  clear h
  · obtain ⟨r2, rfl, rfl, rfl, h⟩ := hq
    obtain ⟨h1, h2⟩ := h
    refine zr_if_eq C 23 dX9_lostIn_12 (by decide) (fun hc => ?_) (fun hc => ?_)
    · have h := h1 hc
      clear h1 h2
      refine zr_aload_n C 0 dX9_lostIn_23 rfl rfl ?_
      refine zr_iconst C 1 dX9_lostIn_24 (by decide) ?_
      refine zr_callV (As := [.int 1]) (r := (RX9, TX9, 6)) C (k_X9_refuse h) ok_X9_48 zq_985 zq_16 hT1 (by decide) rfl rfl ⟨by decide, (Nat.le_of_ble_eq_true rfl)⟩ ⟨(Nat.le_of_ble_eq_true rfl), (Nat.le_of_ble_eq_true rfl)⟩ (Nat.le_of_ble_eq_true rfl) dX9_lostIn_25 (fun v5 U6 G7 hq => ?_)
      clear h
      · obtain ⟨r3, rfl, rfl, h⟩ := hq
        exact zr_iret C rfl ⟨_, rfl, h⟩ (Nat.le_of_ble_eq_true rfl) (Nat.le_of_ble_eq_true rfl) dX9_lostIn_28
    · have h := h2 hc
      clear h1 h2
      refine zr_aload_n C 0 dX9_lostIn_15 rfl rfl ?_
      refine zr_iload_n C 1 dX9_lostIn_16 rfl rfl ?_
      refine zr_callV (As := [.int p1]) (r := (RX9, TX9, 6)) C (k_X9_lostInNow h) ok_X9_268 zq_1554 zq_28 hT1 (by decide) rfl rfl ⟨by decide, (Nat.le_of_ble_eq_true rfl)⟩ ⟨(Nat.le_of_ble_eq_true rfl), (Nat.le_of_ble_eq_true rfl)⟩ (Nat.le_of_ble_eq_true rfl) dX9_lostIn_17 (fun v11 U12 G13 hq => ?_)
      clear h
      · obtain ⟨r8, rfl, h⟩ := hq
        skip
        refine zr_goto C 28 dX9_lostIn_20 (by decide) ?_
        exact zr_iret C rfl ⟨_, rfl, h⟩ (Nat.le_of_ble_eq_true rfl) (Nat.le_of_ble_eq_true rfl) dX9_lostIn_28
theorem dX9_reachWith_0 : decode cX9_reachWith 0 = .ok (.aload_n 0, 1) := by decide +kernel
theorem dX9_reachWith_1 : decode cX9_reachWith 1 = .ok (.iconst 0, 1) := by decide +kernel
theorem dX9_reachWith_2 : decode cX9_reachWith 2 = .ok (.putfield 33, 3) := by decide +kernel
theorem dX9_reachWith_5 : decode cX9_reachWith 5 = .ok (.aload_n 0, 1) := by decide +kernel
theorem dX9_reachWith_6 : decode cX9_reachWith 6 = .ok (.iload_n 1, 1) := by decide +kernel
theorem dX9_reachWith_10 : decode cX9_reachWith 10 = .ok (.ifCond .eq 23, 3) := by decide +kernel
theorem dX9_reachWith_33 : decode cX9_reachWith 33 = .ok (.aload_n 0, 1) := by decide +kernel
theorem dX9_reachWith_34 : decode cX9_reachWith 34 = .ok (.iconst 1, 1) := by decide +kernel
theorem dX9_reachWith_38 : decode cX9_reachWith 38 = .ok (.ireturn, 1) := by decide +kernel
theorem dX9_reachWith_35 : decode cX9_reachWith 35 = .ok (.invokevirtual 48, 3) := by decide +kernel
theorem dX9_reachWith_13 : decode cX9_reachWith 13 = .ok (.aload_n 0, 1) := by decide +kernel
theorem dX9_reachWith_14 : decode cX9_reachWith 14 = .ok (.getfield 29, 3) := by decide +kernel
theorem dX9_reachWith_17 : decode cX9_reachWith 17 = .ok (.getfield 45, 3) := by decide +kernel
theorem dX9_reachWith_20 : decode cX9_reachWith 20 = .ok (.iload_n 1, 1) := by decide +kernel
theorem dX9_reachWith_7 : decode cX9_reachWith 7 = .ok (.invokevirtual 188, 3) := by decide +kernel
def v_X9_reachWith (a0 : Nat) (p1 : Int32) (T : zT) (F : zF) (Post : Int32 → zF → Prop) : Prop :=
  (T a0 = some (12, 6) ∧ (v_X9_isBooking a0 p1 T (zu F a0 0 (.int 0)) (fun (r2 : Int32) => ((r2 = 0 → (v_X9_refuse a0 1 T (zu F a0 0 (.int 0)) (fun (r3 : Int32) (F4 : zF) => Post r3 F4))) ∧ (¬ r2 = 0 → (∃ x9 : Nat, (zu F a0 0 (.int 0)) a0 4 = .ref x9 ∧ T x9 = some (9, 3) ∧ ∃ x12 : Nat, (zu F a0 0 (.int 0)) x9 0 = .ref x12 ∧ False))))))
set_option maxRecDepth 100000 in
set_option maxHeartbeats 4000000 in
theorem k_X9_reachWith {l : Launch} {D : va_G} {cA : Nat → ClassId} {N0 zE : Nat} {a0 : Nat} {p1 : Int32} {T : zT} {F : zF} {Post : Int32 → zF → Prop} (h : v_X9_reachWith a0 p1 T F Post) : z_Mt l D cA N0 zE yX9_reachWith cX9_reachWith 3 (some .int) ({ frames := 2, cells := 0, slots := 0, locals := 43 } : Room) [.ref a0, .int p1] T F (fun v T' F' => ∃ r : Int32, v = some (.int r) ∧ T = T' ∧ Post r F') := by
  unfold v_X9_reachWith at h
  refine z_bodyT (by decide) (Nat.le_of_ble_eq_true rfl) ?_
  intro p e s m args below meth c C hnm
  have C : z_C p l s m args meth c RX9 cX9_reachWith 3 (some .int) D cA N0 zE := C
  show z_w p l e ({ frames := 2, cells := 0, slots := 0, locals := 43 } : Room) s m args below meth c D cA N0 3 0 0 (MQ below (z_Qc D cA N0 (fun v T' F' => ∃ r : Int32, v = some (.int r) ∧ T = T' ∧ Post r F')) args s 0 0 (fun q => N0 ≤ q)) 0 [(0, .ref a0), (1, .int p1)] [] T F
  refine zr_aload_n C 0 dX9_reachWith_0 rfl rfl ?_
  refine zr_iconst C 0 dX9_reachWith_1 (by decide) ?_
  obtain ⟨hT1, h⟩ := h
  refine zr_put C fl_X9_33 hT1 rfl rfl dX9_reachWith_2 ?_
  refine zr_aload_n C 0 dX9_reachWith_5 rfl rfl ?_
  refine zr_iload_n C 1 dX9_reachWith_6 rfl rfl ?_
  refine zr_callV (As := [.int p1]) (r := (RX9, TX9, 6)) C (k_X9_isBooking h) ok_X9_188 zq_1435 zq_22 hT1 (by decide) rfl rfl ⟨by decide, (Nat.le_of_ble_eq_true rfl)⟩ ⟨(Nat.le_of_ble_eq_true rfl), (Nat.le_of_ble_eq_true rfl)⟩ (Nat.le_of_ble_eq_true rfl) dX9_reachWith_7 (fun v13 U14 G15 hq => ?_)
  clear h
  · obtain ⟨r2, rfl, rfl, rfl, h⟩ := hq
    obtain ⟨h1, h2⟩ := h
    refine zr_if_eq C 33 dX9_reachWith_10 (by decide) (fun hc => ?_) (fun hc => ?_)
    · have h := h1 hc
      clear h1 h2
      refine zr_aload_n C 0 dX9_reachWith_33 rfl rfl ?_
      refine zr_iconst C 1 dX9_reachWith_34 (by decide) ?_
      refine zr_callV (As := [.int 1]) (r := (RX9, TX9, 6)) C (k_X9_refuse h) ok_X9_48 zq_985 zq_16 hT1 (by decide) rfl rfl ⟨by decide, (Nat.le_of_ble_eq_true rfl)⟩ ⟨(Nat.le_of_ble_eq_true rfl), (Nat.le_of_ble_eq_true rfl)⟩ (Nat.le_of_ble_eq_true rfl) dX9_reachWith_35 (fun v5 U6 G7 hq => ?_)
      clear h
      · obtain ⟨r3, rfl, rfl, h⟩ := hq
        exact zr_iret C rfl ⟨_, rfl, rfl, h⟩ (Nat.le_of_ble_eq_true rfl) (Nat.le_of_ble_eq_true rfl) dX9_reachWith_38
    · have h := h2 hc
      clear h1 h2
      refine zr_aload_n C 0 dX9_reachWith_13 rfl rfl ?_
      obtain ⟨x9, hv8, h⟩ := h
      refine zr_get C fl_X9_29 hT1 hv8 dX9_reachWith_14 ?_
      obtain ⟨hT10, x12, hv11, h⟩ := h
      refine zr_get C fl_X9_45 hT10 hv11 dX9_reachWith_17 ?_
      refine zr_iload_n C 1 dX9_reachWith_20 rfl rfl ?_
      exact h.elim
theorem dX9_add_0 : decode cX9_add 0 = .ok (.aload_n 0, 1) := by decide +kernel
theorem dX9_add_1 : decode cX9_add 1 = .ok (.aload_n 0, 1) := by decide +kernel
theorem dX9_add_2 : decode cX9_add 2 = .ok (.getfield 271, 3) := by decide +kernel
theorem dX9_add_5 : decode cX9_add 5 = .ok (.ldc2_w 275, 3) := by decide +kernel
theorem dX9_add_8 : decode cX9_add 8 = .ok (.lmul, 1) := by decide +kernel
theorem dX9_add_9 : decode cX9_add 9 = .ok (.iload_n 1, 1) := by decide +kernel
theorem dX9_add_10 : decode cX9_add 10 = .ok (.i2l, 1) := by decide +kernel
theorem dX9_add_11 : decode cX9_add 11 = .ok (.ladd, 1) := by decide +kernel
theorem dX9_add_12 : decode cX9_add 12 = .ok (.putfield 271, 3) := by decide +kernel
theorem dX9_add_15 : decode cX9_add 15 = .ok (.return_, 1) := by decide +kernel
def v_X9_add (a0 : Nat) (p1 : Int32) (T : zT) (F : zF) (Post : zF → Prop) : Prop :=
  (T a0 = some (12, 6) ∧ ∃ x3 : Int64, F a0 5 = .long x3 ∧ Post (zu F a0 5 (.long ((x3 * 31) + p1.toInt64))))
set_option maxRecDepth 100000 in
set_option maxHeartbeats 4000000 in
theorem k_X9_add {l : Launch} {D : va_G} {cA : Nat → ClassId} {N0 zE : Nat} {a0 : Nat} {p1 : Int32} {T : zT} {F : zF} {Post : zF → Prop} (h : v_X9_add a0 p1 T F Post) : z_Mt l D cA N0 zE yX9_add cX9_add 2 none ({ frames := 0, cells := 0, slots := 0, locals := 0 } : Room) [.ref a0, .int p1] T F (fun v T' F' => v = none ∧ T = T' ∧ Post F') := by
  unfold v_X9_add at h
  refine z_bodyT (by decide) (Nat.le_of_ble_eq_true rfl) ?_
  intro p e s m args below meth c C hnm
  have C : z_C p l s m args meth c RX9 cX9_add 2 none D cA N0 zE := C
  show z_w p l e ({ frames := 0, cells := 0, slots := 0, locals := 0 } : Room) s m args below meth c D cA N0 2 0 0 (MQ below (z_Qc D cA N0 (fun v T' F' => v = none ∧ T = T' ∧ Post F')) args s 0 0 (fun q => N0 ≤ q)) 0 [(0, .ref a0), (1, .int p1)] [] T F
  refine zr_aload_n C 0 dX9_add_0 rfl rfl ?_
  refine zr_aload_n C 0 dX9_add_1 rfl rfl ?_
  obtain ⟨hT1, x3, hv2, h⟩ := h
  refine zr_get C fl_X9_271 hT1 hv2 dX9_add_2 ?_
  refine zr_ldc2 C 31 dX9_add_5 zq_1582 ?_
  refine zr_lmul C dX9_add_8 ?_
  refine zr_iload_n C 1 dX9_add_9 rfl rfl ?_
  refine zr_i2l C dX9_add_10 ?_
  refine zr_ladd C dX9_add_11 ?_
  refine zr_put C fl_X9_271 hT1 rfl rfl dX9_add_12 ?_
  exact zr_vret C rfl ⟨rfl, rfl, h⟩ (Nat.le_of_ble_eq_true rfl) (Nat.le_of_ble_eq_true rfl) dX9_add_15
theorem dX9_digest_0 : decode cX9_digest 0 = .ok (.aload_n 0, 1) := by decide +kernel
theorem dX9_digest_1 : decode cX9_digest 1 = .ok (.iconst 0, 1) := by decide +kernel
theorem dX9_digest_2 : decode cX9_digest 2 = .ok (.putfield 33, 3) := by decide +kernel
theorem dX9_digest_5 : decode cX9_digest 5 = .ok (.aload_n 0, 1) := by decide +kernel
theorem dX9_digest_6 : decode cX9_digest 6 = .ok (.ldc2_w 277, 3) := by decide +kernel
theorem dX9_digest_9 : decode cX9_digest 9 = .ok (.putfield 271, 3) := by decide +kernel
theorem dX9_digest_12 : decode cX9_digest 12 = .ok (.iconst 0, 1) := by decide +kernel
theorem dX9_digest_13 : decode cX9_digest 13 = .ok (.istore_n 1, 1) := by decide +kernel
theorem dX9_digest_14 : decode cX9_digest 14 = .ok (.iload_n 1, 1) := by decide +kernel
theorem dX9_digest_15 : decode cX9_digest 15 = .ok (.bipush 11, 2) := by decide +kernel
theorem dX9_digest_17 : decode cX9_digest 17 = .ok (.if_icmp .ge 18, 3) := by decide +kernel
theorem dX9_digest_35 : decode cX9_digest 35 = .ok (.aload_n 0, 1) := by decide +kernel
theorem dX9_digest_36 : decode cX9_digest 36 = .ok (.getfield 10, 3) := by decide +kernel
theorem dX9_digest_42 : decode cX9_digest 42 = .ok (.astore_n 1, 1) := by decide +kernel
theorem dX9_digest_43 : decode cX9_digest 43 = .ok (.aload_n 1, 1) := by decide +kernel
theorem dX9_digest_49 : decode cX9_digest 49 = .ok (.ifCond .eq 41, 3) := by decide +kernel
theorem dX9_digest_90 : decode cX9_digest 90 = .ok (.iconst 0, 1) := by decide +kernel
theorem dX9_digest_91 : decode cX9_digest 91 = .ok (.istore_n 1, 1) := by decide +kernel
theorem dX9_digest_92 : decode cX9_digest 92 = .ok (.iload_n 1, 1) := by decide +kernel
theorem dX9_digest_93 : decode cX9_digest 93 = .ok (.aload_n 0, 1) := by decide +kernel
theorem dX9_digest_94 : decode cX9_digest 94 = .ok (.getfield 16, 3) := by decide +kernel
theorem dX9_digest_100 : decode cX9_digest 100 = .ok (.if_icmp .ge 71, 3) := by decide +kernel
theorem dX9_digest_171 : decode cX9_digest 171 = .ok (.aload_n 0, 1) := by decide +kernel
theorem dX9_digest_172 : decode cX9_digest 172 = .ok (.getfield 29, 3) := by decide +kernel
theorem dX9_digest_175 : decode cX9_digest 175 = .ok (.getfield 45, 3) := by decide +kernel
theorem dX9_digest_181 : decode cX9_digest 181 = .ok (.astore_n 1, 1) := by decide +kernel
theorem dX9_digest_182 : decode cX9_digest 182 = .ok (.aload_n 1, 1) := by decide +kernel
theorem dX9_digest_188 : decode cX9_digest 188 = .ok (.ifCond .eq 60, 3) := by decide +kernel
theorem dX9_digest_248 : decode cX9_digest 248 = .ok (.iconst 0, 1) := by decide +kernel
theorem dX9_digest_249 : decode cX9_digest 249 = .ok (.istore_n 1, 1) := by decide +kernel
theorem dX9_digest_250 : decode cX9_digest 250 = .ok (.iload_n 1, 1) := by decide +kernel
theorem dX9_digest_251 : decode cX9_digest 251 = .ok (.iconst 4, 1) := by decide +kernel
theorem dX9_digest_252 : decode cX9_digest 252 = .ok (.if_icmp .ge 19, 3) := by decide +kernel
theorem dX9_digest_271 : decode cX9_digest 271 = .ok (.aload_n 0, 1) := by decide +kernel
theorem dX9_digest_272 : decode cX9_digest 272 = .ok (.aload_n 0, 1) := by decide +kernel
theorem dX9_digest_273 : decode cX9_digest 273 = .ok (.bipush 20, 2) := by decide +kernel
theorem dX9_digest_281 : decode cX9_digest 281 = .ok (.aload_n 0, 1) := by decide +kernel
theorem dX9_digest_282 : decode cX9_digest 282 = .ok (.getfield 271, 3) := by decide +kernel
theorem dX9_digest_285 : decode cX9_digest 285 = .ok (.lreturn, 1) := by decide +kernel
theorem dX9_digest_278 : decode cX9_digest 278 = .ok (.invokevirtual 279, 3) := by decide +kernel
theorem dX9_digest_275 : decode cX9_digest 275 = .ok (.invokevirtual 268, 3) := by decide +kernel
theorem dX9_digest_255 : decode cX9_digest 255 = .ok (.aload_n 0, 1) := by decide +kernel
theorem dX9_digest_256 : decode cX9_digest 256 = .ok (.aload_n 0, 1) := by decide +kernel
theorem dX9_digest_257 : decode cX9_digest 257 = .ok (.iload_n 1, 1) := by decide +kernel
theorem dX9_digest_258 : decode cX9_digest 258 = .ok (.aconst_null, 1) := by decide +kernel
theorem dX9_digest_265 : decode cX9_digest 265 = .ok (.iinc 1 1, 3) := by decide +kernel
theorem dX9_digest_268 : decode cX9_digest 268 = .ok (.goto (-18), 3) := by decide +kernel
theorem dX9_digest_262 : decode cX9_digest 262 = .ok (.invokevirtual 279, 3) := by decide +kernel
theorem dX9_digest_259 : decode cX9_digest 259 = .ok (.invokevirtual 253, 3) := by decide +kernel
theorem dX9_digest_191 : decode cX9_digest 191 = .ok (.aload_n 1, 1) := by decide +kernel
theorem dX9_digest_183 : decode cX9_digest 183 = .ok (.invokeinterface 139 1, 5) := by decide +kernel
theorem dX9_digest_178 : decode cX9_digest 178 = .ok (.invokevirtual 135, 3) := by decide +kernel
theorem dX9_digest_103 : decode cX9_digest 103 = .ok (.iconst 0, 1) := by decide +kernel
theorem dX9_digest_104 : decode cX9_digest 104 = .ok (.istore_n 2, 1) := by decide +kernel
theorem dX9_digest_105 : decode cX9_digest 105 = .ok (.iload_n 2, 1) := by decide +kernel
theorem dX9_digest_106 : decode cX9_digest 106 = .ok (.iconst 5, 1) := by decide +kernel
theorem dX9_digest_107 : decode cX9_digest 107 = .ok (.if_icmp .ge 19, 3) := by decide +kernel
theorem dX9_digest_110 : decode cX9_digest 110 = .ok (.aload_n 0, 1) := by decide +kernel
theorem dX9_digest_111 : decode cX9_digest 111 = .ok (.aload_n 0, 1) := by decide +kernel
theorem dX9_digest_112 : decode cX9_digest 112 = .ok (.iload_n 1, 1) := by decide +kernel
theorem dX9_digest_113 : decode cX9_digest 113 = .ok (.iload_n 2, 1) := by decide +kernel
theorem dX9_digest_97 : decode cX9_digest 97 = .ok (.invokevirtual 37, 3) := by decide +kernel
theorem dX9_digest_52 : decode cX9_digest 52 = .ok (.aload_n 1, 1) := by decide +kernel
theorem dX9_digest_44 : decode cX9_digest 44 = .ok (.invokeinterface 139 1, 5) := by decide +kernel
theorem dX9_digest_39 : decode cX9_digest 39 = .ok (.invokevirtual 135, 3) := by decide +kernel
theorem dX9_digest_20 : decode cX9_digest 20 = .ok (.aload_n 0, 1) := by decide +kernel
theorem dX9_digest_21 : decode cX9_digest 21 = .ok (.aload_n 0, 1) := by decide +kernel
theorem dX9_digest_22 : decode cX9_digest 22 = .ok (.iload_n 1, 1) := by decide +kernel
theorem dX9_digest_29 : decode cX9_digest 29 = .ok (.iinc 1 1, 3) := by decide +kernel
theorem dX9_digest_32 : decode cX9_digest 32 = .ok (.goto (-18), 3) := by decide +kernel
theorem dX9_digest_26 : decode cX9_digest 26 = .ok (.invokevirtual 279, 3) := by decide +kernel
theorem dX9_digest_23 : decode cX9_digest 23 = .ok (.invokevirtual 244, 3) := by decide +kernel
def v_X9_digest (zE : Nat) (a0 : Nat) (T : zT) (F : zF) (Post : Int64 → zT → zF → Prop) : Prop :=
  (T a0 = some (12, 6) ∧ (∃ I3 : Nat → Int32 → zT → zF → Prop, (∃ n5 : Nat, n5 ≤ 12 ∧ I3 n5 0 T (zu (zu F a0 0 (.int 0)) a0 5 (.long 5741))) ∧ (∀ (n4 : Nat) (y6 : Int32) (T7 : zT) (F8 : zF), n4 ≤ 12 → I3 n4 y6 T7 F8 → ((11 ≤ y6 → (T7 a0 = some (12, 6) ∧ ∃ x13 : Nat, F8 a0 1 = .ref x13 ∧ T7 x13 = some (2, 3) ∧ (v_Jx4a65c_iterator_32c93 x13 T7 F8 (fun (r15 : Nat) (T16 : zT) (F17 : zF) => (T16 r15 = some (1, 4) ∧ (v_Jx35411_hasNext_aae02 r15 T16 F17 (fun (r19 : Int32) => ((r19 = 0 → (∃ I20 : Nat → Int32 → Prop, (∃ n22 : Nat, I20 n22 0) ∧ (∀ (n21 : Nat) (y23 : Int32), I20 n21 y23 → (T16 a0 = some (12, 6) ∧ ∃ x28 : Nat, F17 a0 2 = .ref x28 ∧ T16 x28 = some (2, 3) ∧ (v_Jx4a65c_size_8abf5 x28 T16 F17 (fun (r30 : Int32) => ((r30 ≤ y23 → (∃ x32 : Nat, F17 a0 4 = .ref x32 ∧ T16 x32 = some (9, 3) ∧ ∃ x35 : Nat, F17 x32 0 = .ref x35 ∧ T16 x35 = some (2, 3) ∧ (v_Jx4a65c_iterator_32c93 x35 T16 F17 (fun (r37 : Nat) (T38 : zT) (F39 : zF) => (T38 r37 = some (1, 4) ∧ (v_Jx35411_hasNext_aae02 r37 T38 F39 (fun (r41 : Int32) => ((r41 = 0 → (∃ I42 : Nat → Int32 → zT → zF → Prop, (∃ n44 : Nat, n44 ≤ 5 ∧ I42 n44 0 T38 F39) ∧ (∀ (n43 : Nat) (y45 : Int32) (T46 : zT) (F47 : zF), n43 ≤ 5 → I42 n43 y45 T46 F47 → ((4 ≤ y45 → (T46 a0 = some (12, 6) ∧ (v_X9_lostInNow zE a0 20 T46 F47 (fun (r51 : Int32) (T52 : zT) (F53 : zF) => (T52 a0 = some (12, 6) ∧ (v_X9_add a0 r51 T52 F53 (fun (F55 : zF) => (∃ x57 : Int64, F55 a0 5 = .long x57 ∧ Post x57 T52 F55)))))))) ∧ (¬ 4 ≤ y45 → (T46 a0 = some (12, 6) ∧ (v_X9_reachNow a0 y45 T46 F47 (fun (r65 : Int32) (T66 : zT) (F67 : zF) => (T66 a0 = some (12, 6) ∧ (v_X9_add a0 r65 T66 F67 (fun (F69 : zF) => (∃ n70 : Nat, n70 < n43 ∧ I42 n70 (y45 + 1) T66 F69)))))))))))) ∧ (¬ r41 = 0 → False))))))))) ∧ (¬ r30 ≤ y23 → False)))))))) ∧ (¬ r19 = 0 → False))))))))) ∧ (¬ 11 ≤ y6 → (T7 a0 = some (12, 6) ∧ (v_X9_manyNow a0 y6 T7 F8 (fun (r99 : Int32) (T100 : zT) (F101 : zF) => (T100 a0 = some (12, 6) ∧ (v_X9_add a0 r99 T100 F101 (fun (F103 : zF) => (∃ n104 : Nat, n104 < n4 ∧ I3 n104 (y6 + 1) T100 F103))))))))))))
set_option maxRecDepth 100000 in
set_option maxHeartbeats 4000000 in
theorem k_X9_digest {l : Launch} {D : va_G} {cA : Nat → ClassId} {N0 zE : Nat} {a0 : Nat} {T : zT} {F : zF} {Post : Int64 → zT → zF → Prop} (h : v_X9_digest zE a0 T F Post) : z_Mt l D cA N0 zE yX9_digest cX9_digest 4 (some .long) ({ frames := 7, cells := 148, slots := 590, locals := 147 } : Room) [.ref a0] T F (fun v T' F' => ∃ r : Int64, v = some (.long r) ∧ Post r T' F') := by
  unfold v_X9_digest at h
  refine z_bodyT (by decide) (Nat.le_of_ble_eq_true rfl) ?_
  intro p e s m args below meth c C hnm
  have C : z_C p l s m args meth c RX9 cX9_digest 4 (some .long) D cA N0 zE := C
  show z_w p l e ({ frames := 7, cells := 148, slots := 590, locals := 147 } : Room) s m args below meth c D cA N0 4 0 0 (MQ below (z_Qc D cA N0 (fun v T' F' => ∃ r : Int64, v = some (.long r) ∧ Post r T' F')) args s 148 590 (fun q => N0 ≤ q)) 0 [(0, .ref a0)] [] T F
  refine zr_aload_n C 0 dX9_digest_0 rfl rfl ?_
  refine zr_iconst C 0 dX9_digest_1 (by decide) ?_
  obtain ⟨hT1, h⟩ := h
  refine zr_put C fl_X9_33 hT1 rfl rfl dX9_digest_2 ?_
  refine zr_aload_n C 0 dX9_digest_5 rfl rfl ?_
  refine zr_ldc2 C 5741 dX9_digest_6 zq_1577 ?_
  refine zr_put C fl_X9_271 hT1 rfl rfl dX9_digest_9 ?_
  refine zr_iconst C 0 dX9_digest_12 (by decide) ?_
  refine zr_istore_n C [(1, .int 0), (0, .ref a0)] dX9_digest_13 rfl (by decide) rfl ?_
  obtain ⟨I3, ⟨n5, hb10, h0112⟩, hI111⟩ := h
  have ky113 : ∀ (n4 : Nat) (y6 : Int32) (T7 : zT) (F8 : zF), n4 ≤ 12 → I3 n4 y6 T7 F8 → z_w p l e ({ frames := 7, cells := 148, slots := 590, locals := 147 } : Room) s m args below meth c D cA N0 4 (0 + (12 - n4) * 3) (0 + (12 - n4) * 12) (MQ below (z_Qc D cA N0 (fun v T' F' => ∃ r : Int64, v = some (.long r) ∧ Post r T' F')) args s 148 590 (fun q => N0 ≤ q)) 14 [(0, .ref a0), (1, .int y6)] [] T7 F8 := by
    intro n4
    induction n4 using Nat.strongRecOn with
    | _ n4 ih9 =>
      intro y6 T7 F8 hb10 hin
      have h := hI111 n4 y6 T7 F8 hb10 hin
      refine zr_iload_n C 1 dX9_digest_14 rfl rfl ?_
      refine zr_bipush C 11 dX9_digest_15 (by decide) ?_
      obtain ⟨h1, h2⟩ := h
      refine zr_icmp_ge C 35 dX9_digest_17 (by decide) (fun hc => ?_) (fun hc => ?_)
      · have h := h1 hc
        clear h1 h2
        refine zr_aload_n C 0 dX9_digest_35 rfl rfl ?_
        obtain ⟨hT11, x13, hv12, h⟩ := h
        refine zr_get C fl_X9_10 hT11 hv12 dX9_digest_36 ?_
        obtain ⟨hT14, h⟩ := h
        refine zr_callV (As := []) (r := (RJx4a65c, TJx4a65c, 3)) C (k_Jx4a65c_iterator_32c93 h) ok_X9_135 zq_1280 zq_1281 hT14 (by decide) rfl rfl ⟨by decide, (Nat.le_of_ble_eq_true rfl)⟩ ⟨(by show 0 + (12 - n4) * 3 + 1 ≤ 148; omega), (by show 0 + (12 - n4) * 12 + 4 ≤ 590; omega)⟩ (Nat.le_of_ble_eq_true rfl) dX9_digest_39 (fun v95 U96 G97 hq => ?_)
        clear h
        · obtain ⟨r15, rfl, h⟩ := hq
          skip
          refine zr_astore_n C [(1, .ref r15), (0, .ref a0)] dX9_digest_42 rfl (by decide) rfl ?_
          refine zr_aload_n C 0 dX9_digest_43 rfl rfl ?_
          obtain ⟨hT18, h⟩ := h
          refine zr_callF (As := []) (r := (RJx35411, TJx35411, 4)) C (k_Jx35411_hasNext_aae02 h) ok_X9_139 hT18 (by decide) rfl rfl ⟨by decide, (Nat.le_of_ble_eq_true rfl)⟩ ⟨(by show 0 + (12 - n4) * 3 + 1 + 0 ≤ 148; omega), (by show 0 + (12 - n4) * 12 + 4 + 0 ≤ 590; omega)⟩ (Nat.le_of_ble_eq_true rfl) dX9_digest_44 (fun v92 U93 G94 hq => ?_)
          clear h
          · obtain ⟨r19, rfl, rfl, rfl, h⟩ := hq
            obtain ⟨h1, h2⟩ := h
            refine zr_if_eq C 90 dX9_digest_49 (by decide) (fun hc => ?_) (fun hc => ?_)
            · have h := h1 hc
              clear h1 h2
              refine zr_iconst C 0 dX9_digest_90 (by decide) ?_
              refine zr_istore_n C [(1, .int 0), (0, .ref a0)] dX9_digest_91 rfl (by decide) rfl ?_
              obtain ⟨I20, ⟨n22, h090⟩, hI89⟩ := h
              have ky91 : ∀ (n21 : Nat) (y23 : Int32), I20 n21 y23 → z_w p l e ({ frames := 7, cells := 148, slots := 590, locals := 147 } : Room) s m args below meth c D cA N0 4 (0 + (12 - n4) * 3 + 1 + 0) (0 + (12 - n4) * 12 + 4 + 0) (MQ below (z_Qc D cA N0 (fun v T' F' => ∃ r : Int64, v = some (.long r) ∧ Post r T' F')) args s 148 590 (fun q => N0 ≤ q)) 92 [(0, .ref a0), (1, .int y23)] [] U96 G97 := by
                intro n21
                induction n21 using Nat.strongRecOn with
                | _ n21 ih24 =>
                  intro y23 hin
                  have h := hI89 n21 y23 hin
                  refine zr_iload_n C 1 dX9_digest_92 rfl rfl ?_
                  refine zr_aload_n C 0 dX9_digest_93 rfl rfl ?_
                  obtain ⟨hT26, x28, hv27, h⟩ := h
                  refine zr_get C fl_X9_16 hT26 hv27 dX9_digest_94 ?_
                  obtain ⟨hT29, h⟩ := h
                  refine zr_callV (As := []) (r := (RJx4a65c, TJx4a65c, 3)) C (k_Jx4a65c_size_8abf5 h) ok_X9_37 zq_140 zq_141 hT29 (by decide) rfl rfl ⟨by decide, (Nat.le_of_ble_eq_true rfl)⟩ ⟨(by show 0 + (12 - n4) * 3 + 1 + 0 + 0 ≤ 148; omega), (by show 0 + (12 - n4) * 12 + 4 + 0 + 0 ≤ 590; omega)⟩ (Nat.le_of_ble_eq_true rfl) dX9_digest_97 (fun v86 U87 G88 hq => ?_)
                  clear h
                  · obtain ⟨r30, rfl, rfl, rfl, h⟩ := hq
                    obtain ⟨h1, h2⟩ := h
                    refine zr_icmp_ge C 171 dX9_digest_100 (by decide) (fun hc => ?_) (fun hc => ?_)
                    · have h := h1 hc
                      clear h1 h2
                      refine zr_aload_n C 0 dX9_digest_171 rfl rfl ?_
                      obtain ⟨x32, hv31, h⟩ := h
                      refine zr_get C fl_X9_29 hT26 hv31 dX9_digest_172 ?_
                      obtain ⟨hT33, x35, hv34, h⟩ := h
                      refine zr_get C fl_X9_45 hT33 hv34 dX9_digest_175 ?_
                      obtain ⟨hT36, h⟩ := h
                      refine zr_callV (As := []) (r := (RJx4a65c, TJx4a65c, 3)) C (k_Jx4a65c_iterator_32c93 h) ok_X9_135 zq_1280 zq_1281 hT36 (by decide) rfl rfl ⟨by decide, (Nat.le_of_ble_eq_true rfl)⟩ ⟨(by show 0 + (12 - n4) * 3 + 1 + 0 + 0 + 1 ≤ 148; omega), (by show 0 + (12 - n4) * 12 + 4 + 0 + 0 + 4 ≤ 590; omega)⟩ (Nat.le_of_ble_eq_true rfl) dX9_digest_178 (fun v83 U84 G85 hq => ?_)
                      clear h
                      · obtain ⟨r37, rfl, h⟩ := hq
                        skip
                        refine zr_astore_n C [(1, .ref r37), (0, .ref a0)] dX9_digest_181 rfl (by decide) rfl ?_
                        refine zr_aload_n C 0 dX9_digest_182 rfl rfl ?_
                        obtain ⟨hT40, h⟩ := h
                        refine zr_callF (As := []) (r := (RJx35411, TJx35411, 4)) C (k_Jx35411_hasNext_aae02 h) ok_X9_139 hT40 (by decide) rfl rfl ⟨by decide, (Nat.le_of_ble_eq_true rfl)⟩ ⟨(by show 0 + (12 - n4) * 3 + 1 + 0 + 0 + 1 + 0 ≤ 148; omega), (by show 0 + (12 - n4) * 12 + 4 + 0 + 0 + 4 + 0 ≤ 590; omega)⟩ (Nat.le_of_ble_eq_true rfl) dX9_digest_183 (fun v80 U81 G82 hq => ?_)
                        clear h
                        · obtain ⟨r41, rfl, rfl, rfl, h⟩ := hq
                          obtain ⟨h1, h2⟩ := h
                          refine zr_if_eq C 248 dX9_digest_188 (by decide) (fun hc => ?_) (fun hc => ?_)
                          · have h := h1 hc
                            clear h1 h2
                            refine zr_iconst C 0 dX9_digest_248 (by decide) ?_
                            refine zr_istore_n C [(1, .int 0), (0, .ref a0)] dX9_digest_249 rfl (by decide) rfl ?_
                            obtain ⟨I42, ⟨n44, hb49, h078⟩, hI77⟩ := h
                            refine zr_widen (cells2 := 38) (slots2 := 152) (by show 0 + (12 - n4) * 3 + 1 + 0 + 0 + 1 + 0 ≤ 38; omega) (by show 0 + (12 - n4) * 12 + 4 + 0 + 0 + 4 + 0 ≤ 152; omega) ?_
                            have ky79 : ∀ (n43 : Nat) (y45 : Int32) (T46 : zT) (F47 : zF), n43 ≤ 5 → I42 n43 y45 T46 F47 → z_w p l e ({ frames := 7, cells := 148, slots := 590, locals := 147 } : Room) s m args below meth c D cA N0 4 (38 + (5 - n43) * 1) (152 + (5 - n43) * 4) (MQ below (z_Qc D cA N0 (fun v T' F' => ∃ r : Int64, v = some (.long r) ∧ Post r T' F')) args s 148 590 (fun q => N0 ≤ q)) 250 [(0, .ref a0), (1, .int y45)] [] T46 F47 := by
                              intro n43
                              induction n43 using Nat.strongRecOn with
                              | _ n43 ih48 =>
                                intro y45 T46 F47 hb49 hin
                                have h := hI77 n43 y45 T46 F47 hb49 hin
                                refine zr_iload_n C 1 dX9_digest_250 rfl rfl ?_
                                refine zr_iconst C 4 dX9_digest_251 (by decide) ?_
                                obtain ⟨h1, h2⟩ := h
                                refine zr_icmp_ge C 271 dX9_digest_252 (by decide) (fun hc => ?_) (fun hc => ?_)
                                · have h := h1 hc
                                  clear h1 h2
                                  refine zr_aload_n C 0 dX9_digest_271 rfl rfl ?_
                                  refine zr_aload_n C 0 dX9_digest_272 rfl rfl ?_
                                  refine zr_bipush C 20 dX9_digest_273 (by decide) ?_
                                  obtain ⟨hT50, h⟩ := h
                                  refine zr_callV (As := [.int 20]) (r := (RX9, TX9, 6)) C (k_X9_lostInNow h) ok_X9_268 zq_1554 zq_28 hT50 (by decide) rfl rfl ⟨by decide, (Nat.le_of_ble_eq_true rfl)⟩ ⟨(by show 38 + (5 - n43) * 1 + 101 ≤ 148; omega), (by show 152 + (5 - n43) * 4 + 402 ≤ 590; omega)⟩ (Nat.le_of_ble_eq_true rfl) dX9_digest_275 (fun v61 U62 G63 hq => ?_)
                                  clear h
                                  · obtain ⟨r51, rfl, h⟩ := hq
                                    skip
                                    obtain ⟨hT54, h⟩ := h
                                    refine zr_callV (As := [.int r51]) (r := (RX9, TX9, 6)) C (k_X9_add h) ok_X9_279 zq_1580 zq_29 hT54 (by decide) rfl rfl ⟨by decide, (Nat.le_of_ble_eq_true rfl)⟩ ⟨(by show 38 + (5 - n43) * 1 + 101 + 0 ≤ 148; omega), (by show 152 + (5 - n43) * 4 + 402 + 0 ≤ 590; omega)⟩ (Nat.le_of_ble_eq_true rfl) dX9_digest_278 (fun v58 U59 G60 hq => ?_)
                                    clear h
                                    · obtain ⟨rfl, rfl, h⟩ := hq
                                      refine zr_aload_n C 0 dX9_digest_281 rfl rfl ?_
                                      obtain ⟨x57, hv56, h⟩ := h
                                      refine zr_get C fl_X9_271 hT54 hv56 dX9_digest_282 ?_
                                      exact zr_lret C rfl ⟨_, rfl, h⟩ (by show 38 + (5 - n43) * 1 + 101 + 0 ≤ 148; omega) (by show 152 + (5 - n43) * 4 + 402 + 0 ≤ 590; omega) dX9_digest_285
                                · have h := h2 hc
                                  clear h1 h2
                                  refine zr_aload_n C 0 dX9_digest_255 rfl rfl ?_
                                  refine zr_aload_n C 0 dX9_digest_256 rfl rfl ?_
                                  refine zr_iload_n C 1 dX9_digest_257 rfl rfl ?_
                                  refine zr_null C dX9_digest_258 ?_
                                  obtain ⟨hT64, h⟩ := h
                                  refine zr_callV (As := [.int y45, .null]) (r := (RX9, TX9, 6)) C (k_X9_reachNow h) ok_X9_253 zq_1528 zq_26 hT64 (by decide) rfl rfl ⟨by decide, (Nat.le_of_ble_eq_true rfl)⟩ ⟨(by show 38 + (5 - n43) * 1 + 1 ≤ 148; omega), (by show 152 + (5 - n43) * 4 + 4 ≤ 590; omega)⟩ (Nat.le_of_ble_eq_true rfl) dX9_digest_259 (fun v74 U75 G76 hq => ?_)
                                  clear h
                                  · obtain ⟨r65, rfl, h⟩ := hq
                                    skip
                                    obtain ⟨hT68, h⟩ := h
                                    refine zr_callV (As := [.int r65]) (r := (RX9, TX9, 6)) C (k_X9_add h) ok_X9_279 zq_1580 zq_29 hT68 (by decide) rfl rfl ⟨by decide, (Nat.le_of_ble_eq_true rfl)⟩ ⟨(by show 38 + (5 - n43) * 1 + 1 + 0 ≤ 148; omega), (by show 152 + (5 - n43) * 4 + 4 + 0 ≤ 590; omega)⟩ (Nat.le_of_ble_eq_true rfl) dX9_digest_262 (fun v71 U72 G73 hq => ?_)
                                    clear h
                                    · obtain ⟨rfl, rfl, h⟩ := hq
                                      refine zr_iinc C [(1, .int (y45 + 1)), (0, .ref a0)] 1 dX9_digest_265 rfl rfl (by decide) rfl ?_
                                      refine zr_goto C 250 dX9_digest_268 (by decide) ?_
                                      obtain ⟨n70, hlt, h⟩ := h
                                      exact zr_widen (by show 38 + (5 - n43) * 1 + 1 + 0 ≤ 38 + (5 - n70) * 1; omega) (by show 152 + (5 - n43) * 4 + 4 + 0 ≤ 152 + (5 - n70) * 4; omega) (zr_sub [1, 0] rfl (ih48 n70 hlt (y45 + 1) U75 G73 (by omega) h))
                            exact zr_widen (by show 38 ≤ 38 + (5 - n44) * 1; omega) (by show 152 ≤ 152 + (5 - n44) * 4; omega) (zr_sub [1, 0] rfl (ky79 n44 0 U84 G85 hb49 h078))
                          · have h := h2 hc
                            clear h1 h2
                            refine zr_aload_n C 0 dX9_digest_191 rfl rfl ?_
                            exact h.elim
                    · have h := h2 hc
                      clear h1 h2
                      refine zr_iconst C 0 dX9_digest_103 (by decide) ?_
                      refine zr_istore_n C [(2, .int 0), (0, .ref a0), (1, .int y23)] dX9_digest_104 rfl (by decide) rfl ?_
                      refine zr_iload_n C 0 dX9_digest_105 rfl rfl ?_
                      refine zr_iconst C 5 dX9_digest_106 (by decide) ?_
                      refine zr_icmp_ge C 126 dX9_digest_107 (by decide) (fun hc => absurd hc (by decide)) (fun _ => ?_)
                      refine zr_aload_n C 1 dX9_digest_110 rfl rfl ?_
                      refine zr_aload_n C 1 dX9_digest_111 rfl rfl ?_
                      refine zr_iload_n C 2 dX9_digest_112 rfl rfl ?_
                      refine zr_iload_n C 0 dX9_digest_113 rfl rfl ?_
                      exact h.elim
              exact zr_sub [1, 0] rfl (ky91 n22 0 h090)
            · have h := h2 hc
              clear h1 h2
              refine zr_aload_n C 0 dX9_digest_52 rfl rfl ?_
              exact h.elim
      · have h := h2 hc
        clear h1 h2
        refine zr_aload_n C 0 dX9_digest_20 rfl rfl ?_
        refine zr_aload_n C 0 dX9_digest_21 rfl rfl ?_
        refine zr_iload_n C 1 dX9_digest_22 rfl rfl ?_
        obtain ⟨hT98, h⟩ := h
        refine zr_callV (As := [.int y6]) (r := (RX9, TX9, 6)) C (k_X9_manyNow h) ok_X9_244 zq_1504 zq_25 hT98 (by decide) rfl rfl ⟨by decide, (Nat.le_of_ble_eq_true rfl)⟩ ⟨(by show 0 + (12 - n4) * 3 + 3 ≤ 148; omega), (by show 0 + (12 - n4) * 12 + 12 ≤ 590; omega)⟩ (Nat.le_of_ble_eq_true rfl) dX9_digest_23 (fun v108 U109 G110 hq => ?_)
        clear h
        · obtain ⟨r99, rfl, h⟩ := hq
          skip
          obtain ⟨hT102, h⟩ := h
          refine zr_callV (As := [.int r99]) (r := (RX9, TX9, 6)) C (k_X9_add h) ok_X9_279 zq_1580 zq_29 hT102 (by decide) rfl rfl ⟨by decide, (Nat.le_of_ble_eq_true rfl)⟩ ⟨(by show 0 + (12 - n4) * 3 + 3 + 0 ≤ 148; omega), (by show 0 + (12 - n4) * 12 + 12 + 0 ≤ 590; omega)⟩ (Nat.le_of_ble_eq_true rfl) dX9_digest_26 (fun v105 U106 G107 hq => ?_)
          clear h
          · obtain ⟨rfl, rfl, h⟩ := hq
            refine zr_iinc C [(1, .int (y6 + 1)), (0, .ref a0)] 1 dX9_digest_29 rfl rfl (by decide) rfl ?_
            refine zr_goto C 14 dX9_digest_32 (by decide) ?_
            obtain ⟨n104, hlt, h⟩ := h
            exact zr_widen (by show 0 + (12 - n4) * 3 + 3 + 0 ≤ 0 + (12 - n104) * 3; omega) (by show 0 + (12 - n4) * 12 + 12 + 0 ≤ 0 + (12 - n104) * 12; omega) (zr_sub [1, 0] rfl (ih9 n104 hlt (y6 + 1) U109 G107 (by omega) h))
  exact zr_widen (by show 0 ≤ 0 + (12 - n5) * 3; omega) (by show 0 ≤ 0 + (12 - n5) * 12; omega) (zr_sub [1, 0] rfl (ky113 n5 0 T (zu (zu F a0 0 (.int 0)) a0 5 (.long 5741)) hb10 h0112))
