theorem dX1_isOpen_0 : decode cX1_isOpen 0 = .ok (.aload_n 0, 1) := by decide +kernel
theorem dX1_isOpen_1 : decode cX1_isOpen 1 = .ok (.getfield 9, 3) := by decide +kernel
theorem dX1_isOpen_4 : decode cX1_isOpen 4 = .ok (.ifCond .eq 11, 3) := by decide +kernel
theorem dX1_isOpen_15 : decode cX1_isOpen 15 = .ok (.iconst 1, 1) := by decide +kernel
theorem dX1_isOpen_16 : decode cX1_isOpen 16 = .ok (.goto 4, 3) := by decide +kernel
theorem dX1_isOpen_20 : decode cX1_isOpen 20 = .ok (.ireturn, 1) := by decide +kernel
theorem dX1_isOpen_7 : decode cX1_isOpen 7 = .ok (.aload_n 0, 1) := by decide +kernel
theorem dX1_isOpen_8 : decode cX1_isOpen 8 = .ok (.getfield 9, 3) := by decide +kernel
theorem dX1_isOpen_11 : decode cX1_isOpen 11 = .ok (.iconst 1, 1) := by decide +kernel
theorem dX1_isOpen_12 : decode cX1_isOpen 12 = .ok (.if_icmp .ne 7, 3) := by decide +kernel
theorem dX1_isOpen_19 : decode cX1_isOpen 19 = .ok (.iconst 0, 1) := by decide +kernel
def v_X1_isOpen (a0 : Nat) (T : zT) (F : zF) (Post : Int32 → Prop) : Prop :=
  (T a0 = some (2, 12) ∧ ∃ x3 : Int32, F a0 6 = .int x3 ∧ ((x3 = 0 → Post 1) ∧ (¬ x3 = 0 → ((¬ x3 = 1 → Post 0) ∧ (x3 = 1 → Post 1)))))
set_option maxRecDepth 100000 in
set_option maxHeartbeats 4000000 in
theorem k_X1_isOpen {l : Launch} {D : va_G} {cA : Nat → ClassId} {N0 zE : Nat} {a0 : Nat} {T : zT} {F : zF} {Post : Int32 → Prop} (h : v_X1_isOpen a0 T F Post) : z_Mt l D cA N0 zE yX1_isOpen cX1_isOpen 1 (some .boolean) ({ frames := 0, cells := 0, slots := 0, locals := 0 } : Room) [.ref a0] T F (fun v T' F' => ∃ r : Int32, v = some (.int r) ∧ T = T' ∧ F = F' ∧ Post r) := by
  unfold v_X1_isOpen at h
  refine z_bodyT (by decide) (Nat.le_of_ble_eq_true rfl) ?_
  intro p e s m args below meth c C hnm
  have C : z_C p l s m args meth c RX1 cX1_isOpen 1 (some .boolean) D cA N0 zE := C
  show z_w p l e ({ frames := 0, cells := 0, slots := 0, locals := 0 } : Room) s m args below meth c D cA N0 1 0 0 (MQ below (z_Qc D cA N0 (fun v T' F' => ∃ r : Int32, v = some (.int r) ∧ T = T' ∧ F = F' ∧ Post r)) args s 0 0 (fun q => N0 ≤ q)) 0 [(0, .ref a0)] [] T F
  refine zr_aload_n C 0 dX1_isOpen_0 rfl rfl ?_
  obtain ⟨hT1, x3, hv2, h⟩ := h
  refine zr_get C fl_X1_9 hT1 hv2 dX1_isOpen_1 ?_
  obtain ⟨h1, h2⟩ := h
  refine zr_if_eq C 15 dX1_isOpen_4 (by decide) (fun hc => ?_) (fun hc => ?_)
  · have h := h1 hc
    clear h1 h2
    refine zr_iconst C 1 dX1_isOpen_15 (by decide) ?_
    refine zr_goto C 20 dX1_isOpen_16 (by decide) ?_
    exact zr_zret C rfl (Or.inr rfl) ⟨_, rfl, rfl, rfl, h⟩ (Nat.le_of_ble_eq_true rfl) (Nat.le_of_ble_eq_true rfl) dX1_isOpen_20
  · have h := h2 hc
    clear h1 h2
    refine zr_aload_n C 0 dX1_isOpen_7 rfl rfl ?_
    refine zr_get C fl_X1_9 hT1 hv2 dX1_isOpen_8 ?_
    refine zr_iconst C 1 dX1_isOpen_11 (by decide) ?_
    obtain ⟨h1, h2⟩ := h
    refine zr_icmp_ne C 19 dX1_isOpen_12 (by decide) (fun hc => ?_) (fun hc => ?_)
    · have h := h1 hc
      clear h1 h2
      refine zr_iconst C 0 dX1_isOpen_19 (by decide) ?_
      exact zr_zret C rfl (Or.inl rfl) ⟨_, rfl, rfl, rfl, h⟩ (Nat.le_of_ble_eq_true rfl) (Nat.le_of_ble_eq_true rfl) dX1_isOpen_20
    · have h := h2 hc
      clear h1 h2
      refine zr_iconst C 1 dX1_isOpen_15 (by decide) ?_
      refine zr_goto C 20 dX1_isOpen_16 (by decide) ?_
      exact zr_zret C rfl (Or.inr rfl) ⟨_, rfl, rfl, rfl, h⟩ (Nat.le_of_ble_eq_true rfl) (Nat.le_of_ble_eq_true rfl) dX1_isOpen_20
theorem dX1_isIn_0 : decode cX1_isIn 0 = .ok (.aload_n 0, 1) := by decide +kernel
theorem dX1_isIn_1 : decode cX1_isIn 1 = .ok (.getfield 35, 3) := by decide +kernel
theorem dX1_isIn_4 : decode cX1_isIn 4 = .ok (.iload_n 1, 1) := by decide +kernel
theorem dX1_isIn_5 : decode cX1_isIn 5 = .ok (.if_icmp .ne 15, 3) := by decide +kernel
theorem dX1_isIn_20 : decode cX1_isIn 20 = .ok (.iconst 0, 1) := by decide +kernel
theorem dX1_isIn_21 : decode cX1_isIn 21 = .ok (.ireturn, 1) := by decide +kernel
theorem dX1_isIn_8 : decode cX1_isIn 8 = .ok (.aload_n 0, 1) := by decide +kernel
theorem dX1_isIn_9 : decode cX1_isIn 9 = .ok (.getfield 38, 3) := by decide +kernel
theorem dX1_isIn_12 : decode cX1_isIn 12 = .ok (.iload_n 2, 1) := by decide +kernel
theorem dX1_isIn_13 : decode cX1_isIn 13 = .ok (.if_icmp .ne 7, 3) := by decide +kernel
theorem dX1_isIn_16 : decode cX1_isIn 16 = .ok (.iconst 1, 1) := by decide +kernel
theorem dX1_isIn_17 : decode cX1_isIn 17 = .ok (.goto 4, 3) := by decide +kernel
def v_X1_isIn (a0 : Nat) (p1 : Int32) (p2 : Int32) (T : zT) (F : zF) (Post : Int32 → Prop) : Prop :=
  (T a0 = some (2, 12) ∧ ∃ x3 : Int32, F a0 1 = .int x3 ∧ ((¬ x3 = p1 → Post 0) ∧ (x3 = p1 → (∃ x5 : Int32, F a0 2 = .int x5 ∧ ((¬ x5 = p2 → Post 0) ∧ (x5 = p2 → Post 1))))))
set_option maxRecDepth 100000 in
set_option maxHeartbeats 4000000 in
theorem k_X1_isIn {l : Launch} {D : va_G} {cA : Nat → ClassId} {N0 zE : Nat} {a0 : Nat} {p1 : Int32} {p2 : Int32} {T : zT} {F : zF} {Post : Int32 → Prop} (h : v_X1_isIn a0 p1 p2 T F Post) : z_Mt l D cA N0 zE yX1_isIn cX1_isIn 3 (some .boolean) ({ frames := 0, cells := 0, slots := 0, locals := 0 } : Room) [.ref a0, .int p1, .int p2] T F (fun v T' F' => ∃ r : Int32, v = some (.int r) ∧ T = T' ∧ F = F' ∧ Post r) := by
  unfold v_X1_isIn at h
  refine z_bodyT (by decide) (Nat.le_of_ble_eq_true rfl) ?_
  intro p e s m args below meth c C hnm
  have C : z_C p l s m args meth c RX1 cX1_isIn 3 (some .boolean) D cA N0 zE := C
  show z_w p l e ({ frames := 0, cells := 0, slots := 0, locals := 0 } : Room) s m args below meth c D cA N0 3 0 0 (MQ below (z_Qc D cA N0 (fun v T' F' => ∃ r : Int32, v = some (.int r) ∧ T = T' ∧ F = F' ∧ Post r)) args s 0 0 (fun q => N0 ≤ q)) 0 [(0, .ref a0), (1, .int p1), (2, .int p2)] [] T F
  refine zr_aload_n C 0 dX1_isIn_0 rfl rfl ?_
  obtain ⟨hT1, x3, hv2, h⟩ := h
  refine zr_get C fl_X1_35 hT1 hv2 dX1_isIn_1 ?_
  refine zr_iload_n C 1 dX1_isIn_4 rfl rfl ?_
  obtain ⟨h1, h2⟩ := h
  refine zr_icmp_ne C 20 dX1_isIn_5 (by decide) (fun hc => ?_) (fun hc => ?_)
  · have h := h1 hc
    clear h1 h2
    refine zr_iconst C 0 dX1_isIn_20 (by decide) ?_
    exact zr_zret C rfl (Or.inl rfl) ⟨_, rfl, rfl, rfl, h⟩ (Nat.le_of_ble_eq_true rfl) (Nat.le_of_ble_eq_true rfl) dX1_isIn_21
  · have h := h2 hc
    clear h1 h2
    refine zr_aload_n C 0 dX1_isIn_8 rfl rfl ?_
    obtain ⟨x5, hv4, h⟩ := h
    refine zr_get C fl_X1_38 hT1 hv4 dX1_isIn_9 ?_
    refine zr_iload_n C 2 dX1_isIn_12 rfl rfl ?_
    obtain ⟨h1, h2⟩ := h
    refine zr_icmp_ne C 20 dX1_isIn_13 (by decide) (fun hc => ?_) (fun hc => ?_)
    · have h := h1 hc
      clear h1 h2
      refine zr_iconst C 0 dX1_isIn_20 (by decide) ?_
      exact zr_zret C rfl (Or.inl rfl) ⟨_, rfl, rfl, rfl, h⟩ (Nat.le_of_ble_eq_true rfl) (Nat.le_of_ble_eq_true rfl) dX1_isIn_21
    · have h := h2 hc
      clear h1 h2
      refine zr_iconst C 1 dX1_isIn_16 (by decide) ?_
      refine zr_goto C 21 dX1_isIn_17 (by decide) ?_
      exact zr_zret C rfl (Or.inr rfl) ⟨_, rfl, rfl, rfl, h⟩ (Nat.le_of_ble_eq_true rfl) (Nat.le_of_ble_eq_true rfl) dX1_isIn_21
theorem dX1_hasDayIn_0 : decode cX1_hasDayIn 0 = .ok (.aload_n 0, 1) := by decide +kernel
theorem dX1_hasDayIn_1 : decode cX1_hasDayIn 1 = .ok (.getfield 41, 3) := by decide +kernel
theorem dX1_hasDayIn_4 : decode cX1_hasDayIn 4 = .ok (.iload_n 2, 1) := by decide +kernel
theorem dX1_hasDayIn_5 : decode cX1_hasDayIn 5 = .ok (.if_icmp .gt 15, 3) := by decide +kernel
theorem dX1_hasDayIn_20 : decode cX1_hasDayIn 20 = .ok (.iconst 0, 1) := by decide +kernel
theorem dX1_hasDayIn_21 : decode cX1_hasDayIn 21 = .ok (.ireturn, 1) := by decide +kernel
theorem dX1_hasDayIn_8 : decode cX1_hasDayIn 8 = .ok (.iload_n 1, 1) := by decide +kernel
theorem dX1_hasDayIn_9 : decode cX1_hasDayIn 9 = .ok (.aload_n 0, 1) := by decide +kernel
theorem dX1_hasDayIn_10 : decode cX1_hasDayIn 10 = .ok (.getfield 44, 3) := by decide +kernel
theorem dX1_hasDayIn_13 : decode cX1_hasDayIn 13 = .ok (.if_icmp .gt 7, 3) := by decide +kernel
theorem dX1_hasDayIn_16 : decode cX1_hasDayIn 16 = .ok (.iconst 1, 1) := by decide +kernel
theorem dX1_hasDayIn_17 : decode cX1_hasDayIn 17 = .ok (.goto 4, 3) := by decide +kernel
def v_X1_hasDayIn (a0 : Nat) (p1 : Int32) (p2 : Int32) (T : zT) (F : zF) (Post : Int32 → Prop) : Prop :=
  (T a0 = some (2, 12) ∧ ∃ x3 : Int32, F a0 3 = .int x3 ∧ ((p2 < x3 → Post 0) ∧ (¬ p2 < x3 → (∃ x5 : Int32, F a0 4 = .int x5 ∧ ((x5 < p1 → Post 0) ∧ (¬ x5 < p1 → Post 1))))))
set_option maxRecDepth 100000 in
set_option maxHeartbeats 4000000 in
theorem k_X1_hasDayIn {l : Launch} {D : va_G} {cA : Nat → ClassId} {N0 zE : Nat} {a0 : Nat} {p1 : Int32} {p2 : Int32} {T : zT} {F : zF} {Post : Int32 → Prop} (h : v_X1_hasDayIn a0 p1 p2 T F Post) : z_Mt l D cA N0 zE yX1_hasDayIn cX1_hasDayIn 3 (some .boolean) ({ frames := 0, cells := 0, slots := 0, locals := 0 } : Room) [.ref a0, .int p1, .int p2] T F (fun v T' F' => ∃ r : Int32, v = some (.int r) ∧ T = T' ∧ F = F' ∧ Post r) := by
  unfold v_X1_hasDayIn at h
  refine z_bodyT (by decide) (Nat.le_of_ble_eq_true rfl) ?_
  intro p e s m args below meth c C hnm
  have C : z_C p l s m args meth c RX1 cX1_hasDayIn 3 (some .boolean) D cA N0 zE := C
  show z_w p l e ({ frames := 0, cells := 0, slots := 0, locals := 0 } : Room) s m args below meth c D cA N0 3 0 0 (MQ below (z_Qc D cA N0 (fun v T' F' => ∃ r : Int32, v = some (.int r) ∧ T = T' ∧ F = F' ∧ Post r)) args s 0 0 (fun q => N0 ≤ q)) 0 [(0, .ref a0), (1, .int p1), (2, .int p2)] [] T F
  refine zr_aload_n C 0 dX1_hasDayIn_0 rfl rfl ?_
  obtain ⟨hT1, x3, hv2, h⟩ := h
  refine zr_get C fl_X1_41 hT1 hv2 dX1_hasDayIn_1 ?_
  refine zr_iload_n C 2 dX1_hasDayIn_4 rfl rfl ?_
  obtain ⟨h1, h2⟩ := h
  refine zr_icmp_gt C 20 dX1_hasDayIn_5 (by decide) (fun hc => ?_) (fun hc => ?_)
  · have h := h1 hc
    clear h1 h2
    refine zr_iconst C 0 dX1_hasDayIn_20 (by decide) ?_
    exact zr_zret C rfl (Or.inl rfl) ⟨_, rfl, rfl, rfl, h⟩ (Nat.le_of_ble_eq_true rfl) (Nat.le_of_ble_eq_true rfl) dX1_hasDayIn_21
  · have h := h2 hc
    clear h1 h2
    refine zr_iload_n C 1 dX1_hasDayIn_8 rfl rfl ?_
    refine zr_aload_n C 0 dX1_hasDayIn_9 rfl rfl ?_
    obtain ⟨x5, hv4, h⟩ := h
    refine zr_get C fl_X1_44 hT1 hv4 dX1_hasDayIn_10 ?_
    obtain ⟨h1, h2⟩ := h
    refine zr_icmp_gt C 20 dX1_hasDayIn_13 (by decide) (fun hc => ?_) (fun hc => ?_)
    · have h := h1 hc
      clear h1 h2
      refine zr_iconst C 0 dX1_hasDayIn_20 (by decide) ?_
      exact zr_zret C rfl (Or.inl rfl) ⟨_, rfl, rfl, rfl, h⟩ (Nat.le_of_ble_eq_true rfl) (Nat.le_of_ble_eq_true rfl) dX1_hasDayIn_21
    · have h := h2 hc
      clear h1 h2
      refine zr_iconst C 1 dX1_hasDayIn_16 (by decide) ?_
      refine zr_goto C 21 dX1_hasDayIn_17 (by decide) ?_
      exact zr_zret C rfl (Or.inr rfl) ⟨_, rfl, rfl, rfl, h⟩ (Nat.le_of_ble_eq_true rfl) (Nat.le_of_ble_eq_true rfl) dX1_hasDayIn_21
theorem dX1_init_0 : decode cX1_init 0 = .ok (.aload_n 0, 1) := by decide +kernel
theorem dX1_init_1 : decode cX1_init 1 = .ok (.invokespecial 3, 3) := by decide +kernel
theorem dX1_init_4 : decode cX1_init 4 = .ok (.aload_n 0, 1) := by decide +kernel
theorem dX1_init_5 : decode cX1_init 5 = .ok (.iconst 0, 1) := by decide +kernel
theorem dX1_init_6 : decode cX1_init 6 = .ok (.putfield 9, 3) := by decide +kernel
theorem dX1_init_9 : decode cX1_init 9 = .ok (.aload_n 0, 1) := by decide +kernel
theorem dX1_init_10 : decode cX1_init 10 = .ok (.iconst 0, 1) := by decide +kernel
theorem dX1_init_11 : decode cX1_init 11 = .ok (.putfield 15, 3) := by decide +kernel
theorem dX1_init_14 : decode cX1_init 14 = .ok (.aload_n 0, 1) := by decide +kernel
theorem dX1_init_15 : decode cX1_init 15 = .ok (.iconst 0, 1) := by decide +kernel
theorem dX1_init_16 : decode cX1_init 16 = .ok (.putfield 18, 3) := by decide +kernel
theorem dX1_init_19 : decode cX1_init 19 = .ok (.aload_n 0, 1) := by decide +kernel
theorem dX1_init_20 : decode cX1_init 20 = .ok (.iconst 0, 1) := by decide +kernel
theorem dX1_init_21 : decode cX1_init 21 = .ok (.putfield 21, 3) := by decide +kernel
theorem dX1_init_24 : decode cX1_init 24 = .ok (.aload_n 0, 1) := by decide +kernel
theorem dX1_init_25 : decode cX1_init 25 = .ok (.iconst 0, 1) := by decide +kernel
theorem dX1_init_26 : decode cX1_init 26 = .ok (.putfield 24, 3) := by decide +kernel
theorem dX1_init_29 : decode cX1_init 29 = .ok (.aload_n 0, 1) := by decide +kernel
theorem dX1_init_30 : decode cX1_init 30 = .ok (.iconst 0, 1) := by decide +kernel
theorem dX1_init_31 : decode cX1_init 31 = .ok (.putfield 28, 3) := by decide +kernel
theorem dX1_init_34 : decode cX1_init 34 = .ok (.aload_n 0, 1) := by decide +kernel
theorem dX1_init_35 : decode cX1_init 35 = .ok (.aload_n 1, 1) := by decide +kernel
theorem dX1_init_36 : decode cX1_init 36 = .ok (.putfield 31, 3) := by decide +kernel
theorem dX1_init_39 : decode cX1_init 39 = .ok (.aload_n 0, 1) := by decide +kernel
theorem dX1_init_40 : decode cX1_init 40 = .ok (.iload_n 2, 1) := by decide +kernel
theorem dX1_init_41 : decode cX1_init 41 = .ok (.putfield 35, 3) := by decide +kernel
theorem dX1_init_44 : decode cX1_init 44 = .ok (.aload_n 0, 1) := by decide +kernel
theorem dX1_init_45 : decode cX1_init 45 = .ok (.iload_n 3, 1) := by decide +kernel
theorem dX1_init_46 : decode cX1_init 46 = .ok (.putfield 38, 3) := by decide +kernel
theorem dX1_init_49 : decode cX1_init 49 = .ok (.aload_n 0, 1) := by decide +kernel
theorem dX1_init_50 : decode cX1_init 50 = .ok (.iload 4, 2) := by decide +kernel
theorem dX1_init_52 : decode cX1_init 52 = .ok (.putfield 41, 3) := by decide +kernel
theorem dX1_init_55 : decode cX1_init 55 = .ok (.aload_n 0, 1) := by decide +kernel
theorem dX1_init_56 : decode cX1_init 56 = .ok (.iload 5, 2) := by decide +kernel
theorem dX1_init_58 : decode cX1_init 58 = .ok (.putfield 44, 3) := by decide +kernel
theorem dX1_init_61 : decode cX1_init 61 = .ok (.aload_n 0, 1) := by decide +kernel
theorem dX1_init_62 : decode cX1_init 62 = .ok (.iload 6, 2) := by decide +kernel
theorem dX1_init_64 : decode cX1_init 64 = .ok (.putfield 47, 3) := by decide +kernel
theorem dX1_init_67 : decode cX1_init 67 = .ok (.return_, 1) := by decide +kernel
def v_X1_init (a0 : Nat) (a1 : Nat) (p2 : Int32) (p3 : Int32) (p4 : Int32) (p5 : Int32) (p6 : Int32) (T : zT) (F : zF) (Post : zF → Prop) : Prop :=
  (T a0 = some (2, 12) ∧ Post (zu (zu (zu (zu (zu (zu (zu (zu (zu (zu (zu (zu F a0 6 (.int 0)) a0 7 (.int 0)) a0 8 (.int 0)) a0 9 (.int 0)) a0 10 (.int 0)) a0 11 (.int 0)) a0 0 (.ref a1)) a0 1 (.int p2)) a0 2 (.int p3)) a0 3 (.int p4)) a0 4 (.int p5)) a0 5 (.int p6)))
set_option maxRecDepth 100000 in
set_option maxHeartbeats 4000000 in
theorem k_X1_init {l : Launch} {D : va_G} {cA : Nat → ClassId} {N0 zE : Nat} {a0 : Nat} {a1 : Nat} {p2 : Int32} {p3 : Int32} {p4 : Int32} {p5 : Int32} {p6 : Int32} {T : zT} {F : zF} {Post : zF → Prop} (h : v_X1_init a0 a1 p2 p3 p4 p5 p6 T F Post) : z_Mt l D cA N0 zE yX1_init cX1_init 7 none ({ frames := 1, cells := 0, slots := 0, locals := 20 } : Room) [.ref a0, .ref a1, .int p2, .int p3, .int p4, .int p5, .int p6] T F (fun v T' F' => v = none ∧ T = T' ∧ Post F') := by
  unfold v_X1_init at h
  refine z_bodyT (by decide) (Nat.le_of_ble_eq_true rfl) ?_
  intro p e s m args below meth c C hnm
  have C : z_C p l s m args meth c RX1 cX1_init 7 none D cA N0 zE := C
  show z_w p l e ({ frames := 1, cells := 0, slots := 0, locals := 20 } : Room) s m args below meth c D cA N0 7 0 0 (MQ below (z_Qc D cA N0 (fun v T' F' => v = none ∧ T = T' ∧ Post F')) args s 0 0 (fun q => N0 ≤ q)) 0 [(0, .ref a0), (1, .ref a1), (2, .int p2), (3, .int p3), (4, .int p4), (5, .int p5), (6, .int p6)] [] T F
  refine zr_aload_n C 0 dX1_init_0 rfl rfl ?_
  refine zr_objInit C zq_566 zq_44 zq_45 (by decide) (Nat.le_of_ble_eq_true rfl) dX1_init_1 ?_
  refine zr_aload_n C 0 dX1_init_4 rfl rfl ?_
  refine zr_iconst C 0 dX1_init_5 (by decide) ?_
  obtain ⟨hT1, h⟩ := h
  refine zr_put C fl_X1_9 hT1 rfl rfl dX1_init_6 ?_
  refine zr_aload_n C 0 dX1_init_9 rfl rfl ?_
  refine zr_iconst C 0 dX1_init_10 (by decide) ?_
  refine zr_put C fl_X1_15 hT1 rfl rfl dX1_init_11 ?_
  refine zr_aload_n C 0 dX1_init_14 rfl rfl ?_
  refine zr_iconst C 0 dX1_init_15 (by decide) ?_
  refine zr_put C fl_X1_18 hT1 rfl rfl dX1_init_16 ?_
  refine zr_aload_n C 0 dX1_init_19 rfl rfl ?_
  refine zr_iconst C 0 dX1_init_20 (by decide) ?_
  refine zr_put C fl_X1_21 hT1 rfl rfl dX1_init_21 ?_
  refine zr_aload_n C 0 dX1_init_24 rfl rfl ?_
  refine zr_iconst C 0 dX1_init_25 (by decide) ?_
  refine zr_put C fl_X1_24 hT1 rfl rfl dX1_init_26 ?_
  refine zr_aload_n C 0 dX1_init_29 rfl rfl ?_
  refine zr_iconst C 0 dX1_init_30 (by decide) ?_
  refine zr_put C fl_X1_28 hT1 rfl rfl dX1_init_31 ?_
  refine zr_aload_n C 0 dX1_init_34 rfl rfl ?_
  refine zr_aload_n C 1 dX1_init_35 rfl rfl ?_
  refine zr_put C fl_X1_31 hT1 rfl rfl dX1_init_36 ?_
  refine zr_aload_n C 0 dX1_init_39 rfl rfl ?_
  refine zr_iload_n C 2 dX1_init_40 rfl rfl ?_
  refine zr_put C fl_X1_35 hT1 rfl rfl dX1_init_41 ?_
  refine zr_aload_n C 0 dX1_init_44 rfl rfl ?_
  refine zr_iload_n C 3 dX1_init_45 rfl rfl ?_
  refine zr_put C fl_X1_38 hT1 rfl rfl dX1_init_46 ?_
  refine zr_aload_n C 0 dX1_init_49 rfl rfl ?_
  refine zr_iload C 4 dX1_init_50 rfl ?_
  refine zr_put C fl_X1_41 hT1 rfl rfl dX1_init_52 ?_
  refine zr_aload_n C 0 dX1_init_55 rfl rfl ?_
  refine zr_iload C 5 dX1_init_56 rfl ?_
  refine zr_put C fl_X1_44 hT1 rfl rfl dX1_init_58 ?_
  refine zr_aload_n C 0 dX1_init_61 rfl rfl ?_
  refine zr_iload C 6 dX1_init_62 rfl ?_
  refine zr_put C fl_X1_47 hT1 rfl rfl dX1_init_64 ?_
  exact zr_vret C rfl ⟨rfl, rfl, h⟩ (Nat.le_of_ble_eq_true rfl) (Nat.le_of_ble_eq_true rfl) dX1_init_67
theorem dX1_giveUp_0 : decode cX1_giveUp 0 = .ok (.aload_n 0, 1) := by decide +kernel
theorem dX1_giveUp_1 : decode cX1_giveUp 1 = .ok (.aload_n 0, 1) := by decide +kernel
theorem dX1_giveUp_2 : decode cX1_giveUp 2 = .ok (.getfield 9, 3) := by decide +kernel
theorem dX1_giveUp_5 : decode cX1_giveUp 5 = .ok (.ifCond .ne 7, 3) := by decide +kernel
theorem dX1_giveUp_12 : decode cX1_giveUp 12 = .ok (.iconst 0, 1) := by decide +kernel
theorem dX1_giveUp_13 : decode cX1_giveUp 13 = .ok (.putfield 28, 3) := by decide +kernel
theorem dX1_giveUp_16 : decode cX1_giveUp 16 = .ok (.aload_n 0, 1) := by decide +kernel
theorem dX1_giveUp_17 : decode cX1_giveUp 17 = .ok (.iconst 3, 1) := by decide +kernel
theorem dX1_giveUp_18 : decode cX1_giveUp 18 = .ok (.putfield 9, 3) := by decide +kernel
theorem dX1_giveUp_21 : decode cX1_giveUp 21 = .ok (.aload_n 0, 1) := by decide +kernel
theorem dX1_giveUp_22 : decode cX1_giveUp 22 = .ok (.iconst 0, 1) := by decide +kernel
theorem dX1_giveUp_23 : decode cX1_giveUp 23 = .ok (.putfield 24, 3) := by decide +kernel
theorem dX1_giveUp_26 : decode cX1_giveUp 26 = .ok (.return_, 1) := by decide +kernel
theorem dX1_giveUp_8 : decode cX1_giveUp 8 = .ok (.iconst 1, 1) := by decide +kernel
theorem dX1_giveUp_9 : decode cX1_giveUp 9 = .ok (.goto 4, 3) := by decide +kernel
def v_X1_giveUp (a0 : Nat) (T : zT) (F : zF) (Post : zF → Prop) : Prop :=
  (T a0 = some (2, 12) ∧ ∃ x3 : Int32, F a0 6 = .int x3 ∧ ((¬ x3 = 0 → Post (zu (zu (zu F a0 11 (.int 0)) a0 6 (.int 3)) a0 10 (.int 0))) ∧ (x3 = 0 → Post (zu (zu (zu F a0 11 (.int 1)) a0 6 (.int 3)) a0 10 (.int 0)))))
set_option maxRecDepth 100000 in
set_option maxHeartbeats 4000000 in
theorem k_X1_giveUp {l : Launch} {D : va_G} {cA : Nat → ClassId} {N0 zE : Nat} {a0 : Nat} {T : zT} {F : zF} {Post : zF → Prop} (h : v_X1_giveUp a0 T F Post) : z_Mt l D cA N0 zE yX1_giveUp cX1_giveUp 1 none ({ frames := 0, cells := 0, slots := 0, locals := 0 } : Room) [.ref a0] T F (fun v T' F' => v = none ∧ T = T' ∧ Post F') := by
  unfold v_X1_giveUp at h
  refine z_bodyT (by decide) (Nat.le_of_ble_eq_true rfl) ?_
  intro p e s m args below meth c C hnm
  have C : z_C p l s m args meth c RX1 cX1_giveUp 1 none D cA N0 zE := C
  show z_w p l e ({ frames := 0, cells := 0, slots := 0, locals := 0 } : Room) s m args below meth c D cA N0 1 0 0 (MQ below (z_Qc D cA N0 (fun v T' F' => v = none ∧ T = T' ∧ Post F')) args s 0 0 (fun q => N0 ≤ q)) 0 [(0, .ref a0)] [] T F
  refine zr_aload_n C 0 dX1_giveUp_0 rfl rfl ?_
  refine zr_aload_n C 0 dX1_giveUp_1 rfl rfl ?_
  obtain ⟨hT1, x3, hv2, h⟩ := h
  refine zr_get C fl_X1_9 hT1 hv2 dX1_giveUp_2 ?_
  obtain ⟨h1, h2⟩ := h
  refine zr_if_ne C 12 dX1_giveUp_5 (by decide) (fun hc => ?_) (fun hc => ?_)
  · have h := h1 hc
    clear h1 h2
    refine zr_iconst C 0 dX1_giveUp_12 (by decide) ?_
    refine zr_put C fl_X1_28 hT1 rfl rfl dX1_giveUp_13 ?_
    refine zr_aload_n C 0 dX1_giveUp_16 rfl rfl ?_
    refine zr_iconst C 3 dX1_giveUp_17 (by decide) ?_
    refine zr_put C fl_X1_9 hT1 rfl rfl dX1_giveUp_18 ?_
    refine zr_aload_n C 0 dX1_giveUp_21 rfl rfl ?_
    refine zr_iconst C 0 dX1_giveUp_22 (by decide) ?_
    refine zr_put C fl_X1_24 hT1 rfl rfl dX1_giveUp_23 ?_
    exact zr_vret C rfl ⟨rfl, rfl, h⟩ (Nat.le_of_ble_eq_true rfl) (Nat.le_of_ble_eq_true rfl) dX1_giveUp_26
  · have h := h2 hc
    clear h1 h2
    refine zr_iconst C 1 dX1_giveUp_8 (by decide) ?_
    refine zr_goto C 13 dX1_giveUp_9 (by decide) ?_
    refine zr_put C fl_X1_28 hT1 rfl rfl dX1_giveUp_13 ?_
    refine zr_aload_n C 0 dX1_giveUp_16 rfl rfl ?_
    refine zr_iconst C 3 dX1_giveUp_17 (by decide) ?_
    refine zr_put C fl_X1_9 hT1 rfl rfl dX1_giveUp_18 ?_
    refine zr_aload_n C 0 dX1_giveUp_21 rfl rfl ?_
    refine zr_iconst C 0 dX1_giveUp_22 (by decide) ?_
    refine zr_put C fl_X1_24 hT1 rfl rfl dX1_giveUp_23 ?_
    exact zr_vret C rfl ⟨rfl, rfl, h⟩ (Nat.le_of_ble_eq_true rfl) (Nat.le_of_ble_eq_true rfl) dX1_giveUp_26
theorem dX1_costNow_0 : decode cX1_costNow 0 = .ok (.aload_n 0, 1) := by decide +kernel
theorem dX1_costNow_1 : decode cX1_costNow 1 = .ok (.getfield 44, 3) := by decide +kernel
theorem dX1_costNow_4 : decode cX1_costNow 4 = .ok (.aload_n 0, 1) := by decide +kernel
theorem dX1_costNow_5 : decode cX1_costNow 5 = .ok (.getfield 41, 3) := by decide +kernel
theorem dX1_costNow_8 : decode cX1_costNow 8 = .ok (.isub, 1) := by decide +kernel
theorem dX1_costNow_9 : decode cX1_costNow 9 = .ok (.iconst 1, 1) := by decide +kernel
theorem dX1_costNow_10 : decode cX1_costNow 10 = .ok (.iadd, 1) := by decide +kernel
theorem dX1_costNow_11 : decode cX1_costNow 11 = .ok (.istore_n 1, 1) := by decide +kernel
theorem dX1_costNow_12 : decode cX1_costNow 12 = .ok (.aload_n 0, 1) := by decide +kernel
theorem dX1_costNow_13 : decode cX1_costNow 13 = .ok (.getfield 28, 3) := by decide +kernel
theorem dX1_costNow_16 : decode cX1_costNow 16 = .ok (.ifCond .ne 15, 3) := by decide +kernel
theorem dX1_costNow_31 : decode cX1_costNow 31 = .ok (.iconst 0, 1) := by decide +kernel
theorem dX1_costNow_32 : decode cX1_costNow 32 = .ok (.ireturn, 1) := by decide +kernel
theorem dX1_costNow_19 : decode cX1_costNow 19 = .ok (.aload_n 0, 1) := by decide +kernel
theorem dX1_costNow_20 : decode cX1_costNow 20 = .ok (.getfield 9, 3) := by decide +kernel
theorem dX1_costNow_23 : decode cX1_costNow 23 = .ok (.iconst 4, 1) := by decide +kernel
theorem dX1_costNow_24 : decode cX1_costNow 24 = .ok (.if_icmp .eq 7, 3) := by decide +kernel
theorem dX1_costNow_27 : decode cX1_costNow 27 = .ok (.iload_n 1, 1) := by decide +kernel
theorem dX1_costNow_28 : decode cX1_costNow 28 = .ok (.ifCond .gt 5, 3) := by decide +kernel
theorem dX1_costNow_33 : decode cX1_costNow 33 = .ok (.aload_n 0, 1) := by decide +kernel
theorem dX1_costNow_34 : decode cX1_costNow 34 = .ok (.getfield 47, 3) := by decide +kernel
theorem dX1_costNow_37 : decode cX1_costNow 37 = .ok (.aload_n 0, 1) := by decide +kernel
theorem dX1_costNow_38 : decode cX1_costNow 38 = .ok (.getfield 18, 3) := by decide +kernel
theorem dX1_costNow_41 : decode cX1_costNow 41 = .ok (.aload_n 0, 1) := by decide +kernel
theorem dX1_costNow_42 : decode cX1_costNow 42 = .ok (.getfield 47, 3) := by decide +kernel
theorem dX1_costNow_45 : decode cX1_costNow 45 = .ok (.iload_n 1, 1) := by decide +kernel
theorem dX1_costNow_46 : decode cX1_costNow 46 = .ok (.idiv, 1) := by decide +kernel
theorem dX1_costNow_47 : decode cX1_costNow 47 = .ok (.imul, 1) := by decide +kernel
theorem dX1_costNow_48 : decode cX1_costNow 48 = .ok (.isub, 1) := by decide +kernel
theorem dX1_costNow_49 : decode cX1_costNow 49 = .ok (.ireturn, 1) := by decide +kernel
def v_X1_costNow (a0 : Nat) (T : zT) (F : zF) (Post : Int32 → Prop) : Prop :=
  (T a0 = some (2, 12) ∧ ∃ x3 : Int32, F a0 4 = .int x3 ∧ ∃ x5 : Int32, F a0 3 = .int x5 ∧ ∃ x7 : Int32, F a0 11 = .int x7 ∧ ((¬ x7 = 0 → Post 0) ∧ (x7 = 0 → (∃ x9 : Int32, F a0 6 = .int x9 ∧ ((x9 = 4 → Post 0) ∧ (¬ x9 = 4 → ((0 < ((x3 - x5) + 1) → (∃ x11 : Int32, F a0 5 = .int x11 ∧ ∃ x13 : Int32, F a0 8 = .int x13 ∧ ¬ ((x3 - x5) + 1) = 0 ∧ Post (x11 - (x13 * (x11 / ((x3 - x5) + 1)))))) ∧ (¬ 0 < ((x3 - x5) + 1) → Post 0))))))))
set_option maxRecDepth 100000 in
set_option maxHeartbeats 4000000 in
theorem k_X1_costNow {l : Launch} {D : va_G} {cA : Nat → ClassId} {N0 zE : Nat} {a0 : Nat} {T : zT} {F : zF} {Post : Int32 → Prop} (h : v_X1_costNow a0 T F Post) : z_Mt l D cA N0 zE yX1_costNow cX1_costNow 2 (some .int) ({ frames := 0, cells := 0, slots := 0, locals := 0 } : Room) [.ref a0] T F (fun v T' F' => ∃ r : Int32, v = some (.int r) ∧ T = T' ∧ F = F' ∧ Post r) := by
  unfold v_X1_costNow at h
  refine z_bodyT (by decide) (Nat.le_of_ble_eq_true rfl) ?_
  intro p e s m args below meth c C hnm
  have C : z_C p l s m args meth c RX1 cX1_costNow 2 (some .int) D cA N0 zE := C
  show z_w p l e ({ frames := 0, cells := 0, slots := 0, locals := 0 } : Room) s m args below meth c D cA N0 2 0 0 (MQ below (z_Qc D cA N0 (fun v T' F' => ∃ r : Int32, v = some (.int r) ∧ T = T' ∧ F = F' ∧ Post r)) args s 0 0 (fun q => N0 ≤ q)) 0 [(0, .ref a0)] [] T F
  refine zr_aload_n C 0 dX1_costNow_0 rfl rfl ?_
  obtain ⟨hT1, x3, hv2, h⟩ := h
  refine zr_get C fl_X1_44 hT1 hv2 dX1_costNow_1 ?_
  refine zr_aload_n C 0 dX1_costNow_4 rfl rfl ?_
  obtain ⟨x5, hv4, h⟩ := h
  refine zr_get C fl_X1_41 hT1 hv4 dX1_costNow_5 ?_
  refine zr_isub C dX1_costNow_8 ?_
  refine zr_iconst C 1 dX1_costNow_9 (by decide) ?_
  refine zr_iadd C dX1_costNow_10 ?_
  refine zr_istore_n C [(1, .int ((x3 - x5) + 1)), (0, .ref a0)] dX1_costNow_11 rfl (by decide) rfl ?_
  refine zr_aload_n C 1 dX1_costNow_12 rfl rfl ?_
  obtain ⟨x7, hv6, h⟩ := h
  refine zr_get C fl_X1_28 hT1 hv6 dX1_costNow_13 ?_
  obtain ⟨h1, h2⟩ := h
  refine zr_if_ne C 31 dX1_costNow_16 (by decide) (fun hc => ?_) (fun hc => ?_)
  · have h := h1 hc
    clear h1 h2
    refine zr_iconst C 0 dX1_costNow_31 (by decide) ?_
    exact zr_iret C rfl ⟨_, rfl, rfl, rfl, h⟩ (Nat.le_of_ble_eq_true rfl) (Nat.le_of_ble_eq_true rfl) dX1_costNow_32
  · have h := h2 hc
    clear h1 h2
    refine zr_aload_n C 1 dX1_costNow_19 rfl rfl ?_
    obtain ⟨x9, hv8, h⟩ := h
    refine zr_get C fl_X1_9 hT1 hv8 dX1_costNow_20 ?_
    refine zr_iconst C 4 dX1_costNow_23 (by decide) ?_
    obtain ⟨h1, h2⟩ := h
    refine zr_icmp_eq C 31 dX1_costNow_24 (by decide) (fun hc => ?_) (fun hc => ?_)
    · have h := h1 hc
      clear h1 h2
      refine zr_iconst C 0 dX1_costNow_31 (by decide) ?_
      exact zr_iret C rfl ⟨_, rfl, rfl, rfl, h⟩ (Nat.le_of_ble_eq_true rfl) (Nat.le_of_ble_eq_true rfl) dX1_costNow_32
    · have h := h2 hc
      clear h1 h2
      refine zr_iload_n C 0 dX1_costNow_27 rfl rfl ?_
      obtain ⟨h1, h2⟩ := h
      refine zr_if_gt C 33 dX1_costNow_28 (by decide) (fun hc => ?_) (fun hc => ?_)
      · have h := h1 hc
        clear h1 h2
        refine zr_aload_n C 1 dX1_costNow_33 rfl rfl ?_
        obtain ⟨x11, hv10, h⟩ := h
        refine zr_get C fl_X1_47 hT1 hv10 dX1_costNow_34 ?_
        refine zr_aload_n C 1 dX1_costNow_37 rfl rfl ?_
        obtain ⟨x13, hv12, h⟩ := h
        refine zr_get C fl_X1_18 hT1 hv12 dX1_costNow_38 ?_
        refine zr_aload_n C 1 dX1_costNow_41 rfl rfl ?_
        refine zr_get C fl_X1_47 hT1 hv10 dX1_costNow_42 ?_
        refine zr_iload_n C 0 dX1_costNow_45 rfl rfl ?_
        obtain ⟨hz14, h⟩ := h
        refine zr_idiv C dX1_costNow_46 hz14 ?_
        refine zr_imul C dX1_costNow_47 ?_
        refine zr_isub C dX1_costNow_48 ?_
        exact zr_iret C rfl ⟨_, rfl, rfl, rfl, h⟩ (Nat.le_of_ble_eq_true rfl) (Nat.le_of_ble_eq_true rfl) dX1_costNow_49
      · have h := h2 hc
        clear h1 h2
        refine zr_iconst C 0 dX1_costNow_31 (by decide) ?_
        exact zr_iret C rfl ⟨_, rfl, rfl, rfl, h⟩ (Nat.le_of_ble_eq_true rfl) (Nat.le_of_ble_eq_true rfl) dX1_costNow_32
theorem dX1_takePiece_0 : decode cX1_takePiece 0 = .ok (.aload_n 0, 1) := by decide +kernel
theorem dX1_takePiece_1 : decode cX1_takePiece 1 = .ok (.aload_n 1, 1) := by decide +kernel
theorem dX1_takePiece_2 : decode cX1_takePiece 2 = .ok (.putfield 31, 3) := by decide +kernel
theorem dX1_takePiece_5 : decode cX1_takePiece 5 = .ok (.aload_n 0, 1) := by decide +kernel
theorem dX1_takePiece_6 : decode cX1_takePiece 6 = .ok (.dup, 1) := by decide +kernel
theorem dX1_takePiece_7 : decode cX1_takePiece 7 = .ok (.getfield 21, 3) := by decide +kernel
theorem dX1_takePiece_10 : decode cX1_takePiece 10 = .ok (.iconst 1, 1) := by decide +kernel
theorem dX1_takePiece_11 : decode cX1_takePiece 11 = .ok (.iadd, 1) := by decide +kernel
theorem dX1_takePiece_12 : decode cX1_takePiece 12 = .ok (.putfield 21, 3) := by decide +kernel
theorem dX1_takePiece_15 : decode cX1_takePiece 15 = .ok (.return_, 1) := by decide +kernel
def v_X1_takePiece (a0 : Nat) (a1 : Nat) (T : zT) (F : zF) (Post : zF → Prop) : Prop :=
  (T a0 = some (2, 12) ∧ ∃ x3 : Int32, (zu F a0 0 (.ref a1)) a0 9 = .int x3 ∧ Post (zu (zu F a0 0 (.ref a1)) a0 9 (.int (x3 + 1))))
set_option maxRecDepth 100000 in
set_option maxHeartbeats 4000000 in
theorem k_X1_takePiece {l : Launch} {D : va_G} {cA : Nat → ClassId} {N0 zE : Nat} {a0 : Nat} {a1 : Nat} {T : zT} {F : zF} {Post : zF → Prop} (h : v_X1_takePiece a0 a1 T F Post) : z_Mt l D cA N0 zE yX1_takePiece cX1_takePiece 2 none ({ frames := 0, cells := 0, slots := 0, locals := 0 } : Room) [.ref a0, .ref a1] T F (fun v T' F' => v = none ∧ T = T' ∧ Post F') := by
  unfold v_X1_takePiece at h
  refine z_bodyT (by decide) (Nat.le_of_ble_eq_true rfl) ?_
  intro p e s m args below meth c C hnm
  have C : z_C p l s m args meth c RX1 cX1_takePiece 2 none D cA N0 zE := C
  show z_w p l e ({ frames := 0, cells := 0, slots := 0, locals := 0 } : Room) s m args below meth c D cA N0 2 0 0 (MQ below (z_Qc D cA N0 (fun v T' F' => v = none ∧ T = T' ∧ Post F')) args s 0 0 (fun q => N0 ≤ q)) 0 [(0, .ref a0), (1, .ref a1)] [] T F
  refine zr_aload_n C 0 dX1_takePiece_0 rfl rfl ?_
  refine zr_aload_n C 1 dX1_takePiece_1 rfl rfl ?_
  obtain ⟨hT1, h⟩ := h
  refine zr_put C fl_X1_31 hT1 rfl rfl dX1_takePiece_2 ?_
  refine zr_aload_n C 0 dX1_takePiece_5 rfl rfl ?_
  refine zr_dup C dX1_takePiece_6 rfl ?_
  obtain ⟨x3, hv2, h⟩ := h
  refine zr_get C fl_X1_21 hT1 hv2 dX1_takePiece_7 ?_
  refine zr_iconst C 1 dX1_takePiece_10 (by decide) ?_
  refine zr_iadd C dX1_takePiece_11 ?_
  refine zr_put C fl_X1_21 hT1 rfl rfl dX1_takePiece_12 ?_
  exact zr_vret C rfl ⟨rfl, rfl, h⟩ (Nat.le_of_ble_eq_true rfl) (Nat.le_of_ble_eq_true rfl) dX1_takePiece_15
theorem dX1_endIfPast_0 : decode cX1_endIfPast 0 = .ok (.aload_n 0, 1) := by decide +kernel
theorem dX1_endIfPast_1 : decode cX1_endIfPast 1 = .ok (.getfield 9, 3) := by decide +kernel
theorem dX1_endIfPast_4 : decode cX1_endIfPast 4 = .ok (.iconst 1, 1) := by decide +kernel
theorem dX1_endIfPast_5 : decode cX1_endIfPast 5 = .ok (.if_icmp .ne 21, 3) := by decide +kernel
theorem dX1_endIfPast_26 : decode cX1_endIfPast 26 = .ok (.return_, 1) := by decide +kernel
theorem dX1_endIfPast_8 : decode cX1_endIfPast 8 = .ok (.aload_n 0, 1) := by decide +kernel
theorem dX1_endIfPast_9 : decode cX1_endIfPast 9 = .ok (.getfield 44, 3) := by decide +kernel
theorem dX1_endIfPast_12 : decode cX1_endIfPast 12 = .ok (.iload_n 1, 1) := by decide +kernel
theorem dX1_endIfPast_13 : decode cX1_endIfPast 13 = .ok (.if_icmp .ge 13, 3) := by decide +kernel
theorem dX1_endIfPast_16 : decode cX1_endIfPast 16 = .ok (.aload_n 0, 1) := by decide +kernel
theorem dX1_endIfPast_17 : decode cX1_endIfPast 17 = .ok (.iconst 2, 1) := by decide +kernel
theorem dX1_endIfPast_18 : decode cX1_endIfPast 18 = .ok (.putfield 9, 3) := by decide +kernel
theorem dX1_endIfPast_21 : decode cX1_endIfPast 21 = .ok (.aload_n 0, 1) := by decide +kernel
theorem dX1_endIfPast_22 : decode cX1_endIfPast 22 = .ok (.iconst 0, 1) := by decide +kernel
theorem dX1_endIfPast_23 : decode cX1_endIfPast 23 = .ok (.putfield 24, 3) := by decide +kernel
def v_X1_endIfPast (a0 : Nat) (p1 : Int32) (T : zT) (F : zF) (Post : zF → Prop) : Prop :=
  (T a0 = some (2, 12) ∧ ∃ x3 : Int32, F a0 6 = .int x3 ∧ ((¬ x3 = 1 → Post F) ∧ (x3 = 1 → (∃ x5 : Int32, F a0 4 = .int x5 ∧ ((p1 ≤ x5 → Post F) ∧ (¬ p1 ≤ x5 → Post (zu (zu F a0 6 (.int 2)) a0 10 (.int 0))))))))
set_option maxRecDepth 100000 in
set_option maxHeartbeats 4000000 in
theorem k_X1_endIfPast {l : Launch} {D : va_G} {cA : Nat → ClassId} {N0 zE : Nat} {a0 : Nat} {p1 : Int32} {T : zT} {F : zF} {Post : zF → Prop} (h : v_X1_endIfPast a0 p1 T F Post) : z_Mt l D cA N0 zE yX1_endIfPast cX1_endIfPast 2 none ({ frames := 0, cells := 0, slots := 0, locals := 0 } : Room) [.ref a0, .int p1] T F (fun v T' F' => v = none ∧ T = T' ∧ Post F') := by
  unfold v_X1_endIfPast at h
  refine z_bodyT (by decide) (Nat.le_of_ble_eq_true rfl) ?_
  intro p e s m args below meth c C hnm
  have C : z_C p l s m args meth c RX1 cX1_endIfPast 2 none D cA N0 zE := C
  show z_w p l e ({ frames := 0, cells := 0, slots := 0, locals := 0 } : Room) s m args below meth c D cA N0 2 0 0 (MQ below (z_Qc D cA N0 (fun v T' F' => v = none ∧ T = T' ∧ Post F')) args s 0 0 (fun q => N0 ≤ q)) 0 [(0, .ref a0), (1, .int p1)] [] T F
  refine zr_aload_n C 0 dX1_endIfPast_0 rfl rfl ?_
  obtain ⟨hT1, x3, hv2, h⟩ := h
  refine zr_get C fl_X1_9 hT1 hv2 dX1_endIfPast_1 ?_
  refine zr_iconst C 1 dX1_endIfPast_4 (by decide) ?_
  obtain ⟨h1, h2⟩ := h
  refine zr_icmp_ne C 26 dX1_endIfPast_5 (by decide) (fun hc => ?_) (fun hc => ?_)
  · have h := h1 hc
    clear h1 h2
    exact zr_vret C rfl ⟨rfl, rfl, h⟩ (Nat.le_of_ble_eq_true rfl) (Nat.le_of_ble_eq_true rfl) dX1_endIfPast_26
  · have h := h2 hc
    clear h1 h2
    refine zr_aload_n C 0 dX1_endIfPast_8 rfl rfl ?_
    obtain ⟨x5, hv4, h⟩ := h
    refine zr_get C fl_X1_44 hT1 hv4 dX1_endIfPast_9 ?_
    refine zr_iload_n C 1 dX1_endIfPast_12 rfl rfl ?_
    obtain ⟨h1, h2⟩ := h
    refine zr_icmp_ge C 26 dX1_endIfPast_13 (by decide) (fun hc => ?_) (fun hc => ?_)
    · have h := h1 hc
      clear h1 h2
      exact zr_vret C rfl ⟨rfl, rfl, h⟩ (Nat.le_of_ble_eq_true rfl) (Nat.le_of_ble_eq_true rfl) dX1_endIfPast_26
    · have h := h2 hc
      clear h1 h2
      refine zr_aload_n C 0 dX1_endIfPast_16 rfl rfl ?_
      refine zr_iconst C 2 dX1_endIfPast_17 (by decide) ?_
      refine zr_put C fl_X1_9 hT1 rfl rfl dX1_endIfPast_18 ?_
      refine zr_aload_n C 0 dX1_endIfPast_21 rfl rfl ?_
      refine zr_iconst C 0 dX1_endIfPast_22 (by decide) ?_
      refine zr_put C fl_X1_24 hT1 rfl rfl dX1_endIfPast_23 ?_
      exact zr_vret C rfl ⟨rfl, rfl, h⟩ (Nat.le_of_ble_eq_true rfl) (Nat.le_of_ble_eq_true rfl) dX1_endIfPast_26
theorem dX1_missesDeadline_0 : decode cX1_missesDeadline 0 = .ok (.aload_n 0, 1) := by decide +kernel
theorem dX1_missesDeadline_1 : decode cX1_missesDeadline 1 = .ok (.getfield 9, 3) := by decide +kernel
theorem dX1_missesDeadline_4 : decode cX1_missesDeadline 4 = .ok (.ifCond .ne 32, 3) := by decide +kernel
theorem dX1_missesDeadline_36 : decode cX1_missesDeadline 36 = .ok (.iconst 0, 1) := by decide +kernel
theorem dX1_missesDeadline_37 : decode cX1_missesDeadline 37 = .ok (.ireturn, 1) := by decide +kernel
theorem dX1_missesDeadline_7 : decode cX1_missesDeadline 7 = .ok (.iload_n 1, 1) := by decide +kernel
theorem dX1_missesDeadline_8 : decode cX1_missesDeadline 8 = .ok (.aload_n 0, 1) := by decide +kernel
theorem dX1_missesDeadline_9 : decode cX1_missesDeadline 9 = .ok (.getfield 41, 3) := by decide +kernel
theorem dX1_missesDeadline_12 : decode cX1_missesDeadline 12 = .ok (.iconst 3, 1) := by decide +kernel
theorem dX1_missesDeadline_13 : decode cX1_missesDeadline 13 = .ok (.isub, 1) := by decide +kernel
theorem dX1_missesDeadline_14 : decode cX1_missesDeadline 14 = .ok (.if_icmp .ne 22, 3) := by decide +kernel
theorem dX1_missesDeadline_17 : decode cX1_missesDeadline 17 = .ok (.aload_n 0, 1) := by decide +kernel
theorem dX1_missesDeadline_18 : decode cX1_missesDeadline 18 = .ok (.getfield 31, 3) := by decide +kernel
theorem dX1_missesDeadline_21 : decode cX1_missesDeadline 21 = .ok (.aload_n 0, 1) := by decide +kernel
theorem dX1_missesDeadline_22 : decode cX1_missesDeadline 22 = .ok (.getfield 35, 3) := by decide +kernel
theorem dX1_missesDeadline_25 : decode cX1_missesDeadline 25 = .ok (.iload_n 1, 1) := by decide +kernel
theorem dX1_missesDeadline_29 : decode cX1_missesDeadline 29 = .ok (.ifCond .ne 7, 3) := by decide +kernel
theorem dX1_missesDeadline_32 : decode cX1_missesDeadline 32 = .ok (.iconst 1, 1) := by decide +kernel
theorem dX1_missesDeadline_33 : decode cX1_missesDeadline 33 = .ok (.goto 4, 3) := by decide +kernel
theorem dX1_missesDeadline_26 : decode cX1_missesDeadline 26 = .ok (.invokevirtual 54, 3) := by decide +kernel
def v_X1_missesDeadline (a0 : Nat) (p1 : Int32) (T : zT) (F : zF) (Post : Int32 → Prop) : Prop :=
  (T a0 = some (2, 12) ∧ ∃ x3 : Int32, F a0 6 = .int x3 ∧ ((¬ x3 = 0 → Post 0) ∧ (x3 = 0 → (∃ x5 : Int32, F a0 3 = .int x5 ∧ ((¬ p1 = (x5 - 3) → Post 0) ∧ (p1 = (x5 - 3) → (∃ x7 : Nat, F a0 0 = .ref x7 ∧ ∃ x9 : Int32, F a0 1 = .int x9 ∧ T x7 = some (3, 5) ∧ (v_X2_isFitOn x7 x9 p1 T F (fun (r11 : Int32) => ((¬ r11 = 0 → Post 0) ∧ (r11 = 0 → Post 1)))))))))))
set_option maxRecDepth 100000 in
set_option maxHeartbeats 4000000 in
theorem k_X1_missesDeadline {l : Launch} {D : va_G} {cA : Nat → ClassId} {N0 zE : Nat} {a0 : Nat} {p1 : Int32} {T : zT} {F : zF} {Post : Int32 → Prop} (h : v_X1_missesDeadline a0 p1 T F Post) : z_Mt l D cA N0 zE yX1_missesDeadline cX1_missesDeadline 2 (some .boolean) ({ frames := 4, cells := 0, slots := 0, locals := 89 } : Room) [.ref a0, .int p1] T F (fun v T' F' => ∃ r : Int32, v = some (.int r) ∧ T = T' ∧ F = F' ∧ Post r) := by
  unfold v_X1_missesDeadline at h
  refine z_bodyT (by decide) (Nat.le_of_ble_eq_true rfl) ?_
  intro p e s m args below meth c C hnm
  have C : z_C p l s m args meth c RX1 cX1_missesDeadline 2 (some .boolean) D cA N0 zE := C
  show z_w p l e ({ frames := 4, cells := 0, slots := 0, locals := 89 } : Room) s m args below meth c D cA N0 2 0 0 (MQ below (z_Qc D cA N0 (fun v T' F' => ∃ r : Int32, v = some (.int r) ∧ T = T' ∧ F = F' ∧ Post r)) args s 0 0 (fun q => N0 ≤ q)) 0 [(0, .ref a0), (1, .int p1)] [] T F
  refine zr_aload_n C 0 dX1_missesDeadline_0 rfl rfl ?_
  obtain ⟨hT1, x3, hv2, h⟩ := h
  refine zr_get C fl_X1_9 hT1 hv2 dX1_missesDeadline_1 ?_
  obtain ⟨h1, h2⟩ := h
  refine zr_if_ne C 36 dX1_missesDeadline_4 (by decide) (fun hc => ?_) (fun hc => ?_)
  · have h := h1 hc
    clear h1 h2
    refine zr_iconst C 0 dX1_missesDeadline_36 (by decide) ?_
    exact zr_zret C rfl (Or.inl rfl) ⟨_, rfl, rfl, rfl, h⟩ (Nat.le_of_ble_eq_true rfl) (Nat.le_of_ble_eq_true rfl) dX1_missesDeadline_37
  · have h := h2 hc
    clear h1 h2
    refine zr_iload_n C 1 dX1_missesDeadline_7 rfl rfl ?_
    refine zr_aload_n C 0 dX1_missesDeadline_8 rfl rfl ?_
    obtain ⟨x5, hv4, h⟩ := h
    refine zr_get C fl_X1_41 hT1 hv4 dX1_missesDeadline_9 ?_
    refine zr_iconst C 3 dX1_missesDeadline_12 (by decide) ?_
    refine zr_isub C dX1_missesDeadline_13 ?_
    obtain ⟨h1, h2⟩ := h
    refine zr_icmp_ne C 36 dX1_missesDeadline_14 (by decide) (fun hc => ?_) (fun hc => ?_)
    · have h := h1 hc
      clear h1 h2
      refine zr_iconst C 0 dX1_missesDeadline_36 (by decide) ?_
      exact zr_zret C rfl (Or.inl rfl) ⟨_, rfl, rfl, rfl, h⟩ (Nat.le_of_ble_eq_true rfl) (Nat.le_of_ble_eq_true rfl) dX1_missesDeadline_37
    · have h := h2 hc
      clear h1 h2
      refine zr_aload_n C 0 dX1_missesDeadline_17 rfl rfl ?_
      obtain ⟨x7, hv6, h⟩ := h
      refine zr_get C fl_X1_31 hT1 hv6 dX1_missesDeadline_18 ?_
      refine zr_aload_n C 0 dX1_missesDeadline_21 rfl rfl ?_
      obtain ⟨x9, hv8, h⟩ := h
      refine zr_get C fl_X1_35 hT1 hv8 dX1_missesDeadline_22 ?_
      refine zr_iload_n C 1 dX1_missesDeadline_25 rfl rfl ?_
      obtain ⟨hT10, h⟩ := h
      refine zr_callV (As := [.int x9, .int p1]) (r := (RX2, TX2, 5)) C (k_X2_isFitOn h) ok_X1_54 zq_446 zq_447 hT10 (by decide) rfl rfl ⟨by decide, (Nat.le_of_ble_eq_true rfl)⟩ ⟨(Nat.le_of_ble_eq_true rfl), (Nat.le_of_ble_eq_true rfl)⟩ (Nat.le_of_ble_eq_true rfl) dX1_missesDeadline_26 (fun v12 U13 G14 hq => ?_)
      clear h
      · obtain ⟨r11, rfl, rfl, rfl, h⟩ := hq
        obtain ⟨h1, h2⟩ := h
        refine zr_if_ne C 36 dX1_missesDeadline_29 (by decide) (fun hc => ?_) (fun hc => ?_)
        · have h := h1 hc
          clear h1 h2
          refine zr_iconst C 0 dX1_missesDeadline_36 (by decide) ?_
          exact zr_zret C rfl (Or.inl rfl) ⟨_, rfl, rfl, rfl, h⟩ (Nat.le_of_ble_eq_true rfl) (Nat.le_of_ble_eq_true rfl) dX1_missesDeadline_37
        · have h := h2 hc
          clear h1 h2
          refine zr_iconst C 1 dX1_missesDeadline_32 (by decide) ?_
          refine zr_goto C 37 dX1_missesDeadline_33 (by decide) ?_
          exact zr_zret C rfl (Or.inr rfl) ⟨_, rfl, rfl, rfl, h⟩ (Nat.le_of_ble_eq_true rfl) (Nat.le_of_ble_eq_true rfl) dX1_missesDeadline_37
theorem dX1_mayMove_0 : decode cX1_mayMove 0 = .ok (.aload_n 0, 1) := by decide +kernel
theorem dX1_mayMove_1 : decode cX1_mayMove 1 = .ok (.getfield 15, 3) := by decide +kernel
theorem dX1_mayMove_4 : decode cX1_mayMove 4 = .ok (.iconst 3, 1) := by decide +kernel
theorem dX1_mayMove_5 : decode cX1_mayMove 5 = .ok (.if_icmp .ge 18, 3) := by decide +kernel
theorem dX1_mayMove_23 : decode cX1_mayMove 23 = .ok (.iconst 0, 1) := by decide +kernel
theorem dX1_mayMove_24 : decode cX1_mayMove 24 = .ok (.ireturn, 1) := by decide +kernel
theorem dX1_mayMove_8 : decode cX1_mayMove 8 = .ok (.aload_n 0, 1) := by decide +kernel
theorem dX1_mayMove_9 : decode cX1_mayMove 9 = .ok (.getfield 44, 3) := by decide +kernel
theorem dX1_mayMove_12 : decode cX1_mayMove 12 = .ok (.iconst 2, 1) := by decide +kernel
theorem dX1_mayMove_13 : decode cX1_mayMove 13 = .ok (.iadd, 1) := by decide +kernel
theorem dX1_mayMove_14 : decode cX1_mayMove 14 = .ok (.bipush 99, 2) := by decide +kernel
theorem dX1_mayMove_16 : decode cX1_mayMove 16 = .ok (.if_icmp .gt 7, 3) := by decide +kernel
theorem dX1_mayMove_19 : decode cX1_mayMove 19 = .ok (.iconst 1, 1) := by decide +kernel
theorem dX1_mayMove_20 : decode cX1_mayMove 20 = .ok (.goto 4, 3) := by decide +kernel
def v_X1_mayMove (a0 : Nat) (T : zT) (F : zF) (Post : Int32 → Prop) : Prop :=
  (T a0 = some (2, 12) ∧ ∃ x3 : Int32, F a0 7 = .int x3 ∧ ((3 ≤ x3 → Post 0) ∧ (¬ 3 ≤ x3 → (∃ x5 : Int32, F a0 4 = .int x5 ∧ ((99 < (x5 + 2) → Post 0) ∧ (¬ 99 < (x5 + 2) → Post 1))))))
set_option maxRecDepth 100000 in
set_option maxHeartbeats 4000000 in
theorem k_X1_mayMove {l : Launch} {D : va_G} {cA : Nat → ClassId} {N0 zE : Nat} {a0 : Nat} {T : zT} {F : zF} {Post : Int32 → Prop} (h : v_X1_mayMove a0 T F Post) : z_Mt l D cA N0 zE yX1_mayMove cX1_mayMove 1 (some .boolean) ({ frames := 0, cells := 0, slots := 0, locals := 0 } : Room) [.ref a0] T F (fun v T' F' => ∃ r : Int32, v = some (.int r) ∧ T = T' ∧ F = F' ∧ Post r) := by
  unfold v_X1_mayMove at h
  refine z_bodyT (by decide) (Nat.le_of_ble_eq_true rfl) ?_
  intro p e s m args below meth c C hnm
  have C : z_C p l s m args meth c RX1 cX1_mayMove 1 (some .boolean) D cA N0 zE := C
  show z_w p l e ({ frames := 0, cells := 0, slots := 0, locals := 0 } : Room) s m args below meth c D cA N0 1 0 0 (MQ below (z_Qc D cA N0 (fun v T' F' => ∃ r : Int32, v = some (.int r) ∧ T = T' ∧ F = F' ∧ Post r)) args s 0 0 (fun q => N0 ≤ q)) 0 [(0, .ref a0)] [] T F
  refine zr_aload_n C 0 dX1_mayMove_0 rfl rfl ?_
  obtain ⟨hT1, x3, hv2, h⟩ := h
  refine zr_get C fl_X1_15 hT1 hv2 dX1_mayMove_1 ?_
  refine zr_iconst C 3 dX1_mayMove_4 (by decide) ?_
  obtain ⟨h1, h2⟩ := h
  refine zr_icmp_ge C 23 dX1_mayMove_5 (by decide) (fun hc => ?_) (fun hc => ?_)
  · have h := h1 hc
    clear h1 h2
    refine zr_iconst C 0 dX1_mayMove_23 (by decide) ?_
    exact zr_zret C rfl (Or.inl rfl) ⟨_, rfl, rfl, rfl, h⟩ (Nat.le_of_ble_eq_true rfl) (Nat.le_of_ble_eq_true rfl) dX1_mayMove_24
  · have h := h2 hc
    clear h1 h2
    refine zr_aload_n C 0 dX1_mayMove_8 rfl rfl ?_
    obtain ⟨x5, hv4, h⟩ := h
    refine zr_get C fl_X1_44 hT1 hv4 dX1_mayMove_9 ?_
    refine zr_iconst C 2 dX1_mayMove_12 (by decide) ?_
    refine zr_iadd C dX1_mayMove_13 ?_
    refine zr_bipush C 99 dX1_mayMove_14 (by decide) ?_
    obtain ⟨h1, h2⟩ := h
    refine zr_icmp_gt C 23 dX1_mayMove_16 (by decide) (fun hc => ?_) (fun hc => ?_)
    · have h := h1 hc
      clear h1 h2
      refine zr_iconst C 0 dX1_mayMove_23 (by decide) ?_
      exact zr_zret C rfl (Or.inl rfl) ⟨_, rfl, rfl, rfl, h⟩ (Nat.le_of_ble_eq_true rfl) (Nat.le_of_ble_eq_true rfl) dX1_mayMove_24
    · have h := h2 hc
      clear h1 h2
      refine zr_iconst C 1 dX1_mayMove_19 (by decide) ?_
      refine zr_goto C 24 dX1_mayMove_20 (by decide) ?_
      exact zr_zret C rfl (Or.inr rfl) ⟨_, rfl, rfl, rfl, h⟩ (Nat.le_of_ble_eq_true rfl) (Nat.le_of_ble_eq_true rfl) dX1_mayMove_24
theorem dX1_moveOn_0 : decode cX1_moveOn 0 = .ok (.aload_n 0, 1) := by decide +kernel
theorem dX1_moveOn_1 : decode cX1_moveOn 1 = .ok (.dup, 1) := by decide +kernel
theorem dX1_moveOn_2 : decode cX1_moveOn 2 = .ok (.getfield 41, 3) := by decide +kernel
theorem dX1_moveOn_5 : decode cX1_moveOn 5 = .ok (.iconst 2, 1) := by decide +kernel
theorem dX1_moveOn_6 : decode cX1_moveOn 6 = .ok (.iadd, 1) := by decide +kernel
theorem dX1_moveOn_7 : decode cX1_moveOn 7 = .ok (.putfield 41, 3) := by decide +kernel
theorem dX1_moveOn_10 : decode cX1_moveOn 10 = .ok (.aload_n 0, 1) := by decide +kernel
theorem dX1_moveOn_11 : decode cX1_moveOn 11 = .ok (.dup, 1) := by decide +kernel
theorem dX1_moveOn_12 : decode cX1_moveOn 12 = .ok (.getfield 44, 3) := by decide +kernel
theorem dX1_moveOn_15 : decode cX1_moveOn 15 = .ok (.iconst 2, 1) := by decide +kernel
theorem dX1_moveOn_16 : decode cX1_moveOn 16 = .ok (.iadd, 1) := by decide +kernel
theorem dX1_moveOn_17 : decode cX1_moveOn 17 = .ok (.putfield 44, 3) := by decide +kernel
theorem dX1_moveOn_20 : decode cX1_moveOn 20 = .ok (.aload_n 0, 1) := by decide +kernel
theorem dX1_moveOn_21 : decode cX1_moveOn 21 = .ok (.dup, 1) := by decide +kernel
theorem dX1_moveOn_22 : decode cX1_moveOn 22 = .ok (.getfield 47, 3) := by decide +kernel
theorem dX1_moveOn_25 : decode cX1_moveOn 25 = .ok (.aload_n 0, 1) := by decide +kernel
theorem dX1_moveOn_26 : decode cX1_moveOn 26 = .ok (.getfield 47, 3) := by decide +kernel
theorem dX1_moveOn_29 : decode cX1_moveOn 29 = .ok (.iconst 5, 1) := by decide +kernel
theorem dX1_moveOn_30 : decode cX1_moveOn 30 = .ok (.idiv, 1) := by decide +kernel
theorem dX1_moveOn_31 : decode cX1_moveOn 31 = .ok (.iadd, 1) := by decide +kernel
theorem dX1_moveOn_32 : decode cX1_moveOn 32 = .ok (.putfield 47, 3) := by decide +kernel
theorem dX1_moveOn_35 : decode cX1_moveOn 35 = .ok (.aload_n 0, 1) := by decide +kernel
theorem dX1_moveOn_36 : decode cX1_moveOn 36 = .ok (.dup, 1) := by decide +kernel
theorem dX1_moveOn_37 : decode cX1_moveOn 37 = .ok (.getfield 15, 3) := by decide +kernel
theorem dX1_moveOn_40 : decode cX1_moveOn 40 = .ok (.iconst 1, 1) := by decide +kernel
theorem dX1_moveOn_41 : decode cX1_moveOn 41 = .ok (.iadd, 1) := by decide +kernel
theorem dX1_moveOn_42 : decode cX1_moveOn 42 = .ok (.putfield 15, 3) := by decide +kernel
theorem dX1_moveOn_45 : decode cX1_moveOn 45 = .ok (.return_, 1) := by decide +kernel
def v_X1_moveOn (a0 : Nat) (T : zT) (F : zF) (Post : zF → Prop) : Prop :=
  (T a0 = some (2, 12) ∧ ∃ x3 : Int32, F a0 3 = .int x3 ∧ ∃ x5 : Int32, (zu F a0 3 (.int (x3 + 2))) a0 4 = .int x5 ∧ ∃ x8 : Int32, (zu (zu F a0 3 (.int (x3 + 2))) a0 4 (.int (x5 + 2))) a0 5 = .int x8 ∧ ∃ x12 : Int32, (zu (zu (zu F a0 3 (.int (x3 + 2))) a0 4 (.int (x5 + 2))) a0 5 (.int (x8 + (x8 / 5)))) a0 7 = .int x12 ∧ Post (zu (zu (zu (zu F a0 3 (.int (x3 + 2))) a0 4 (.int (x5 + 2))) a0 5 (.int (x8 + (x8 / 5)))) a0 7 (.int (x12 + 1))))
set_option maxRecDepth 100000 in
set_option maxHeartbeats 4000000 in
theorem k_X1_moveOn {l : Launch} {D : va_G} {cA : Nat → ClassId} {N0 zE : Nat} {a0 : Nat} {T : zT} {F : zF} {Post : zF → Prop} (h : v_X1_moveOn a0 T F Post) : z_Mt l D cA N0 zE yX1_moveOn cX1_moveOn 1 none ({ frames := 0, cells := 0, slots := 0, locals := 0 } : Room) [.ref a0] T F (fun v T' F' => v = none ∧ T = T' ∧ Post F') := by
  unfold v_X1_moveOn at h
  refine z_bodyT (by decide) (Nat.le_of_ble_eq_true rfl) ?_
  intro p e s m args below meth c C hnm
  have C : z_C p l s m args meth c RX1 cX1_moveOn 1 none D cA N0 zE := C
  show z_w p l e ({ frames := 0, cells := 0, slots := 0, locals := 0 } : Room) s m args below meth c D cA N0 1 0 0 (MQ below (z_Qc D cA N0 (fun v T' F' => v = none ∧ T = T' ∧ Post F')) args s 0 0 (fun q => N0 ≤ q)) 0 [(0, .ref a0)] [] T F
  refine zr_aload_n C 0 dX1_moveOn_0 rfl rfl ?_
  refine zr_dup C dX1_moveOn_1 rfl ?_
  obtain ⟨hT1, x3, hv2, h⟩ := h
  refine zr_get C fl_X1_41 hT1 hv2 dX1_moveOn_2 ?_
  refine zr_iconst C 2 dX1_moveOn_5 (by decide) ?_
  refine zr_iadd C dX1_moveOn_6 ?_
  refine zr_put C fl_X1_41 hT1 rfl rfl dX1_moveOn_7 ?_
  refine zr_aload_n C 0 dX1_moveOn_10 rfl rfl ?_
  refine zr_dup C dX1_moveOn_11 rfl ?_
  obtain ⟨x5, hv4, h⟩ := h
  refine zr_get C fl_X1_44 hT1 hv4 dX1_moveOn_12 ?_
  refine zr_iconst C 2 dX1_moveOn_15 (by decide) ?_
  refine zr_iadd C dX1_moveOn_16 ?_
  refine zr_put C fl_X1_44 hT1 rfl rfl dX1_moveOn_17 ?_
  refine zr_aload_n C 0 dX1_moveOn_20 rfl rfl ?_
  refine zr_dup C dX1_moveOn_21 rfl ?_
  obtain ⟨x8, hv7, h⟩ := h
  refine zr_get C fl_X1_47 hT1 hv7 dX1_moveOn_22 ?_
  refine zr_aload_n C 0 dX1_moveOn_25 rfl rfl ?_
  refine zr_get C fl_X1_47 hT1 hv7 dX1_moveOn_26 ?_
  refine zr_iconst C 5 dX1_moveOn_29 (by decide) ?_
  refine zr_idiv C dX1_moveOn_30 (by decide) ?_
  refine zr_iadd C dX1_moveOn_31 ?_
  refine zr_put C fl_X1_47 hT1 rfl rfl dX1_moveOn_32 ?_
  refine zr_aload_n C 0 dX1_moveOn_35 rfl rfl ?_
  refine zr_dup C dX1_moveOn_36 rfl ?_
  obtain ⟨x12, hv11, h⟩ := h
  refine zr_get C fl_X1_15 hT1 hv11 dX1_moveOn_37 ?_
  refine zr_iconst C 1 dX1_moveOn_40 (by decide) ?_
  refine zr_iadd C dX1_moveOn_41 ?_
  refine zr_put C fl_X1_15 hT1 rfl rfl dX1_moveOn_42 ?_
  exact zr_vret C rfl ⟨rfl, rfl, h⟩ (Nat.le_of_ble_eq_true rfl) (Nat.le_of_ble_eq_true rfl) dX1_moveOn_45
theorem dX1_startIfDue_0 : decode cX1_startIfDue 0 = .ok (.aload_n 0, 1) := by decide +kernel
theorem dX1_startIfDue_1 : decode cX1_startIfDue 1 = .ok (.getfield 9, 3) := by decide +kernel
theorem dX1_startIfDue_4 : decode cX1_startIfDue 4 = .ok (.ifCond .ne 16, 3) := by decide +kernel
theorem dX1_startIfDue_20 : decode cX1_startIfDue 20 = .ok (.return_, 1) := by decide +kernel
theorem dX1_startIfDue_7 : decode cX1_startIfDue 7 = .ok (.aload_n 0, 1) := by decide +kernel
theorem dX1_startIfDue_8 : decode cX1_startIfDue 8 = .ok (.getfield 41, 3) := by decide +kernel
theorem dX1_startIfDue_11 : decode cX1_startIfDue 11 = .ok (.iload_n 1, 1) := by decide +kernel
theorem dX1_startIfDue_12 : decode cX1_startIfDue 12 = .ok (.if_icmp .ne 8, 3) := by decide +kernel
theorem dX1_startIfDue_15 : decode cX1_startIfDue 15 = .ok (.aload_n 0, 1) := by decide +kernel
theorem dX1_startIfDue_16 : decode cX1_startIfDue 16 = .ok (.iconst 1, 1) := by decide +kernel
theorem dX1_startIfDue_17 : decode cX1_startIfDue 17 = .ok (.putfield 9, 3) := by decide +kernel
def v_X1_startIfDue (a0 : Nat) (p1 : Int32) (T : zT) (F : zF) (Post : zF → Prop) : Prop :=
  (T a0 = some (2, 12) ∧ ∃ x3 : Int32, F a0 6 = .int x3 ∧ ((¬ x3 = 0 → Post F) ∧ (x3 = 0 → (∃ x5 : Int32, F a0 3 = .int x5 ∧ ((¬ x5 = p1 → Post F) ∧ (x5 = p1 → Post (zu F a0 6 (.int 1))))))))
set_option maxRecDepth 100000 in
set_option maxHeartbeats 4000000 in
theorem k_X1_startIfDue {l : Launch} {D : va_G} {cA : Nat → ClassId} {N0 zE : Nat} {a0 : Nat} {p1 : Int32} {T : zT} {F : zF} {Post : zF → Prop} (h : v_X1_startIfDue a0 p1 T F Post) : z_Mt l D cA N0 zE yX1_startIfDue cX1_startIfDue 2 none ({ frames := 0, cells := 0, slots := 0, locals := 0 } : Room) [.ref a0, .int p1] T F (fun v T' F' => v = none ∧ T = T' ∧ Post F') := by
  unfold v_X1_startIfDue at h
  refine z_bodyT (by decide) (Nat.le_of_ble_eq_true rfl) ?_
  intro p e s m args below meth c C hnm
  have C : z_C p l s m args meth c RX1 cX1_startIfDue 2 none D cA N0 zE := C
  show z_w p l e ({ frames := 0, cells := 0, slots := 0, locals := 0 } : Room) s m args below meth c D cA N0 2 0 0 (MQ below (z_Qc D cA N0 (fun v T' F' => v = none ∧ T = T' ∧ Post F')) args s 0 0 (fun q => N0 ≤ q)) 0 [(0, .ref a0), (1, .int p1)] [] T F
  refine zr_aload_n C 0 dX1_startIfDue_0 rfl rfl ?_
  obtain ⟨hT1, x3, hv2, h⟩ := h
  refine zr_get C fl_X1_9 hT1 hv2 dX1_startIfDue_1 ?_
  obtain ⟨h1, h2⟩ := h
  refine zr_if_ne C 20 dX1_startIfDue_4 (by decide) (fun hc => ?_) (fun hc => ?_)
  · have h := h1 hc
    clear h1 h2
    exact zr_vret C rfl ⟨rfl, rfl, h⟩ (Nat.le_of_ble_eq_true rfl) (Nat.le_of_ble_eq_true rfl) dX1_startIfDue_20
  · have h := h2 hc
    clear h1 h2
    refine zr_aload_n C 0 dX1_startIfDue_7 rfl rfl ?_
    obtain ⟨x5, hv4, h⟩ := h
    refine zr_get C fl_X1_41 hT1 hv4 dX1_startIfDue_8 ?_
    refine zr_iload_n C 1 dX1_startIfDue_11 rfl rfl ?_
    obtain ⟨h1, h2⟩ := h
    refine zr_icmp_ne C 20 dX1_startIfDue_12 (by decide) (fun hc => ?_) (fun hc => ?_)
    · have h := h1 hc
      clear h1 h2
      exact zr_vret C rfl ⟨rfl, rfl, h⟩ (Nat.le_of_ble_eq_true rfl) (Nat.le_of_ble_eq_true rfl) dX1_startIfDue_20
    · have h := h2 hc
      clear h1 h2
      refine zr_aload_n C 0 dX1_startIfDue_15 rfl rfl ?_
      refine zr_iconst C 1 dX1_startIfDue_16 (by decide) ?_
      refine zr_put C fl_X1_9 hT1 rfl rfl dX1_startIfDue_17 ?_
      exact zr_vret C rfl ⟨rfl, rfl, h⟩ (Nat.le_of_ble_eq_true rfl) (Nat.le_of_ble_eq_true rfl) dX1_startIfDue_20
theorem dX1_showOrPull_0 : decode cX1_showOrPull 0 = .ok (.aload_n 0, 1) := by decide +kernel
theorem dX1_showOrPull_1 : decode cX1_showOrPull 1 = .ok (.getfield 9, 3) := by decide +kernel
theorem dX1_showOrPull_4 : decode cX1_showOrPull 4 = .ok (.iconst 1, 1) := by decide +kernel
theorem dX1_showOrPull_5 : decode cX1_showOrPull 5 = .ok (.if_icmp .eq 4, 3) := by decide +kernel
theorem dX1_showOrPull_9 : decode cX1_showOrPull 9 = .ok (.aload_n 0, 1) := by decide +kernel
theorem dX1_showOrPull_10 : decode cX1_showOrPull 10 = .ok (.aload_n 0, 1) := by decide +kernel
theorem dX1_showOrPull_11 : decode cX1_showOrPull 11 = .ok (.getfield 31, 3) := by decide +kernel
theorem dX1_showOrPull_14 : decode cX1_showOrPull 14 = .ok (.aload_n 0, 1) := by decide +kernel
theorem dX1_showOrPull_15 : decode cX1_showOrPull 15 = .ok (.getfield 35, 3) := by decide +kernel
theorem dX1_showOrPull_18 : decode cX1_showOrPull 18 = .ok (.iload_n 1, 1) := by decide +kernel
theorem dX1_showOrPull_22 : decode cX1_showOrPull 22 = .ok (.ifCond .ne 7, 3) := by decide +kernel
theorem dX1_showOrPull_29 : decode cX1_showOrPull 29 = .ok (.iconst 0, 1) := by decide +kernel
theorem dX1_showOrPull_30 : decode cX1_showOrPull 30 = .ok (.putfield 24, 3) := by decide +kernel
theorem dX1_showOrPull_33 : decode cX1_showOrPull 33 = .ok (.aload_n 0, 1) := by decide +kernel
theorem dX1_showOrPull_34 : decode cX1_showOrPull 34 = .ok (.getfield 24, 3) := by decide +kernel
theorem dX1_showOrPull_37 : decode cX1_showOrPull 37 = .ok (.ifCond .ne 13, 3) := by decide +kernel
theorem dX1_showOrPull_40 : decode cX1_showOrPull 40 = .ok (.aload_n 0, 1) := by decide +kernel
theorem dX1_showOrPull_41 : decode cX1_showOrPull 41 = .ok (.dup, 1) := by decide +kernel
theorem dX1_showOrPull_42 : decode cX1_showOrPull 42 = .ok (.getfield 18, 3) := by decide +kernel
theorem dX1_showOrPull_45 : decode cX1_showOrPull 45 = .ok (.iconst 1, 1) := by decide +kernel
theorem dX1_showOrPull_46 : decode cX1_showOrPull 46 = .ok (.iadd, 1) := by decide +kernel
theorem dX1_showOrPull_47 : decode cX1_showOrPull 47 = .ok (.putfield 18, 3) := by decide +kernel
theorem dX1_showOrPull_50 : decode cX1_showOrPull 50 = .ok (.return_, 1) := by decide +kernel
theorem dX1_showOrPull_25 : decode cX1_showOrPull 25 = .ok (.iconst 1, 1) := by decide +kernel
theorem dX1_showOrPull_26 : decode cX1_showOrPull 26 = .ok (.goto 4, 3) := by decide +kernel
theorem dX1_showOrPull_19 : decode cX1_showOrPull 19 = .ok (.invokevirtual 60, 3) := by decide +kernel
theorem dX1_showOrPull_8 : decode cX1_showOrPull 8 = .ok (.return_, 1) := by decide +kernel
def v_X1_showOrPull (a0 : Nat) (p1 : Int32) (T : zT) (F : zF) (Post : zF → Prop) : Prop :=
  (T a0 = some (2, 12) ∧ ∃ x3 : Int32, F a0 6 = .int x3 ∧ ((x3 = 1 → (∃ x5 : Nat, F a0 0 = .ref x5 ∧ ∃ x7 : Int32, F a0 1 = .int x7 ∧ T x5 = some (3, 5) ∧ (v_X2_reasonOn x5 x7 p1 T F (fun (r9 : Int32) => ((¬ r9 = 0 → (∃ x14 : Int32, (zu F a0 10 (.int 0)) a0 8 = .int x14 ∧ Post (zu (zu F a0 10 (.int 0)) a0 8 (.int (x14 + 1))))) ∧ (r9 = 0 → Post (zu F a0 10 (.int 1)))))))) ∧ (¬ x3 = 1 → Post F)))
set_option maxRecDepth 100000 in
set_option maxHeartbeats 4000000 in
theorem k_X1_showOrPull {l : Launch} {D : va_G} {cA : Nat → ClassId} {N0 zE : Nat} {a0 : Nat} {p1 : Int32} {T : zT} {F : zF} {Post : zF → Prop} (h : v_X1_showOrPull a0 p1 T F Post) : z_Mt l D cA N0 zE yX1_showOrPull cX1_showOrPull 2 none ({ frames := 5, cells := 0, slots := 0, locals := 111 } : Room) [.ref a0, .int p1] T F (fun v T' F' => v = none ∧ T = T' ∧ Post F') := by
  unfold v_X1_showOrPull at h
  refine z_bodyT (by decide) (Nat.le_of_ble_eq_true rfl) ?_
  intro p e s m args below meth c C hnm
  have C : z_C p l s m args meth c RX1 cX1_showOrPull 2 none D cA N0 zE := C
  show z_w p l e ({ frames := 5, cells := 0, slots := 0, locals := 111 } : Room) s m args below meth c D cA N0 2 0 0 (MQ below (z_Qc D cA N0 (fun v T' F' => v = none ∧ T = T' ∧ Post F')) args s 0 0 (fun q => N0 ≤ q)) 0 [(0, .ref a0), (1, .int p1)] [] T F
  refine zr_aload_n C 0 dX1_showOrPull_0 rfl rfl ?_
  obtain ⟨hT1, x3, hv2, h⟩ := h
  refine zr_get C fl_X1_9 hT1 hv2 dX1_showOrPull_1 ?_
  refine zr_iconst C 1 dX1_showOrPull_4 (by decide) ?_
  obtain ⟨h1, h2⟩ := h
  refine zr_icmp_eq C 9 dX1_showOrPull_5 (by decide) (fun hc => ?_) (fun hc => ?_)
  · have h := h1 hc
    clear h1 h2
    refine zr_aload_n C 0 dX1_showOrPull_9 rfl rfl ?_
    refine zr_aload_n C 0 dX1_showOrPull_10 rfl rfl ?_
    obtain ⟨x5, hv4, h⟩ := h
    refine zr_get C fl_X1_31 hT1 hv4 dX1_showOrPull_11 ?_
    refine zr_aload_n C 0 dX1_showOrPull_14 rfl rfl ?_
    obtain ⟨x7, hv6, h⟩ := h
    refine zr_get C fl_X1_35 hT1 hv6 dX1_showOrPull_15 ?_
    refine zr_iload_n C 1 dX1_showOrPull_18 rfl rfl ?_
    obtain ⟨hT8, h⟩ := h
    refine zr_callV (As := [.int x7, .int p1]) (r := (RX2, TX2, 5)) C (k_X2_reasonOn h) ok_X1_60 zq_484 zq_485 hT8 (by decide) rfl rfl ⟨by decide, (Nat.le_of_ble_eq_true rfl)⟩ ⟨(Nat.le_of_ble_eq_true rfl), (Nat.le_of_ble_eq_true rfl)⟩ (Nat.le_of_ble_eq_true rfl) dX1_showOrPull_19 (fun v22 U23 G24 hq => ?_)
    clear h
    · obtain ⟨r9, rfl, rfl, rfl, h⟩ := hq
      obtain ⟨h1, h2⟩ := h
      refine zr_if_ne C 29 dX1_showOrPull_22 (by decide) (fun hc => ?_) (fun hc => ?_)
      · have h := h1 hc
        clear h1 h2
        refine zr_iconst C 0 dX1_showOrPull_29 (by decide) ?_
        refine zr_put C fl_X1_24 hT1 rfl rfl dX1_showOrPull_30 ?_
        refine zr_aload_n C 0 dX1_showOrPull_33 rfl rfl ?_
        refine zr_get C fl_X1_24 hT1 z_ueq dX1_showOrPull_34 ?_
        refine zr_if_ne C 50 dX1_showOrPull_37 (by decide) (fun hc => absurd hc (by decide)) (fun _ => ?_)
        refine zr_aload_n C 0 dX1_showOrPull_40 rfl rfl ?_
        refine zr_dup C dX1_showOrPull_41 rfl ?_
        obtain ⟨x14, hv13, h⟩ := h
        refine zr_get C fl_X1_18 hT1 hv13 dX1_showOrPull_42 ?_
        refine zr_iconst C 1 dX1_showOrPull_45 (by decide) ?_
        refine zr_iadd C dX1_showOrPull_46 ?_
        refine zr_put C fl_X1_18 hT1 rfl rfl dX1_showOrPull_47 ?_
        exact zr_vret C rfl ⟨rfl, rfl, h⟩ (Nat.le_of_ble_eq_true rfl) (Nat.le_of_ble_eq_true rfl) dX1_showOrPull_50
      · have h := h2 hc
        clear h1 h2
        refine zr_iconst C 1 dX1_showOrPull_25 (by decide) ?_
        refine zr_goto C 30 dX1_showOrPull_26 (by decide) ?_
        refine zr_put C fl_X1_24 hT1 rfl rfl dX1_showOrPull_30 ?_
        refine zr_aload_n C 0 dX1_showOrPull_33 rfl rfl ?_
        refine zr_get C fl_X1_24 hT1 z_ueq dX1_showOrPull_34 ?_
        refine zr_if_ne C 50 dX1_showOrPull_37 (by decide) (fun _ => ?_) (fun hc => absurd hc (by decide))
        exact zr_vret C rfl ⟨rfl, rfl, h⟩ (Nat.le_of_ble_eq_true rfl) (Nat.le_of_ble_eq_true rfl) dX1_showOrPull_50
  · have h := h2 hc
    clear h1 h2
    exact zr_vret C rfl ⟨rfl, rfl, h⟩ (Nat.le_of_ble_eq_true rfl) (Nat.le_of_ble_eq_true rfl) dX1_showOrPull_8
theorem dX1_setTo_0 : decode cX1_setTo 0 = .ok (.aload_n 0, 1) := by decide +kernel
theorem dX1_setTo_1 : decode cX1_setTo 1 = .ok (.aload_n 1, 1) := by decide +kernel
theorem dX1_setTo_2 : decode cX1_setTo 2 = .ok (.getfield 31, 3) := by decide +kernel
theorem dX1_setTo_5 : decode cX1_setTo 5 = .ok (.putfield 31, 3) := by decide +kernel
theorem dX1_setTo_8 : decode cX1_setTo 8 = .ok (.aload_n 0, 1) := by decide +kernel
theorem dX1_setTo_9 : decode cX1_setTo 9 = .ok (.aload_n 1, 1) := by decide +kernel
theorem dX1_setTo_10 : decode cX1_setTo 10 = .ok (.getfield 35, 3) := by decide +kernel
theorem dX1_setTo_13 : decode cX1_setTo 13 = .ok (.putfield 35, 3) := by decide +kernel
theorem dX1_setTo_16 : decode cX1_setTo 16 = .ok (.aload_n 0, 1) := by decide +kernel
theorem dX1_setTo_17 : decode cX1_setTo 17 = .ok (.aload_n 1, 1) := by decide +kernel
theorem dX1_setTo_18 : decode cX1_setTo 18 = .ok (.getfield 38, 3) := by decide +kernel
theorem dX1_setTo_21 : decode cX1_setTo 21 = .ok (.putfield 38, 3) := by decide +kernel
theorem dX1_setTo_24 : decode cX1_setTo 24 = .ok (.aload_n 0, 1) := by decide +kernel
theorem dX1_setTo_25 : decode cX1_setTo 25 = .ok (.aload_n 1, 1) := by decide +kernel
theorem dX1_setTo_26 : decode cX1_setTo 26 = .ok (.getfield 41, 3) := by decide +kernel
theorem dX1_setTo_29 : decode cX1_setTo 29 = .ok (.putfield 41, 3) := by decide +kernel
theorem dX1_setTo_32 : decode cX1_setTo 32 = .ok (.aload_n 0, 1) := by decide +kernel
theorem dX1_setTo_33 : decode cX1_setTo 33 = .ok (.aload_n 1, 1) := by decide +kernel
theorem dX1_setTo_34 : decode cX1_setTo 34 = .ok (.getfield 44, 3) := by decide +kernel
theorem dX1_setTo_37 : decode cX1_setTo 37 = .ok (.putfield 44, 3) := by decide +kernel
theorem dX1_setTo_40 : decode cX1_setTo 40 = .ok (.aload_n 0, 1) := by decide +kernel
theorem dX1_setTo_41 : decode cX1_setTo 41 = .ok (.aload_n 1, 1) := by decide +kernel
theorem dX1_setTo_42 : decode cX1_setTo 42 = .ok (.getfield 47, 3) := by decide +kernel
theorem dX1_setTo_45 : decode cX1_setTo 45 = .ok (.putfield 47, 3) := by decide +kernel
theorem dX1_setTo_48 : decode cX1_setTo 48 = .ok (.aload_n 0, 1) := by decide +kernel
theorem dX1_setTo_49 : decode cX1_setTo 49 = .ok (.aload_n 1, 1) := by decide +kernel
theorem dX1_setTo_50 : decode cX1_setTo 50 = .ok (.getfield 9, 3) := by decide +kernel
theorem dX1_setTo_53 : decode cX1_setTo 53 = .ok (.putfield 9, 3) := by decide +kernel
theorem dX1_setTo_56 : decode cX1_setTo 56 = .ok (.aload_n 0, 1) := by decide +kernel
theorem dX1_setTo_57 : decode cX1_setTo 57 = .ok (.aload_n 1, 1) := by decide +kernel
theorem dX1_setTo_58 : decode cX1_setTo 58 = .ok (.getfield 15, 3) := by decide +kernel
theorem dX1_setTo_61 : decode cX1_setTo 61 = .ok (.putfield 15, 3) := by decide +kernel
theorem dX1_setTo_64 : decode cX1_setTo 64 = .ok (.aload_n 0, 1) := by decide +kernel
theorem dX1_setTo_65 : decode cX1_setTo 65 = .ok (.aload_n 1, 1) := by decide +kernel
theorem dX1_setTo_66 : decode cX1_setTo 66 = .ok (.getfield 18, 3) := by decide +kernel
theorem dX1_setTo_69 : decode cX1_setTo 69 = .ok (.putfield 18, 3) := by decide +kernel
theorem dX1_setTo_72 : decode cX1_setTo 72 = .ok (.aload_n 0, 1) := by decide +kernel
theorem dX1_setTo_73 : decode cX1_setTo 73 = .ok (.aload_n 1, 1) := by decide +kernel
theorem dX1_setTo_74 : decode cX1_setTo 74 = .ok (.getfield 21, 3) := by decide +kernel
theorem dX1_setTo_77 : decode cX1_setTo 77 = .ok (.putfield 21, 3) := by decide +kernel
theorem dX1_setTo_80 : decode cX1_setTo 80 = .ok (.aload_n 0, 1) := by decide +kernel
theorem dX1_setTo_81 : decode cX1_setTo 81 = .ok (.aload_n 1, 1) := by decide +kernel
theorem dX1_setTo_82 : decode cX1_setTo 82 = .ok (.getfield 24, 3) := by decide +kernel
theorem dX1_setTo_85 : decode cX1_setTo 85 = .ok (.putfield 24, 3) := by decide +kernel
theorem dX1_setTo_88 : decode cX1_setTo 88 = .ok (.aload_n 0, 1) := by decide +kernel
theorem dX1_setTo_89 : decode cX1_setTo 89 = .ok (.aload_n 1, 1) := by decide +kernel
theorem dX1_setTo_90 : decode cX1_setTo 90 = .ok (.getfield 28, 3) := by decide +kernel
theorem dX1_setTo_93 : decode cX1_setTo 93 = .ok (.putfield 28, 3) := by decide +kernel
theorem dX1_setTo_96 : decode cX1_setTo 96 = .ok (.return_, 1) := by decide +kernel
def v_X1_setTo (a0 : Nat) (a1 : Nat) (T : zT) (F : zF) (Post : zF → Prop) : Prop :=
  (T a1 = some (2, 12) ∧ ∃ x3 : Nat, F a1 0 = .ref x3 ∧ T a0 = some (2, 12) ∧ ∃ x6 : Int32, (zu F a0 0 (.ref x3)) a1 1 = .int x6 ∧ ∃ x9 : Int32, (zu (zu F a0 0 (.ref x3)) a0 1 (.int x6)) a1 2 = .int x9 ∧ ∃ x13 : Int32, (zu (zu (zu F a0 0 (.ref x3)) a0 1 (.int x6)) a0 2 (.int x9)) a1 3 = .int x13 ∧ ∃ x18 : Int32, (zu (zu (zu (zu F a0 0 (.ref x3)) a0 1 (.int x6)) a0 2 (.int x9)) a0 3 (.int x13)) a1 4 = .int x18 ∧ ∃ x24 : Int32, (zu (zu (zu (zu (zu F a0 0 (.ref x3)) a0 1 (.int x6)) a0 2 (.int x9)) a0 3 (.int x13)) a0 4 (.int x18)) a1 5 = .int x24 ∧ ∃ x31 : Int32, (zu (zu (zu (zu (zu (zu F a0 0 (.ref x3)) a0 1 (.int x6)) a0 2 (.int x9)) a0 3 (.int x13)) a0 4 (.int x18)) a0 5 (.int x24)) a1 6 = .int x31 ∧ ∃ x39 : Int32, (zu (zu (zu (zu (zu (zu (zu F a0 0 (.ref x3)) a0 1 (.int x6)) a0 2 (.int x9)) a0 3 (.int x13)) a0 4 (.int x18)) a0 5 (.int x24)) a0 6 (.int x31)) a1 7 = .int x39 ∧ ∃ x48 : Int32, (zu (zu (zu (zu (zu (zu (zu (zu F a0 0 (.ref x3)) a0 1 (.int x6)) a0 2 (.int x9)) a0 3 (.int x13)) a0 4 (.int x18)) a0 5 (.int x24)) a0 6 (.int x31)) a0 7 (.int x39)) a1 8 = .int x48 ∧ ∃ x58 : Int32, (zu (zu (zu (zu (zu (zu (zu (zu (zu F a0 0 (.ref x3)) a0 1 (.int x6)) a0 2 (.int x9)) a0 3 (.int x13)) a0 4 (.int x18)) a0 5 (.int x24)) a0 6 (.int x31)) a0 7 (.int x39)) a0 8 (.int x48)) a1 9 = .int x58 ∧ ∃ x69 : Int32, (zu (zu (zu (zu (zu (zu (zu (zu (zu (zu F a0 0 (.ref x3)) a0 1 (.int x6)) a0 2 (.int x9)) a0 3 (.int x13)) a0 4 (.int x18)) a0 5 (.int x24)) a0 6 (.int x31)) a0 7 (.int x39)) a0 8 (.int x48)) a0 9 (.int x58)) a1 10 = .int x69 ∧ (x69 = 0 ∨ x69 = 1) ∧ ∃ x82 : Int32, (zu (zu (zu (zu (zu (zu (zu (zu (zu (zu (zu F a0 0 (.ref x3)) a0 1 (.int x6)) a0 2 (.int x9)) a0 3 (.int x13)) a0 4 (.int x18)) a0 5 (.int x24)) a0 6 (.int x31)) a0 7 (.int x39)) a0 8 (.int x48)) a0 9 (.int x58)) a0 10 (.int x69)) a1 11 = .int x82 ∧ (x82 = 0 ∨ x82 = 1) ∧ Post (zu (zu (zu (zu (zu (zu (zu (zu (zu (zu (zu (zu F a0 0 (.ref x3)) a0 1 (.int x6)) a0 2 (.int x9)) a0 3 (.int x13)) a0 4 (.int x18)) a0 5 (.int x24)) a0 6 (.int x31)) a0 7 (.int x39)) a0 8 (.int x48)) a0 9 (.int x58)) a0 10 (.int x69)) a0 11 (.int x82)))
set_option maxRecDepth 100000 in
set_option maxHeartbeats 4000000 in
theorem k_X1_setTo {l : Launch} {D : va_G} {cA : Nat → ClassId} {N0 zE : Nat} {a0 : Nat} {a1 : Nat} {T : zT} {F : zF} {Post : zF → Prop} (h : v_X1_setTo a0 a1 T F Post) : z_Mt l D cA N0 zE yX1_setTo cX1_setTo 2 none ({ frames := 0, cells := 0, slots := 0, locals := 0 } : Room) [.ref a0, .ref a1] T F (fun v T' F' => v = none ∧ T = T' ∧ Post F') := by
  unfold v_X1_setTo at h
  refine z_bodyT (by decide) (Nat.le_of_ble_eq_true rfl) ?_
  intro p e s m args below meth c C hnm
  have C : z_C p l s m args meth c RX1 cX1_setTo 2 none D cA N0 zE := C
  show z_w p l e ({ frames := 0, cells := 0, slots := 0, locals := 0 } : Room) s m args below meth c D cA N0 2 0 0 (MQ below (z_Qc D cA N0 (fun v T' F' => v = none ∧ T = T' ∧ Post F')) args s 0 0 (fun q => N0 ≤ q)) 0 [(0, .ref a0), (1, .ref a1)] [] T F
  refine zr_aload_n C 0 dX1_setTo_0 rfl rfl ?_
  refine zr_aload_n C 1 dX1_setTo_1 rfl rfl ?_
  obtain ⟨hT1, x3, hv2, h⟩ := h
  refine zr_get C fl_X1_31 hT1 hv2 dX1_setTo_2 ?_
  obtain ⟨hT4, h⟩ := h
  refine zr_put C fl_X1_31 hT4 rfl rfl dX1_setTo_5 ?_
  refine zr_aload_n C 0 dX1_setTo_8 rfl rfl ?_
  refine zr_aload_n C 1 dX1_setTo_9 rfl rfl ?_
  obtain ⟨x6, hv5, h⟩ := h
  refine zr_get C fl_X1_35 hT1 hv5 dX1_setTo_10 ?_
  refine zr_put C fl_X1_35 hT4 rfl rfl dX1_setTo_13 ?_
  refine zr_aload_n C 0 dX1_setTo_16 rfl rfl ?_
  refine zr_aload_n C 1 dX1_setTo_17 rfl rfl ?_
  obtain ⟨x9, hv8, h⟩ := h
  refine zr_get C fl_X1_38 hT1 hv8 dX1_setTo_18 ?_
  refine zr_put C fl_X1_38 hT4 rfl rfl dX1_setTo_21 ?_
  refine zr_aload_n C 0 dX1_setTo_24 rfl rfl ?_
  refine zr_aload_n C 1 dX1_setTo_25 rfl rfl ?_
  obtain ⟨x13, hv12, h⟩ := h
  refine zr_get C fl_X1_41 hT1 hv12 dX1_setTo_26 ?_
  refine zr_put C fl_X1_41 hT4 rfl rfl dX1_setTo_29 ?_
  refine zr_aload_n C 0 dX1_setTo_32 rfl rfl ?_
  refine zr_aload_n C 1 dX1_setTo_33 rfl rfl ?_
  obtain ⟨x18, hv17, h⟩ := h
  refine zr_get C fl_X1_44 hT1 hv17 dX1_setTo_34 ?_
  refine zr_put C fl_X1_44 hT4 rfl rfl dX1_setTo_37 ?_
  refine zr_aload_n C 0 dX1_setTo_40 rfl rfl ?_
  refine zr_aload_n C 1 dX1_setTo_41 rfl rfl ?_
  obtain ⟨x24, hv23, h⟩ := h
  refine zr_get C fl_X1_47 hT1 hv23 dX1_setTo_42 ?_
  refine zr_put C fl_X1_47 hT4 rfl rfl dX1_setTo_45 ?_
  refine zr_aload_n C 0 dX1_setTo_48 rfl rfl ?_
  refine zr_aload_n C 1 dX1_setTo_49 rfl rfl ?_
  obtain ⟨x31, hv30, h⟩ := h
  refine zr_get C fl_X1_9 hT1 hv30 dX1_setTo_50 ?_
  refine zr_put C fl_X1_9 hT4 rfl rfl dX1_setTo_53 ?_
  refine zr_aload_n C 0 dX1_setTo_56 rfl rfl ?_
  refine zr_aload_n C 1 dX1_setTo_57 rfl rfl ?_
  obtain ⟨x39, hv38, h⟩ := h
  refine zr_get C fl_X1_15 hT1 hv38 dX1_setTo_58 ?_
  refine zr_put C fl_X1_15 hT4 rfl rfl dX1_setTo_61 ?_
  refine zr_aload_n C 0 dX1_setTo_64 rfl rfl ?_
  refine zr_aload_n C 1 dX1_setTo_65 rfl rfl ?_
  obtain ⟨x48, hv47, h⟩ := h
  refine zr_get C fl_X1_18 hT1 hv47 dX1_setTo_66 ?_
  refine zr_put C fl_X1_18 hT4 rfl rfl dX1_setTo_69 ?_
  refine zr_aload_n C 0 dX1_setTo_72 rfl rfl ?_
  refine zr_aload_n C 1 dX1_setTo_73 rfl rfl ?_
  obtain ⟨x58, hv57, h⟩ := h
  refine zr_get C fl_X1_21 hT1 hv57 dX1_setTo_74 ?_
  refine zr_put C fl_X1_21 hT4 rfl rfl dX1_setTo_77 ?_
  refine zr_aload_n C 0 dX1_setTo_80 rfl rfl ?_
  refine zr_aload_n C 1 dX1_setTo_81 rfl rfl ?_
  obtain ⟨x69, hv68, h⟩ := h
  refine zr_get C fl_X1_24 hT1 hv68 dX1_setTo_82 ?_
  obtain ⟨hb70, h⟩ := h
  refine zr_put C fl_X1_24 hT4 (z_nb hb70) (z_fb hb70) dX1_setTo_85 ?_
  refine zr_aload_n C 0 dX1_setTo_88 rfl rfl ?_
  refine zr_aload_n C 1 dX1_setTo_89 rfl rfl ?_
  obtain ⟨x82, hv81, h⟩ := h
  refine zr_get C fl_X1_28 hT1 hv81 dX1_setTo_90 ?_
  obtain ⟨hb83, h⟩ := h
  refine zr_put C fl_X1_28 hT4 (z_nb hb83) (z_fb hb83) dX1_setTo_93 ?_
  exact zr_vret C rfl ⟨rfl, rfl, h⟩ (Nat.le_of_ble_eq_true rfl) (Nat.le_of_ble_eq_true rfl) dX1_setTo_96
theorem dX1_init__0 : decode cX1_init_ 0 = .ok (.aload_n 0, 1) := by decide +kernel
theorem dX1_init__1 : decode cX1_init_ 1 = .ok (.invokespecial 3, 3) := by decide +kernel
theorem dX1_init__4 : decode cX1_init_ 4 = .ok (.aload_n 0, 1) := by decide +kernel
theorem dX1_init__5 : decode cX1_init_ 5 = .ok (.iconst 0, 1) := by decide +kernel
theorem dX1_init__6 : decode cX1_init_ 6 = .ok (.putfield 9, 3) := by decide +kernel
theorem dX1_init__9 : decode cX1_init_ 9 = .ok (.aload_n 0, 1) := by decide +kernel
theorem dX1_init__10 : decode cX1_init_ 10 = .ok (.iconst 0, 1) := by decide +kernel
theorem dX1_init__11 : decode cX1_init_ 11 = .ok (.putfield 15, 3) := by decide +kernel
theorem dX1_init__14 : decode cX1_init_ 14 = .ok (.aload_n 0, 1) := by decide +kernel
theorem dX1_init__15 : decode cX1_init_ 15 = .ok (.iconst 0, 1) := by decide +kernel
theorem dX1_init__16 : decode cX1_init_ 16 = .ok (.putfield 18, 3) := by decide +kernel
theorem dX1_init__19 : decode cX1_init_ 19 = .ok (.aload_n 0, 1) := by decide +kernel
theorem dX1_init__20 : decode cX1_init_ 20 = .ok (.iconst 0, 1) := by decide +kernel
theorem dX1_init__21 : decode cX1_init_ 21 = .ok (.putfield 21, 3) := by decide +kernel
theorem dX1_init__24 : decode cX1_init_ 24 = .ok (.aload_n 0, 1) := by decide +kernel
theorem dX1_init__25 : decode cX1_init_ 25 = .ok (.iconst 0, 1) := by decide +kernel
theorem dX1_init__26 : decode cX1_init_ 26 = .ok (.putfield 24, 3) := by decide +kernel
theorem dX1_init__29 : decode cX1_init_ 29 = .ok (.aload_n 0, 1) := by decide +kernel
theorem dX1_init__30 : decode cX1_init_ 30 = .ok (.iconst 0, 1) := by decide +kernel
theorem dX1_init__31 : decode cX1_init_ 31 = .ok (.putfield 28, 3) := by decide +kernel
theorem dX1_init__34 : decode cX1_init_ 34 = .ok (.aload_n 0, 1) := by decide +kernel
theorem dX1_init__35 : decode cX1_init_ 35 = .ok (.aload_n 1, 1) := by decide +kernel
theorem dX1_init__39 : decode cX1_init_ 39 = .ok (.return_, 1) := by decide +kernel
theorem dX1_init__36 : decode cX1_init_ 36 = .ok (.invokevirtual 50, 3) := by decide +kernel
def v_X1_init_ (a0 : Nat) (a1 : Nat) (T : zT) (F : zF) (Post : zF → Prop) : Prop :=
  (T a0 = some (2, 12) ∧ (v_X1_setTo a0 a1 T (zu (zu (zu (zu (zu (zu F a0 6 (.int 0)) a0 7 (.int 0)) a0 8 (.int 0)) a0 9 (.int 0)) a0 10 (.int 0)) a0 11 (.int 0)) (fun (F17 : zF) => Post F17)))
set_option maxRecDepth 100000 in
set_option maxHeartbeats 4000000 in
theorem k_X1_init_ {l : Launch} {D : va_G} {cA : Nat → ClassId} {N0 zE : Nat} {a0 : Nat} {a1 : Nat} {T : zT} {F : zF} {Post : zF → Prop} (h : v_X1_init_ a0 a1 T F Post) : z_Mt l D cA N0 zE yX1_init_ cX1_init_ 2 none ({ frames := 1, cells := 0, slots := 0, locals := 21 } : Room) [.ref a0, .ref a1] T F (fun v T' F' => v = none ∧ T = T' ∧ Post F') := by
  unfold v_X1_init_ at h
  refine z_bodyT (by decide) (Nat.le_of_ble_eq_true rfl) ?_
  intro p e s m args below meth c C hnm
  have C : z_C p l s m args meth c RX1 cX1_init_ 2 none D cA N0 zE := C
  show z_w p l e ({ frames := 1, cells := 0, slots := 0, locals := 21 } : Room) s m args below meth c D cA N0 2 0 0 (MQ below (z_Qc D cA N0 (fun v T' F' => v = none ∧ T = T' ∧ Post F')) args s 0 0 (fun q => N0 ≤ q)) 0 [(0, .ref a0), (1, .ref a1)] [] T F
  refine zr_aload_n C 0 dX1_init__0 rfl rfl ?_
  refine zr_objInit C zq_566 zq_44 zq_45 (by decide) (Nat.le_of_ble_eq_true rfl) dX1_init__1 ?_
  refine zr_aload_n C 0 dX1_init__4 rfl rfl ?_
  refine zr_iconst C 0 dX1_init__5 (by decide) ?_
  obtain ⟨hT1, h⟩ := h
  refine zr_put C fl_X1_9 hT1 rfl rfl dX1_init__6 ?_
  refine zr_aload_n C 0 dX1_init__9 rfl rfl ?_
  refine zr_iconst C 0 dX1_init__10 (by decide) ?_
  refine zr_put C fl_X1_15 hT1 rfl rfl dX1_init__11 ?_
  refine zr_aload_n C 0 dX1_init__14 rfl rfl ?_
  refine zr_iconst C 0 dX1_init__15 (by decide) ?_
  refine zr_put C fl_X1_18 hT1 rfl rfl dX1_init__16 ?_
  refine zr_aload_n C 0 dX1_init__19 rfl rfl ?_
  refine zr_iconst C 0 dX1_init__20 (by decide) ?_
  refine zr_put C fl_X1_21 hT1 rfl rfl dX1_init__21 ?_
  refine zr_aload_n C 0 dX1_init__24 rfl rfl ?_
  refine zr_iconst C 0 dX1_init__25 (by decide) ?_
  refine zr_put C fl_X1_24 hT1 rfl rfl dX1_init__26 ?_
  refine zr_aload_n C 0 dX1_init__29 rfl rfl ?_
  refine zr_iconst C 0 dX1_init__30 (by decide) ?_
  refine zr_put C fl_X1_28 hT1 rfl rfl dX1_init__31 ?_
  refine zr_aload_n C 0 dX1_init__34 rfl rfl ?_
  refine zr_aload_n C 1 dX1_init__35 rfl rfl ?_
  refine zr_callV (As := [.ref a1]) (r := (RX1, TX1, 12)) C (k_X1_setTo h) ok_X1_50 zq_560 zq_12 hT1 (by decide) rfl rfl ⟨by decide, (Nat.le_of_ble_eq_true rfl)⟩ ⟨(Nat.le_of_ble_eq_true rfl), (Nat.le_of_ble_eq_true rfl)⟩ (Nat.le_of_ble_eq_true rfl) dX1_init__36 (fun v18 U19 G20 hq => ?_)
  clear h
  · obtain ⟨rfl, rfl, h⟩ := hq
    exact zr_vret C rfl ⟨rfl, rfl, h⟩ (Nat.le_of_ble_eq_true rfl) (Nat.le_of_ble_eq_true rfl) dX1_init__39
