theorem dX0_init_0 : decode cX0_init 0 = .ok (.aload_n 0, 1) := by decide +kernel
theorem dX0_init_1 : decode cX0_init 1 = .ok (.invokespecial 3, 3) := by decide +kernel
theorem dX0_init_4 : decode cX0_init 4 = .ok (.aload_n 0, 1) := by decide +kernel
theorem dX0_init_5 : decode cX0_init 5 = .ok (.iconst 5, 1) := by decide +kernel
theorem dX0_init_6 : decode cX0_init 6 = .ok (.newarray .int, 2) := by decide +kernel
theorem dX0_init_8 : decode cX0_init 8 = .ok (.putfield 9, 3) := by decide +kernel
theorem dX0_init_11 : decode cX0_init 11 = .ok (.aload_n 0, 1) := by decide +kernel
theorem dX0_init_12 : decode cX0_init 12 = .ok (.iconst 0, 1) := by decide +kernel
theorem dX0_init_13 : decode cX0_init 13 = .ok (.putfield 15, 3) := by decide +kernel
theorem dX0_init_16 : decode cX0_init 16 = .ok (.aload_n 0, 1) := by decide +kernel
theorem dX0_init_17 : decode cX0_init 17 = .ok (.iconst 0, 1) := by decide +kernel
theorem dX0_init_18 : decode cX0_init 18 = .ok (.putfield 19, 3) := by decide +kernel
theorem dX0_init_21 : decode cX0_init 21 = .ok (.aload_n 0, 1) := by decide +kernel
theorem dX0_init_22 : decode cX0_init 22 = .ok (.iconst 0, 1) := by decide +kernel
theorem dX0_init_23 : decode cX0_init 23 = .ok (.putfield 22, 3) := by decide +kernel
theorem dX0_init_26 : decode cX0_init 26 = .ok (.aload_n 0, 1) := by decide +kernel
theorem dX0_init_27 : decode cX0_init 27 = .ok (.iconst 0, 1) := by decide +kernel
theorem dX0_init_28 : decode cX0_init 28 = .ok (.putfield 25, 3) := by decide +kernel
theorem dX0_init_31 : decode cX0_init 31 = .ok (.aload_n 0, 1) := by decide +kernel
theorem dX0_init_32 : decode cX0_init 32 = .ok (.getfield 9, 3) := by decide +kernel
theorem dX0_init_35 : decode cX0_init 35 = .ok (.bipush 100, 2) := by decide +kernel
theorem dX0_init_40 : decode cX0_init 40 = .ok (.return_, 1) := by decide +kernel
theorem dX0_init_37 : decode cX0_init 37 = .ok (.invokestatic 28, 3) := by decide +kernel
def v_X0_init (a0 : Nat) (T : zT) (F : zF) (Post : zT → zF → Prop) : Prop :=
  (∀ q1 : Nat, (∀ b, q1 ≤ b → T b = none) → (zn T q1 (100, 5) a0 = some (1, 5) ∧ (v_J7_fill_53178 q1 100 (zn T q1 (100, 5)) (zu (zu (zu (zu (zu (zm F q1 (fun _ => .int 0)) a0 0 (.ref q1)) a0 1 (.int 0)) a0 2 (.int 0)) a0 3 (.int 0)) a0 4 (.int 0)) (fun (F14 : zF) => Post (zn T q1 (100, 5)) F14))))
set_option maxRecDepth 100000 in
set_option maxHeartbeats 4000000 in
theorem k_X0_init {l : Launch} {D : va_G} {cA : Nat → ClassId} {N0 zE : Nat} {a0 : Nat} {T : zT} {F : zF} {Post : zT → zF → Prop} (h : v_X0_init a0 T F Post) : z_Mt l D cA N0 zE yX0_init cX0_init 1 none ({ frames := 1, cells := 1, slots := 5, locals := 23 } : Room) [.ref a0] T F (fun v T' F' => v = none ∧ Post T' F') := by
  unfold v_X0_init at h
  refine z_bodyT (by decide) (Nat.le_of_ble_eq_true rfl) ?_
  intro p e s m args below meth c C hnm
  have C : z_C p l s m args meth c RX0 cX0_init 1 none D cA N0 zE := C
  show z_w p l e ({ frames := 1, cells := 1, slots := 5, locals := 23 } : Room) s m args below meth c D cA N0 1 0 0 (MQ below (z_Qc D cA N0 (fun v T' F' => v = none ∧ Post T' F')) args s 1 5 (fun q => N0 ≤ q)) 0 [(0, .ref a0)] [] T F
  refine zr_aload_n C 0 dX0_init_0 rfl rfl ?_
  refine zr_objInit C zq_188 zq_44 zq_45 (by decide) (Nat.le_of_ble_eq_true rfl) dX0_init_1 ?_
  refine zr_aload_n C 0 dX0_init_4 rfl rfl ?_
  refine zr_iconst C 5 dX0_init_5 (by decide) ?_
  refine zr_newarr (n := 5) (atype := .int) C 0 rfl zq_93 (by decide) (by decide) (Nat.le_of_ble_eq_true rfl) (Nat.le_of_ble_eq_true rfl) dX0_init_6 (fun q1 hq2 => ?_)
  have h := h q1 hq2
  obtain ⟨hT3, h⟩ := h
  refine zr_putF C fl_X0_9 fd_X0_9 hT3 rfl rfl hnm dX0_init_8 ?_
  refine zr_aload_n C 0 dX0_init_11 rfl rfl ?_
  refine zr_iconst C 0 dX0_init_12 (by decide) ?_
  refine zr_put C fl_X0_15 hT3 rfl rfl dX0_init_13 ?_
  refine zr_aload_n C 0 dX0_init_16 rfl rfl ?_
  refine zr_iconst C 0 dX0_init_17 (by decide) ?_
  refine zr_put C fl_X0_19 hT3 rfl rfl dX0_init_18 ?_
  refine zr_aload_n C 0 dX0_init_21 rfl rfl ?_
  refine zr_iconst C 0 dX0_init_22 (by decide) ?_
  refine zr_put C fl_X0_22 hT3 rfl rfl dX0_init_23 ?_
  refine zr_aload_n C 0 dX0_init_26 rfl rfl ?_
  refine zr_iconst C 0 dX0_init_27 (by decide) ?_
  refine zr_put C fl_X0_25 hT3 rfl rfl dX0_init_28 ?_
  refine zr_aload_n C 0 dX0_init_31 rfl rfl ?_
  refine zr_get C fl_X0_9 hT3 (z_une (z_une (z_une (z_une z_ueq (by decide)) (by decide)) (by decide)) (by decide)) dX0_init_32 ?_
  refine zr_bipush C 100 dX0_init_35 (by decide) ?_
  refine zr_callS (As := [.ref q1, .int 100]) C (k_J7_fill_53178 h) ok_X0_28 zq_190 rfl ⟨by decide, (Nat.le_of_ble_eq_true rfl)⟩ ⟨(Nat.le_of_ble_eq_true rfl), (Nat.le_of_ble_eq_true rfl)⟩ (Nat.le_of_ble_eq_true rfl) dX0_init_37 (fun v15 U16 G17 hq => ?_)
  clear h
  · obtain ⟨rfl, rfl, h⟩ := hq
    exact zr_vret C rfl ⟨rfl, h⟩ (Nat.le_of_ble_eq_true rfl) (Nat.le_of_ble_eq_true rfl) dX0_init_40
theorem dX0_addVersion_0 : decode cX0_addVersion 0 = .ok (.aload_n 0, 1) := by decide +kernel
theorem dX0_addVersion_1 : decode cX0_addVersion 1 = .ok (.getfield 15, 3) := by decide +kernel
theorem dX0_addVersion_4 : decode cX0_addVersion 4 = .ok (.ifCond .lt 15, 3) := by decide +kernel
theorem dX0_addVersion_19 : decode cX0_addVersion 19 = .ok (.iconst (-1), 1) := by decide +kernel
theorem dX0_addVersion_20 : decode cX0_addVersion 20 = .ok (.ireturn, 1) := by decide +kernel
theorem dX0_addVersion_7 : decode cX0_addVersion 7 = .ok (.aload_n 0, 1) := by decide +kernel
theorem dX0_addVersion_8 : decode cX0_addVersion 8 = .ok (.getfield 15, 3) := by decide +kernel
theorem dX0_addVersion_11 : decode cX0_addVersion 11 = .ok (.aload_n 0, 1) := by decide +kernel
theorem dX0_addVersion_12 : decode cX0_addVersion 12 = .ok (.getfield 9, 3) := by decide +kernel
theorem dX0_addVersion_15 : decode cX0_addVersion 15 = .ok (.arraylength, 1) := by decide +kernel
theorem dX0_addVersion_16 : decode cX0_addVersion 16 = .ok (.if_icmp .lt 5, 3) := by decide +kernel
theorem dX0_addVersion_21 : decode cX0_addVersion 21 = .ok (.aload_n 0, 1) := by decide +kernel
theorem dX0_addVersion_22 : decode cX0_addVersion 22 = .ok (.getfield 9, 3) := by decide +kernel
theorem dX0_addVersion_25 : decode cX0_addVersion 25 = .ok (.aload_n 0, 1) := by decide +kernel
theorem dX0_addVersion_26 : decode cX0_addVersion 26 = .ok (.getfield 15, 3) := by decide +kernel
theorem dX0_addVersion_29 : decode cX0_addVersion 29 = .ok (.iload_n 1, 1) := by decide +kernel
theorem dX0_addVersion_30 : decode cX0_addVersion 30 = .ok (.iastore, 1) := by decide +kernel
theorem dX0_addVersion_31 : decode cX0_addVersion 31 = .ok (.aload_n 0, 1) := by decide +kernel
theorem dX0_addVersion_32 : decode cX0_addVersion 32 = .ok (.dup, 1) := by decide +kernel
theorem dX0_addVersion_33 : decode cX0_addVersion 33 = .ok (.getfield 15, 3) := by decide +kernel
theorem dX0_addVersion_36 : decode cX0_addVersion 36 = .ok (.iconst 1, 1) := by decide +kernel
theorem dX0_addVersion_37 : decode cX0_addVersion 37 = .ok (.iadd, 1) := by decide +kernel
theorem dX0_addVersion_38 : decode cX0_addVersion 38 = .ok (.putfield 15, 3) := by decide +kernel
theorem dX0_addVersion_41 : decode cX0_addVersion 41 = .ok (.aload_n 0, 1) := by decide +kernel
theorem dX0_addVersion_42 : decode cX0_addVersion 42 = .ok (.getfield 15, 3) := by decide +kernel
theorem dX0_addVersion_45 : decode cX0_addVersion 45 = .ok (.iconst 1, 1) := by decide +kernel
theorem dX0_addVersion_46 : decode cX0_addVersion 46 = .ok (.isub, 1) := by decide +kernel
theorem dX0_addVersion_47 : decode cX0_addVersion 47 = .ok (.ireturn, 1) := by decide +kernel
def v_X0_addVersion (a0 : Nat) (p1 : Int32) (T : zT) (F : zF) (Post : Int32 → zF → Prop) : Prop :=
  (T a0 = some (1, 5) ∧ ∃ x3 : Int32, F a0 1 = .int x3 ∧ ((x3 < 0 → Post ((-1)) F) ∧ (¬ x3 < 0 → (∃ x5 : Nat, F a0 0 = .ref x5 ∧ ∃ n6 : Nat, T x5 = some (100, n6) ∧ ((x3 < (nI n6) → (vp_in x3 n6 ∧ ∃ x10 : Int32, (zu F x5 (x3).toNatClampNeg (.int p1)) a0 1 = .int x10 ∧ Post ((x10 + 1) - 1) (zu (zu F x5 (x3).toNatClampNeg (.int p1)) a0 1 (.int (x10 + 1))))) ∧ (¬ x3 < (nI n6) → Post ((-1)) F))))))
set_option maxRecDepth 100000 in
set_option maxHeartbeats 4000000 in
theorem k_X0_addVersion {l : Launch} {D : va_G} {cA : Nat → ClassId} {N0 zE : Nat} {a0 : Nat} {p1 : Int32} {T : zT} {F : zF} {Post : Int32 → zF → Prop} (h : v_X0_addVersion a0 p1 T F Post) : z_Mt l D cA N0 zE yX0_addVersion cX0_addVersion 2 (some .int) ({ frames := 0, cells := 0, slots := 0, locals := 0 } : Room) [.ref a0, .int p1] T F (fun v T' F' => ∃ r : Int32, v = some (.int r) ∧ T = T' ∧ Post r F') := by
  unfold v_X0_addVersion at h
  refine z_bodyT (by decide) (Nat.le_of_ble_eq_true rfl) ?_
  intro p e s m args below meth c C hnm
  have C : z_C p l s m args meth c RX0 cX0_addVersion 2 (some .int) D cA N0 zE := C
  show z_w p l e ({ frames := 0, cells := 0, slots := 0, locals := 0 } : Room) s m args below meth c D cA N0 2 0 0 (MQ below (z_Qc D cA N0 (fun v T' F' => ∃ r : Int32, v = some (.int r) ∧ T = T' ∧ Post r F')) args s 0 0 (fun q => N0 ≤ q)) 0 [(0, .ref a0), (1, .int p1)] [] T F
  refine zr_aload_n C 0 dX0_addVersion_0 rfl rfl ?_
  obtain ⟨hT1, x3, hv2, h⟩ := h
  refine zr_get C fl_X0_15 hT1 hv2 dX0_addVersion_1 ?_
  obtain ⟨h1, h2⟩ := h
  refine zr_if_lt C 19 dX0_addVersion_4 (by decide) (fun hc => ?_) (fun hc => ?_)
  · have h := h1 hc
    clear h1 h2
    refine zr_iconst C (-1) dX0_addVersion_19 (by decide) ?_
    exact zr_iret C rfl ⟨_, rfl, rfl, h⟩ (Nat.le_of_ble_eq_true rfl) (Nat.le_of_ble_eq_true rfl) dX0_addVersion_20
  · have h := h2 hc
    clear h1 h2
    refine zr_aload_n C 0 dX0_addVersion_7 rfl rfl ?_
    refine zr_get C fl_X0_15 hT1 hv2 dX0_addVersion_8 ?_
    refine zr_aload_n C 0 dX0_addVersion_11 rfl rfl ?_
    obtain ⟨x5, hv4, h⟩ := h
    refine zr_get C fl_X0_9 hT1 hv4 dX0_addVersion_12 ?_
    obtain ⟨n6, hT7, h⟩ := h
    refine zr_alen C hT7 (by decide) rfl dX0_addVersion_15 ?_
    obtain ⟨h1, h2⟩ := h
    refine zr_icmp_lt C 21 dX0_addVersion_16 (by decide) (fun hc => ?_) (fun hc => ?_)
    · have h := h1 hc
      clear h1 h2
      refine zr_aload_n C 0 dX0_addVersion_21 rfl rfl ?_
      refine zr_get C fl_X0_9 hT1 hv4 dX0_addVersion_22 ?_
      refine zr_aload_n C 0 dX0_addVersion_25 rfl rfl ?_
      refine zr_get C fl_X0_15 hT1 hv2 dX0_addVersion_26 ?_
      refine zr_iload_n C 1 dX0_addVersion_29 rfl rfl ?_
      obtain ⟨hi8, h⟩ := h
      refine zr_iast C rfl hT7 hi8 dX0_addVersion_30 ?_
      refine zr_aload_n C 0 dX0_addVersion_31 rfl rfl ?_
      refine zr_dup C dX0_addVersion_32 rfl ?_
      obtain ⟨x10, hv9, h⟩ := h
      refine zr_get C fl_X0_15 hT1 hv9 dX0_addVersion_33 ?_
      refine zr_iconst C 1 dX0_addVersion_36 (by decide) ?_
      refine zr_iadd C dX0_addVersion_37 ?_
      refine zr_put C fl_X0_15 hT1 rfl rfl dX0_addVersion_38 ?_
      refine zr_aload_n C 0 dX0_addVersion_41 rfl rfl ?_
      refine zr_get C fl_X0_15 hT1 z_ueq dX0_addVersion_42 ?_
      refine zr_iconst C 1 dX0_addVersion_45 (by decide) ?_
      refine zr_isub C dX0_addVersion_46 ?_
      exact zr_iret C rfl ⟨_, rfl, rfl, h⟩ (Nat.le_of_ble_eq_true rfl) (Nat.le_of_ble_eq_true rfl) dX0_addVersion_47
    · have h := h2 hc
      clear h1 h2
      refine zr_iconst C (-1) dX0_addVersion_19 (by decide) ?_
      exact zr_iret C rfl ⟨_, rfl, rfl, h⟩ (Nat.le_of_ble_eq_true rfl) (Nat.le_of_ble_eq_true rfl) dX0_addVersion_20
theorem dX0_hasLast_0 : decode cX0_hasLast 0 = .ok (.aload_n 0, 1) := by decide +kernel
theorem dX0_hasLast_1 : decode cX0_hasLast 1 = .ok (.getfield 15, 3) := by decide +kernel
theorem dX0_hasLast_4 : decode cX0_hasLast 4 = .ok (.iconst 1, 1) := by decide +kernel
theorem dX0_hasLast_5 : decode cX0_hasLast 5 = .ok (.if_icmp .lt 19, 3) := by decide +kernel
theorem dX0_hasLast_24 : decode cX0_hasLast 24 = .ok (.iconst 0, 1) := by decide +kernel
theorem dX0_hasLast_25 : decode cX0_hasLast 25 = .ok (.ireturn, 1) := by decide +kernel
theorem dX0_hasLast_8 : decode cX0_hasLast 8 = .ok (.aload_n 0, 1) := by decide +kernel
theorem dX0_hasLast_9 : decode cX0_hasLast 9 = .ok (.getfield 15, 3) := by decide +kernel
theorem dX0_hasLast_12 : decode cX0_hasLast 12 = .ok (.aload_n 0, 1) := by decide +kernel
theorem dX0_hasLast_13 : decode cX0_hasLast 13 = .ok (.getfield 9, 3) := by decide +kernel
theorem dX0_hasLast_16 : decode cX0_hasLast 16 = .ok (.arraylength, 1) := by decide +kernel
theorem dX0_hasLast_17 : decode cX0_hasLast 17 = .ok (.if_icmp .gt 7, 3) := by decide +kernel
theorem dX0_hasLast_20 : decode cX0_hasLast 20 = .ok (.iconst 1, 1) := by decide +kernel
theorem dX0_hasLast_21 : decode cX0_hasLast 21 = .ok (.goto 4, 3) := by decide +kernel
def v_X0_hasLast (a0 : Nat) (T : zT) (F : zF) (Post : Int32 → Prop) : Prop :=
  (T a0 = some (1, 5) ∧ ∃ x3 : Int32, F a0 1 = .int x3 ∧ ((x3 < 1 → Post 0) ∧ (¬ x3 < 1 → (∃ x5 : Nat, F a0 0 = .ref x5 ∧ ∃ n6 : Nat, T x5 = some (100, n6) ∧ (((nI n6) < x3 → Post 0) ∧ (¬ (nI n6) < x3 → Post 1))))))
set_option maxRecDepth 100000 in
set_option maxHeartbeats 4000000 in
theorem k_X0_hasLast {l : Launch} {D : va_G} {cA : Nat → ClassId} {N0 zE : Nat} {a0 : Nat} {T : zT} {F : zF} {Post : Int32 → Prop} (h : v_X0_hasLast a0 T F Post) : z_Mt l D cA N0 zE yX0_hasLast cX0_hasLast 1 (some .boolean) ({ frames := 0, cells := 0, slots := 0, locals := 0 } : Room) [.ref a0] T F (fun v T' F' => ∃ r : Int32, v = some (.int r) ∧ T = T' ∧ F = F' ∧ Post r) := by
  unfold v_X0_hasLast at h
  refine z_bodyT (by decide) (Nat.le_of_ble_eq_true rfl) ?_
  intro p e s m args below meth c C hnm
  have C : z_C p l s m args meth c RX0 cX0_hasLast 1 (some .boolean) D cA N0 zE := C
  show z_w p l e ({ frames := 0, cells := 0, slots := 0, locals := 0 } : Room) s m args below meth c D cA N0 1 0 0 (MQ below (z_Qc D cA N0 (fun v T' F' => ∃ r : Int32, v = some (.int r) ∧ T = T' ∧ F = F' ∧ Post r)) args s 0 0 (fun q => N0 ≤ q)) 0 [(0, .ref a0)] [] T F
  refine zr_aload_n C 0 dX0_hasLast_0 rfl rfl ?_
  obtain ⟨hT1, x3, hv2, h⟩ := h
  refine zr_get C fl_X0_15 hT1 hv2 dX0_hasLast_1 ?_
  refine zr_iconst C 1 dX0_hasLast_4 (by decide) ?_
  obtain ⟨h1, h2⟩ := h
  refine zr_icmp_lt C 24 dX0_hasLast_5 (by decide) (fun hc => ?_) (fun hc => ?_)
  · have h := h1 hc
    clear h1 h2
    refine zr_iconst C 0 dX0_hasLast_24 (by decide) ?_
    exact zr_zret C rfl (Or.inl rfl) ⟨_, rfl, rfl, rfl, h⟩ (Nat.le_of_ble_eq_true rfl) (Nat.le_of_ble_eq_true rfl) dX0_hasLast_25
  · have h := h2 hc
    clear h1 h2
    refine zr_aload_n C 0 dX0_hasLast_8 rfl rfl ?_
    refine zr_get C fl_X0_15 hT1 hv2 dX0_hasLast_9 ?_
    refine zr_aload_n C 0 dX0_hasLast_12 rfl rfl ?_
    obtain ⟨x5, hv4, h⟩ := h
    refine zr_get C fl_X0_9 hT1 hv4 dX0_hasLast_13 ?_
    obtain ⟨n6, hT7, h⟩ := h
    refine zr_alen C hT7 (by decide) rfl dX0_hasLast_16 ?_
    obtain ⟨h1, h2⟩ := h
    refine zr_icmp_gt C 24 dX0_hasLast_17 (by decide) (fun hc => ?_) (fun hc => ?_)
    · have h := h1 hc
      clear h1 h2
      refine zr_iconst C 0 dX0_hasLast_24 (by decide) ?_
      exact zr_zret C rfl (Or.inl rfl) ⟨_, rfl, rfl, rfl, h⟩ (Nat.le_of_ble_eq_true rfl) (Nat.le_of_ble_eq_true rfl) dX0_hasLast_25
    · have h := h2 hc
      clear h1 h2
      refine zr_iconst C 1 dX0_hasLast_20 (by decide) ?_
      refine zr_goto C 25 dX0_hasLast_21 (by decide) ?_
      exact zr_zret C rfl (Or.inr rfl) ⟨_, rfl, rfl, rfl, h⟩ (Nat.le_of_ble_eq_true rfl) (Nat.le_of_ble_eq_true rfl) dX0_hasLast_25
theorem dX0_lastComes_0 : decode cX0_lastComes 0 = .ok (.aload_n 0, 1) := by decide +kernel
theorem dX0_lastComes_4 : decode cX0_lastComes 4 = .ok (.ifCond .eq 17, 3) := by decide +kernel
theorem dX0_lastComes_21 : decode cX0_lastComes 21 = .ok (.iconst (-1), 1) := by decide +kernel
theorem dX0_lastComes_22 : decode cX0_lastComes 22 = .ok (.ireturn, 1) := by decide +kernel
theorem dX0_lastComes_7 : decode cX0_lastComes 7 = .ok (.aload_n 0, 1) := by decide +kernel
theorem dX0_lastComes_8 : decode cX0_lastComes 8 = .ok (.getfield 9, 3) := by decide +kernel
theorem dX0_lastComes_11 : decode cX0_lastComes 11 = .ok (.aload_n 0, 1) := by decide +kernel
theorem dX0_lastComes_12 : decode cX0_lastComes 12 = .ok (.getfield 15, 3) := by decide +kernel
theorem dX0_lastComes_15 : decode cX0_lastComes 15 = .ok (.iconst 1, 1) := by decide +kernel
theorem dX0_lastComes_16 : decode cX0_lastComes 16 = .ok (.isub, 1) := by decide +kernel
theorem dX0_lastComes_17 : decode cX0_lastComes 17 = .ok (.iaload, 1) := by decide +kernel
theorem dX0_lastComes_18 : decode cX0_lastComes 18 = .ok (.goto 4, 3) := by decide +kernel
theorem dX0_lastComes_1 : decode cX0_lastComes 1 = .ok (.invokevirtual 34, 3) := by decide +kernel
def v_X0_lastComes (a0 : Nat) (T : zT) (F : zF) (Post : Int32 → Prop) : Prop :=
  (T a0 = some (1, 5) ∧ (v_X0_hasLast a0 T F (fun (r2 : Int32) => ((r2 = 0 → Post ((-1))) ∧ (¬ r2 = 0 → (∃ x4 : Nat, F a0 0 = .ref x4 ∧ ∃ x6 : Int32, F a0 1 = .int x6 ∧ ∃ n7 : Nat, T x4 = some (100, n7) ∧ vp_in (x6 - 1) n7 ∧ ∃ x10 : Int32, F x4 ((x6 - 1)).toNatClampNeg = .int x10 ∧ Post x10))))))
set_option maxRecDepth 100000 in
set_option maxHeartbeats 4000000 in
theorem k_X0_lastComes {l : Launch} {D : va_G} {cA : Nat → ClassId} {N0 zE : Nat} {a0 : Nat} {T : zT} {F : zF} {Post : Int32 → Prop} (h : v_X0_lastComes a0 T F Post) : z_Mt l D cA N0 zE yX0_lastComes cX0_lastComes 1 (some .int) ({ frames := 1, cells := 0, slots := 0, locals := 20 } : Room) [.ref a0] T F (fun v T' F' => ∃ r : Int32, v = some (.int r) ∧ T = T' ∧ F = F' ∧ Post r) := by
  unfold v_X0_lastComes at h
  refine z_bodyT (by decide) (Nat.le_of_ble_eq_true rfl) ?_
  intro p e s m args below meth c C hnm
  have C : z_C p l s m args meth c RX0 cX0_lastComes 1 (some .int) D cA N0 zE := C
  show z_w p l e ({ frames := 1, cells := 0, slots := 0, locals := 20 } : Room) s m args below meth c D cA N0 1 0 0 (MQ below (z_Qc D cA N0 (fun v T' F' => ∃ r : Int32, v = some (.int r) ∧ T = T' ∧ F = F' ∧ Post r)) args s 0 0 (fun q => N0 ≤ q)) 0 [(0, .ref a0)] [] T F
  refine zr_aload_n C 0 dX0_lastComes_0 rfl rfl ?_
  obtain ⟨hT1, h⟩ := h
  refine zr_callV (As := []) (r := (RX0, TX0, 5)) C (k_X0_hasLast h) ok_X0_34 zq_773 zq_15 hT1 (by decide) rfl rfl ⟨by decide, (Nat.le_of_ble_eq_true rfl)⟩ ⟨(Nat.le_of_ble_eq_true rfl), (Nat.le_of_ble_eq_true rfl)⟩ (Nat.le_of_ble_eq_true rfl) dX0_lastComes_1 (fun v12 U13 G14 hq => ?_)
  clear h
  · obtain ⟨r2, rfl, rfl, rfl, h⟩ := hq
    obtain ⟨h1, h2⟩ := h
    refine zr_if_eq C 21 dX0_lastComes_4 (by decide) (fun hc => ?_) (fun hc => ?_)
    · have h := h1 hc
      clear h1 h2
      refine zr_iconst C (-1) dX0_lastComes_21 (by decide) ?_
      exact zr_iret C rfl ⟨_, rfl, rfl, rfl, h⟩ (Nat.le_of_ble_eq_true rfl) (Nat.le_of_ble_eq_true rfl) dX0_lastComes_22
    · have h := h2 hc
      clear h1 h2
      refine zr_aload_n C 0 dX0_lastComes_7 rfl rfl ?_
      obtain ⟨x4, hv3, h⟩ := h
      refine zr_get C fl_X0_9 hT1 hv3 dX0_lastComes_8 ?_
      refine zr_aload_n C 0 dX0_lastComes_11 rfl rfl ?_
      obtain ⟨x6, hv5, h⟩ := h
      refine zr_get C fl_X0_15 hT1 hv5 dX0_lastComes_12 ?_
      refine zr_iconst C 1 dX0_lastComes_15 (by decide) ?_
      refine zr_isub C dX0_lastComes_16 ?_
      obtain ⟨n7, hT8, hi9, x10, hv11, h⟩ := h
      refine zr_iald C rfl hT8 hi9 hv11 dX0_lastComes_17 ?_
      refine zr_goto C 22 dX0_lastComes_18 (by decide) ?_
      exact zr_iret C rfl ⟨_, rfl, rfl, rfl, h⟩ (Nat.le_of_ble_eq_true rfl) (Nat.le_of_ble_eq_true rfl) dX0_lastComes_22
theorem dX0_putLast_0 : decode cX0_putLast 0 = .ok (.aload_n 0, 1) := by decide +kernel
theorem dX0_putLast_4 : decode cX0_putLast 4 = .ok (.ifCond .eq 15, 3) := by decide +kernel
theorem dX0_putLast_19 : decode cX0_putLast 19 = .ok (.return_, 1) := by decide +kernel
theorem dX0_putLast_7 : decode cX0_putLast 7 = .ok (.aload_n 0, 1) := by decide +kernel
theorem dX0_putLast_8 : decode cX0_putLast 8 = .ok (.getfield 9, 3) := by decide +kernel
theorem dX0_putLast_11 : decode cX0_putLast 11 = .ok (.aload_n 0, 1) := by decide +kernel
theorem dX0_putLast_12 : decode cX0_putLast 12 = .ok (.getfield 15, 3) := by decide +kernel
theorem dX0_putLast_15 : decode cX0_putLast 15 = .ok (.iconst 1, 1) := by decide +kernel
theorem dX0_putLast_16 : decode cX0_putLast 16 = .ok (.isub, 1) := by decide +kernel
theorem dX0_putLast_17 : decode cX0_putLast 17 = .ok (.iload_n 1, 1) := by decide +kernel
theorem dX0_putLast_18 : decode cX0_putLast 18 = .ok (.iastore, 1) := by decide +kernel
theorem dX0_putLast_1 : decode cX0_putLast 1 = .ok (.invokevirtual 34, 3) := by decide +kernel
def v_X0_putLast (a0 : Nat) (p1 : Int32) (T : zT) (F : zF) (Post : zF → Prop) : Prop :=
  (T a0 = some (1, 5) ∧ (v_X0_hasLast a0 T F (fun (r2 : Int32) => ((r2 = 0 → Post F) ∧ (¬ r2 = 0 → (∃ x4 : Nat, F a0 0 = .ref x4 ∧ ∃ x6 : Int32, F a0 1 = .int x6 ∧ ∃ n7 : Nat, T x4 = some (100, n7) ∧ vp_in (x6 - 1) n7 ∧ Post (zu F x4 ((x6 - 1)).toNatClampNeg (.int p1))))))))
set_option maxRecDepth 100000 in
set_option maxHeartbeats 4000000 in
theorem k_X0_putLast {l : Launch} {D : va_G} {cA : Nat → ClassId} {N0 zE : Nat} {a0 : Nat} {p1 : Int32} {T : zT} {F : zF} {Post : zF → Prop} (h : v_X0_putLast a0 p1 T F Post) : z_Mt l D cA N0 zE yX0_putLast cX0_putLast 2 none ({ frames := 1, cells := 0, slots := 0, locals := 20 } : Room) [.ref a0, .int p1] T F (fun v T' F' => v = none ∧ T = T' ∧ Post F') := by
  unfold v_X0_putLast at h
  refine z_bodyT (by decide) (Nat.le_of_ble_eq_true rfl) ?_
  intro p e s m args below meth c C hnm
  have C : z_C p l s m args meth c RX0 cX0_putLast 2 none D cA N0 zE := C
  show z_w p l e ({ frames := 1, cells := 0, slots := 0, locals := 20 } : Room) s m args below meth c D cA N0 2 0 0 (MQ below (z_Qc D cA N0 (fun v T' F' => v = none ∧ T = T' ∧ Post F')) args s 0 0 (fun q => N0 ≤ q)) 0 [(0, .ref a0), (1, .int p1)] [] T F
  refine zr_aload_n C 0 dX0_putLast_0 rfl rfl ?_
  obtain ⟨hT1, h⟩ := h
  refine zr_callV (As := []) (r := (RX0, TX0, 5)) C (k_X0_hasLast h) ok_X0_34 zq_773 zq_15 hT1 (by decide) rfl rfl ⟨by decide, (Nat.le_of_ble_eq_true rfl)⟩ ⟨(Nat.le_of_ble_eq_true rfl), (Nat.le_of_ble_eq_true rfl)⟩ (Nat.le_of_ble_eq_true rfl) dX0_putLast_1 (fun v10 U11 G12 hq => ?_)
  clear h
  · obtain ⟨r2, rfl, rfl, rfl, h⟩ := hq
    obtain ⟨h1, h2⟩ := h
    refine zr_if_eq C 19 dX0_putLast_4 (by decide) (fun hc => ?_) (fun hc => ?_)
    · have h := h1 hc
      clear h1 h2
      exact zr_vret C rfl ⟨rfl, rfl, h⟩ (Nat.le_of_ble_eq_true rfl) (Nat.le_of_ble_eq_true rfl) dX0_putLast_19
    · have h := h2 hc
      clear h1 h2
      refine zr_aload_n C 0 dX0_putLast_7 rfl rfl ?_
      obtain ⟨x4, hv3, h⟩ := h
      refine zr_get C fl_X0_9 hT1 hv3 dX0_putLast_8 ?_
      refine zr_aload_n C 0 dX0_putLast_11 rfl rfl ?_
      obtain ⟨x6, hv5, h⟩ := h
      refine zr_get C fl_X0_15 hT1 hv5 dX0_putLast_12 ?_
      refine zr_iconst C 1 dX0_putLast_15 (by decide) ?_
      refine zr_isub C dX0_putLast_16 ?_
      refine zr_iload_n C 1 dX0_putLast_17 rfl rfl ?_
      obtain ⟨n7, hT8, hi9, h⟩ := h
      refine zr_iast C rfl hT8 hi9 dX0_putLast_18 ?_
      exact zr_vret C rfl ⟨rfl, rfl, h⟩ (Nat.le_of_ble_eq_true rfl) (Nat.le_of_ble_eq_true rfl) dX0_putLast_19
theorem dX0_grant_0 : decode cX0_grant 0 = .ok (.aload_n 0, 1) := by decide +kernel
theorem dX0_grant_1 : decode cX0_grant 1 = .ok (.iload_n 1, 1) := by decide +kernel
theorem dX0_grant_2 : decode cX0_grant 2 = .ok (.putfield 19, 3) := by decide +kernel
theorem dX0_grant_5 : decode cX0_grant 5 = .ok (.aload_n 0, 1) := by decide +kernel
theorem dX0_grant_6 : decode cX0_grant 6 = .ok (.iload_n 2, 1) := by decide +kernel
theorem dX0_grant_7 : decode cX0_grant 7 = .ok (.putfield 22, 3) := by decide +kernel
theorem dX0_grant_10 : decode cX0_grant 10 = .ok (.aload_n 0, 1) := by decide +kernel
theorem dX0_grant_11 : decode cX0_grant 11 = .ok (.iload_n 3, 1) := by decide +kernel
theorem dX0_grant_12 : decode cX0_grant 12 = .ok (.putfield 25, 3) := by decide +kernel
theorem dX0_grant_15 : decode cX0_grant 15 = .ok (.return_, 1) := by decide +kernel
def v_X0_grant (a0 : Nat) (p1 : Int32) (p2 : Int32) (p3 : Int32) (T : zT) (F : zF) (Post : zF → Prop) : Prop :=
  (T a0 = some (1, 5) ∧ Post (zu (zu (zu F a0 2 (.int p1)) a0 3 (.int p2)) a0 4 (.int p3)))
set_option maxRecDepth 100000 in
set_option maxHeartbeats 4000000 in
theorem k_X0_grant {l : Launch} {D : va_G} {cA : Nat → ClassId} {N0 zE : Nat} {a0 : Nat} {p1 : Int32} {p2 : Int32} {p3 : Int32} {T : zT} {F : zF} {Post : zF → Prop} (h : v_X0_grant a0 p1 p2 p3 T F Post) : z_Mt l D cA N0 zE yX0_grant cX0_grant 4 none ({ frames := 0, cells := 0, slots := 0, locals := 0 } : Room) [.ref a0, .int p1, .int p2, .int p3] T F (fun v T' F' => v = none ∧ T = T' ∧ Post F') := by
  unfold v_X0_grant at h
  refine z_bodyT (by decide) (Nat.le_of_ble_eq_true rfl) ?_
  intro p e s m args below meth c C hnm
  have C : z_C p l s m args meth c RX0 cX0_grant 4 none D cA N0 zE := C
  show z_w p l e ({ frames := 0, cells := 0, slots := 0, locals := 0 } : Room) s m args below meth c D cA N0 4 0 0 (MQ below (z_Qc D cA N0 (fun v T' F' => v = none ∧ T = T' ∧ Post F')) args s 0 0 (fun q => N0 ≤ q)) 0 [(0, .ref a0), (1, .int p1), (2, .int p2), (3, .int p3)] [] T F
  refine zr_aload_n C 0 dX0_grant_0 rfl rfl ?_
  refine zr_iload_n C 1 dX0_grant_1 rfl rfl ?_
  obtain ⟨hT1, h⟩ := h
  refine zr_put C fl_X0_19 hT1 rfl rfl dX0_grant_2 ?_
  refine zr_aload_n C 0 dX0_grant_5 rfl rfl ?_
  refine zr_iload_n C 2 dX0_grant_6 rfl rfl ?_
  refine zr_put C fl_X0_22 hT1 rfl rfl dX0_grant_7 ?_
  refine zr_aload_n C 0 dX0_grant_10 rfl rfl ?_
  refine zr_iload_n C 3 dX0_grant_11 rfl rfl ?_
  refine zr_put C fl_X0_25 hT1 rfl rfl dX0_grant_12 ?_
  exact zr_vret C rfl ⟨rfl, rfl, h⟩ (Nat.le_of_ble_eq_true rfl) (Nat.le_of_ble_eq_true rfl) dX0_grant_15
theorem dX0_versionAt_0 : decode cX0_versionAt 0 = .ok (.aload_n 0, 1) := by decide +kernel
theorem dX0_versionAt_1 : decode cX0_versionAt 1 = .ok (.getfield 9, 3) := by decide +kernel
theorem dX0_versionAt_4 : decode cX0_versionAt 4 = .ok (.arraylength, 1) := by decide +kernel
theorem dX0_versionAt_5 : decode cX0_versionAt 5 = .ok (.iconst 1, 1) := by decide +kernel
theorem dX0_versionAt_6 : decode cX0_versionAt 6 = .ok (.isub, 1) := by decide +kernel
theorem dX0_versionAt_7 : decode cX0_versionAt 7 = .ok (.istore_n 2, 1) := by decide +kernel
theorem dX0_versionAt_8 : decode cX0_versionAt 8 = .ok (.iload_n 2, 1) := by decide +kernel
theorem dX0_versionAt_9 : decode cX0_versionAt 9 = .ok (.ifCond .lt 21, 3) := by decide +kernel
theorem dX0_versionAt_30 : decode cX0_versionAt 30 = .ok (.iconst (-1), 1) := by decide +kernel
theorem dX0_versionAt_31 : decode cX0_versionAt 31 = .ok (.ireturn, 1) := by decide +kernel
theorem dX0_versionAt_12 : decode cX0_versionAt 12 = .ok (.aload_n 0, 1) := by decide +kernel
theorem dX0_versionAt_13 : decode cX0_versionAt 13 = .ok (.getfield 9, 3) := by decide +kernel
theorem dX0_versionAt_16 : decode cX0_versionAt 16 = .ok (.iload_n 2, 1) := by decide +kernel
theorem dX0_versionAt_17 : decode cX0_versionAt 17 = .ok (.iaload, 1) := by decide +kernel
theorem dX0_versionAt_18 : decode cX0_versionAt 18 = .ok (.iload_n 1, 1) := by decide +kernel
theorem dX0_versionAt_19 : decode cX0_versionAt 19 = .ok (.if_icmp .gt 5, 3) := by decide +kernel
theorem dX0_versionAt_24 : decode cX0_versionAt 24 = .ok (.iinc 2 (-1), 3) := by decide +kernel
theorem dX0_versionAt_27 : decode cX0_versionAt 27 = .ok (.goto (-19), 3) := by decide +kernel
theorem dX0_versionAt_22 : decode cX0_versionAt 22 = .ok (.iload_n 2, 1) := by decide +kernel
theorem dX0_versionAt_23 : decode cX0_versionAt 23 = .ok (.ireturn, 1) := by decide +kernel
def v_X0_versionAt (a0 : Nat) (p1 : Int32) (T : zT) (F : zF) (Post : Int32 → Prop) : Prop :=
  (T a0 = some (1, 5) ∧ ∃ x3 : Nat, F a0 0 = .ref x3 ∧ ∃ n4 : Nat, T x3 = some (100, n4) ∧ (∃ I6 : Nat → Int32 → Prop, (∃ n8 : Nat, I6 n8 ((nI n4) - 1)) ∧ (∀ (n7 : Nat) (y9 : Int32), I6 n7 y9 → ((y9 < 0 → Post ((-1))) ∧ (¬ y9 < 0 → (vp_in y9 n4 ∧ ∃ x13 : Int32, F x3 (y9).toNatClampNeg = .int x13 ∧ ((p1 < x13 → (∃ n15 : Nat, n15 < n7 ∧ I6 n15 (y9 + (-1)))) ∧ (¬ p1 < x13 → Post y9))))))))
set_option maxRecDepth 100000 in
set_option maxHeartbeats 4000000 in
theorem k_X0_versionAt {l : Launch} {D : va_G} {cA : Nat → ClassId} {N0 zE : Nat} {a0 : Nat} {p1 : Int32} {T : zT} {F : zF} {Post : Int32 → Prop} (h : v_X0_versionAt a0 p1 T F Post) : z_Mt l D cA N0 zE yX0_versionAt cX0_versionAt 3 (some .int) ({ frames := 0, cells := 0, slots := 0, locals := 0 } : Room) [.ref a0, .int p1] T F (fun v T' F' => ∃ r : Int32, v = some (.int r) ∧ T = T' ∧ F = F' ∧ Post r) := by
  unfold v_X0_versionAt at h
  refine z_bodyT (by decide) (Nat.le_of_ble_eq_true rfl) ?_
  intro p e s m args below meth c C hnm
  have C : z_C p l s m args meth c RX0 cX0_versionAt 3 (some .int) D cA N0 zE := C
  show z_w p l e ({ frames := 0, cells := 0, slots := 0, locals := 0 } : Room) s m args below meth c D cA N0 3 0 0 (MQ below (z_Qc D cA N0 (fun v T' F' => ∃ r : Int32, v = some (.int r) ∧ T = T' ∧ F = F' ∧ Post r)) args s 0 0 (fun q => N0 ≤ q)) 0 [(0, .ref a0), (1, .int p1)] [] T F
  refine zr_aload_n C 0 dX0_versionAt_0 rfl rfl ?_
  obtain ⟨hT1, x3, hv2, h⟩ := h
  refine zr_get C fl_X0_9 hT1 hv2 dX0_versionAt_1 ?_
  obtain ⟨n4, hT5, h⟩ := h
  refine zr_alen C hT5 (by decide) rfl dX0_versionAt_4 ?_
  refine zr_iconst C 1 dX0_versionAt_5 (by decide) ?_
  refine zr_isub C dX0_versionAt_6 ?_
  refine zr_istore_n C [(2, .int ((nI n4) - 1)), (0, .ref a0), (1, .int p1)] dX0_versionAt_7 rfl (by decide) rfl ?_
  obtain ⟨I6, ⟨n8, h017⟩, hI16⟩ := h
  have ky18 : ∀ (n7 : Nat) (y9 : Int32), I6 n7 y9 → z_w p l e ({ frames := 0, cells := 0, slots := 0, locals := 0 } : Room) s m args below meth c D cA N0 3 0 0 (MQ below (z_Qc D cA N0 (fun v T' F' => ∃ r : Int32, v = some (.int r) ∧ T = T' ∧ F = F' ∧ Post r)) args s 0 0 (fun q => N0 ≤ q)) 8 [(0, .ref a0), (1, .int p1), (2, .int y9)] [] T F := by
    intro n7
    induction n7 using Nat.strongRecOn with
    | _ n7 ih10 =>
      intro y9 hin
      have h := hI16 n7 y9 hin
      refine zr_iload_n C 2 dX0_versionAt_8 rfl rfl ?_
      obtain ⟨h1, h2⟩ := h
      refine zr_if_lt C 30 dX0_versionAt_9 (by decide) (fun hc => ?_) (fun hc => ?_)
      · have h := h1 hc
        clear h1 h2
        refine zr_iconst C (-1) dX0_versionAt_30 (by decide) ?_
        exact zr_iret C rfl ⟨_, rfl, rfl, rfl, h⟩ (Nat.le_of_ble_eq_true rfl) (Nat.le_of_ble_eq_true rfl) dX0_versionAt_31
      · have h := h2 hc
        clear h1 h2
        refine zr_aload_n C 0 dX0_versionAt_12 rfl rfl ?_
        refine zr_get C fl_X0_9 hT1 hv2 dX0_versionAt_13 ?_
        refine zr_iload_n C 2 dX0_versionAt_16 rfl rfl ?_
        obtain ⟨hi12, x13, hv14, h⟩ := h
        refine zr_iald C rfl hT5 hi12 hv14 dX0_versionAt_17 ?_
        refine zr_iload_n C 1 dX0_versionAt_18 rfl rfl ?_
        obtain ⟨h1, h2⟩ := h
        refine zr_icmp_gt C 24 dX0_versionAt_19 (by decide) (fun hc => ?_) (fun hc => ?_)
        · have h := h1 hc
          clear h1 h2
          refine zr_iinc C [(2, .int (y9 + (-1))), (0, .ref a0), (1, .int p1)] 2 dX0_versionAt_24 rfl rfl (by decide) rfl ?_
          refine zr_goto C 8 dX0_versionAt_27 (by decide) ?_
          obtain ⟨n15, hlt, h⟩ := h
          exact zr_sub [1, 2, 0] rfl (ih10 n15 hlt (y9 + (-1)) h)
        · have h := h2 hc
          clear h1 h2
          refine zr_iload_n C 2 dX0_versionAt_22 rfl rfl ?_
          exact zr_iret C rfl ⟨_, rfl, rfl, rfl, h⟩ (Nat.le_of_ble_eq_true rfl) (Nat.le_of_ble_eq_true rfl) dX0_versionAt_23
  exact zr_sub [1, 2, 0] rfl (ky18 n8 ((nI n4) - 1) h017)
theorem dX0_isGranted_0 : decode cX0_isGranted 0 = .ok (.aload_n 0, 1) := by decide +kernel
theorem dX0_isGranted_1 : decode cX0_isGranted 1 = .ok (.getfield 19, 3) := by decide +kernel
theorem dX0_isGranted_4 : decode cX0_isGranted 4 = .ok (.iload_n 1, 1) := by decide +kernel
theorem dX0_isGranted_5 : decode cX0_isGranted 5 = .ok (.ishr, 1) := by decide +kernel
theorem dX0_isGranted_6 : decode cX0_isGranted 6 = .ok (.iconst 1, 1) := by decide +kernel
theorem dX0_isGranted_7 : decode cX0_isGranted 7 = .ok (.iand, 1) := by decide +kernel
theorem dX0_isGranted_8 : decode cX0_isGranted 8 = .ok (.ifCond .eq 23, 3) := by decide +kernel
theorem dX0_isGranted_31 : decode cX0_isGranted 31 = .ok (.iconst 0, 1) := by decide +kernel
theorem dX0_isGranted_32 : decode cX0_isGranted 32 = .ok (.ireturn, 1) := by decide +kernel
theorem dX0_isGranted_11 : decode cX0_isGranted 11 = .ok (.aload_n 0, 1) := by decide +kernel
theorem dX0_isGranted_12 : decode cX0_isGranted 12 = .ok (.getfield 22, 3) := by decide +kernel
theorem dX0_isGranted_15 : decode cX0_isGranted 15 = .ok (.iload_n 2, 1) := by decide +kernel
theorem dX0_isGranted_16 : decode cX0_isGranted 16 = .ok (.if_icmp .gt 15, 3) := by decide +kernel
theorem dX0_isGranted_19 : decode cX0_isGranted 19 = .ok (.iload_n 3, 1) := by decide +kernel
theorem dX0_isGranted_20 : decode cX0_isGranted 20 = .ok (.aload_n 0, 1) := by decide +kernel
theorem dX0_isGranted_21 : decode cX0_isGranted 21 = .ok (.getfield 25, 3) := by decide +kernel
theorem dX0_isGranted_24 : decode cX0_isGranted 24 = .ok (.if_icmp .gt 7, 3) := by decide +kernel
theorem dX0_isGranted_27 : decode cX0_isGranted 27 = .ok (.iconst 1, 1) := by decide +kernel
theorem dX0_isGranted_28 : decode cX0_isGranted 28 = .ok (.goto 4, 3) := by decide +kernel
def v_X0_isGranted (a0 : Nat) (p1 : Int32) (p2 : Int32) (p3 : Int32) (T : zT) (F : zF) (Post : Int32 → Prop) : Prop :=
  (T a0 = some (1, 5) ∧ ∃ x3 : Int32, F a0 2 = .int x3 ∧ ((((x3 >>> (p1 &&& 31)) &&& 1) = 0 → Post 0) ∧ (¬ ((x3 >>> (p1 &&& 31)) &&& 1) = 0 → (∃ x5 : Int32, F a0 3 = .int x5 ∧ ((p2 < x5 → Post 0) ∧ (¬ p2 < x5 → (∃ x7 : Int32, F a0 4 = .int x7 ∧ ((x7 < p3 → Post 0) ∧ (¬ x7 < p3 → Post 1)))))))))
set_option maxRecDepth 100000 in
set_option maxHeartbeats 4000000 in
theorem k_X0_isGranted {l : Launch} {D : va_G} {cA : Nat → ClassId} {N0 zE : Nat} {a0 : Nat} {p1 : Int32} {p2 : Int32} {p3 : Int32} {T : zT} {F : zF} {Post : Int32 → Prop} (h : v_X0_isGranted a0 p1 p2 p3 T F Post) : z_Mt l D cA N0 zE yX0_isGranted cX0_isGranted 4 (some .boolean) ({ frames := 0, cells := 0, slots := 0, locals := 0 } : Room) [.ref a0, .int p1, .int p2, .int p3] T F (fun v T' F' => ∃ r : Int32, v = some (.int r) ∧ T = T' ∧ F = F' ∧ Post r) := by
  unfold v_X0_isGranted at h
  refine z_bodyT (by decide) (Nat.le_of_ble_eq_true rfl) ?_
  intro p e s m args below meth c C hnm
  have C : z_C p l s m args meth c RX0 cX0_isGranted 4 (some .boolean) D cA N0 zE := C
  show z_w p l e ({ frames := 0, cells := 0, slots := 0, locals := 0 } : Room) s m args below meth c D cA N0 4 0 0 (MQ below (z_Qc D cA N0 (fun v T' F' => ∃ r : Int32, v = some (.int r) ∧ T = T' ∧ F = F' ∧ Post r)) args s 0 0 (fun q => N0 ≤ q)) 0 [(0, .ref a0), (1, .int p1), (2, .int p2), (3, .int p3)] [] T F
  refine zr_aload_n C 0 dX0_isGranted_0 rfl rfl ?_
  obtain ⟨hT1, x3, hv2, h⟩ := h
  refine zr_get C fl_X0_19 hT1 hv2 dX0_isGranted_1 ?_
  refine zr_iload_n C 1 dX0_isGranted_4 rfl rfl ?_
  refine zr_ishr C dX0_isGranted_5 ?_
  refine zr_iconst C 1 dX0_isGranted_6 (by decide) ?_
  refine zr_iand C dX0_isGranted_7 ?_
  obtain ⟨h1, h2⟩ := h
  refine zr_if_eq C 31 dX0_isGranted_8 (by decide) (fun hc => ?_) (fun hc => ?_)
  · have h := h1 hc
    clear h1 h2
    refine zr_iconst C 0 dX0_isGranted_31 (by decide) ?_
    exact zr_zret C rfl (Or.inl rfl) ⟨_, rfl, rfl, rfl, h⟩ (Nat.le_of_ble_eq_true rfl) (Nat.le_of_ble_eq_true rfl) dX0_isGranted_32
  · have h := h2 hc
    clear h1 h2
    refine zr_aload_n C 0 dX0_isGranted_11 rfl rfl ?_
    obtain ⟨x5, hv4, h⟩ := h
    refine zr_get C fl_X0_22 hT1 hv4 dX0_isGranted_12 ?_
    refine zr_iload_n C 2 dX0_isGranted_15 rfl rfl ?_
    obtain ⟨h1, h2⟩ := h
    refine zr_icmp_gt C 31 dX0_isGranted_16 (by decide) (fun hc => ?_) (fun hc => ?_)
    · have h := h1 hc
      clear h1 h2
      refine zr_iconst C 0 dX0_isGranted_31 (by decide) ?_
      exact zr_zret C rfl (Or.inl rfl) ⟨_, rfl, rfl, rfl, h⟩ (Nat.le_of_ble_eq_true rfl) (Nat.le_of_ble_eq_true rfl) dX0_isGranted_32
    · have h := h2 hc
      clear h1 h2
      refine zr_iload_n C 3 dX0_isGranted_19 rfl rfl ?_
      refine zr_aload_n C 0 dX0_isGranted_20 rfl rfl ?_
      obtain ⟨x7, hv6, h⟩ := h
      refine zr_get C fl_X0_25 hT1 hv6 dX0_isGranted_21 ?_
      obtain ⟨h1, h2⟩ := h
      refine zr_icmp_gt C 31 dX0_isGranted_24 (by decide) (fun hc => ?_) (fun hc => ?_)
      · have h := h1 hc
        clear h1 h2
        refine zr_iconst C 0 dX0_isGranted_31 (by decide) ?_
        exact zr_zret C rfl (Or.inl rfl) ⟨_, rfl, rfl, rfl, h⟩ (Nat.le_of_ble_eq_true rfl) (Nat.le_of_ble_eq_true rfl) dX0_isGranted_32
      · have h := h2 hc
        clear h1 h2
        refine zr_iconst C 1 dX0_isGranted_27 (by decide) ?_
        refine zr_goto C 32 dX0_isGranted_28 (by decide) ?_
        exact zr_zret C rfl (Or.inr rfl) ⟨_, rfl, rfl, rfl, h⟩ (Nat.le_of_ble_eq_true rfl) (Nat.le_of_ble_eq_true rfl) dX0_isGranted_32
theorem dX0_firstComes_0 : decode cX0_firstComes 0 = .ok (.bipush 100, 2) := by decide +kernel
theorem dX0_firstComes_2 : decode cX0_firstComes 2 = .ok (.istore_n 1, 1) := by decide +kernel
theorem dX0_firstComes_3 : decode cX0_firstComes 3 = .ok (.iconst 0, 1) := by decide +kernel
theorem dX0_firstComes_4 : decode cX0_firstComes 4 = .ok (.istore_n 2, 1) := by decide +kernel
theorem dX0_firstComes_5 : decode cX0_firstComes 5 = .ok (.iload_n 2, 1) := by decide +kernel
theorem dX0_firstComes_6 : decode cX0_firstComes 6 = .ok (.aload_n 0, 1) := by decide +kernel
theorem dX0_firstComes_7 : decode cX0_firstComes 7 = .ok (.getfield 9, 3) := by decide +kernel
theorem dX0_firstComes_10 : decode cX0_firstComes 10 = .ok (.arraylength, 1) := by decide +kernel
theorem dX0_firstComes_11 : decode cX0_firstComes 11 = .ok (.if_icmp .ge 20, 3) := by decide +kernel
theorem dX0_firstComes_31 : decode cX0_firstComes 31 = .ok (.iload_n 1, 1) := by decide +kernel
theorem dX0_firstComes_32 : decode cX0_firstComes 32 = .ok (.ireturn, 1) := by decide +kernel
theorem dX0_firstComes_14 : decode cX0_firstComes 14 = .ok (.iload_n 1, 1) := by decide +kernel
theorem dX0_firstComes_15 : decode cX0_firstComes 15 = .ok (.aload_n 0, 1) := by decide +kernel
theorem dX0_firstComes_16 : decode cX0_firstComes 16 = .ok (.getfield 9, 3) := by decide +kernel
theorem dX0_firstComes_19 : decode cX0_firstComes 19 = .ok (.iload_n 2, 1) := by decide +kernel
theorem dX0_firstComes_20 : decode cX0_firstComes 20 = .ok (.iaload, 1) := by decide +kernel
theorem dX0_firstComes_21 : decode cX0_firstComes 21 = .ok (.invokestatic 38, 3) := by decide +kernel
theorem dX0_firstComes_24 : decode cX0_firstComes 24 = .ok (.istore_n 1, 1) := by decide +kernel
theorem dX0_firstComes_25 : decode cX0_firstComes 25 = .ok (.iinc 2 1, 3) := by decide +kernel
theorem dX0_firstComes_28 : decode cX0_firstComes 28 = .ok (.goto (-23), 3) := by decide +kernel
def v_X0_firstComes (a0 : Nat) (T : zT) (F : zF) (Post : Int32 → Prop) : Prop :=
  (∃ I1 : Nat → Int32 → Int32 → Prop, (∃ n3 : Nat, I1 n3 100 0) ∧ (∀ (n2 : Nat) (y4 : Int32) (y5 : Int32), I1 n2 y4 y5 → (T a0 = some (1, 5) ∧ ∃ x10 : Nat, F a0 0 = .ref x10 ∧ ∃ n11 : Nat, T x10 = some (100, n11) ∧ (((nI n11) ≤ y5 → Post y4) ∧ (¬ (nI n11) ≤ y5 → (vp_in y5 n11 ∧ ∃ x14 : Int32, F x10 (y5).toNatClampNeg = .int x14 ∧ (∃ n16 : Nat, n16 < n2 ∧ I1 n16 (if x14 < y4 then x14 else y4) (y5 + 1))))))))
set_option maxRecDepth 100000 in
set_option maxHeartbeats 4000000 in
theorem k_X0_firstComes {l : Launch} {D : va_G} {cA : Nat → ClassId} {N0 zE : Nat} {a0 : Nat} {T : zT} {F : zF} {Post : Int32 → Prop} (h : v_X0_firstComes a0 T F Post) : z_Mt l D cA N0 zE yX0_firstComes cX0_firstComes 3 (some .int) ({ frames := 1, cells := 0, slots := 0, locals := 21 } : Room) [.ref a0] T F (fun v T' F' => ∃ r : Int32, v = some (.int r) ∧ T = T' ∧ F = F' ∧ Post r) := by
  unfold v_X0_firstComes at h
  refine z_bodyT (by decide) (Nat.le_of_ble_eq_true rfl) ?_
  intro p e s m args below meth c C hnm
  have C : z_C p l s m args meth c RX0 cX0_firstComes 3 (some .int) D cA N0 zE := C
  show z_w p l e ({ frames := 1, cells := 0, slots := 0, locals := 21 } : Room) s m args below meth c D cA N0 3 0 0 (MQ below (z_Qc D cA N0 (fun v T' F' => ∃ r : Int32, v = some (.int r) ∧ T = T' ∧ F = F' ∧ Post r)) args s 0 0 (fun q => N0 ≤ q)) 0 [(0, .ref a0)] [] T F
  refine zr_bipush C 100 dX0_firstComes_0 (by decide) ?_
  refine zr_istore_n C [(1, .int 100), (0, .ref a0)] dX0_firstComes_2 rfl (by decide) rfl ?_
  refine zr_iconst C 0 dX0_firstComes_3 (by decide) ?_
  refine zr_istore_n C [(2, .int 0), (1, .int 100), (0, .ref a0)] dX0_firstComes_4 rfl (by decide) rfl ?_
  obtain ⟨I1, ⟨n3, h018⟩, hI17⟩ := h
  have ky19 : ∀ (n2 : Nat) (y4 : Int32) (y5 : Int32), I1 n2 y4 y5 → z_w p l e ({ frames := 1, cells := 0, slots := 0, locals := 21 } : Room) s m args below meth c D cA N0 3 0 0 (MQ below (z_Qc D cA N0 (fun v T' F' => ∃ r : Int32, v = some (.int r) ∧ T = T' ∧ F = F' ∧ Post r)) args s 0 0 (fun q => N0 ≤ q)) 5 [(0, .ref a0), (1, .int y4), (2, .int y5)] [] T F := by
    intro n2
    induction n2 using Nat.strongRecOn with
    | _ n2 ih6 =>
      intro y4 y5 hin
      have h := hI17 n2 y4 y5 hin
      refine zr_iload_n C 2 dX0_firstComes_5 rfl rfl ?_
      refine zr_aload_n C 0 dX0_firstComes_6 rfl rfl ?_
      obtain ⟨hT8, x10, hv9, h⟩ := h
      refine zr_get C fl_X0_9 hT8 hv9 dX0_firstComes_7 ?_
      obtain ⟨n11, hT12, h⟩ := h
      refine zr_alen C hT12 (by decide) rfl dX0_firstComes_10 ?_
      obtain ⟨h1, h2⟩ := h
      refine zr_icmp_ge C 31 dX0_firstComes_11 (by decide) (fun hc => ?_) (fun hc => ?_)
      · have h := h1 hc
        clear h1 h2
        refine zr_iload_n C 1 dX0_firstComes_31 rfl rfl ?_
        exact zr_iret C rfl ⟨_, rfl, rfl, rfl, h⟩ (Nat.le_of_ble_eq_true rfl) (Nat.le_of_ble_eq_true rfl) dX0_firstComes_32
      · have h := h2 hc
        clear h1 h2
        refine zr_iload_n C 1 dX0_firstComes_14 rfl rfl ?_
        refine zr_aload_n C 0 dX0_firstComes_15 rfl rfl ?_
        refine zr_get C fl_X0_9 hT8 hv9 dX0_firstComes_16 ?_
        refine zr_iload_n C 2 dX0_firstComes_19 rfl rfl ?_
        obtain ⟨hi13, x14, hv15, h⟩ := h
        refine zr_iald C rfl hT12 hi13 hv15 dX0_firstComes_20 ?_
        refine zr_min C zq_469 zq_258 zq_29 zq_259 (by decide) (Nat.le_of_ble_eq_true rfl) (Nat.le_of_ble_eq_true rfl) (Nat.le_of_ble_eq_true rfl) dX0_firstComes_21 ?_
        refine zr_istore_n C [(1, .int (if x14 < y4 then x14 else y4)), (0, .ref a0), (2, .int y5)] dX0_firstComes_24 rfl (by decide) rfl ?_
        refine zr_iinc C [(2, .int (y5 + 1)), (1, .int (if x14 < y4 then x14 else y4)), (0, .ref a0)] 2 dX0_firstComes_25 rfl rfl (by decide) rfl ?_
        refine zr_goto C 5 dX0_firstComes_28 (by decide) ?_
        obtain ⟨n16, hlt, h⟩ := h
        exact zr_sub [2, 1, 0] rfl (ih6 n16 hlt (if x14 < y4 then x14 else y4) (y5 + 1) h)
  exact zr_sub [2, 1, 0] rfl (ky19 n3 100 0 h018)
