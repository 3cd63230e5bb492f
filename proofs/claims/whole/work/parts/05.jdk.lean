theorem dJxa1e45_init_da8c8_0 : decode cJxa1e45_init_da8c8 0 = .ok (.aload_n 0, 1) := by decide +kernel
theorem dJxa1e45_init_da8c8_1 : decode cJxa1e45_init_da8c8 1 = .ok (.invokespecial 1, 3) := by decide +kernel
theorem dJxa1e45_init_da8c8_4 : decode cJxa1e45_init_da8c8 4 = .ok (.return_, 1) := by decide +kernel
def v_Jxa1e45_init_da8c8 (a0 : Nat) (T : zT) (F : zF) (Post : Prop) : Prop :=
  Post
set_option maxRecDepth 100000 in
set_option maxHeartbeats 4000000 in
theorem k_Jxa1e45_init_da8c8 {l : Launch} {D : va_G} {cA : Nat → ClassId} {N0 zE : Nat} {a0 : Nat} {T : zT} {F : zF} {Post : Prop} (h : v_Jxa1e45_init_da8c8 a0 T F Post) : z_Mt l D cA N0 zE yJxa1e45_init_da8c8 cJxa1e45_init_da8c8 1 none ({ frames := 1, cells := 0, slots := 0, locals := 20 } : Room) [.ref a0] T F (fun v T' F' => v = none ∧ T = T' ∧ F = F' ∧ Post) := by
  unfold v_Jxa1e45_init_da8c8 at h
  refine z_bodyT (by decide) (Nat.le_of_ble_eq_true rfl) ?_
  intro p e s m args below meth c C hnm
  have C : z_C p l s m args meth c RJxa1e45 cJxa1e45_init_da8c8 1 none D cA N0 zE := C
  show z_w p l e ({ frames := 1, cells := 0, slots := 0, locals := 20 } : Room) s m args below meth c D cA N0 1 0 0 (MQ below (z_Qc D cA N0 (fun v T' F' => v = none ∧ T = T' ∧ F = F' ∧ Post)) args s 0 0 (fun q => N0 ≤ q)) 0 [(0, .ref a0)] [] T F
  refine zr_aload_n C 0 dJxa1e45_init_da8c8_0 rfl rfl ?_
  refine zr_objInit C zq_82 zq_69 zq_70 (by decide) (Nat.le_of_ble_eq_true rfl) dJxa1e45_init_da8c8_1 ?_
  exact zr_vret C rfl ⟨rfl, rfl, rfl, h⟩ (Nat.le_of_ble_eq_true rfl) (Nat.le_of_ble_eq_true rfl) dJxa1e45_init_da8c8_4
theorem dJxc12de_init_da8c8_0 : decode cJxc12de_init_da8c8 0 = .ok (.aload_n 0, 1) := by decide +kernel
theorem dJxc12de_init_da8c8_4 : decode cJxc12de_init_da8c8 4 = .ok (.aload_n 0, 1) := by decide +kernel
theorem dJxc12de_init_da8c8_5 : decode cJxc12de_init_da8c8 5 = .ok (.iconst 0, 1) := by decide +kernel
theorem dJxc12de_init_da8c8_6 : decode cJxc12de_init_da8c8 6 = .ok (.putfield 7, 3) := by decide +kernel
theorem dJxc12de_init_da8c8_9 : decode cJxc12de_init_da8c8 9 = .ok (.return_, 1) := by decide +kernel
theorem dJxc12de_init_da8c8_1 : decode cJxc12de_init_da8c8 1 = .ok (.invokespecial 1, 3) := by decide +kernel
def v_Jxc12de_init_da8c8 (a0 : Nat) (T : zT) (F : zF) (Post : zF → Prop) : Prop :=
  (v_Jxa1e45_init_da8c8 a0 T F (T a0 = some (2, 3) ∧ Post (zu F a0 0 (.int 0))))
set_option maxRecDepth 100000 in
set_option maxHeartbeats 4000000 in
theorem k_Jxc12de_init_da8c8 {l : Launch} {D : va_G} {cA : Nat → ClassId} {N0 zE : Nat} {a0 : Nat} {T : zT} {F : zF} {Post : zF → Prop} (h : v_Jxc12de_init_da8c8 a0 T F Post) : z_Mt l D cA N0 zE yJxc12de_init_da8c8 cJxc12de_init_da8c8 1 none ({ frames := 2, cells := 0, slots := 0, locals := 40 } : Room) [.ref a0] T F (fun v T' F' => v = none ∧ T = T' ∧ Post F') := by
  unfold v_Jxc12de_init_da8c8 at h
  refine z_bodyT (by decide) (Nat.le_of_ble_eq_true rfl) ?_
  intro p e s m args below meth c C hnm
  have C : z_C p l s m args meth c RJxc12de cJxc12de_init_da8c8 1 none D cA N0 zE := C
  show z_w p l e ({ frames := 2, cells := 0, slots := 0, locals := 40 } : Room) s m args below meth c D cA N0 1 0 0 (MQ below (z_Qc D cA N0 (fun v T' F' => v = none ∧ T = T' ∧ Post F')) args s 0 0 (fun q => N0 ≤ q)) 0 [(0, .ref a0)] [] T F
  refine zr_aload_n C 0 dJxc12de_init_da8c8_0 rfl rfl ?_
  refine zr_callI (As := []) C (k_Jxa1e45_init_da8c8 h) ok_Jxc12de_1 zq_80 rfl rfl ⟨by decide, (Nat.le_of_ble_eq_true rfl)⟩ ⟨(Nat.le_of_ble_eq_true rfl), (Nat.le_of_ble_eq_true rfl)⟩ (Nat.le_of_ble_eq_true rfl) dJxc12de_init_da8c8_1 (fun v2 U3 G4 hq => ?_)
  clear h
  · obtain ⟨rfl, rfl, rfl, h⟩ := hq
    refine zr_aload_n C 0 dJxc12de_init_da8c8_4 rfl rfl ?_
    refine zr_iconst C 0 dJxc12de_init_da8c8_5 (by decide) ?_
    obtain ⟨hT1, h⟩ := h
    refine zr_put C fl_Jxc12de_7 hT1 rfl rfl dJxc12de_init_da8c8_6 ?_
    exact zr_vret C rfl ⟨rfl, rfl, h⟩ (Nat.le_of_ble_eq_true rfl) (Nat.le_of_ble_eq_true rfl) dJxc12de_init_da8c8_9
theorem dJx4a65c_init_da8c8_0 : decode cJx4a65c_init_da8c8 0 = .ok (.aload_n 0, 1) := by decide +kernel
theorem dJx4a65c_init_da8c8_4 : decode cJx4a65c_init_da8c8 4 = .ok (.aload_n 0, 1) := by decide +kernel
theorem dJx4a65c_init_da8c8_5 : decode cJx4a65c_init_da8c8 5 = .ok (.getstatic 39, 3) := by decide +kernel
theorem dJx4a65c_init_da8c8_8 : decode cJx4a65c_init_da8c8 8 = .ok (.putfield 9, 3) := by decide +kernel
theorem dJx4a65c_init_da8c8_11 : decode cJx4a65c_init_da8c8 11 = .ok (.return_, 1) := by decide +kernel
theorem dJx4a65c_init_da8c8_1 : decode cJx4a65c_init_da8c8 1 = .ok (.invokespecial 1, 3) := by decide +kernel
def v_Jx4a65c_init_da8c8 (zE : Nat) (a0 : Nat) (T : zT) (F : zF) (Post : zF → Prop) : Prop :=
  (v_Jxc12de_init_da8c8 a0 T F (fun (F1 : zF) => (T a0 = some (2, 3) ∧ Post (zu F1 a0 1 (.ref zE)))))
set_option maxRecDepth 100000 in
set_option maxHeartbeats 4000000 in
theorem k_Jx4a65c_init_da8c8 {l : Launch} {D : va_G} {cA : Nat → ClassId} {N0 zE : Nat} {a0 : Nat} {T : zT} {F : zF} {Post : zF → Prop} (h : v_Jx4a65c_init_da8c8 zE a0 T F Post) : z_Mt l D cA N0 zE yJx4a65c_init_da8c8 cJx4a65c_init_da8c8 1 none ({ frames := 3, cells := 0, slots := 0, locals := 60 } : Room) [.ref a0] T F (fun v T' F' => v = none ∧ T = T' ∧ Post F') := by
  unfold v_Jx4a65c_init_da8c8 at h
  refine z_bodyT (by decide) (Nat.le_of_ble_eq_true rfl) ?_
  intro p e s m args below meth c C hnm
  have C : z_C p l s m args meth c RJx4a65c cJx4a65c_init_da8c8 1 none D cA N0 zE := C
  show z_w p l e ({ frames := 3, cells := 0, slots := 0, locals := 60 } : Room) s m args below meth c D cA N0 1 0 0 (MQ below (z_Qc D cA N0 (fun v T' F' => v = none ∧ T = T' ∧ Post F')) args s 0 0 (fun q => N0 ≤ q)) 0 [(0, .ref a0)] [] T F
  refine zr_aload_n C 0 dJx4a65c_init_da8c8_0 rfl rfl ?_
  refine zr_callI (As := []) C (k_Jxc12de_init_da8c8 h) ok_Jx4a65c_1 zq_77 rfl rfl ⟨by decide, (Nat.le_of_ble_eq_true rfl)⟩ ⟨(Nat.le_of_ble_eq_true rfl), (Nat.le_of_ble_eq_true rfl)⟩ (Nat.le_of_ble_eq_true rfl) dJx4a65c_init_da8c8_1 (fun v3 U4 G5 hq => ?_)
  clear h
  · obtain ⟨rfl, rfl, h⟩ := hq
    refine zr_aload_n C 0 dJx4a65c_init_da8c8_4 rfl rfl ?_
    refine zr_getsE C zq_83 dJx4a65c_init_da8c8_5 ?_
    obtain ⟨hT2, h⟩ := h
    refine zr_put C fl_Jx4a65c_9 hT2 rfl rfl dJx4a65c_init_da8c8_8 ?_
    exact zr_vret C rfl ⟨rfl, rfl, h⟩ (Nat.le_of_ble_eq_true rfl) (Nat.le_of_ble_eq_true rfl) dJx4a65c_init_da8c8_11
theorem dJx4a65c_size_8abf5_0 : decode cJx4a65c_size_8abf5 0 = .ok (.aload_n 0, 1) := by decide +kernel
theorem dJx4a65c_size_8abf5_1 : decode cJx4a65c_size_8abf5 1 = .ok (.getfield 48, 3) := by decide +kernel
theorem dJx4a65c_size_8abf5_4 : decode cJx4a65c_size_8abf5 4 = .ok (.ireturn, 1) := by decide +kernel
def v_Jx4a65c_size_8abf5 (a0 : Nat) (T : zT) (F : zF) (Post : Int32 → Prop) : Prop :=
  (T a0 = some (2, 3) ∧ ∃ x3 : Int32, F a0 2 = .int x3 ∧ Post x3)
set_option maxRecDepth 100000 in
set_option maxHeartbeats 4000000 in
theorem k_Jx4a65c_size_8abf5 {l : Launch} {D : va_G} {cA : Nat → ClassId} {N0 zE : Nat} {a0 : Nat} {T : zT} {F : zF} {Post : Int32 → Prop} (h : v_Jx4a65c_size_8abf5 a0 T F Post) : z_Mt l D cA N0 zE yJx4a65c_size_8abf5 cJx4a65c_size_8abf5 1 (some .int) ({ frames := 0, cells := 0, slots := 0, locals := 0 } : Room) [.ref a0] T F (fun v T' F' => ∃ r : Int32, v = some (.int r) ∧ T = T' ∧ F = F' ∧ Post r) := by
  unfold v_Jx4a65c_size_8abf5 at h
  refine z_bodyT (by decide) (Nat.le_of_ble_eq_true rfl) ?_
  intro p e s m args below meth c C hnm
  have C : z_C p l s m args meth c RJx4a65c cJx4a65c_size_8abf5 1 (some .int) D cA N0 zE := C
  show z_w p l e ({ frames := 0, cells := 0, slots := 0, locals := 0 } : Room) s m args below meth c D cA N0 1 0 0 (MQ below (z_Qc D cA N0 (fun v T' F' => ∃ r : Int32, v = some (.int r) ∧ T = T' ∧ F = F' ∧ Post r)) args s 0 0 (fun q => N0 ≤ q)) 0 [(0, .ref a0)] [] T F
  refine zr_aload_n C 0 dJx4a65c_size_8abf5_0 rfl rfl ?_
  obtain ⟨hT1, x3, hv2, h⟩ := h
  refine zr_get C fl_Jx4a65c_48 hT1 hv2 dJx4a65c_size_8abf5_1 ?_
  exact zr_iret C rfl ⟨_, rfl, rfl, rfl, h⟩ (Nat.le_of_ble_eq_true rfl) (Nat.le_of_ble_eq_true rfl) dJx4a65c_size_8abf5_4
theorem dJ7_fill_53178_0 : decode cJ7_fill_53178 0 = .ok (.iconst 0, 1) := by decide +kernel
theorem dJ7_fill_53178_1 : decode cJ7_fill_53178 1 = .ok (.istore_n 2, 1) := by decide +kernel
theorem dJ7_fill_53178_2 : decode cJ7_fill_53178 2 = .ok (.aload_n 0, 1) := by decide +kernel
theorem dJ7_fill_53178_3 : decode cJ7_fill_53178 3 = .ok (.arraylength, 1) := by decide +kernel
theorem dJ7_fill_53178_4 : decode cJ7_fill_53178 4 = .ok (.istore_n 3, 1) := by decide +kernel
theorem dJ7_fill_53178_5 : decode cJ7_fill_53178 5 = .ok (.iload_n 2, 1) := by decide +kernel
theorem dJ7_fill_53178_6 : decode cJ7_fill_53178 6 = .ok (.iload_n 3, 1) := by decide +kernel
theorem dJ7_fill_53178_7 : decode cJ7_fill_53178 7 = .ok (.if_icmp .ge 13, 3) := by decide +kernel
theorem dJ7_fill_53178_20 : decode cJ7_fill_53178 20 = .ok (.return_, 1) := by decide +kernel
theorem dJ7_fill_53178_10 : decode cJ7_fill_53178 10 = .ok (.aload_n 0, 1) := by decide +kernel
theorem dJ7_fill_53178_11 : decode cJ7_fill_53178 11 = .ok (.iload_n 2, 1) := by decide +kernel
theorem dJ7_fill_53178_12 : decode cJ7_fill_53178 12 = .ok (.iload_n 1, 1) := by decide +kernel
theorem dJ7_fill_53178_13 : decode cJ7_fill_53178 13 = .ok (.iastore, 1) := by decide +kernel
theorem dJ7_fill_53178_14 : decode cJ7_fill_53178 14 = .ok (.iinc 2 1, 3) := by decide +kernel
theorem dJ7_fill_53178_17 : decode cJ7_fill_53178 17 = .ok (.goto (-12), 3) := by decide +kernel
def v_J7_fill_53178 (a0 : Nat) (p1 : Int32) (T : zT) (F : zF) (Post : zF → Prop) : Prop :=
  (∃ n1 : Nat, T a0 = some (100, n1) ∧ (∃ I3 : Nat → Int32 → zF → Prop, (∃ n5 : Nat, I3 n5 0 F) ∧ (∀ (n4 : Nat) (y6 : Int32) (F7 : zF), I3 n4 y6 F7 → (((nI n1) ≤ y6 → Post F7) ∧ (¬ (nI n1) ≤ y6 → (vp_in y6 n1 ∧ (∃ n10 : Nat, n10 < n4 ∧ I3 n10 (y6 + 1) (zu F7 a0 (y6).toNatClampNeg (.int p1)))))))))
set_option maxRecDepth 100000 in
set_option maxHeartbeats 4000000 in
theorem k_J7_fill_53178 {l : Launch} {D : va_G} {cA : Nat → ClassId} {N0 zE : Nat} {a0 : Nat} {p1 : Int32} {T : zT} {F : zF} {Post : zF → Prop} (h : v_J7_fill_53178 a0 p1 T F Post) : z_Mt l D cA N0 zE yJ7_fill_53178 cJ7_fill_53178 4 none ({ frames := 0, cells := 0, slots := 0, locals := 0 } : Room) [.ref a0, .int p1] T F (fun v T' F' => v = none ∧ T = T' ∧ Post F') := by
  unfold v_J7_fill_53178 at h
  refine z_bodyT (by decide) (Nat.le_of_ble_eq_true rfl) ?_
  intro p e s m args below meth c C hnm
  have C : z_C p l s m args meth c RJ7 cJ7_fill_53178 4 none D cA N0 zE := C
  show z_w p l e ({ frames := 0, cells := 0, slots := 0, locals := 0 } : Room) s m args below meth c D cA N0 4 0 0 (MQ below (z_Qc D cA N0 (fun v T' F' => v = none ∧ T = T' ∧ Post F')) args s 0 0 (fun q => N0 ≤ q)) 0 [(0, .ref a0), (1, .int p1)] [] T F
  refine zr_iconst C 0 dJ7_fill_53178_0 (by decide) ?_
  refine zr_istore_n C [(2, .int 0), (0, .ref a0), (1, .int p1)] dJ7_fill_53178_1 rfl (by decide) rfl ?_
  refine zr_aload_n C 1 dJ7_fill_53178_2 rfl rfl ?_
  obtain ⟨n1, hT2, h⟩ := h
  refine zr_alen C hT2 (by decide) rfl dJ7_fill_53178_3 ?_
  refine zr_istore_n C [(3, .int (nI n1)), (2, .int 0), (0, .ref a0), (1, .int p1)] dJ7_fill_53178_4 rfl (by decide) rfl ?_
  obtain ⟨I3, ⟨n5, h012⟩, hI11⟩ := h
  have ky13 : ∀ (n4 : Nat) (y6 : Int32) (F7 : zF), I3 n4 y6 F7 → z_w p l e ({ frames := 0, cells := 0, slots := 0, locals := 0 } : Room) s m args below meth c D cA N0 4 0 0 (MQ below (z_Qc D cA N0 (fun v T' F' => v = none ∧ T = T' ∧ Post F')) args s 0 0 (fun q => N0 ≤ q)) 5 [(0, .ref a0), (1, .int p1), (2, .int y6), (3, .int (nI n1))] [] T F7 := by
    intro n4
    induction n4 using Nat.strongRecOn with
    | _ n4 ih8 =>
      intro y6 F7 hin
      have h := hI11 n4 y6 F7 hin
      refine zr_iload_n C 2 dJ7_fill_53178_5 rfl rfl ?_
      refine zr_iload_n C 3 dJ7_fill_53178_6 rfl rfl ?_
      obtain ⟨h1, h2⟩ := h
      refine zr_icmp_ge C 20 dJ7_fill_53178_7 (by decide) (fun hc => ?_) (fun hc => ?_)
      · have h := h1 hc
        clear h1 h2
        exact zr_vret C rfl ⟨rfl, rfl, h⟩ (Nat.le_of_ble_eq_true rfl) (Nat.le_of_ble_eq_true rfl) dJ7_fill_53178_20
      · have h := h2 hc
        clear h1 h2
        refine zr_aload_n C 0 dJ7_fill_53178_10 rfl rfl ?_
        refine zr_iload_n C 2 dJ7_fill_53178_11 rfl rfl ?_
        refine zr_iload_n C 1 dJ7_fill_53178_12 rfl rfl ?_
        obtain ⟨hi9, h⟩ := h
        refine zr_iast C rfl hT2 hi9 dJ7_fill_53178_13 ?_
        refine zr_iinc C [(2, .int (y6 + 1)), (0, .ref a0), (1, .int p1), (3, .int (nI n1))] 2 dJ7_fill_53178_14 rfl rfl (by decide) rfl ?_
        refine zr_goto C 5 dJ7_fill_53178_17 (by decide) ?_
        obtain ⟨n10, hlt, h⟩ := h
        exact zr_sub [1, 2, 0, 3] rfl (ih8 n10 hlt (y6 + 1) (zu F7 a0 (y6).toNatClampNeg (.int p1)) h)
  exact zr_sub [2, 3, 1, 0] rfl (ky13 n5 0 F h012)
theorem dJ8_newLength_cabcc_0 : decode cJ8_newLength_cabcc 0 = .ok (.iload_n 0, 1) := by decide +kernel
theorem dJ8_newLength_cabcc_1 : decode cJ8_newLength_cabcc 1 = .ok (.iload_n 1, 1) := by decide +kernel
theorem dJ8_newLength_cabcc_2 : decode cJ8_newLength_cabcc 2 = .ok (.iload_n 2, 1) := by decide +kernel
theorem dJ8_newLength_cabcc_3 : decode cJ8_newLength_cabcc 3 = .ok (.invokestatic 194, 3) := by decide +kernel
theorem dJ8_newLength_cabcc_6 : decode cJ8_newLength_cabcc 6 = .ok (.iadd, 1) := by decide +kernel
theorem dJ8_newLength_cabcc_7 : decode cJ8_newLength_cabcc 7 = .ok (.istore_n 3, 1) := by decide +kernel
theorem dJ8_newLength_cabcc_8 : decode cJ8_newLength_cabcc 8 = .ok (.iconst 0, 1) := by decide +kernel
theorem dJ8_newLength_cabcc_9 : decode cJ8_newLength_cabcc 9 = .ok (.iload_n 3, 1) := by decide +kernel
theorem dJ8_newLength_cabcc_10 : decode cJ8_newLength_cabcc 10 = .ok (.if_icmp .ge 11, 3) := by decide +kernel
theorem dJ8_newLength_cabcc_13 : decode cJ8_newLength_cabcc 13 = .ok (.iload_n 3, 1) := by decide +kernel
theorem dJ8_newLength_cabcc_14 : decode cJ8_newLength_cabcc 14 = .ok (.ldc 200, 2) := by decide +kernel
theorem dJ8_newLength_cabcc_16 : decode cJ8_newLength_cabcc 16 = .ok (.if_icmp .gt 5, 3) := by decide +kernel
theorem dJ8_newLength_cabcc_19 : decode cJ8_newLength_cabcc 19 = .ok (.iload_n 3, 1) := by decide +kernel
theorem dJ8_newLength_cabcc_20 : decode cJ8_newLength_cabcc 20 = .ok (.ireturn, 1) := by decide +kernel
def v_J8_newLength_cabcc (p0 : Int32) (p1 : Int32) (p2 : Int32) (T : zT) (F : zF) (Post : Int32 → Prop) : Prop :=
  (((p0 + (if p1 < p2 then p2 else p1)) ≤ (0 : Int32) → False) ∧ (¬ (p0 + (if p1 < p2 then p2 else p1)) ≤ (0 : Int32) → ((2147483639 < (p0 + (if p1 < p2 then p2 else p1)) → False) ∧ (¬ 2147483639 < (p0 + (if p1 < p2 then p2 else p1)) → Post (p0 + (if p1 < p2 then p2 else p1))))))
set_option maxRecDepth 100000 in
set_option maxHeartbeats 4000000 in
theorem k_J8_newLength_cabcc {l : Launch} {D : va_G} {cA : Nat → ClassId} {N0 zE : Nat} {p0 : Int32} {p1 : Int32} {p2 : Int32} {T : zT} {F : zF} {Post : Int32 → Prop} (h : v_J8_newLength_cabcc p0 p1 p2 T F Post) : z_Mt l D cA N0 zE yJ8_newLength_cabcc cJ8_newLength_cabcc 4 (some .int) ({ frames := 1, cells := 0, slots := 0, locals := 21 } : Room) [.int p0, .int p1, .int p2] T F (fun v T' F' => ∃ r : Int32, v = some (.int r) ∧ T = T' ∧ F = F' ∧ Post r) := by
  unfold v_J8_newLength_cabcc at h
  refine z_bodyT (by decide) (Nat.le_of_ble_eq_true rfl) ?_
  intro p e s m args below meth c C hnm
  have C : z_C p l s m args meth c RJ8 cJ8_newLength_cabcc 4 (some .int) D cA N0 zE := C
  show z_w p l e ({ frames := 1, cells := 0, slots := 0, locals := 21 } : Room) s m args below meth c D cA N0 4 0 0 (MQ below (z_Qc D cA N0 (fun v T' F' => ∃ r : Int32, v = some (.int r) ∧ T = T' ∧ F = F' ∧ Post r)) args s 0 0 (fun q => N0 ≤ q)) 0 [(0, .int p0), (1, .int p1), (2, .int p2)] [] T F
  refine zr_iload_n C 0 dJ8_newLength_cabcc_0 rfl rfl ?_
  refine zr_iload_n C 1 dJ8_newLength_cabcc_1 rfl rfl ?_
  refine zr_iload_n C 2 dJ8_newLength_cabcc_2 rfl rfl ?_
  refine zr_max C zq_522 zq_337 zq_45 zq_338 (by decide) (Nat.le_of_ble_eq_true rfl) (Nat.le_of_ble_eq_true rfl) (Nat.le_of_ble_eq_true rfl) dJ8_newLength_cabcc_3 ?_
  refine zr_iadd C dJ8_newLength_cabcc_6 ?_
  refine zr_istore_n C [(3, .int (p0 + (if p1 < p2 then p2 else p1))), (0, .int p0), (1, .int p1), (2, .int p2)] dJ8_newLength_cabcc_7 rfl (by decide) rfl ?_
  refine zr_iconst C 0 dJ8_newLength_cabcc_8 (by decide) ?_
  refine zr_iload_n C 0 dJ8_newLength_cabcc_9 rfl rfl ?_
  obtain ⟨h1, h2⟩ := h
  refine zr_icmp_ge C 21 dJ8_newLength_cabcc_10 (by decide) (fun hc => ?_) (fun hc => ?_)
  · have h := h1 hc
    clear h1 h2
    exact h.elim
  · have h := h2 hc
    clear h1 h2
    refine zr_iload_n C 0 dJ8_newLength_cabcc_13 rfl rfl ?_
    refine zr_ldc C 2147483639 dJ8_newLength_cabcc_14 zq_523 ?_
    obtain ⟨h1, h2⟩ := h
    refine zr_icmp_gt C 21 dJ8_newLength_cabcc_16 (by decide) (fun hc => ?_) (fun hc => ?_)
    · have h := h1 hc
      clear h1 h2
      exact h.elim
    · have h := h2 hc
      clear h1 h2
      refine zr_iload_n C 0 dJ8_newLength_cabcc_19 rfl rfl ?_
      exact zr_iret C rfl ⟨_, rfl, rfl, rfl, h⟩ (Nat.le_of_ble_eq_true rfl) (Nat.le_of_ble_eq_true rfl) dJ8_newLength_cabcc_20
theorem dJ3_checkIndex_8e157_0 : decode cJ3_checkIndex_8e157 0 = .ok (.iload_n 0, 1) := by decide +kernel
theorem dJ3_checkIndex_8e157_1 : decode cJ3_checkIndex_8e157 1 = .ok (.ifCond .lt 8, 3) := by decide +kernel
theorem dJ3_checkIndex_8e157_4 : decode cJ3_checkIndex_8e157 4 = .ok (.iload_n 0, 1) := by decide +kernel
theorem dJ3_checkIndex_8e157_5 : decode cJ3_checkIndex_8e157 5 = .ok (.iload_n 1, 1) := by decide +kernel
theorem dJ3_checkIndex_8e157_6 : decode cJ3_checkIndex_8e157 6 = .ok (.if_icmp .lt 10, 3) := by decide +kernel
theorem dJ3_checkIndex_8e157_16 : decode cJ3_checkIndex_8e157 16 = .ok (.iload_n 0, 1) := by decide +kernel
theorem dJ3_checkIndex_8e157_17 : decode cJ3_checkIndex_8e157 17 = .ok (.ireturn, 1) := by decide +kernel
def v_J3_checkIndex_8e157 (p0 : Int32) (p1 : Int32) (T : zT) (F : zF) (Post : Int32 → Prop) : Prop :=
  ((p0 < 0 → False) ∧ (¬ p0 < 0 → ((p0 < p1 → Post p0) ∧ (¬ p0 < p1 → False))))
set_option maxRecDepth 100000 in
set_option maxHeartbeats 4000000 in
theorem k_J3_checkIndex_8e157 {l : Launch} {D : va_G} {cA : Nat → ClassId} {N0 zE : Nat} {p0 : Int32} {p1 : Int32} {T : zT} {F : zF} {Post : Int32 → Prop} (h : v_J3_checkIndex_8e157 p0 p1 T F Post) : z_Mt l D cA N0 zE yJ3_checkIndex_8e157 cJ3_checkIndex_8e157 3 (some .int) ({ frames := 0, cells := 0, slots := 0, locals := 0 } : Room) [.int p0, .int p1, .null] T F (fun v T' F' => ∃ r : Int32, v = some (.int r) ∧ T = T' ∧ F = F' ∧ Post r) := by
  unfold v_J3_checkIndex_8e157 at h
  refine z_bodyT (by decide) (Nat.le_of_ble_eq_true rfl) ?_
  intro p e s m args below meth c C hnm
  have C : z_C p l s m args meth c RJ3 cJ3_checkIndex_8e157 3 (some .int) D cA N0 zE := C
  show z_w p l e ({ frames := 0, cells := 0, slots := 0, locals := 0 } : Room) s m args below meth c D cA N0 3 0 0 (MQ below (z_Qc D cA N0 (fun v T' F' => ∃ r : Int32, v = some (.int r) ∧ T = T' ∧ F = F' ∧ Post r)) args s 0 0 (fun q => N0 ≤ q)) 0 [(0, .int p0), (1, .int p1), (2, .null)] [] T F
  refine zr_iload_n C 0 dJ3_checkIndex_8e157_0 rfl rfl ?_
  obtain ⟨h1, h2⟩ := h
  refine zr_if_lt C 9 dJ3_checkIndex_8e157_1 (by decide) (fun hc => ?_) (fun hc => ?_)
  · have h := h1 hc
    clear h1 h2
    exact h.elim
  · have h := h2 hc
    clear h1 h2
    refine zr_iload_n C 0 dJ3_checkIndex_8e157_4 rfl rfl ?_
    refine zr_iload_n C 1 dJ3_checkIndex_8e157_5 rfl rfl ?_
    obtain ⟨h1, h2⟩ := h
    refine zr_icmp_lt C 16 dJ3_checkIndex_8e157_6 (by decide) (fun hc => ?_) (fun hc => ?_)
    · have h := h1 hc
      clear h1 h2
      refine zr_iload_n C 0 dJ3_checkIndex_8e157_16 rfl rfl ?_
      exact zr_iret C rfl ⟨_, rfl, rfl, rfl, h⟩ (Nat.le_of_ble_eq_true rfl) (Nat.le_of_ble_eq_true rfl) dJ3_checkIndex_8e157_17
    · have h := h2 hc
      clear h1 h2
      exact h.elim
theorem dJ15_checkIndex_7cf53_0 : decode cJ15_checkIndex_7cf53 0 = .ok (.iload_n 0, 1) := by decide +kernel
theorem dJ15_checkIndex_7cf53_1 : decode cJ15_checkIndex_7cf53 1 = .ok (.iload_n 1, 1) := by decide +kernel
theorem dJ15_checkIndex_7cf53_2 : decode cJ15_checkIndex_7cf53 2 = .ok (.aconst_null, 1) := by decide +kernel
theorem dJ15_checkIndex_7cf53_6 : decode cJ15_checkIndex_7cf53 6 = .ok (.ireturn, 1) := by decide +kernel
theorem dJ15_checkIndex_7cf53_3 : decode cJ15_checkIndex_7cf53 3 = .ok (.invokestatic 105, 3) := by decide +kernel
def v_J15_checkIndex_7cf53 (p0 : Int32) (p1 : Int32) (T : zT) (F : zF) (Post : Int32 → Prop) : Prop :=
  (v_J3_checkIndex_8e157 p0 p1 T F (fun (r1 : Int32) => Post r1))
set_option maxRecDepth 100000 in
set_option maxHeartbeats 4000000 in
theorem k_J15_checkIndex_7cf53 {l : Launch} {D : va_G} {cA : Nat → ClassId} {N0 zE : Nat} {p0 : Int32} {p1 : Int32} {T : zT} {F : zF} {Post : Int32 → Prop} (h : v_J15_checkIndex_7cf53 p0 p1 T F Post) : z_Mt l D cA N0 zE yJ15_checkIndex_7cf53 cJ15_checkIndex_7cf53 2 (some .int) ({ frames := 1, cells := 0, slots := 0, locals := 22 } : Room) [.int p0, .int p1] T F (fun v T' F' => ∃ r : Int32, v = some (.int r) ∧ T = T' ∧ F = F' ∧ Post r) := by
  unfold v_J15_checkIndex_7cf53 at h
  refine z_bodyT (by decide) (Nat.le_of_ble_eq_true rfl) ?_
  intro p e s m args below meth c C hnm
  have C : z_C p l s m args meth c RJ15 cJ15_checkIndex_7cf53 2 (some .int) D cA N0 zE := C
  show z_w p l e ({ frames := 1, cells := 0, slots := 0, locals := 22 } : Room) s m args below meth c D cA N0 2 0 0 (MQ below (z_Qc D cA N0 (fun v T' F' => ∃ r : Int32, v = some (.int r) ∧ T = T' ∧ F = F' ∧ Post r)) args s 0 0 (fun q => N0 ≤ q)) 0 [(0, .int p0), (1, .int p1)] [] T F
  refine zr_iload_n C 0 dJ15_checkIndex_7cf53_0 rfl rfl ?_
  refine zr_iload_n C 1 dJ15_checkIndex_7cf53_1 rfl rfl ?_
  refine zr_null C dJ15_checkIndex_7cf53_2 ?_
  refine zr_callS (As := [.int p0, .int p1, .null]) C (k_J3_checkIndex_8e157 h) ok_J15_105 zq_156 rfl ⟨by decide, (Nat.le_of_ble_eq_true rfl)⟩ ⟨(Nat.le_of_ble_eq_true rfl), (Nat.le_of_ble_eq_true rfl)⟩ (Nat.le_of_ble_eq_true rfl) dJ15_checkIndex_7cf53_3 (fun v2 U3 G4 hq => ?_)
  clear h
  · obtain ⟨r1, rfl, rfl, rfl, h⟩ := hq
    exact zr_iret C rfl ⟨_, rfl, rfl, rfl, h⟩ (Nat.le_of_ble_eq_true rfl) (Nat.le_of_ble_eq_true rfl) dJ15_checkIndex_7cf53_6
theorem dJx4a65c_elementData_915e3_0 : decode cJx4a65c_elementData_915e3 0 = .ok (.aload_n 0, 1) := by decide +kernel
theorem dJx4a65c_elementData_915e3_1 : decode cJx4a65c_elementData_915e3 1 = .ok (.getfield 9, 3) := by decide +kernel
theorem dJx4a65c_elementData_915e3_4 : decode cJx4a65c_elementData_915e3 4 = .ok (.iload_n 1, 1) := by decide +kernel
theorem dJx4a65c_elementData_915e3_5 : decode cJx4a65c_elementData_915e3 5 = .ok (.aaload, 1) := by decide +kernel
theorem dJx4a65c_elementData_915e3_6 : decode cJx4a65c_elementData_915e3 6 = .ok (.areturn, 1) := by decide +kernel
def v_Jx4a65c_elementData_915e3 (a0 : Nat) (p1 : Int32) (T : zT) (F : zF) (Post : Nat → Prop) : Prop :=
  (T a0 = some (2, 3) ∧ ∃ x3 : Nat, F a0 1 = .ref x3 ∧ ∃ n4 : Nat, T x3 = some (101, n4) ∧ vp_in p1 n4 ∧ ∃ x7 : Nat, F x3 (p1).toNatClampNeg = .ref x7 ∧ Post x7)
set_option maxRecDepth 100000 in
set_option maxHeartbeats 4000000 in
theorem k_Jx4a65c_elementData_915e3 {l : Launch} {D : va_G} {cA : Nat → ClassId} {N0 zE : Nat} {a0 : Nat} {p1 : Int32} {T : zT} {F : zF} {Post : Nat → Prop} (h : v_Jx4a65c_elementData_915e3 a0 p1 T F Post) : z_Mt l D cA N0 zE yJx4a65c_elementData_915e3 cJx4a65c_elementData_915e3 2 (some (.object "java/lang/Object")) ({ frames := 0, cells := 0, slots := 0, locals := 0 } : Room) [.ref a0, .int p1] T F (fun v T' F' => ∃ r : Nat, v = some (.ref r) ∧ T = T' ∧ F = F' ∧ Post r) := by
  unfold v_Jx4a65c_elementData_915e3 at h
  refine z_bodyT (by decide) (Nat.le_of_ble_eq_true rfl) ?_
  intro p e s m args below meth c C hnm
  have C : z_C p l s m args meth c RJx4a65c cJx4a65c_elementData_915e3 2 (some (.object "java/lang/Object")) D cA N0 zE := C
  show z_w p l e ({ frames := 0, cells := 0, slots := 0, locals := 0 } : Room) s m args below meth c D cA N0 2 0 0 (MQ below (z_Qc D cA N0 (fun v T' F' => ∃ r : Nat, v = some (.ref r) ∧ T = T' ∧ F = F' ∧ Post r)) args s 0 0 (fun q => N0 ≤ q)) 0 [(0, .ref a0), (1, .int p1)] [] T F
  refine zr_aload_n C 0 dJx4a65c_elementData_915e3_0 rfl rfl ?_
  obtain ⟨hT1, x3, hv2, h⟩ := h
  refine zr_get C fl_Jx4a65c_9 hT1 hv2 dJx4a65c_elementData_915e3_1 ?_
  refine zr_iload_n C 1 dJx4a65c_elementData_915e3_4 rfl rfl ?_
  obtain ⟨n4, hT5, hi6, x7, hv8, h⟩ := h
  refine zr_aald C hT5 (by decide) rfl rfl hi6 hv8 dJx4a65c_elementData_915e3_5 ?_
  exact zr_aret C rfl (Or.inl ⟨_, rfl⟩) (Or.inr ⟨_, rfl⟩) ⟨_, rfl, rfl, rfl, h⟩ (Nat.le_of_ble_eq_true rfl) (Nat.le_of_ble_eq_true rfl) dJx4a65c_elementData_915e3_6
theorem dJx4a65c_get_915e3_0 : decode cJx4a65c_get_915e3 0 = .ok (.iload_n 1, 1) := by decide +kernel
theorem dJx4a65c_get_915e3_1 : decode cJx4a65c_get_915e3 1 = .ok (.aload_n 0, 1) := by decide +kernel
theorem dJx4a65c_get_915e3_2 : decode cJx4a65c_get_915e3 2 = .ok (.getfield 48, 3) := by decide +kernel
theorem dJx4a65c_get_915e3_8 : decode cJx4a65c_get_915e3 8 = .ok (.pop, 1) := by decide +kernel
theorem dJx4a65c_get_915e3_9 : decode cJx4a65c_get_915e3 9 = .ok (.aload_n 0, 1) := by decide +kernel
theorem dJx4a65c_get_915e3_10 : decode cJx4a65c_get_915e3 10 = .ok (.iload_n 1, 1) := by decide +kernel
theorem dJx4a65c_get_915e3_14 : decode cJx4a65c_get_915e3 14 = .ok (.areturn, 1) := by decide +kernel
theorem dJx4a65c_get_915e3_11 : decode cJx4a65c_get_915e3 11 = .ok (.invokevirtual 123, 3) := by decide +kernel
theorem dJx4a65c_get_915e3_5 : decode cJx4a65c_get_915e3 5 = .ok (.invokestatic 118, 3) := by decide +kernel
def v_Jx4a65c_get_915e3 (a0 : Nat) (p1 : Int32) (T : zT) (F : zF) (Post : Nat → Prop) : Prop :=
  (T a0 = some (2, 3) ∧ ∃ x3 : Int32, F a0 2 = .int x3 ∧ (v_J15_checkIndex_7cf53 p1 x3 T F (fun (r4 : Int32) => (v_Jx4a65c_elementData_915e3 a0 p1 T F (fun (r5 : Nat) => Post r5)))))
set_option maxRecDepth 100000 in
set_option maxHeartbeats 4000000 in
theorem k_Jx4a65c_get_915e3 {l : Launch} {D : va_G} {cA : Nat → ClassId} {N0 zE : Nat} {a0 : Nat} {p1 : Int32} {T : zT} {F : zF} {Post : Nat → Prop} (h : v_Jx4a65c_get_915e3 a0 p1 T F Post) : z_Mt l D cA N0 zE yJx4a65c_get_915e3 cJx4a65c_get_915e3 2 (some (.object "java/lang/Object")) ({ frames := 2, cells := 0, slots := 0, locals := 43 } : Room) [.ref a0, .int p1] T F (fun v T' F' => ∃ r : Nat, v = some (.ref r) ∧ T = T' ∧ F = F' ∧ Post r) := by
  unfold v_Jx4a65c_get_915e3 at h
  refine z_bodyT (by decide) (Nat.le_of_ble_eq_true rfl) ?_
  intro p e s m args below meth c C hnm
  have C : z_C p l s m args meth c RJx4a65c cJx4a65c_get_915e3 2 (some (.object "java/lang/Object")) D cA N0 zE := C
  show z_w p l e ({ frames := 2, cells := 0, slots := 0, locals := 43 } : Room) s m args below meth c D cA N0 2 0 0 (MQ below (z_Qc D cA N0 (fun v T' F' => ∃ r : Nat, v = some (.ref r) ∧ T = T' ∧ F = F' ∧ Post r)) args s 0 0 (fun q => N0 ≤ q)) 0 [(0, .ref a0), (1, .int p1)] [] T F
  refine zr_iload_n C 1 dJx4a65c_get_915e3_0 rfl rfl ?_
  refine zr_aload_n C 0 dJx4a65c_get_915e3_1 rfl rfl ?_
  obtain ⟨hT1, x3, hv2, h⟩ := h
  refine zr_get C fl_Jx4a65c_48 hT1 hv2 dJx4a65c_get_915e3_2 ?_
  refine zr_callS (As := [.int p1, .int x3]) C (k_J15_checkIndex_7cf53 h) ok_Jx4a65c_118 zq_153 rfl ⟨by decide, (Nat.le_of_ble_eq_true rfl)⟩ ⟨(Nat.le_of_ble_eq_true rfl), (Nat.le_of_ble_eq_true rfl)⟩ (Nat.le_of_ble_eq_true rfl) dJx4a65c_get_915e3_5 (fun v9 U10 G11 hq => ?_)
  clear h
  · obtain ⟨r4, rfl, rfl, rfl, h⟩ := hq
    refine zr_pop C dJx4a65c_get_915e3_8 rfl ?_
    refine zr_aload_n C 0 dJx4a65c_get_915e3_9 rfl rfl ?_
    refine zr_iload_n C 1 dJx4a65c_get_915e3_10 rfl rfl ?_
    refine zr_callV (As := [.int p1]) (r := (RJx4a65c, TJx4a65c, 3)) C (k_Jx4a65c_elementData_915e3 h) ok_Jx4a65c_123 zq_159 zq_160 hT1 (by decide) rfl rfl ⟨by decide, (Nat.le_of_ble_eq_true rfl)⟩ ⟨(Nat.le_of_ble_eq_true rfl), (Nat.le_of_ble_eq_true rfl)⟩ (Nat.le_of_ble_eq_true rfl) dJx4a65c_get_915e3_11 (fun v6 U7 G8 hq => ?_)
    clear h
    · obtain ⟨r5, rfl, rfl, rfl, h⟩ := hq
      exact zr_aret C rfl (Or.inl ⟨_, rfl⟩) (Or.inr ⟨_, rfl⟩) ⟨_, rfl, rfl, rfl, h⟩ (Nat.le_of_ble_eq_true rfl) (Nat.le_of_ble_eq_true rfl) dJx4a65c_get_915e3_14
theorem dJ6_bitCount_0f7a4_0 : decode cJ6_bitCount_0f7a4 0 = .ok (.iload_n 0, 1) := by decide +kernel
theorem dJ6_bitCount_0f7a4_1 : decode cJ6_bitCount_0f7a4 1 = .ok (.iload_n 0, 1) := by decide +kernel
theorem dJ6_bitCount_0f7a4_2 : decode cJ6_bitCount_0f7a4 2 = .ok (.iconst 1, 1) := by decide +kernel
theorem dJ6_bitCount_0f7a4_3 : decode cJ6_bitCount_0f7a4 3 = .ok (.iushr, 1) := by decide +kernel
theorem dJ6_bitCount_0f7a4_4 : decode cJ6_bitCount_0f7a4 4 = .ok (.ldc_w 265, 3) := by decide +kernel
theorem dJ6_bitCount_0f7a4_7 : decode cJ6_bitCount_0f7a4 7 = .ok (.iand, 1) := by decide +kernel
theorem dJ6_bitCount_0f7a4_8 : decode cJ6_bitCount_0f7a4 8 = .ok (.isub, 1) := by decide +kernel
theorem dJ6_bitCount_0f7a4_9 : decode cJ6_bitCount_0f7a4 9 = .ok (.istore_n 0, 1) := by decide +kernel
theorem dJ6_bitCount_0f7a4_10 : decode cJ6_bitCount_0f7a4 10 = .ok (.iload_n 0, 1) := by decide +kernel
theorem dJ6_bitCount_0f7a4_11 : decode cJ6_bitCount_0f7a4 11 = .ok (.ldc_w 266, 3) := by decide +kernel
theorem dJ6_bitCount_0f7a4_14 : decode cJ6_bitCount_0f7a4 14 = .ok (.iand, 1) := by decide +kernel
theorem dJ6_bitCount_0f7a4_15 : decode cJ6_bitCount_0f7a4 15 = .ok (.iload_n 0, 1) := by decide +kernel
theorem dJ6_bitCount_0f7a4_16 : decode cJ6_bitCount_0f7a4 16 = .ok (.iconst 2, 1) := by decide +kernel
theorem dJ6_bitCount_0f7a4_17 : decode cJ6_bitCount_0f7a4 17 = .ok (.iushr, 1) := by decide +kernel
theorem dJ6_bitCount_0f7a4_18 : decode cJ6_bitCount_0f7a4 18 = .ok (.ldc_w 266, 3) := by decide +kernel
theorem dJ6_bitCount_0f7a4_21 : decode cJ6_bitCount_0f7a4 21 = .ok (.iand, 1) := by decide +kernel
theorem dJ6_bitCount_0f7a4_22 : decode cJ6_bitCount_0f7a4 22 = .ok (.iadd, 1) := by decide +kernel
theorem dJ6_bitCount_0f7a4_23 : decode cJ6_bitCount_0f7a4 23 = .ok (.istore_n 0, 1) := by decide +kernel
theorem dJ6_bitCount_0f7a4_24 : decode cJ6_bitCount_0f7a4 24 = .ok (.iload_n 0, 1) := by decide +kernel
theorem dJ6_bitCount_0f7a4_25 : decode cJ6_bitCount_0f7a4 25 = .ok (.iload_n 0, 1) := by decide +kernel
theorem dJ6_bitCount_0f7a4_26 : decode cJ6_bitCount_0f7a4 26 = .ok (.iconst 4, 1) := by decide +kernel
theorem dJ6_bitCount_0f7a4_27 : decode cJ6_bitCount_0f7a4 27 = .ok (.iushr, 1) := by decide +kernel
theorem dJ6_bitCount_0f7a4_28 : decode cJ6_bitCount_0f7a4 28 = .ok (.iadd, 1) := by decide +kernel
theorem dJ6_bitCount_0f7a4_29 : decode cJ6_bitCount_0f7a4 29 = .ok (.ldc_w 267, 3) := by decide +kernel
theorem dJ6_bitCount_0f7a4_32 : decode cJ6_bitCount_0f7a4 32 = .ok (.iand, 1) := by decide +kernel
theorem dJ6_bitCount_0f7a4_33 : decode cJ6_bitCount_0f7a4 33 = .ok (.istore_n 0, 1) := by decide +kernel
theorem dJ6_bitCount_0f7a4_34 : decode cJ6_bitCount_0f7a4 34 = .ok (.iload_n 0, 1) := by decide +kernel
theorem dJ6_bitCount_0f7a4_35 : decode cJ6_bitCount_0f7a4 35 = .ok (.iload_n 0, 1) := by decide +kernel
theorem dJ6_bitCount_0f7a4_36 : decode cJ6_bitCount_0f7a4 36 = .ok (.bipush 8, 2) := by decide +kernel
theorem dJ6_bitCount_0f7a4_38 : decode cJ6_bitCount_0f7a4 38 = .ok (.iushr, 1) := by decide +kernel
theorem dJ6_bitCount_0f7a4_39 : decode cJ6_bitCount_0f7a4 39 = .ok (.iadd, 1) := by decide +kernel
theorem dJ6_bitCount_0f7a4_40 : decode cJ6_bitCount_0f7a4 40 = .ok (.istore_n 0, 1) := by decide +kernel
theorem dJ6_bitCount_0f7a4_41 : decode cJ6_bitCount_0f7a4 41 = .ok (.iload_n 0, 1) := by decide +kernel
theorem dJ6_bitCount_0f7a4_42 : decode cJ6_bitCount_0f7a4 42 = .ok (.iload_n 0, 1) := by decide +kernel
theorem dJ6_bitCount_0f7a4_43 : decode cJ6_bitCount_0f7a4 43 = .ok (.bipush 16, 2) := by decide +kernel
theorem dJ6_bitCount_0f7a4_45 : decode cJ6_bitCount_0f7a4 45 = .ok (.iushr, 1) := by decide +kernel
theorem dJ6_bitCount_0f7a4_46 : decode cJ6_bitCount_0f7a4 46 = .ok (.iadd, 1) := by decide +kernel
theorem dJ6_bitCount_0f7a4_47 : decode cJ6_bitCount_0f7a4 47 = .ok (.istore_n 0, 1) := by decide +kernel
theorem dJ6_bitCount_0f7a4_48 : decode cJ6_bitCount_0f7a4 48 = .ok (.iload_n 0, 1) := by decide +kernel
theorem dJ6_bitCount_0f7a4_49 : decode cJ6_bitCount_0f7a4 49 = .ok (.bipush 63, 2) := by decide +kernel
theorem dJ6_bitCount_0f7a4_51 : decode cJ6_bitCount_0f7a4 51 = .ok (.iand, 1) := by decide +kernel
theorem dJ6_bitCount_0f7a4_52 : decode cJ6_bitCount_0f7a4 52 = .ok (.ireturn, 1) := by decide +kernel
def v_J6_bitCount_0f7a4 (p0 : Int32) (T : zT) (F : zF) (Post : Int32 → Prop) : Prop :=
  ((∀ (y1 : Int32), y1 = (p0 - (((p0.toUInt32 >>> ((1 : Int32).toUInt32 &&& Int32.toUInt32 31)).toInt32) &&& 1431655765)) → (∀ (y3 : Int32), y3 = ((y1 &&& 858993459) + (((y1.toUInt32 >>> ((2 : Int32).toUInt32 &&& Int32.toUInt32 31)).toInt32) &&& 858993459)) → (∀ (y5 : Int32), y5 = ((y3 + ((y3.toUInt32 >>> ((4 : Int32).toUInt32 &&& Int32.toUInt32 31)).toInt32)) &&& 252645135) → (∀ (y7 : Int32), y7 = (y5 + ((y5.toUInt32 >>> ((8 : Int32).toUInt32 &&& Int32.toUInt32 31)).toInt32)) → (∀ (y9 : Int32), y9 = (y7 + ((y7.toUInt32 >>> ((16 : Int32).toUInt32 &&& Int32.toUInt32 31)).toInt32)) → Post (y9 &&& 63)))))))
set_option maxRecDepth 100000 in
set_option maxHeartbeats 4000000 in
theorem k_J6_bitCount_0f7a4 {l : Launch} {D : va_G} {cA : Nat → ClassId} {N0 zE : Nat} {p0 : Int32} {T : zT} {F : zF} {Post : Int32 → Prop} (h : v_J6_bitCount_0f7a4 p0 T F Post) : z_Mt l D cA N0 zE yJ6_bitCount_0f7a4 cJ6_bitCount_0f7a4 1 (some .int) ({ frames := 0, cells := 0, slots := 0, locals := 0 } : Room) [.int p0] T F (fun v T' F' => ∃ r : Int32, v = some (.int r) ∧ T = T' ∧ F = F' ∧ Post r) := by
  unfold v_J6_bitCount_0f7a4 at h
  refine z_bodyT (by decide) (Nat.le_of_ble_eq_true rfl) ?_
  intro p e s m args below meth c C hnm
  have C : z_C p l s m args meth c RJ6 cJ6_bitCount_0f7a4 1 (some .int) D cA N0 zE := C
  show z_w p l e ({ frames := 0, cells := 0, slots := 0, locals := 0 } : Room) s m args below meth c D cA N0 1 0 0 (MQ below (z_Qc D cA N0 (fun v T' F' => ∃ r : Int32, v = some (.int r) ∧ T = T' ∧ F = F' ∧ Post r)) args s 0 0 (fun q => N0 ≤ q)) 0 [(0, .int p0)] [] T F
  refine zr_iload_n C 0 dJ6_bitCount_0f7a4_0 rfl rfl ?_
  refine zr_iload_n C 0 dJ6_bitCount_0f7a4_1 rfl rfl ?_
  refine zr_iconst C 1 dJ6_bitCount_0f7a4_2 (by decide) ?_
  refine zr_iushr C dJ6_bitCount_0f7a4_3 ?_
  refine zr_ldcw C 1431655765 dJ6_bitCount_0f7a4_4 zq_425 ?_
  refine zr_iand C dJ6_bitCount_0f7a4_7 ?_
  refine zr_isub C dJ6_bitCount_0f7a4_8 ?_
  refine zr_topi (fun y1 hy2 => ?_)
  have h := h y1 hy2
  refine zr_istore_n C [(0, .int y1)] dJ6_bitCount_0f7a4_9 rfl (by decide) rfl ?_
  refine zr_iload_n C 0 dJ6_bitCount_0f7a4_10 rfl rfl ?_
  refine zr_ldcw C 858993459 dJ6_bitCount_0f7a4_11 zq_426 ?_
  refine zr_iand C dJ6_bitCount_0f7a4_14 ?_
  refine zr_iload_n C 0 dJ6_bitCount_0f7a4_15 rfl rfl ?_
  refine zr_iconst C 2 dJ6_bitCount_0f7a4_16 (by decide) ?_
  refine zr_iushr C dJ6_bitCount_0f7a4_17 ?_
  refine zr_ldcw C 858993459 dJ6_bitCount_0f7a4_18 zq_426 ?_
  refine zr_iand C dJ6_bitCount_0f7a4_21 ?_
  refine zr_iadd C dJ6_bitCount_0f7a4_22 ?_
  refine zr_topi (fun y3 hy4 => ?_)
  have h := h y3 hy4
  refine zr_istore_n C [(0, .int y3)] dJ6_bitCount_0f7a4_23 rfl (by decide) rfl ?_
  refine zr_iload_n C 0 dJ6_bitCount_0f7a4_24 rfl rfl ?_
  refine zr_iload_n C 0 dJ6_bitCount_0f7a4_25 rfl rfl ?_
  refine zr_iconst C 4 dJ6_bitCount_0f7a4_26 (by decide) ?_
  refine zr_iushr C dJ6_bitCount_0f7a4_27 ?_
  refine zr_iadd C dJ6_bitCount_0f7a4_28 ?_
  refine zr_ldcw C 252645135 dJ6_bitCount_0f7a4_29 zq_427 ?_
  refine zr_iand C dJ6_bitCount_0f7a4_32 ?_
  refine zr_topi (fun y5 hy6 => ?_)
  have h := h y5 hy6
  refine zr_istore_n C [(0, .int y5)] dJ6_bitCount_0f7a4_33 rfl (by decide) rfl ?_
  refine zr_iload_n C 0 dJ6_bitCount_0f7a4_34 rfl rfl ?_
  refine zr_iload_n C 0 dJ6_bitCount_0f7a4_35 rfl rfl ?_
  refine zr_bipush C 8 dJ6_bitCount_0f7a4_36 (by decide) ?_
  refine zr_iushr C dJ6_bitCount_0f7a4_38 ?_
  refine zr_iadd C dJ6_bitCount_0f7a4_39 ?_
  refine zr_topi (fun y7 hy8 => ?_)
  have h := h y7 hy8
  refine zr_istore_n C [(0, .int y7)] dJ6_bitCount_0f7a4_40 rfl (by decide) rfl ?_
  refine zr_iload_n C 0 dJ6_bitCount_0f7a4_41 rfl rfl ?_
  refine zr_iload_n C 0 dJ6_bitCount_0f7a4_42 rfl rfl ?_
  refine zr_bipush C 16 dJ6_bitCount_0f7a4_43 (by decide) ?_
  refine zr_iushr C dJ6_bitCount_0f7a4_45 ?_
  refine zr_iadd C dJ6_bitCount_0f7a4_46 ?_
  refine zr_topi (fun y9 hy10 => ?_)
  have h := h y9 hy10
  refine zr_istore_n C [(0, .int y9)] dJ6_bitCount_0f7a4_47 rfl (by decide) rfl ?_
  refine zr_iload_n C 0 dJ6_bitCount_0f7a4_48 rfl rfl ?_
  refine zr_bipush C 63 dJ6_bitCount_0f7a4_49 (by decide) ?_
  refine zr_iand C dJ6_bitCount_0f7a4_51 ?_
  exact zr_iret C rfl ⟨_, rfl, rfl, rfl, h⟩ (Nat.le_of_ble_eq_true rfl) (Nat.le_of_ble_eq_true rfl) dJ6_bitCount_0f7a4_52
