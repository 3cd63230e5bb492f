theorem dJxa1e45_init_da8c8_0 : decode cJxa1e45_init_da8c8 0 = .ok (.aload_n 0, 1) := by decide +kernel
theorem dJxa1e45_init_da8c8_1 : decode cJxa1e45_init_da8c8 1 = .ok (.invokespecial 1, 3) := by decide +kernel
theorem dJxa1e45_init_da8c8_4 : decode cJxa1e45_init_da8c8 4 = .ok (.return_, 1) := by decide +kernel
def v_Jxa1e45_init_da8c8 (a0 : Nat) (T : zT) (F : zF) (Post : Prop) : Prop :=
  Post
set_option maxRecDepth 100000 in
set_option maxHeartbeats 4000000 in
theorem k_Jxa1e45_init_da8c8 {l : Launch} {D : va_G} {cA : Nat → ClassId} {N0 zE : Nat} {a0 : Nat} {T : zT} {F : zF} {Post : Prop} (h : v_Jxa1e45_init_da8c8 a0 T F Post) : z_Mt l D cA N0 zE yJxa1e45_init_da8c8 cJxa1e45_init_da8c8 1 none ({ frames := 1, cells := 0, slots := 0, locals := 20 } : Room) [.ref a0] T F (fun v T' F' => v = none ∧ T = T' ∧ F = F' ∧ Post) := by
  unfold v_Jxa1e45_init_da8c8 at h
  refine z_bodyT (by decide) (Nat.le_of_ble_eq_true rfl) ?_
  intro p e s m args below meth c C hnm
  have C : z_C p l s m args meth c RJxa1e45 cJxa1e45_init_da8c8 1 none D cA N0 zE := C
  show z_w p l e ({ frames := 1, cells := 0, slots := 0, locals := 20 } : Room) s m args below meth c D cA N0 1 0 0 (MQ below (z_Qc D cA N0 (fun v T' F' => v = none ∧ T = T' ∧ F = F' ∧ Post)) args s 0 0 (fun q => N0 ≤ q)) 0 [(0, .ref a0)] [] T F
  refine zr_aload_n C 0 dJxa1e45_init_da8c8_0 rfl rfl ?_
  refine zr_objInit C zq_57 zq_44 zq_45 (by decide) (Nat.le_of_ble_eq_true rfl) dJxa1e45_init_da8c8_1 ?_
  exact zr_vret C rfl ⟨rfl, rfl, rfl, h⟩ (Nat.le_of_ble_eq_true rfl) (Nat.le_of_ble_eq_true rfl) dJxa1e45_init_da8c8_4
theorem dJxc12de_init_da8c8_0 : decode cJxc12de_init_da8c8 0 = .ok (.aload_n 0, 1) := by decide +kernel
theorem dJxc12de_init_da8c8_4 : decode cJxc12de_init_da8c8 4 = .ok (.aload_n 0, 1) := by decide +kernel
theorem dJxc12de_init_da8c8_5 : decode cJxc12de_init_da8c8 5 = .ok (.iconst 0, 1) := by decide +kernel
theorem dJxc12de_init_da8c8_6 : decode cJxc12de_init_da8c8 6 = .ok (.putfield 7, 3) := by decide +kernel
theorem dJxc12de_init_da8c8_9 : decode cJxc12de_init_da8c8 9 = .ok (.return_, 1) := by decide +kernel
theorem dJxc12de_init_da8c8_1 : decode cJxc12de_init_da8c8 1 = .ok (.invokespecial 1, 3) := by decide +kernel
def v_Jxc12de_init_da8c8 (a0 : Nat) (T : zT) (F : zF) (Post : zF → Prop) : Prop :=
  (v_Jxa1e45_init_da8c8 a0 T F (T a0 = some (0, 3) ∧ Post (zu F a0 0 (.int 0))))
set_option maxRecDepth 100000 in
set_option maxHeartbeats 4000000 in
theorem k_Jxc12de_init_da8c8 {l : Launch} {D : va_G} {cA : Nat → ClassId} {N0 zE : Nat} {a0 : Nat} {T : zT} {F : zF} {Post : zF → Prop} (h : v_Jxc12de_init_da8c8 a0 T F Post) : z_Mt l D cA N0 zE yJxc12de_init_da8c8 cJxc12de_init_da8c8 1 none ({ frames := 2, cells := 0, slots := 0, locals := 40 } : Room) [.ref a0] T F (fun v T' F' => v = none ∧ T = T' ∧ Post F') := by
  unfold v_Jxc12de_init_da8c8 at h
  refine z_bodyT (by decide) (Nat.le_of_ble_eq_true rfl) ?_
  intro p e s m args below meth c C hnm
  have C : z_C p l s m args meth c RJxc12de cJxc12de_init_da8c8 1 none D cA N0 zE := C
  show z_w p l e ({ frames := 2, cells := 0, slots := 0, locals := 40 } : Room) s m args below meth c D cA N0 1 0 0 (MQ below (z_Qc D cA N0 (fun v T' F' => v = none ∧ T = T' ∧ Post F')) args s 0 0 (fun q => N0 ≤ q)) 0 [(0, .ref a0)] [] T F
  refine zr_aload_n C 0 dJxc12de_init_da8c8_0 rfl rfl ?_
  refine zr_callI (As := []) C (k_Jxa1e45_init_da8c8 h) ok_Jxc12de_1 zq_55 rfl rfl ⟨by decide, (Nat.le_of_ble_eq_true rfl)⟩ ⟨(Nat.le_of_ble_eq_true rfl), (Nat.le_of_ble_eq_true rfl)⟩ (Nat.le_of_ble_eq_true rfl) dJxc12de_init_da8c8_1 (fun v2 U3 G4 hq => ?_)
  clear h
  · obtain ⟨rfl, rfl, rfl, h⟩ := hq
    refine zr_aload_n C 0 dJxc12de_init_da8c8_4 rfl rfl ?_
    refine zr_iconst C 0 dJxc12de_init_da8c8_5 (by decide) ?_
    obtain ⟨hT1, h⟩ := h
    refine zr_put C fl_Jxc12de_7 hT1 rfl rfl dJxc12de_init_da8c8_6 ?_
    exact zr_vret C rfl ⟨rfl, rfl, h⟩ (Nat.le_of_ble_eq_true rfl) (Nat.le_of_ble_eq_true rfl) dJxc12de_init_da8c8_9
theorem dJx4a65c_init_da8c8_0 : decode cJx4a65c_init_da8c8 0 = .ok (.aload_n 0, 1) := by decide +kernel
theorem dJx4a65c_init_da8c8_4 : decode cJx4a65c_init_da8c8 4 = .ok (.aload_n 0, 1) := by decide +kernel
theorem dJx4a65c_init_da8c8_5 : decode cJx4a65c_init_da8c8 5 = .ok (.getstatic 39, 3) := by decide +kernel
theorem dJx4a65c_init_da8c8_8 : decode cJx4a65c_init_da8c8 8 = .ok (.putfield 9, 3) := by decide +kernel
theorem dJx4a65c_init_da8c8_11 : decode cJx4a65c_init_da8c8 11 = .ok (.return_, 1) := by decide +kernel
theorem dJx4a65c_init_da8c8_1 : decode cJx4a65c_init_da8c8 1 = .ok (.invokespecial 1, 3) := by decide +kernel
def v_Jx4a65c_init_da8c8 (zE : Nat) (a0 : Nat) (T : zT) (F : zF) (Post : zF → Prop) : Prop :=
  (v_Jxc12de_init_da8c8 a0 T F (fun (F1 : zF) => (T a0 = some (0, 3) ∧ Post (zu F1 a0 1 (.ref zE)))))
set_option maxRecDepth 100000 in
set_option maxHeartbeats 4000000 in
theorem k_Jx4a65c_init_da8c8 {l : Launch} {D : va_G} {cA : Nat → ClassId} {N0 zE : Nat} {a0 : Nat} {T : zT} {F : zF} {Post : zF → Prop} (h : v_Jx4a65c_init_da8c8 zE a0 T F Post) : z_Mt l D cA N0 zE yJx4a65c_init_da8c8 cJx4a65c_init_da8c8 1 none ({ frames := 3, cells := 0, slots := 0, locals := 60 } : Room) [.ref a0] T F (fun v T' F' => v = none ∧ T = T' ∧ Post F') := by
  unfold v_Jx4a65c_init_da8c8 at h
  refine z_bodyT (by decide) (Nat.le_of_ble_eq_true rfl) ?_
  intro p e s m args below meth c C hnm
  have C : z_C p l s m args meth c RJx4a65c cJx4a65c_init_da8c8 1 none D cA N0 zE := C
  show z_w p l e ({ frames := 3, cells := 0, slots := 0, locals := 60 } : Room) s m args below meth c D cA N0 1 0 0 (MQ below (z_Qc D cA N0 (fun v T' F' => v = none ∧ T = T' ∧ Post F')) args s 0 0 (fun q => N0 ≤ q)) 0 [(0, .ref a0)] [] T F
  refine zr_aload_n C 0 dJx4a65c_init_da8c8_0 rfl rfl ?_
  refine zr_callI (As := []) C (k_Jxc12de_init_da8c8 h) ok_Jx4a65c_1 zq_52 rfl rfl ⟨by decide, (Nat.le_of_ble_eq_true rfl)⟩ ⟨(Nat.le_of_ble_eq_true rfl), (Nat.le_of_ble_eq_true rfl)⟩ (Nat.le_of_ble_eq_true rfl) dJx4a65c_init_da8c8_1 (fun v3 U4 G5 hq => ?_)
  clear h
  · obtain ⟨rfl, rfl, h⟩ := hq
    refine zr_aload_n C 0 dJx4a65c_init_da8c8_4 rfl rfl ?_
    refine zr_getsE C zq_58 dJx4a65c_init_da8c8_5 ?_
    obtain ⟨hT2, h⟩ := h
    refine zr_put C fl_Jx4a65c_9 hT2 rfl rfl dJx4a65c_init_da8c8_8 ?_
    exact zr_vret C rfl ⟨rfl, rfl, h⟩ (Nat.le_of_ble_eq_true rfl) (Nat.le_of_ble_eq_true rfl) dJx4a65c_init_da8c8_11
theorem dJx4a65c_size_8abf5_0 : decode cJx4a65c_size_8abf5 0 = .ok (.aload_n 0, 1) := by decide +kernel
theorem dJx4a65c_size_8abf5_1 : decode cJx4a65c_size_8abf5 1 = .ok (.getfield 48, 3) := by decide +kernel
theorem dJx4a65c_size_8abf5_4 : decode cJx4a65c_size_8abf5 4 = .ok (.ireturn, 1) := by decide +kernel
def v_Jx4a65c_size_8abf5 (a0 : Nat) (T : zT) (F : zF) (Post : Int32 → Prop) : Prop :=
  (T a0 = some (0, 3) ∧ ∃ x3 : Int32, F a0 2 = .int x3 ∧ Post x3)
set_option maxRecDepth 100000 in
set_option maxHeartbeats 4000000 in
theorem k_Jx4a65c_size_8abf5 {l : Launch} {D : va_G} {cA : Nat → ClassId} {N0 zE : Nat} {a0 : Nat} {T : zT} {F : zF} {Post : Int32 → Prop} (h : v_Jx4a65c_size_8abf5 a0 T F Post) : z_Mt l D cA N0 zE yJx4a65c_size_8abf5 cJx4a65c_size_8abf5 1 (some .int) ({ frames := 0, cells := 0, slots := 0, locals := 0 } : Room) [.ref a0] T F (fun v T' F' => ∃ r : Int32, v = some (.int r) ∧ T = T' ∧ F = F' ∧ Post r) := by
  unfold v_Jx4a65c_size_8abf5 at h
  refine z_bodyT (by decide) (Nat.le_of_ble_eq_true rfl) ?_
  intro p e s m args below meth c C hnm
  have C : z_C p l s m args meth c RJx4a65c cJx4a65c_size_8abf5 1 (some .int) D cA N0 zE := C
  show z_w p l e ({ frames := 0, cells := 0, slots := 0, locals := 0 } : Room) s m args below meth c D cA N0 1 0 0 (MQ below (z_Qc D cA N0 (fun v T' F' => ∃ r : Int32, v = some (.int r) ∧ T = T' ∧ F = F' ∧ Post r)) args s 0 0 (fun q => N0 ≤ q)) 0 [(0, .ref a0)] [] T F
  refine zr_aload_n C 0 dJx4a65c_size_8abf5_0 rfl rfl ?_
  obtain ⟨hT1, x3, hv2, h⟩ := h
  refine zr_get C fl_Jx4a65c_48 hT1 hv2 dJx4a65c_size_8abf5_1 ?_
  exact zr_iret C rfl ⟨_, rfl, rfl, rfl, h⟩ (Nat.le_of_ble_eq_true rfl) (Nat.le_of_ble_eq_true rfl) dJx4a65c_size_8abf5_4
theorem dJ7_fill_53178_0 : decode cJ7_fill_53178 0 = .ok (.iconst 0, 1) := by decide +kernel
theorem dJ7_fill_53178_1 : decode cJ7_fill_53178 1 = .ok (.istore_n 2, 1) := by decide +kernel
theorem dJ7_fill_53178_2 : decode cJ7_fill_53178 2 = .ok (.aload_n 0, 1) := by decide +kernel
theorem dJ7_fill_53178_3 : decode cJ7_fill_53178 3 = .ok (.arraylength, 1) := by decide +kernel
theorem dJ7_fill_53178_4 : decode cJ7_fill_53178 4 = .ok (.istore_n 3, 1) := by decide +kernel
theorem dJ7_fill_53178_5 : decode cJ7_fill_53178 5 = .ok (.iload_n 2, 1) := by decide +kernel
theorem dJ7_fill_53178_6 : decode cJ7_fill_53178 6 = .ok (.iload_n 3, 1) := by decide +kernel
theorem dJ7_fill_53178_7 : decode cJ7_fill_53178 7 = .ok (.if_icmp .ge 13, 3) := by decide +kernel
theorem dJ7_fill_53178_20 : decode cJ7_fill_53178 20 = .ok (.return_, 1) := by decide +kernel
theorem dJ7_fill_53178_10 : decode cJ7_fill_53178 10 = .ok (.aload_n 0, 1) := by decide +kernel
theorem dJ7_fill_53178_11 : decode cJ7_fill_53178 11 = .ok (.iload_n 2, 1) := by decide +kernel
theorem dJ7_fill_53178_12 : decode cJ7_fill_53178 12 = .ok (.iload_n 1, 1) := by decide +kernel
theorem dJ7_fill_53178_13 : decode cJ7_fill_53178 13 = .ok (.iastore, 1) := by decide +kernel
theorem dJ7_fill_53178_14 : decode cJ7_fill_53178 14 = .ok (.iinc 2 1, 3) := by decide +kernel
theorem dJ7_fill_53178_17 : decode cJ7_fill_53178 17 = .ok (.goto (-12), 3) := by decide +kernel
def v_J7_fill_53178 (a0 : Nat) (p1 : Int32) (T : zT) (F : zF) (Post : zF → Prop) : Prop :=
  (∃ n1 : Nat, T a0 = some (100, n1) ∧ (∃ I3 : Nat → Int32 → zF → Prop, (∃ n5 : Nat, I3 n5 0 F) ∧ (∀ (n4 : Nat) (y6 : Int32) (F7 : zF), I3 n4 y6 F7 → (((nI n1) ≤ y6 → Post F7) ∧ (¬ (nI n1) ≤ y6 → (vp_in y6 n1 ∧ (∃ n11 : Nat, n11 < n4 ∧ I3 n11 (y6 + 1) (zu F7 a0 (y6).toNatClampNeg (.int p1)))))))))
set_option maxRecDepth 100000 in
set_option maxHeartbeats 4000000 in
theorem k_J7_fill_53178 {l : Launch} {D : va_G} {cA : Nat → ClassId} {N0 zE : Nat} {a0 : Nat} {p1 : Int32} {T : zT} {F : zF} {Post : zF → Prop} (h : v_J7_fill_53178 a0 p1 T F Post) : z_Mt l D cA N0 zE yJ7_fill_53178 cJ7_fill_53178 4 none ({ frames := 0, cells := 0, slots := 0, locals := 0 } : Room) [.ref a0, .int p1] T F (fun v T' F' => v = none ∧ T = T' ∧ Post F') := by
  unfold v_J7_fill_53178 at h
  refine z_bodyT (by decide) (Nat.le_of_ble_eq_true rfl) ?_
  intro p e s m args below meth c C hnm
  have C : z_C p l s m args meth c RJ7 cJ7_fill_53178 4 none D cA N0 zE := C
  show z_w p l e ({ frames := 0, cells := 0, slots := 0, locals := 0 } : Room) s m args below meth c D cA N0 4 0 0 (MQ below (z_Qc D cA N0 (fun v T' F' => v = none ∧ T = T' ∧ Post F')) args s 0 0 (fun q => N0 ≤ q)) 0 [(0, .ref a0), (1, .int p1)] [] T F
  refine zr_iconst C 0 dJ7_fill_53178_0 (by decide) ?_
  refine zr_istore_n C [(2, .int 0), (0, .ref a0), (1, .int p1)] dJ7_fill_53178_1 rfl (by decide) rfl ?_
  refine zr_aload_n C 1 dJ7_fill_53178_2 rfl rfl ?_
  obtain ⟨n1, hT2, h⟩ := h
  refine zr_alen C hT2 (by decide) rfl dJ7_fill_53178_3 ?_
  refine zr_istore_n C [(3, .int (nI n1)), (2, .int 0), (0, .ref a0), (1, .int p1)] dJ7_fill_53178_4 rfl (by decide) rfl ?_
  obtain ⟨I3, ⟨n5, h013⟩, hI12⟩ := h
  have ky14 : ∀ (n4 : Nat) (y6 : Int32) (F7 : zF), I3 n4 y6 F7 → z_w p l e ({ frames := 0, cells := 0, slots := 0, locals := 0 } : Room) s m args below meth c D cA N0 4 0 0 (MQ below (z_Qc D cA N0 (fun v T' F' => v = none ∧ T = T' ∧ Post F')) args s 0 0 (fun q => N0 ≤ q)) 5 [(0, .ref a0), (1, .int p1), (2, .int y6), (3, .int (nI n1))] [] T F7 := by
    intro n4
    induction n4 using Nat.strongRecOn with
    | _ n4 ih8 =>
      intro y6 F7 hin
      have h := hI12 n4 y6 F7 hin
      refine zr_iload_n C 2 dJ7_fill_53178_5 rfl rfl ?_
      refine zr_iload_n C 3 dJ7_fill_53178_6 rfl rfl ?_
      obtain ⟨h1, h2⟩ := h
      refine zr_icmp_ge C 20 dJ7_fill_53178_7 (by decide) (fun hc => ?_) (fun hc => ?_)
      · have h := h1 hc
        clear h1 h2
        exact zr_vret C rfl ⟨rfl, rfl, h⟩ (Nat.le_of_ble_eq_true rfl) (Nat.le_of_ble_eq_true rfl) dJ7_fill_53178_20
      · have h := h2 hc
        clear h1 h2
        refine zr_aload_n C 0 dJ7_fill_53178_10 rfl rfl ?_
        refine zr_iload_n C 2 dJ7_fill_53178_11 rfl rfl ?_
        refine zr_iload_n C 1 dJ7_fill_53178_12 rfl rfl ?_
        obtain ⟨hi10, h⟩ := h
        refine zr_iast C rfl hT2 hi10 dJ7_fill_53178_13 ?_
        refine zr_iinc C [(2, .int (y6 + 1)), (0, .ref a0), (1, .int p1), (3, .int (nI n1))] 2 dJ7_fill_53178_14 rfl rfl (by decide) rfl ?_
        refine zr_goto C 5 dJ7_fill_53178_17 (by decide) ?_
        obtain ⟨n11, hlt, h⟩ := h
        exact zr_sub [1, 2, 0, 3] rfl (ih8 n11 hlt (y6 + 1) (zu F7 a0 (y6).toNatClampNeg (.int p1)) h)
  exact zr_sub [2, 3, 1, 0] rfl (ky14 n5 0 F h013)
theorem dJ8_newLength_cabcc_0 : decode cJ8_newLength_cabcc 0 = .ok (.iload_n 0, 1) := by decide +kernel
theorem dJ8_newLength_cabcc_1 : decode cJ8_newLength_cabcc 1 = .ok (.iload_n 1, 1) := by decide +kernel
theorem dJ8_newLength_cabcc_2 : decode cJ8_newLength_cabcc 2 = .ok (.iload_n 2, 1) := by decide +kernel
theorem dJ8_newLength_cabcc_3 : decode cJ8_newLength_cabcc 3 = .ok (.invokestatic 194, 3) := by decide +kernel
theorem dJ8_newLength_cabcc_6 : decode cJ8_newLength_cabcc 6 = .ok (.iadd, 1) := by decide +kernel
theorem dJ8_newLength_cabcc_7 : decode cJ8_newLength_cabcc 7 = .ok (.istore_n 3, 1) := by decide +kernel
theorem dJ8_newLength_cabcc_8 : decode cJ8_newLength_cabcc 8 = .ok (.iconst 0, 1) := by decide +kernel
theorem dJ8_newLength_cabcc_9 : decode cJ8_newLength_cabcc 9 = .ok (.iload_n 3, 1) := by decide +kernel
theorem dJ8_newLength_cabcc_10 : decode cJ8_newLength_cabcc 10 = .ok (.if_icmp .ge 11, 3) := by decide +kernel
theorem dJ8_newLength_cabcc_13 : decode cJ8_newLength_cabcc 13 = .ok (.iload_n 3, 1) := by decide +kernel
theorem dJ8_newLength_cabcc_14 : decode cJ8_newLength_cabcc 14 = .ok (.ldc 200, 2) := by decide +kernel
theorem dJ8_newLength_cabcc_16 : decode cJ8_newLength_cabcc 16 = .ok (.if_icmp .gt 5, 3) := by decide +kernel
theorem dJ8_newLength_cabcc_19 : decode cJ8_newLength_cabcc 19 = .ok (.iload_n 3, 1) := by decide +kernel
theorem dJ8_newLength_cabcc_20 : decode cJ8_newLength_cabcc 20 = .ok (.ireturn, 1) := by decide +kernel
def v_J8_newLength_cabcc (p0 : Int32) (p1 : Int32) (p2 : Int32) (T : zT) (F : zF) (Post : Int32 → Prop) : Prop :=
  (((p0 + (if p1 < p2 then p2 else p1)) ≤ (0 : Int32) → False) ∧ (¬ (p0 + (if p1 < p2 then p2 else p1)) ≤ (0 : Int32) → ((2147483639 < (p0 + (if p1 < p2 then p2 else p1)) → False) ∧ (¬ 2147483639 < (p0 + (if p1 < p2 then p2 else p1)) → Post (p0 + (if p1 < p2 then p2 else p1))))))
set_option maxRecDepth 100000 in
set_option maxHeartbeats 4000000 in
theorem k_J8_newLength_cabcc {l : Launch} {D : va_G} {cA : Nat → ClassId} {N0 zE : Nat} {p0 : Int32} {p1 : Int32} {p2 : Int32} {T : zT} {F : zF} {Post : Int32 → Prop} (h : v_J8_newLength_cabcc p0 p1 p2 T F Post) : z_Mt l D cA N0 zE yJ8_newLength_cabcc cJ8_newLength_cabcc 4 (some .int) ({ frames := 1, cells := 0, slots := 0, locals := 21 } : Room) [.int p0, .int p1, .int p2] T F (fun v T' F' => ∃ r : Int32, v = some (.int r) ∧ T = T' ∧ F = F' ∧ Post r) := by
  unfold v_J8_newLength_cabcc at h
  refine z_bodyT (by decide) (Nat.le_of_ble_eq_true rfl) ?_
  intro p e s m args below meth c C hnm
  have C : z_C p l s m args meth c RJ8 cJ8_newLength_cabcc 4 (some .int) D cA N0 zE := C
  show z_w p l e ({ frames := 1, cells := 0, slots := 0, locals := 21 } : Room) s m args below meth c D cA N0 4 0 0 (MQ below (z_Qc D cA N0 (fun v T' F' => ∃ r : Int32, v = some (.int r) ∧ T = T' ∧ F = F' ∧ Post r)) args s 0 0 (fun q => N0 ≤ q)) 0 [(0, .int p0), (1, .int p1), (2, .int p2)] [] T F
  refine zr_iload_n C 0 dJ8_newLength_cabcc_0 rfl rfl ?_
  refine zr_iload_n C 1 dJ8_newLength_cabcc_1 rfl rfl ?_
  refine zr_iload_n C 2 dJ8_newLength_cabcc_2 rfl rfl ?_
  refine zr_max C zq_228 zq_229 zq_29 zq_230 (by decide) (Nat.le_of_ble_eq_true rfl) (Nat.le_of_ble_eq_true rfl) (Nat.le_of_ble_eq_true rfl) dJ8_newLength_cabcc_3 ?_
  refine zr_iadd C dJ8_newLength_cabcc_6 ?_
  refine zr_istore_n C [(3, .int (p0 + (if p1 < p2 then p2 else p1))), (0, .int p0), (1, .int p1), (2, .int p2)] dJ8_newLength_cabcc_7 rfl (by decide) rfl ?_
  refine zr_iconst C 0 dJ8_newLength_cabcc_8 (by decide) ?_
  refine zr_iload_n C 0 dJ8_newLength_cabcc_9 rfl rfl ?_
  obtain ⟨h1, h2⟩ := h
  refine zr_icmp_ge C 21 dJ8_newLength_cabcc_10 (by decide) (fun hc => ?_) (fun hc => ?_)
  · have h := h1 hc
    clear h1 h2
    exact h.elim
  · have h := h2 hc
    clear h1 h2
    refine zr_iload_n C 0 dJ8_newLength_cabcc_13 rfl rfl ?_
    refine zr_ldc C 2147483639 dJ8_newLength_cabcc_14 zq_231 ?_
    obtain ⟨h1, h2⟩ := h
    refine zr_icmp_gt C 21 dJ8_newLength_cabcc_16 (by decide) (fun hc => ?_) (fun hc => ?_)
    · have h := h1 hc
      clear h1 h2
      exact h.elim
    · have h := h2 hc
      clear h1 h2
      refine zr_iload_n C 0 dJ8_newLength_cabcc_19 rfl rfl ?_
      exact zr_iret C rfl ⟨_, rfl, rfl, rfl, h⟩ (Nat.le_of_ble_eq_true rfl) (Nat.le_of_ble_eq_true rfl) dJ8_newLength_cabcc_20
theorem dJ7_copyOf_6403c_0 : decode cJ7_copyOf_6403c 0 = .ok (.aload_n 2, 1) := by decide +kernel
theorem dJ7_copyOf_6403c_1 : decode cJ7_copyOf_6403c 1 = .ok (.ldc 110, 2) := by decide +kernel
theorem dJ7_copyOf_6403c_3 : decode cJ7_copyOf_6403c 3 = .ok (.if_acmp .ne 10, 3) := by decide +kernel
theorem dJ7_copyOf_6403c_6 : decode cJ7_copyOf_6403c 6 = .ok (.iload_n 1, 1) := by decide +kernel
theorem dJ7_copyOf_6403c_7 : decode cJ7_copyOf_6403c 7 = .ok (.anewarray 2, 3) := by decide +kernel
theorem dJ7_copyOf_6403c_10 : decode cJ7_copyOf_6403c 10 = .ok (.goto 14, 3) := by decide +kernel
theorem dJ7_copyOf_6403c_24 : decode cJ7_copyOf_6403c 24 = .ok (.astore_n 3, 1) := by decide +kernel
theorem dJ7_copyOf_6403c_25 : decode cJ7_copyOf_6403c 25 = .ok (.aload_n 0, 1) := by decide +kernel
theorem dJ7_copyOf_6403c_26 : decode cJ7_copyOf_6403c 26 = .ok (.iconst 0, 1) := by decide +kernel
theorem dJ7_copyOf_6403c_27 : decode cJ7_copyOf_6403c 27 = .ok (.aload_n 3, 1) := by decide +kernel
theorem dJ7_copyOf_6403c_28 : decode cJ7_copyOf_6403c 28 = .ok (.iconst 0, 1) := by decide +kernel
theorem dJ7_copyOf_6403c_29 : decode cJ7_copyOf_6403c 29 = .ok (.aload_n 0, 1) := by decide +kernel
theorem dJ7_copyOf_6403c_30 : decode cJ7_copyOf_6403c 30 = .ok (.arraylength, 1) := by decide +kernel
theorem dJ7_copyOf_6403c_31 : decode cJ7_copyOf_6403c 31 = .ok (.iload_n 1, 1) := by decide +kernel
theorem dJ7_copyOf_6403c_32 : decode cJ7_copyOf_6403c 32 = .ok (.invokestatic 304, 3) := by decide +kernel
theorem dJ7_copyOf_6403c_35 : decode cJ7_copyOf_6403c 35 = .ok (.invokestatic 150, 3) := by decide +kernel
theorem dJ7_copyOf_6403c_38 : decode cJ7_copyOf_6403c 38 = .ok (.aload_n 3, 1) := by decide +kernel
theorem dJ7_copyOf_6403c_39 : decode cJ7_copyOf_6403c 39 = .ok (.areturn, 1) := by decide +kernel
def v_J7_copyOf_6403c (a0 : Nat) (p1 : Int32) (T : zT) (F : zF) (Post : Nat → zT → zF → Prop) : Prop :=
  (¬ p1 < 0 ∧ p1.toNatClampNeg ≤ 40 ∧ (∀ q3 : Nat, (∀ b, q3 ≤ b → T b = none) → (∃ n5 : Nat, zn T q3 (101, p1.toNatClampNeg) a0 = some (101, n5) ∧ 0 < n5 ∧ 0 < p1.toNatClampNeg ∧ ¬ (if p1 < (nI n5) then p1 else (nI n5)) < 0 ∧ (if p1 < (nI n5) then p1 else (nI n5)).toNatClampNeg ≤ n5 ∧ (if p1 < (nI n5) then p1 else (nI n5)).toNatClampNeg ≤ p1.toNatClampNeg ∧ ¬ a0 = q3 ∧ (∀ i9 : Nat, i9 < (if p1 < (nI n5) then p1 else (nI n5)).toNatClampNeg → (zm F q3 (fun _ => .null)) a0 i9 = .null ∨ ∃ y9 : Nat, (zm F q3 (fun _ => .null)) a0 i9 = .ref y9 ∧ z_ob (zn T q3 (101, p1.toNatClampNeg)) y9) ∧ Post q3 (zn T q3 (101, p1.toNatClampNeg)) (zcp (zm F q3 (fun _ => .null)) a0 q3 ((if p1 < (nI n5) then p1 else (nI n5)).toNatClampNeg)))))
set_option maxRecDepth 100000 in
set_option maxHeartbeats 4000000 in
theorem k_J7_copyOf_6403c {l : Launch} {D : va_G} {cA : Nat → ClassId} {N0 zE : Nat} {a0 : Nat} {p1 : Int32} {T : zT} {F : zF} {Post : Nat → zT → zF → Prop} (h : v_J7_copyOf_6403c a0 p1 T F Post) : z_Mt l D cA N0 zE yJ7_copyOf_6403c cJ7_copyOf_6403c 4 (some (.array (.object "java/lang/Object"))) ({ frames := 1, cells := 1, slots := 40, locals := 32 } : Room) [.ref a0, .int p1, .ref (cA 5)] T F (fun v T' F' => ∃ r : Nat, v = some (.ref r) ∧ Post r T' F') := by
  unfold v_J7_copyOf_6403c at h
  refine z_bodyT (by decide) (Nat.le_of_ble_eq_true rfl) ?_
  intro p e s m args below meth c C hnm
  have C : z_C p l s m args meth c RJ7 cJ7_copyOf_6403c 4 (some (.array (.object "java/lang/Object"))) D cA N0 zE := C
  show z_w p l e ({ frames := 1, cells := 1, slots := 40, locals := 32 } : Room) s m args below meth c D cA N0 4 0 0 (MQ below (z_Qc D cA N0 (fun v T' F' => ∃ r : Nat, v = some (.ref r) ∧ Post r T' F')) args s 1 40 (fun q => N0 ≤ q)) 0 [(0, .ref a0), (1, .int p1), (2, .ref (cA 5))] [] T F
  refine zr_aload_n C 2 dJ7_copyOf_6403c_0 rfl rfl ?_
  refine zr_ldcM C zq_254 dJ7_copyOf_6403c_1 ?_
  refine zr_acmp_ne (rx := some (cA 5)) (ry := some (cA 5)) C 13 dJ7_copyOf_6403c_3 (by decide) (fun hc => absurd rfl hc) (fun _ => ?_)
  refine zr_iload_n C 1 dJ7_copyOf_6403c_6 rfl rfl ?_
  obtain ⟨hz1, hB2, h⟩ := h
  refine zr_anewB C 40 hB2 1 rfl zq_256 zq_255 hz1 (by decide) (Nat.le_of_ble_eq_true rfl) (Nat.le_of_ble_eq_true rfl) dJ7_copyOf_6403c_7 (fun q3 hq4 => ?_)
  have h := h q3 hq4
  refine zr_goto C 24 dJ7_copyOf_6403c_10 (by decide) ?_
  refine zr_astore_n C [(3, .ref q3), (0, .ref a0), (1, .int p1), (2, .ref (cA 5))] dJ7_copyOf_6403c_24 rfl (by decide) rfl ?_
  refine zr_aload_n C 1 dJ7_copyOf_6403c_25 rfl rfl ?_
  refine zr_iconst C 0 dJ7_copyOf_6403c_26 (by decide) ?_
  refine zr_aload_n C 0 dJ7_copyOf_6403c_27 rfl rfl ?_
  refine zr_iconst C 0 dJ7_copyOf_6403c_28 (by decide) ?_
  refine zr_aload_n C 1 dJ7_copyOf_6403c_29 rfl rfl ?_
  obtain ⟨n5, hT6, h⟩ := h
  refine zr_alen C hT6 (by decide) rfl dJ7_copyOf_6403c_30 ?_
  refine zr_iload_n C 2 dJ7_copyOf_6403c_31 rfl rfl ?_
  refine zr_min C zq_257 zq_258 zq_29 zq_259 (by decide) (Nat.le_of_ble_eq_true rfl) (Nat.le_of_ble_eq_true rfl) (Nat.le_of_ble_eq_true rfl) dJ7_copyOf_6403c_32 ?_
  obtain ⟨hc7, hc8, hc9, hc10, hc11, hc12, hc13, h⟩ := h
  refine zr_acopy C rfl hT6 z_nq hc7 hc8 hc9 hc10 hc11 hc12 hc13 zq_260 zq_262 zq_261 zq_30 (by decide) (Nat.le_of_ble_eq_true rfl) dJ7_copyOf_6403c_35 ?_
  refine zr_aload_n C 0 dJ7_copyOf_6403c_38 rfl rfl ?_
  exact zr_aret C rfl (Or.inr ⟨_, rfl⟩) (Or.inr ⟨_, rfl⟩) ⟨_, rfl, h⟩ (Nat.le_of_ble_eq_true rfl) (Nat.le_of_ble_eq_true rfl) dJ7_copyOf_6403c_39
theorem dJ7_copyOf_1904c_0 : decode cJ7_copyOf_1904c 0 = .ok (.aload_n 0, 1) := by decide +kernel
theorem dJ7_copyOf_1904c_1 : decode cJ7_copyOf_1904c 1 = .ok (.iload_n 1, 1) := by decide +kernel
theorem dJ7_copyOf_1904c_2 : decode cJ7_copyOf_1904c 2 = .ok (.aload_n 0, 1) := by decide +kernel
theorem dJ7_copyOf_1904c_3 : decode cJ7_copyOf_1904c 3 = .ok (.invokevirtual 86, 3) := by decide +kernel
theorem dJ7_copyOf_1904c_9 : decode cJ7_copyOf_1904c 9 = .ok (.areturn, 1) := by decide +kernel
theorem dJ7_copyOf_1904c_6 : decode cJ7_copyOf_1904c 6 = .ok (.invokestatic 300, 3) := by decide +kernel
def v_J7_copyOf_1904c (a0 : Nat) (p1 : Int32) (T : zT) (F : zF) (Post : Nat → zT → zF → Prop) : Prop :=
  (∃ n1 : Nat, T a0 = some (101, n1) ∧ (v_J7_copyOf_6403c a0 p1 T F (fun (r3 : Nat) (T4 : zT) (F5 : zF) => Post r3 T4 F5)))
set_option maxRecDepth 100000 in
set_option maxHeartbeats 4000000 in
theorem k_J7_copyOf_1904c {l : Launch} {D : va_G} {cA : Nat → ClassId} {N0 zE : Nat} {a0 : Nat} {p1 : Int32} {T : zT} {F : zF} {Post : Nat → zT → zF → Prop} (h : v_J7_copyOf_1904c a0 p1 T F Post) : z_Mt l D cA N0 zE yJ7_copyOf_1904c cJ7_copyOf_1904c 2 (some (.array (.object "java/lang/Object"))) ({ frames := 2, cells := 1, slots := 40, locals := 55 } : Room) [.ref a0, .int p1] T F (fun v T' F' => ∃ r : Nat, v = some (.ref r) ∧ Post r T' F') := by
  unfold v_J7_copyOf_1904c at h
  refine z_bodyT (by decide) (Nat.le_of_ble_eq_true rfl) ?_
  intro p e s m args below meth c C hnm
  have C : z_C p l s m args meth c RJ7 cJ7_copyOf_1904c 2 (some (.array (.object "java/lang/Object"))) D cA N0 zE := C
  show z_w p l e ({ frames := 2, cells := 1, slots := 40, locals := 55 } : Room) s m args below meth c D cA N0 2 0 0 (MQ below (z_Qc D cA N0 (fun v T' F' => ∃ r : Nat, v = some (.ref r) ∧ Post r T' F')) args s 1 40 (fun q => N0 ≤ q)) 0 [(0, .ref a0), (1, .int p1)] [] T F
  refine zr_aload_n C 0 dJ7_copyOf_1904c_0 rfl rfl ?_
  refine zr_iload_n C 1 dJ7_copyOf_1904c_1 rfl rfl ?_
  refine zr_aload_n C 0 dJ7_copyOf_1904c_2 rfl rfl ?_
  obtain ⟨n1, hT2, h⟩ := h
  refine zr_getC C rfl hT2 zq_238 zq_831 zq_239 zq_250 (by decide) (Nat.le_of_ble_eq_true rfl) dJ7_copyOf_1904c_3 ?_
  refine zr_callS (As := [.ref a0, .int p1, .ref (cA 5)]) C (k_J7_copyOf_6403c h) ok_J7_300 zq_252 rfl ⟨by decide, (Nat.le_of_ble_eq_true rfl)⟩ ⟨(Nat.le_of_ble_eq_true rfl), (Nat.le_of_ble_eq_true rfl)⟩ (Nat.le_of_ble_eq_true rfl) dJ7_copyOf_1904c_6 (fun v6 U7 G8 hq => ?_)
  clear h
  · obtain ⟨r3, rfl, h⟩ := hq
    skip
    exact zr_aret C rfl (Or.inr ⟨_, rfl⟩) (Or.inr ⟨_, rfl⟩) ⟨_, rfl, h⟩ (Nat.le_of_ble_eq_true rfl) (Nat.le_of_ble_eq_true rfl) dJ7_copyOf_1904c_9
theorem dJx4a65c_grow_92f84_0 : decode cJx4a65c_grow_92f84 0 = .ok (.aload_n 0, 1) := by decide +kernel
theorem dJx4a65c_grow_92f84_1 : decode cJx4a65c_grow_92f84 1 = .ok (.getfield 9, 3) := by decide +kernel
theorem dJx4a65c_grow_92f84_4 : decode cJx4a65c_grow_92f84 4 = .ok (.arraylength, 1) := by decide +kernel
theorem dJx4a65c_grow_92f84_5 : decode cJx4a65c_grow_92f84 5 = .ok (.istore_n 2, 1) := by decide +kernel
theorem dJx4a65c_grow_92f84_6 : decode cJx4a65c_grow_92f84 6 = .ok (.iload_n 2, 1) := by decide +kernel
theorem dJx4a65c_grow_92f84_7 : decode cJx4a65c_grow_92f84 7 = .ok (.ifCond .gt 13, 3) := by decide +kernel
theorem dJx4a65c_grow_92f84_20 : decode cJx4a65c_grow_92f84 20 = .ok (.iload_n 2, 1) := by decide +kernel
theorem dJx4a65c_grow_92f84_21 : decode cJx4a65c_grow_92f84 21 = .ok (.iload_n 1, 1) := by decide +kernel
theorem dJx4a65c_grow_92f84_22 : decode cJx4a65c_grow_92f84 22 = .ok (.iload_n 2, 1) := by decide +kernel
theorem dJx4a65c_grow_92f84_23 : decode cJx4a65c_grow_92f84 23 = .ok (.isub, 1) := by decide +kernel
theorem dJx4a65c_grow_92f84_24 : decode cJx4a65c_grow_92f84 24 = .ok (.iload_n 2, 1) := by decide +kernel
theorem dJx4a65c_grow_92f84_25 : decode cJx4a65c_grow_92f84 25 = .ok (.iconst 1, 1) := by decide +kernel
theorem dJx4a65c_grow_92f84_26 : decode cJx4a65c_grow_92f84 26 = .ok (.ishr, 1) := by decide +kernel
theorem dJx4a65c_grow_92f84_30 : decode cJx4a65c_grow_92f84 30 = .ok (.istore_n 3, 1) := by decide +kernel
theorem dJx4a65c_grow_92f84_31 : decode cJx4a65c_grow_92f84 31 = .ok (.aload_n 0, 1) := by decide +kernel
theorem dJx4a65c_grow_92f84_32 : decode cJx4a65c_grow_92f84 32 = .ok (.aload_n 0, 1) := by decide +kernel
theorem dJx4a65c_grow_92f84_33 : decode cJx4a65c_grow_92f84 33 = .ok (.getfield 9, 3) := by decide +kernel
theorem dJx4a65c_grow_92f84_36 : decode cJx4a65c_grow_92f84 36 = .ok (.iload_n 3, 1) := by decide +kernel
theorem dJx4a65c_grow_92f84_40 : decode cJx4a65c_grow_92f84 40 = .ok (.dup_x1, 1) := by decide +kernel
theorem dJx4a65c_grow_92f84_41 : decode cJx4a65c_grow_92f84 41 = .ok (.putfield 9, 3) := by decide +kernel
theorem dJx4a65c_grow_92f84_44 : decode cJx4a65c_grow_92f84 44 = .ok (.areturn, 1) := by decide +kernel
theorem dJx4a65c_grow_92f84_37 : decode cJx4a65c_grow_92f84 37 = .ok (.invokestatic 66, 3) := by decide +kernel
theorem dJx4a65c_grow_92f84_27 : decode cJx4a65c_grow_92f84 27 = .ok (.invokestatic 73, 3) := by decide +kernel
theorem dJx4a65c_grow_92f84_10 : decode cJx4a65c_grow_92f84 10 = .ok (.aload_n 0, 1) := by decide +kernel
theorem dJx4a65c_grow_92f84_11 : decode cJx4a65c_grow_92f84 11 = .ok (.getfield 9, 3) := by decide +kernel
theorem dJx4a65c_grow_92f84_14 : decode cJx4a65c_grow_92f84 14 = .ok (.getstatic 39, 3) := by decide +kernel
theorem dJx4a65c_grow_92f84_17 : decode cJx4a65c_grow_92f84 17 = .ok (.if_acmp .eq 28, 3) := by decide +kernel
theorem dJx4a65c_grow_92f84_45 : decode cJx4a65c_grow_92f84 45 = .ok (.aload_n 0, 1) := by decide +kernel
theorem dJx4a65c_grow_92f84_46 : decode cJx4a65c_grow_92f84 46 = .ok (.bipush 10, 2) := by decide +kernel
theorem dJx4a65c_grow_92f84_48 : decode cJx4a65c_grow_92f84 48 = .ok (.iload_n 1, 1) := by decide +kernel
theorem dJx4a65c_grow_92f84_49 : decode cJx4a65c_grow_92f84 49 = .ok (.invokestatic 79, 3) := by decide +kernel
theorem dJx4a65c_grow_92f84_52 : decode cJx4a65c_grow_92f84 52 = .ok (.anewarray 7, 3) := by decide +kernel
theorem dJx4a65c_grow_92f84_55 : decode cJx4a65c_grow_92f84 55 = .ok (.dup_x1, 1) := by decide +kernel
theorem dJx4a65c_grow_92f84_56 : decode cJx4a65c_grow_92f84 56 = .ok (.putfield 9, 3) := by decide +kernel
theorem dJx4a65c_grow_92f84_59 : decode cJx4a65c_grow_92f84 59 = .ok (.areturn, 1) := by decide +kernel
def v_Jx4a65c_grow_92f84 (zE : Nat) (a0 : Nat) (p1 : Int32) (T : zT) (F : zF) (Post : Nat → zT → zF → Prop) : Prop :=
  (T a0 = some (0, 3) ∧ ∃ x3 : Nat, F a0 1 = .ref x3 ∧ ∃ n4 : Nat, T x3 = some (101, n4) ∧ ((0 < (nI n4) → (v_J8_newLength_cabcc (nI n4) (p1 - (nI n4)) ((nI n4) >>> (1 &&& 31)) T F (fun (r6 : Int32) => (v_J7_copyOf_1904c x3 r6 T F (fun (r7 : Nat) (T8 : zT) (F9 : zF) => (T8 a0 = some (0, 3) ∧ Post r7 T8 (zu F9 a0 1 (.ref r7)))))))) ∧ (¬ 0 < (nI n4) → (((some x3 : Option Nat) = some zE → ((if (10 : Int32) < p1 then p1 else (10 : Int32)) = 10 ∧ (∀ q18 : Nat, (∀ b, q18 ≤ b → T b = none) → (zn T q18 (101, 10) a0 = some (0, 3) ∧ Post q18 (zn T q18 (101, 10)) (zu (zm F q18 (fun _ => .null)) a0 1 (.ref q18)))))) ∧ (¬ (some x3 : Option Nat) = some zE → (v_J8_newLength_cabcc (nI n4) (p1 - (nI n4)) ((nI n4) >>> (1 &&& 31)) T F (fun (r21 : Int32) => (v_J7_copyOf_1904c x3 r21 T F (fun (r22 : Nat) (T23 : zT) (F24 : zF) => (T23 a0 = some (0, 3) ∧ Post r22 T23 (zu F24 a0 1 (.ref r22))))))))))))
set_option maxRecDepth 100000 in
set_option maxHeartbeats 4000000 in
theorem k_Jx4a65c_grow_92f84 {l : Launch} {D : va_G} {cA : Nat → ClassId} {N0 zE : Nat} {a0 : Nat} {p1 : Int32} {T : zT} {F : zF} {Post : Nat → zT → zF → Prop} (h : v_Jx4a65c_grow_92f84 zE a0 p1 T F Post) : z_Mt l D cA N0 zE yJx4a65c_grow_92f84 cJx4a65c_grow_92f84 4 (some (.array (.object "java/lang/Object"))) ({ frames := 3, cells := 2, slots := 50, locals := 76 } : Room) [.ref a0, .int p1] T F (fun v T' F' => ∃ r : Nat, v = some (.ref r) ∧ Post r T' F') := by
  unfold v_Jx4a65c_grow_92f84 at h
  refine z_bodyT (by decide) (Nat.le_of_ble_eq_true rfl) ?_
  intro p e s m args below meth c C hnm
  have C : z_C p l s m args meth c RJx4a65c cJx4a65c_grow_92f84 4 (some (.array (.object "java/lang/Object"))) D cA N0 zE := C
  show z_w p l e ({ frames := 3, cells := 2, slots := 50, locals := 76 } : Room) s m args below meth c D cA N0 4 0 0 (MQ below (z_Qc D cA N0 (fun v T' F' => ∃ r : Nat, v = some (.ref r) ∧ Post r T' F')) args s 2 50 (fun q => N0 ≤ q)) 0 [(0, .ref a0), (1, .int p1)] [] T F
  refine zr_aload_n C 0 dJx4a65c_grow_92f84_0 rfl rfl ?_
  obtain ⟨hT1, x3, hv2, h⟩ := h
  refine zr_get C fl_Jx4a65c_9 hT1 hv2 dJx4a65c_grow_92f84_1 ?_
  obtain ⟨n4, hT5, h⟩ := h
  refine zr_alen C hT5 (by decide) rfl dJx4a65c_grow_92f84_4 ?_
  refine zr_istore_n C [(2, .int (nI n4)), (0, .ref a0), (1, .int p1)] dJx4a65c_grow_92f84_5 rfl (by decide) rfl ?_
  refine zr_iload_n C 0 dJx4a65c_grow_92f84_6 rfl rfl ?_
  obtain ⟨h1, h2⟩ := h
  refine zr_if_gt C 20 dJx4a65c_grow_92f84_7 (by decide) (fun hc => ?_) (fun hc => ?_)
  · have h := h1 hc
    clear h1 h2
    refine zr_iload_n C 0 dJx4a65c_grow_92f84_20 rfl rfl ?_
    refine zr_iload_n C 2 dJx4a65c_grow_92f84_21 rfl rfl ?_
    refine zr_iload_n C 0 dJx4a65c_grow_92f84_22 rfl rfl ?_
    refine zr_isub C dJx4a65c_grow_92f84_23 ?_
    refine zr_iload_n C 0 dJx4a65c_grow_92f84_24 rfl rfl ?_
    refine zr_iconst C 1 dJx4a65c_grow_92f84_25 (by decide) ?_
    refine zr_ishr C dJx4a65c_grow_92f84_26 ?_
    refine zr_callS (As := [.int (nI n4), .int (p1 - (nI n4)), .int ((nI n4) >>> (1 &&& 31))]) C (k_J8_newLength_cabcc h) ok_Jx4a65c_73 zq_226 rfl ⟨by decide, (Nat.le_of_ble_eq_true rfl)⟩ ⟨(Nat.le_of_ble_eq_true rfl), (Nat.le_of_ble_eq_true rfl)⟩ (Nat.le_of_ble_eq_true rfl) dJx4a65c_grow_92f84_27 (fun v14 U15 G16 hq => ?_)
    clear h
    · obtain ⟨r6, rfl, rfl, rfl, h⟩ := hq
      refine zr_istore_n C [(3, .int r6), (2, .int (nI n4)), (0, .ref a0), (1, .int p1)] dJx4a65c_grow_92f84_30 rfl (by decide) rfl ?_
      refine zr_aload_n C 2 dJx4a65c_grow_92f84_31 rfl rfl ?_
      refine zr_aload_n C 2 dJx4a65c_grow_92f84_32 rfl rfl ?_
      refine zr_get C fl_Jx4a65c_9 hT1 hv2 dJx4a65c_grow_92f84_33 ?_
      refine zr_iload_n C 0 dJx4a65c_grow_92f84_36 rfl rfl ?_
      refine zr_callS (As := [.ref x3, .int r6]) C (k_J7_copyOf_1904c h) ok_Jx4a65c_66 zq_236 rfl ⟨by decide, (Nat.le_of_ble_eq_true rfl)⟩ ⟨(Nat.le_of_ble_eq_true rfl), (Nat.le_of_ble_eq_true rfl)⟩ (Nat.le_of_ble_eq_true rfl) dJx4a65c_grow_92f84_37 (fun v11 U12 G13 hq => ?_)
      clear h
      · obtain ⟨r7, rfl, h⟩ := hq
        skip
        refine zr_dup_x1 C dJx4a65c_grow_92f84_40 rfl rfl ?_
        obtain ⟨hT10, h⟩ := h
        refine zr_put C fl_Jx4a65c_9 hT10 rfl rfl dJx4a65c_grow_92f84_41 ?_
        exact zr_aret C rfl (Or.inr ⟨_, rfl⟩) (Or.inr ⟨_, rfl⟩) ⟨_, rfl, h⟩ (Nat.le_of_ble_eq_true rfl) (Nat.le_of_ble_eq_true rfl) dJx4a65c_grow_92f84_44
  · have h := h2 hc
    clear h1 h2
    refine zr_aload_n C 1 dJx4a65c_grow_92f84_10 rfl rfl ?_
    refine zr_get C fl_Jx4a65c_9 hT1 hv2 dJx4a65c_grow_92f84_11 ?_
    refine zr_getsE C zq_58 dJx4a65c_grow_92f84_14 ?_
    obtain ⟨h1, h2⟩ := h
    refine zr_acmp_eq (rx := some x3) (ry := some zE) C 45 dJx4a65c_grow_92f84_17 (by decide) (fun hc => ?_) (fun hc => ?_)
    · have h := h1 hc
      clear h1 h2
      refine zr_aload_n C 1 dJx4a65c_grow_92f84_45 rfl rfl ?_
      refine zr_bipush C 10 dJx4a65c_grow_92f84_46 (by decide) ?_
      refine zr_iload_n C 2 dJx4a65c_grow_92f84_48 rfl rfl ?_
      refine zr_max C zq_263 zq_229 zq_29 zq_230 (by decide) (Nat.le_of_ble_eq_true rfl) (Nat.le_of_ble_eq_true rfl) (Nat.le_of_ble_eq_true rfl) dJx4a65c_grow_92f84_49 ?_
      obtain ⟨hz17, h⟩ := h
      refine zr_eqi hz17 ?_
      refine zr_anew (n := 10) C 1 rfl zq_264 zq_255 (by decide) (by decide) (Nat.le_of_ble_eq_true rfl) (Nat.le_of_ble_eq_true rfl) dJx4a65c_grow_92f84_52 (fun q18 hq19 => ?_)
      have h := h q18 hq19
      refine zr_dup_x1 C dJx4a65c_grow_92f84_55 rfl rfl ?_
      obtain ⟨hT20, h⟩ := h
      refine zr_put C fl_Jx4a65c_9 hT20 rfl rfl dJx4a65c_grow_92f84_56 ?_
      exact zr_aret C rfl (Or.inr ⟨_, rfl⟩) (Or.inr ⟨_, rfl⟩) ⟨_, rfl, h⟩ (Nat.le_of_ble_eq_true rfl) (Nat.le_of_ble_eq_true rfl) dJx4a65c_grow_92f84_59
    · have h := h2 hc
      clear h1 h2
      refine zr_iload_n C 0 dJx4a65c_grow_92f84_20 rfl rfl ?_
      refine zr_iload_n C 2 dJx4a65c_grow_92f84_21 rfl rfl ?_
      refine zr_iload_n C 0 dJx4a65c_grow_92f84_22 rfl rfl ?_
      refine zr_isub C dJx4a65c_grow_92f84_23 ?_
      refine zr_iload_n C 0 dJx4a65c_grow_92f84_24 rfl rfl ?_
      refine zr_iconst C 1 dJx4a65c_grow_92f84_25 (by decide) ?_
      refine zr_ishr C dJx4a65c_grow_92f84_26 ?_
      refine zr_callS (As := [.int (nI n4), .int (p1 - (nI n4)), .int ((nI n4) >>> (1 &&& 31))]) C (k_J8_newLength_cabcc h) ok_Jx4a65c_73 zq_226 rfl ⟨by decide, (Nat.le_of_ble_eq_true rfl)⟩ ⟨(Nat.le_of_ble_eq_true rfl), (Nat.le_of_ble_eq_true rfl)⟩ (Nat.le_of_ble_eq_true rfl) dJx4a65c_grow_92f84_27 (fun v29 U30 G31 hq => ?_)
      clear h
      · obtain ⟨r21, rfl, rfl, rfl, h⟩ := hq
        refine zr_istore_n C [(3, .int r21), (2, .int (nI n4)), (0, .ref a0), (1, .int p1)] dJx4a65c_grow_92f84_30 rfl (by decide) rfl ?_
        refine zr_aload_n C 2 dJx4a65c_grow_92f84_31 rfl rfl ?_
        refine zr_aload_n C 2 dJx4a65c_grow_92f84_32 rfl rfl ?_
        refine zr_get C fl_Jx4a65c_9 hT1 hv2 dJx4a65c_grow_92f84_33 ?_
        refine zr_iload_n C 0 dJx4a65c_grow_92f84_36 rfl rfl ?_
        refine zr_callS (As := [.ref x3, .int r21]) C (k_J7_copyOf_1904c h) ok_Jx4a65c_66 zq_236 rfl ⟨by decide, (Nat.le_of_ble_eq_true rfl)⟩ ⟨(Nat.le_of_ble_eq_true rfl), (Nat.le_of_ble_eq_true rfl)⟩ (Nat.le_of_ble_eq_true rfl) dJx4a65c_grow_92f84_37 (fun v26 U27 G28 hq => ?_)
        clear h
        · obtain ⟨r22, rfl, h⟩ := hq
          skip
          refine zr_dup_x1 C dJx4a65c_grow_92f84_40 rfl rfl ?_
          obtain ⟨hT25, h⟩ := h
          refine zr_put C fl_Jx4a65c_9 hT25 rfl rfl dJx4a65c_grow_92f84_41 ?_
          exact zr_aret C rfl (Or.inr ⟨_, rfl⟩) (Or.inr ⟨_, rfl⟩) ⟨_, rfl, h⟩ (Nat.le_of_ble_eq_true rfl) (Nat.le_of_ble_eq_true rfl) dJx4a65c_grow_92f84_44
theorem dJx4a65c_grow_d5877_0 : decode cJx4a65c_grow_d5877 0 = .ok (.aload_n 0, 1) := by decide +kernel
theorem dJx4a65c_grow_d5877_1 : decode cJx4a65c_grow_d5877 1 = .ok (.aload_n 0, 1) := by decide +kernel
theorem dJx4a65c_grow_d5877_2 : decode cJx4a65c_grow_d5877 2 = .ok (.getfield 48, 3) := by decide +kernel
theorem dJx4a65c_grow_d5877_5 : decode cJx4a65c_grow_d5877 5 = .ok (.iconst 1, 1) := by decide +kernel
theorem dJx4a65c_grow_d5877_6 : decode cJx4a65c_grow_d5877 6 = .ok (.iadd, 1) := by decide +kernel
theorem dJx4a65c_grow_d5877_10 : decode cJx4a65c_grow_d5877 10 = .ok (.areturn, 1) := by decide +kernel
theorem dJx4a65c_grow_d5877_7 : decode cJx4a65c_grow_d5877 7 = .ok (.invokevirtual 69, 3) := by decide +kernel
def v_Jx4a65c_grow_d5877 (zE : Nat) (a0 : Nat) (T : zT) (F : zF) (Post : Nat → zT → zF → Prop) : Prop :=
  (T a0 = some (0, 3) ∧ ∃ x3 : Int32, F a0 2 = .int x3 ∧ (v_Jx4a65c_grow_92f84 zE a0 (x3 + 1) T F (fun (r4 : Nat) (T5 : zT) (F6 : zF) => Post r4 T5 F6)))
set_option maxRecDepth 100000 in
set_option maxHeartbeats 4000000 in
theorem k_Jx4a65c_grow_d5877 {l : Launch} {D : va_G} {cA : Nat → ClassId} {N0 zE : Nat} {a0 : Nat} {T : zT} {F : zF} {Post : Nat → zT → zF → Prop} (h : v_Jx4a65c_grow_d5877 zE a0 T F Post) : z_Mt l D cA N0 zE yJx4a65c_grow_d5877 cJx4a65c_grow_d5877 1 (some (.array (.object "java/lang/Object"))) ({ frames := 4, cells := 2, slots := 50, locals := 99 } : Room) [.ref a0] T F (fun v T' F' => ∃ r : Nat, v = some (.ref r) ∧ Post r T' F') := by
  unfold v_Jx4a65c_grow_d5877 at h
  refine z_bodyT (by decide) (Nat.le_of_ble_eq_true rfl) ?_
  intro p e s m args below meth c C hnm
  have C : z_C p l s m args meth c RJx4a65c cJx4a65c_grow_d5877 1 (some (.array (.object "java/lang/Object"))) D cA N0 zE := C
  show z_w p l e ({ frames := 4, cells := 2, slots := 50, locals := 99 } : Room) s m args below meth c D cA N0 1 0 0 (MQ below (z_Qc D cA N0 (fun v T' F' => ∃ r : Nat, v = some (.ref r) ∧ Post r T' F')) args s 2 50 (fun q => N0 ≤ q)) 0 [(0, .ref a0)] [] T F
  refine zr_aload_n C 0 dJx4a65c_grow_d5877_0 rfl rfl ?_
  refine zr_aload_n C 0 dJx4a65c_grow_d5877_1 rfl rfl ?_
  obtain ⟨hT1, x3, hv2, h⟩ := h
  refine zr_get C fl_Jx4a65c_48 hT1 hv2 dJx4a65c_grow_d5877_2 ?_
  refine zr_iconst C 1 dJx4a65c_grow_d5877_5 (by decide) ?_
  refine zr_iadd C dJx4a65c_grow_d5877_6 ?_
  refine zr_callV (As := [.int (x3 + 1)]) (r := (RJx4a65c, TJx4a65c, 3)) C (k_Jx4a65c_grow_92f84 h) ok_Jx4a65c_69 zq_223 zq_3 hT1 (by decide) rfl rfl ⟨by decide, (Nat.le_of_ble_eq_true rfl)⟩ ⟨(Nat.le_of_ble_eq_true rfl), (Nat.le_of_ble_eq_true rfl)⟩ (Nat.le_of_ble_eq_true rfl) dJx4a65c_grow_d5877_7 (fun v7 U8 G9 hq => ?_)
  clear h
  · obtain ⟨r4, rfl, h⟩ := hq
    skip
    exact zr_aret C rfl (Or.inr ⟨_, rfl⟩) (Or.inr ⟨_, rfl⟩) ⟨_, rfl, h⟩ (Nat.le_of_ble_eq_true rfl) (Nat.le_of_ble_eq_true rfl) dJx4a65c_grow_d5877_10
theorem dJx4a65c_add_72be8_0 : decode cJx4a65c_add_72be8 0 = .ok (.iload_n 3, 1) := by decide +kernel
theorem dJx4a65c_add_72be8_1 : decode cJx4a65c_add_72be8 1 = .ok (.aload_n 2, 1) := by decide +kernel
theorem dJx4a65c_add_72be8_2 : decode cJx4a65c_add_72be8 2 = .ok (.arraylength, 1) := by decide +kernel
theorem dJx4a65c_add_72be8_3 : decode cJx4a65c_add_72be8 3 = .ok (.if_icmp .ne 8, 3) := by decide +kernel
theorem dJx4a65c_add_72be8_11 : decode cJx4a65c_add_72be8 11 = .ok (.aload_n 2, 1) := by decide +kernel
theorem dJx4a65c_add_72be8_12 : decode cJx4a65c_add_72be8 12 = .ok (.iload_n 3, 1) := by decide +kernel
theorem dJx4a65c_add_72be8_13 : decode cJx4a65c_add_72be8 13 = .ok (.aload_n 1, 1) := by decide +kernel
theorem dJx4a65c_add_72be8_14 : decode cJx4a65c_add_72be8 14 = .ok (.aastore, 1) := by decide +kernel
theorem dJx4a65c_add_72be8_15 : decode cJx4a65c_add_72be8 15 = .ok (.aload_n 0, 1) := by decide +kernel
theorem dJx4a65c_add_72be8_16 : decode cJx4a65c_add_72be8 16 = .ok (.iload_n 3, 1) := by decide +kernel
theorem dJx4a65c_add_72be8_17 : decode cJx4a65c_add_72be8 17 = .ok (.iconst 1, 1) := by decide +kernel
theorem dJx4a65c_add_72be8_18 : decode cJx4a65c_add_72be8 18 = .ok (.iadd, 1) := by decide +kernel
theorem dJx4a65c_add_72be8_19 : decode cJx4a65c_add_72be8 19 = .ok (.putfield 48, 3) := by decide +kernel
theorem dJx4a65c_add_72be8_22 : decode cJx4a65c_add_72be8 22 = .ok (.return_, 1) := by decide +kernel
theorem dJx4a65c_add_72be8_6 : decode cJx4a65c_add_72be8 6 = .ok (.aload_n 0, 1) := by decide +kernel
theorem dJx4a65c_add_72be8_10 : decode cJx4a65c_add_72be8 10 = .ok (.astore_n 2, 1) := by decide +kernel
theorem dJx4a65c_add_72be8_7 : decode cJx4a65c_add_72be8 7 = .ok (.invokevirtual 129, 3) := by decide +kernel
def v_Jx4a65c_add_72be8 (zE : Nat) (a0 : Nat) (a1 : Nat) (a2 : Nat) (p3 : Int32) (T : zT) (F : zF) (Post : zT → zF → Prop) : Prop :=
  (∃ n1 : Nat, T a2 = some (101, n1) ∧ ((¬ p3 = (nI n1) → (vp_in p3 n1 ∧ z_ob T a1 ∧ T a0 = some (0, 3) ∧ Post T (zu (zu F a2 (p3).toNatClampNeg (.ref a1)) a0 2 (.int (p3 + 1))))) ∧ (p3 = (nI n1) → (T a0 = some (0, 3) ∧ (v_Jx4a65c_grow_d5877 zE a0 T F (fun (r9 : Nat) (T10 : zT) (F11 : zF) => (∃ n12 : Nat, T10 r9 = some (101, n12) ∧ vp_in p3 n12 ∧ z_ob T10 a1 ∧ T10 a0 = some (0, 3) ∧ Post T10 (zu (zu F11 r9 (p3).toNatClampNeg (.ref a1)) a0 2 (.int (p3 + 1))))))))))
set_option maxRecDepth 100000 in
set_option maxHeartbeats 4000000 in
theorem k_Jx4a65c_add_72be8 {l : Launch} {D : va_G} {cA : Nat → ClassId} {N0 zE : Nat} {a0 : Nat} {a1 : Nat} {a2 : Nat} {p3 : Int32} {T : zT} {F : zF} {Post : zT → zF → Prop} (h : v_Jx4a65c_add_72be8 zE a0 a1 a2 p3 T F Post) : z_Mt l D cA N0 zE yJx4a65c_add_72be8 cJx4a65c_add_72be8 4 none ({ frames := 5, cells := 2, slots := 50, locals := 119 } : Room) [.ref a0, .ref a1, .ref a2, .int p3] T F (fun v T' F' => v = none ∧ Post T' F') := by
  unfold v_Jx4a65c_add_72be8 at h
  refine z_bodyT (by decide) (Nat.le_of_ble_eq_true rfl) ?_
  intro p e s m args below meth c C hnm
  have C : z_C p l s m args meth c RJx4a65c cJx4a65c_add_72be8 4 none D cA N0 zE := C
  show z_w p l e ({ frames := 5, cells := 2, slots := 50, locals := 119 } : Room) s m args below meth c D cA N0 4 0 0 (MQ below (z_Qc D cA N0 (fun v T' F' => v = none ∧ Post T' F')) args s 2 50 (fun q => N0 ≤ q)) 0 [(0, .ref a0), (1, .ref a1), (2, .ref a2), (3, .int p3)] [] T F
  refine zr_iload_n C 3 dJx4a65c_add_72be8_0 rfl rfl ?_
  refine zr_aload_n C 2 dJx4a65c_add_72be8_1 rfl rfl ?_
  obtain ⟨n1, hT2, h⟩ := h
  refine zr_alen C hT2 (by decide) rfl dJx4a65c_add_72be8_2 ?_
  obtain ⟨h1, h2⟩ := h
  refine zr_icmp_ne C 11 dJx4a65c_add_72be8_3 (by decide) (fun hc => ?_) (fun hc => ?_)
  · have h := h1 hc
    clear h1 h2
    refine zr_aload_n C 2 dJx4a65c_add_72be8_11 rfl rfl ?_
    refine zr_iload_n C 3 dJx4a65c_add_72be8_12 rfl rfl ?_
    refine zr_aload_n C 1 dJx4a65c_add_72be8_13 rfl rfl ?_
    obtain ⟨hi3, h⟩ := h
    obtain ⟨ho6, h⟩ := h
    obtain ⟨ci9, n9, r9, ho1, ho2, ho3, ho4⟩ := ho6
    refine zr_aastO C rfl hT2 hi3 ho1 ho2 ho3 ho4 dJx4a65c_add_72be8_14 ?_
    refine zr_aload_n C 0 dJx4a65c_add_72be8_15 rfl rfl ?_
    refine zr_iload_n C 3 dJx4a65c_add_72be8_16 rfl rfl ?_
    refine zr_iconst C 1 dJx4a65c_add_72be8_17 (by decide) ?_
    refine zr_iadd C dJx4a65c_add_72be8_18 ?_
    obtain ⟨hT7, h⟩ := h
    refine zr_put C fl_Jx4a65c_48 hT7 rfl rfl dJx4a65c_add_72be8_19 ?_
    exact zr_vret C rfl ⟨rfl, h⟩ (Nat.le_of_ble_eq_true rfl) (Nat.le_of_ble_eq_true rfl) dJx4a65c_add_72be8_22
  · have h := h2 hc
    clear h1 h2
    refine zr_aload_n C 0 dJx4a65c_add_72be8_6 rfl rfl ?_
    obtain ⟨hT8, h⟩ := h
    refine zr_callV (As := []) (r := (RJx4a65c, TJx4a65c, 3)) C (k_Jx4a65c_grow_d5877 h) ok_Jx4a65c_129 zq_219 zq_2 hT8 (by decide) rfl rfl ⟨by decide, (Nat.le_of_ble_eq_true rfl)⟩ ⟨(Nat.le_of_ble_eq_true rfl), (Nat.le_of_ble_eq_true rfl)⟩ (Nat.le_of_ble_eq_true rfl) dJx4a65c_add_72be8_7 (fun v19 U20 G21 hq => ?_)
    clear h
    · obtain ⟨r9, rfl, h⟩ := hq
      skip
      refine zr_astore_n C [(2, .ref r9), (0, .ref a0), (1, .ref a1), (3, .int p3)] dJx4a65c_add_72be8_10 rfl (by decide) rfl ?_
      refine zr_aload_n C 0 dJx4a65c_add_72be8_11 rfl rfl ?_
      refine zr_iload_n C 3 dJx4a65c_add_72be8_12 rfl rfl ?_
      refine zr_aload_n C 2 dJx4a65c_add_72be8_13 rfl rfl ?_
      obtain ⟨n12, hT13, hi14, h⟩ := h
      obtain ⟨ho17, h⟩ := h
      obtain ⟨ci9, n9, r9, ho1, ho2, ho3, ho4⟩ := ho17
      refine zr_aastO C rfl hT13 hi14 ho1 ho2 ho3 ho4 dJx4a65c_add_72be8_14 ?_
      refine zr_aload_n C 1 dJx4a65c_add_72be8_15 rfl rfl ?_
      refine zr_iload_n C 3 dJx4a65c_add_72be8_16 rfl rfl ?_
      refine zr_iconst C 1 dJx4a65c_add_72be8_17 (by decide) ?_
      refine zr_iadd C dJx4a65c_add_72be8_18 ?_
      obtain ⟨hT18, h⟩ := h
      refine zr_put C fl_Jx4a65c_48 hT18 rfl rfl dJx4a65c_add_72be8_19 ?_
      exact zr_vret C rfl ⟨rfl, h⟩ (Nat.le_of_ble_eq_true rfl) (Nat.le_of_ble_eq_true rfl) dJx4a65c_add_72be8_22
theorem dJx4a65c_add_9ea2d_0 : decode cJx4a65c_add_9ea2d 0 = .ok (.aload_n 0, 1) := by decide +kernel
theorem dJx4a65c_add_9ea2d_1 : decode cJx4a65c_add_9ea2d 1 = .ok (.dup, 1) := by decide +kernel
theorem dJx4a65c_add_9ea2d_2 : decode cJx4a65c_add_9ea2d 2 = .ok (.getfield 63, 3) := by decide +kernel
theorem dJx4a65c_add_9ea2d_5 : decode cJx4a65c_add_9ea2d 5 = .ok (.iconst 1, 1) := by decide +kernel
theorem dJx4a65c_add_9ea2d_6 : decode cJx4a65c_add_9ea2d 6 = .ok (.iadd, 1) := by decide +kernel
theorem dJx4a65c_add_9ea2d_7 : decode cJx4a65c_add_9ea2d 7 = .ok (.putfield 63, 3) := by decide +kernel
theorem dJx4a65c_add_9ea2d_10 : decode cJx4a65c_add_9ea2d 10 = .ok (.aload_n 0, 1) := by decide +kernel
theorem dJx4a65c_add_9ea2d_11 : decode cJx4a65c_add_9ea2d 11 = .ok (.aload_n 1, 1) := by decide +kernel
theorem dJx4a65c_add_9ea2d_12 : decode cJx4a65c_add_9ea2d 12 = .ok (.aload_n 0, 1) := by decide +kernel
theorem dJx4a65c_add_9ea2d_13 : decode cJx4a65c_add_9ea2d 13 = .ok (.getfield 9, 3) := by decide +kernel
theorem dJx4a65c_add_9ea2d_16 : decode cJx4a65c_add_9ea2d 16 = .ok (.aload_n 0, 1) := by decide +kernel
theorem dJx4a65c_add_9ea2d_17 : decode cJx4a65c_add_9ea2d 17 = .ok (.getfield 48, 3) := by decide +kernel
theorem dJx4a65c_add_9ea2d_23 : decode cJx4a65c_add_9ea2d 23 = .ok (.iconst 1, 1) := by decide +kernel
theorem dJx4a65c_add_9ea2d_24 : decode cJx4a65c_add_9ea2d 24 = .ok (.ireturn, 1) := by decide +kernel
theorem dJx4a65c_add_9ea2d_20 : decode cJx4a65c_add_9ea2d 20 = .ok (.invokevirtual 131, 3) := by decide +kernel
def v_Jx4a65c_add_9ea2d (zE : Nat) (a0 : Nat) (a1 : Nat) (T : zT) (F : zF) (Post : Int32 → zT → zF → Prop) : Prop :=
  (T a0 = some (0, 3) ∧ ∃ x3 : Int32, F a0 0 = .int x3 ∧ ∃ x5 : Nat, (zu F a0 0 (.int (x3 + 1))) a0 1 = .ref x5 ∧ ∃ x7 : Int32, (zu F a0 0 (.int (x3 + 1))) a0 2 = .int x7 ∧ (v_Jx4a65c_add_72be8 zE a0 a1 x5 x7 T (zu F a0 0 (.int (x3 + 1))) (fun (T8 : zT) (F9 : zF) => Post 1 T8 F9)))
set_option maxRecDepth 100000 in
set_option maxHeartbeats 4000000 in
theorem k_Jx4a65c_add_9ea2d {l : Launch} {D : va_G} {cA : Nat → ClassId} {N0 zE : Nat} {a0 : Nat} {a1 : Nat} {T : zT} {F : zF} {Post : Int32 → zT → zF → Prop} (h : v_Jx4a65c_add_9ea2d zE a0 a1 T F Post) : z_Mt l D cA N0 zE yJx4a65c_add_9ea2d cJx4a65c_add_9ea2d 2 (some .boolean) ({ frames := 6, cells := 2, slots := 50, locals := 142 } : Room) [.ref a0, .ref a1] T F (fun v T' F' => ∃ r : Int32, v = some (.int r) ∧ Post r T' F') := by
  unfold v_Jx4a65c_add_9ea2d at h
  refine z_bodyT (by decide) (Nat.le_of_ble_eq_true rfl) ?_
  intro p e s m args below meth c C hnm
  have C : z_C p l s m args meth c RJx4a65c cJx4a65c_add_9ea2d 2 (some .boolean) D cA N0 zE := C
  show z_w p l e ({ frames := 6, cells := 2, slots := 50, locals := 142 } : Room) s m args below meth c D cA N0 2 0 0 (MQ below (z_Qc D cA N0 (fun v T' F' => ∃ r : Int32, v = some (.int r) ∧ Post r T' F')) args s 2 50 (fun q => N0 ≤ q)) 0 [(0, .ref a0), (1, .ref a1)] [] T F
  refine zr_aload_n C 0 dJx4a65c_add_9ea2d_0 rfl rfl ?_
  refine zr_dup C dJx4a65c_add_9ea2d_1 rfl ?_
  obtain ⟨hT1, x3, hv2, h⟩ := h
  refine zr_get C fl_Jx4a65c_63 hT1 hv2 dJx4a65c_add_9ea2d_2 ?_
  refine zr_iconst C 1 dJx4a65c_add_9ea2d_5 (by decide) ?_
  refine zr_iadd C dJx4a65c_add_9ea2d_6 ?_
  refine zr_put C fl_Jx4a65c_63 hT1 rfl rfl dJx4a65c_add_9ea2d_7 ?_
  refine zr_aload_n C 0 dJx4a65c_add_9ea2d_10 rfl rfl ?_
  refine zr_aload_n C 1 dJx4a65c_add_9ea2d_11 rfl rfl ?_
  refine zr_aload_n C 0 dJx4a65c_add_9ea2d_12 rfl rfl ?_
  obtain ⟨x5, hv4, h⟩ := h
  refine zr_get C fl_Jx4a65c_9 hT1 hv4 dJx4a65c_add_9ea2d_13 ?_
  refine zr_aload_n C 0 dJx4a65c_add_9ea2d_16 rfl rfl ?_
  obtain ⟨x7, hv6, h⟩ := h
  refine zr_get C fl_Jx4a65c_48 hT1 hv6 dJx4a65c_add_9ea2d_17 ?_
  refine zr_callV (As := [.ref a1, .ref x5, .int x7]) (r := (RJx4a65c, TJx4a65c, 3)) C (k_Jx4a65c_add_72be8 h) ok_Jx4a65c_131 zq_215 zq_1 hT1 (by decide) rfl rfl ⟨by decide, (Nat.le_of_ble_eq_true rfl)⟩ ⟨(Nat.le_of_ble_eq_true rfl), (Nat.le_of_ble_eq_true rfl)⟩ (Nat.le_of_ble_eq_true rfl) dJx4a65c_add_9ea2d_20 (fun v10 U11 G12 hq => ?_)
  clear h
  · obtain ⟨rfl, h⟩ := hq
    skip
    refine zr_iconst C 1 dJx4a65c_add_9ea2d_23 (by decide) ?_
    exact zr_zret C rfl (Or.inr rfl) ⟨_, rfl, h⟩ (Nat.le_of_ble_eq_true rfl) (Nat.le_of_ble_eq_true rfl) dJx4a65c_add_9ea2d_24
theorem dJ3_checkIndex_8e157_0 : decode cJ3_checkIndex_8e157 0 = .ok (.iload_n 0, 1) := by decide +kernel
theorem dJ3_checkIndex_8e157_1 : decode cJ3_checkIndex_8e157 1 = .ok (.ifCond .lt 8, 3) := by decide +kernel
theorem dJ3_checkIndex_8e157_4 : decode cJ3_checkIndex_8e157 4 = .ok (.iload_n 0, 1) := by decide +kernel
theorem dJ3_checkIndex_8e157_5 : decode cJ3_checkIndex_8e157 5 = .ok (.iload_n 1, 1) := by decide +kernel
theorem dJ3_checkIndex_8e157_6 : decode cJ3_checkIndex_8e157 6 = .ok (.if_icmp .lt 10, 3) := by decide +kernel
theorem dJ3_checkIndex_8e157_16 : decode cJ3_checkIndex_8e157 16 = .ok (.iload_n 0, 1) := by decide +kernel
theorem dJ3_checkIndex_8e157_17 : decode cJ3_checkIndex_8e157 17 = .ok (.ireturn, 1) := by decide +kernel
def v_J3_checkIndex_8e157 (p0 : Int32) (p1 : Int32) (T : zT) (F : zF) (Post : Int32 → Prop) : Prop :=
  ((p0 < 0 → False) ∧ (¬ p0 < 0 → ((p0 < p1 → Post p0) ∧ (¬ p0 < p1 → False))))
set_option maxRecDepth 100000 in
set_option maxHeartbeats 4000000 in
theorem k_J3_checkIndex_8e157 {l : Launch} {D : va_G} {cA : Nat → ClassId} {N0 zE : Nat} {p0 : Int32} {p1 : Int32} {T : zT} {F : zF} {Post : Int32 → Prop} (h : v_J3_checkIndex_8e157 p0 p1 T F Post) : z_Mt l D cA N0 zE yJ3_checkIndex_8e157 cJ3_checkIndex_8e157 3 (some .int) ({ frames := 0, cells := 0, slots := 0, locals := 0 } : Room) [.int p0, .int p1, .null] T F (fun v T' F' => ∃ r : Int32, v = some (.int r) ∧ T = T' ∧ F = F' ∧ Post r) := by
  unfold v_J3_checkIndex_8e157 at h
  refine z_bodyT (by decide) (Nat.le_of_ble_eq_true rfl) ?_
  intro p e s m args below meth c C hnm
  have C : z_C p l s m args meth c RJ3 cJ3_checkIndex_8e157 3 (some .int) D cA N0 zE := C
  show z_w p l e ({ frames := 0, cells := 0, slots := 0, locals := 0 } : Room) s m args below meth c D cA N0 3 0 0 (MQ below (z_Qc D cA N0 (fun v T' F' => ∃ r : Int32, v = some (.int r) ∧ T = T' ∧ F = F' ∧ Post r)) args s 0 0 (fun q => N0 ≤ q)) 0 [(0, .int p0), (1, .int p1), (2, .null)] [] T F
  refine zr_iload_n C 0 dJ3_checkIndex_8e157_0 rfl rfl ?_
  obtain ⟨h1, h2⟩ := h
  refine zr_if_lt C 9 dJ3_checkIndex_8e157_1 (by decide) (fun hc => ?_) (fun hc => ?_)
  · have h := h1 hc
    clear h1 h2
    exact h.elim
  · have h := h2 hc
    clear h1 h2
    refine zr_iload_n C 0 dJ3_checkIndex_8e157_4 rfl rfl ?_
    refine zr_iload_n C 1 dJ3_checkIndex_8e157_5 rfl rfl ?_
    obtain ⟨h1, h2⟩ := h
    refine zr_icmp_lt C 16 dJ3_checkIndex_8e157_6 (by decide) (fun hc => ?_) (fun hc => ?_)
    · have h := h1 hc
      clear h1 h2
      refine zr_iload_n C 0 dJ3_checkIndex_8e157_16 rfl rfl ?_
      exact zr_iret C rfl ⟨_, rfl, rfl, rfl, h⟩ (Nat.le_of_ble_eq_true rfl) (Nat.le_of_ble_eq_true rfl) dJ3_checkIndex_8e157_17
    · have h := h2 hc
      clear h1 h2
      exact h.elim
theorem dJ15_checkIndex_7cf53_0 : decode cJ15_checkIndex_7cf53 0 = .ok (.iload_n 0, 1) := by decide +kernel
theorem dJ15_checkIndex_7cf53_1 : decode cJ15_checkIndex_7cf53 1 = .ok (.iload_n 1, 1) := by decide +kernel
theorem dJ15_checkIndex_7cf53_2 : decode cJ15_checkIndex_7cf53 2 = .ok (.aconst_null, 1) := by decide +kernel
theorem dJ15_checkIndex_7cf53_6 : decode cJ15_checkIndex_7cf53 6 = .ok (.ireturn, 1) := by decide +kernel
theorem dJ15_checkIndex_7cf53_3 : decode cJ15_checkIndex_7cf53 3 = .ok (.invokestatic 105, 3) := by decide +kernel
def v_J15_checkIndex_7cf53 (p0 : Int32) (p1 : Int32) (T : zT) (F : zF) (Post : Int32 → Prop) : Prop :=
  (v_J3_checkIndex_8e157 p0 p1 T F (fun (r1 : Int32) => Post r1))
set_option maxRecDepth 100000 in
set_option maxHeartbeats 4000000 in
theorem k_J15_checkIndex_7cf53 {l : Launch} {D : va_G} {cA : Nat → ClassId} {N0 zE : Nat} {p0 : Int32} {p1 : Int32} {T : zT} {F : zF} {Post : Int32 → Prop} (h : v_J15_checkIndex_7cf53 p0 p1 T F Post) : z_Mt l D cA N0 zE yJ15_checkIndex_7cf53 cJ15_checkIndex_7cf53 2 (some .int) ({ frames := 1, cells := 0, slots := 0, locals := 22 } : Room) [.int p0, .int p1] T F (fun v T' F' => ∃ r : Int32, v = some (.int r) ∧ T = T' ∧ F = F' ∧ Post r) := by
  unfold v_J15_checkIndex_7cf53 at h
  refine z_bodyT (by decide) (Nat.le_of_ble_eq_true rfl) ?_
  intro p e s m args below meth c C hnm
  have C : z_C p l s m args meth c RJ15 cJ15_checkIndex_7cf53 2 (some .int) D cA N0 zE := C
  show z_w p l e ({ frames := 1, cells := 0, slots := 0, locals := 22 } : Room) s m args below meth c D cA N0 2 0 0 (MQ below (z_Qc D cA N0 (fun v T' F' => ∃ r : Int32, v = some (.int r) ∧ T = T' ∧ F = F' ∧ Post r)) args s 0 0 (fun q => N0 ≤ q)) 0 [(0, .int p0), (1, .int p1)] [] T F
  refine zr_iload_n C 0 dJ15_checkIndex_7cf53_0 rfl rfl ?_
  refine zr_iload_n C 1 dJ15_checkIndex_7cf53_1 rfl rfl ?_
  refine zr_null C dJ15_checkIndex_7cf53_2 ?_
  refine zr_callS (As := [.int p0, .int p1, .null]) C (k_J3_checkIndex_8e157 h) ok_J15_105 zq_297 rfl ⟨by decide, (Nat.le_of_ble_eq_true rfl)⟩ ⟨(Nat.le_of_ble_eq_true rfl), (Nat.le_of_ble_eq_true rfl)⟩ (Nat.le_of_ble_eq_true rfl) dJ15_checkIndex_7cf53_3 (fun v2 U3 G4 hq => ?_)
  clear h
  · obtain ⟨r1, rfl, rfl, rfl, h⟩ := hq
    exact zr_iret C rfl ⟨_, rfl, rfl, rfl, h⟩ (Nat.le_of_ble_eq_true rfl) (Nat.le_of_ble_eq_true rfl) dJ15_checkIndex_7cf53_6
theorem dJx4a65c_elementData_915e3_0 : decode cJx4a65c_elementData_915e3 0 = .ok (.aload_n 0, 1) := by decide +kernel
theorem dJx4a65c_elementData_915e3_1 : decode cJx4a65c_elementData_915e3 1 = .ok (.getfield 9, 3) := by decide +kernel
theorem dJx4a65c_elementData_915e3_4 : decode cJx4a65c_elementData_915e3 4 = .ok (.iload_n 1, 1) := by decide +kernel
theorem dJx4a65c_elementData_915e3_5 : decode cJx4a65c_elementData_915e3 5 = .ok (.aaload, 1) := by decide +kernel
theorem dJx4a65c_elementData_915e3_6 : decode cJx4a65c_elementData_915e3 6 = .ok (.areturn, 1) := by decide +kernel
def v_Jx4a65c_elementData_915e3 (a0 : Nat) (p1 : Int32) (T : zT) (F : zF) (Post : Nat → Prop) : Prop :=
  (T a0 = some (0, 3) ∧ ∃ x3 : Nat, F a0 1 = .ref x3 ∧ ∃ n4 : Nat, T x3 = some (101, n4) ∧ vp_in p1 n4 ∧ ∃ x7 : Nat, F x3 (p1).toNatClampNeg = .ref x7 ∧ Post x7)
set_option maxRecDepth 100000 in
set_option maxHeartbeats 4000000 in
theorem k_Jx4a65c_elementData_915e3 {l : Launch} {D : va_G} {cA : Nat → ClassId} {N0 zE : Nat} {a0 : Nat} {p1 : Int32} {T : zT} {F : zF} {Post : Nat → Prop} (h : v_Jx4a65c_elementData_915e3 a0 p1 T F Post) : z_Mt l D cA N0 zE yJx4a65c_elementData_915e3 cJx4a65c_elementData_915e3 2 (some (.object "java/lang/Object")) ({ frames := 0, cells := 0, slots := 0, locals := 0 } : Room) [.ref a0, .int p1] T F (fun v T' F' => ∃ r : Nat, v = some (.ref r) ∧ T = T' ∧ F = F' ∧ Post r) := by
  unfold v_Jx4a65c_elementData_915e3 at h
  refine z_bodyT (by decide) (Nat.le_of_ble_eq_true rfl) ?_
  intro p e s m args below meth c C hnm
  have C : z_C p l s m args meth c RJx4a65c cJx4a65c_elementData_915e3 2 (some (.object "java/lang/Object")) D cA N0 zE := C
  show z_w p l e ({ frames := 0, cells := 0, slots := 0, locals := 0 } : Room) s m args below meth c D cA N0 2 0 0 (MQ below (z_Qc D cA N0 (fun v T' F' => ∃ r : Nat, v = some (.ref r) ∧ T = T' ∧ F = F' ∧ Post r)) args s 0 0 (fun q => N0 ≤ q)) 0 [(0, .ref a0), (1, .int p1)] [] T F
  refine zr_aload_n C 0 dJx4a65c_elementData_915e3_0 rfl rfl ?_
  obtain ⟨hT1, x3, hv2, h⟩ := h
  refine zr_get C fl_Jx4a65c_9 hT1 hv2 dJx4a65c_elementData_915e3_1 ?_
  refine zr_iload_n C 1 dJx4a65c_elementData_915e3_4 rfl rfl ?_
  obtain ⟨n4, hT5, hi6, x7, hv8, h⟩ := h
  refine zr_aald C hT5 (by decide) rfl rfl hi6 hv8 dJx4a65c_elementData_915e3_5 ?_
  exact zr_aret C rfl (Or.inl ⟨_, rfl⟩) (Or.inr ⟨_, rfl⟩) ⟨_, rfl, rfl, rfl, h⟩ (Nat.le_of_ble_eq_true rfl) (Nat.le_of_ble_eq_true rfl) dJx4a65c_elementData_915e3_6
theorem dJx4a65c_get_915e3_0 : decode cJx4a65c_get_915e3 0 = .ok (.iload_n 1, 1) := by decide +kernel
theorem dJx4a65c_get_915e3_1 : decode cJx4a65c_get_915e3 1 = .ok (.aload_n 0, 1) := by decide +kernel
theorem dJx4a65c_get_915e3_2 : decode cJx4a65c_get_915e3 2 = .ok (.getfield 48, 3) := by decide +kernel
theorem dJx4a65c_get_915e3_8 : decode cJx4a65c_get_915e3 8 = .ok (.pop, 1) := by decide +kernel
theorem dJx4a65c_get_915e3_9 : decode cJx4a65c_get_915e3 9 = .ok (.aload_n 0, 1) := by decide +kernel
theorem dJx4a65c_get_915e3_10 : decode cJx4a65c_get_915e3 10 = .ok (.iload_n 1, 1) := by decide +kernel
theorem dJx4a65c_get_915e3_14 : decode cJx4a65c_get_915e3 14 = .ok (.areturn, 1) := by decide +kernel
theorem dJx4a65c_get_915e3_11 : decode cJx4a65c_get_915e3 11 = .ok (.invokevirtual 123, 3) := by decide +kernel
theorem dJx4a65c_get_915e3_5 : decode cJx4a65c_get_915e3 5 = .ok (.invokestatic 118, 3) := by decide +kernel
def v_Jx4a65c_get_915e3 (a0 : Nat) (p1 : Int32) (T : zT) (F : zF) (Post : Nat → Prop) : Prop :=
  (T a0 = some (0, 3) ∧ ∃ x3 : Int32, F a0 2 = .int x3 ∧ (v_J15_checkIndex_7cf53 p1 x3 T F (fun (r4 : Int32) => (v_Jx4a65c_elementData_915e3 a0 p1 T F (fun (r5 : Nat) => Post r5)))))
set_option maxRecDepth 100000 in
set_option maxHeartbeats 4000000 in
theorem k_Jx4a65c_get_915e3 {l : Launch} {D : va_G} {cA : Nat → ClassId} {N0 zE : Nat} {a0 : Nat} {p1 : Int32} {T : zT} {F : zF} {Post : Nat → Prop} (h : v_Jx4a65c_get_915e3 a0 p1 T F Post) : z_Mt l D cA N0 zE yJx4a65c_get_915e3 cJx4a65c_get_915e3 2 (some (.object "java/lang/Object")) ({ frames := 2, cells := 0, slots := 0, locals := 43 } : Room) [.ref a0, .int p1] T F (fun v T' F' => ∃ r : Nat, v = some (.ref r) ∧ T = T' ∧ F = F' ∧ Post r) := by
  unfold v_Jx4a65c_get_915e3 at h
  refine z_bodyT (by decide) (Nat.le_of_ble_eq_true rfl) ?_
  intro p e s m args below meth c C hnm
  have C : z_C p l s m args meth c RJx4a65c cJx4a65c_get_915e3 2 (some (.object "java/lang/Object")) D cA N0 zE := C
  show z_w p l e ({ frames := 2, cells := 0, slots := 0, locals := 43 } : Room) s m args below meth c D cA N0 2 0 0 (MQ below (z_Qc D cA N0 (fun v T' F' => ∃ r : Nat, v = some (.ref r) ∧ T = T' ∧ F = F' ∧ Post r)) args s 0 0 (fun q => N0 ≤ q)) 0 [(0, .ref a0), (1, .int p1)] [] T F
  refine zr_iload_n C 1 dJx4a65c_get_915e3_0 rfl rfl ?_
  refine zr_aload_n C 0 dJx4a65c_get_915e3_1 rfl rfl ?_
  obtain ⟨hT1, x3, hv2, h⟩ := h
  refine zr_get C fl_Jx4a65c_48 hT1 hv2 dJx4a65c_get_915e3_2 ?_
  refine zr_callS (As := [.int p1, .int x3]) C (k_J15_checkIndex_7cf53 h) ok_Jx4a65c_118 zq_294 rfl ⟨by decide, (Nat.le_of_ble_eq_true rfl)⟩ ⟨(Nat.le_of_ble_eq_true rfl), (Nat.le_of_ble_eq_true rfl)⟩ (Nat.le_of_ble_eq_true rfl) dJx4a65c_get_915e3_5 (fun v9 U10 G11 hq => ?_)
  clear h
  · obtain ⟨r4, rfl, rfl, rfl, h⟩ := hq
    refine zr_pop C dJx4a65c_get_915e3_8 rfl ?_
    refine zr_aload_n C 0 dJx4a65c_get_915e3_9 rfl rfl ?_
    refine zr_iload_n C 1 dJx4a65c_get_915e3_10 rfl rfl ?_
    refine zr_callV (As := [.int p1]) (r := (RJx4a65c, TJx4a65c, 3)) C (k_Jx4a65c_elementData_915e3 h) ok_Jx4a65c_123 zq_300 zq_301 hT1 (by decide) rfl rfl ⟨by decide, (Nat.le_of_ble_eq_true rfl)⟩ ⟨(Nat.le_of_ble_eq_true rfl), (Nat.le_of_ble_eq_true rfl)⟩ (Nat.le_of_ble_eq_true rfl) dJx4a65c_get_915e3_11 (fun v6 U7 G8 hq => ?_)
    clear h
    · obtain ⟨r5, rfl, rfl, rfl, h⟩ := hq
      exact zr_aret C rfl (Or.inl ⟨_, rfl⟩) (Or.inr ⟨_, rfl⟩) ⟨_, rfl, rfl, rfl, h⟩ (Nat.le_of_ble_eq_true rfl) (Nat.le_of_ble_eq_true rfl) dJx4a65c_get_915e3_14
theorem dJ6_bitCount_0f7a4_0 : decode cJ6_bitCount_0f7a4 0 = .ok (.iload_n 0, 1) := by decide +kernel
theorem dJ6_bitCount_0f7a4_1 : decode cJ6_bitCount_0f7a4 1 = .ok (.iload_n 0, 1) := by decide +kernel
theorem dJ6_bitCount_0f7a4_2 : decode cJ6_bitCount_0f7a4 2 = .ok (.iconst 1, 1) := by decide +kernel
theorem dJ6_bitCount_0f7a4_3 : decode cJ6_bitCount_0f7a4 3 = .ok (.iushr, 1) := by decide +kernel
theorem dJ6_bitCount_0f7a4_4 : decode cJ6_bitCount_0f7a4 4 = .ok (.ldc_w 265, 3) := by decide +kernel
theorem dJ6_bitCount_0f7a4_7 : decode cJ6_bitCount_0f7a4 7 = .ok (.iand, 1) := by decide +kernel
theorem dJ6_bitCount_0f7a4_8 : decode cJ6_bitCount_0f7a4 8 = .ok (.isub, 1) := by decide +kernel
theorem dJ6_bitCount_0f7a4_9 : decode cJ6_bitCount_0f7a4 9 = .ok (.istore_n 0, 1) := by decide +kernel
theorem dJ6_bitCount_0f7a4_10 : decode cJ6_bitCount_0f7a4 10 = .ok (.iload_n 0, 1) := by decide +kernel
theorem dJ6_bitCount_0f7a4_11 : decode cJ6_bitCount_0f7a4 11 = .ok (.ldc_w 266, 3) := by decide +kernel
theorem dJ6_bitCount_0f7a4_14 : decode cJ6_bitCount_0f7a4 14 = .ok (.iand, 1) := by decide +kernel
theorem dJ6_bitCount_0f7a4_15 : decode cJ6_bitCount_0f7a4 15 = .ok (.iload_n 0, 1) := by decide +kernel
theorem dJ6_bitCount_0f7a4_16 : decode cJ6_bitCount_0f7a4 16 = .ok (.iconst 2, 1) := by decide +kernel
theorem dJ6_bitCount_0f7a4_17 : decode cJ6_bitCount_0f7a4 17 = .ok (.iushr, 1) := by decide +kernel
theorem dJ6_bitCount_0f7a4_18 : decode cJ6_bitCount_0f7a4 18 = .ok (.ldc_w 266, 3) := by decide +kernel
theorem dJ6_bitCount_0f7a4_21 : decode cJ6_bitCount_0f7a4 21 = .ok (.iand, 1) := by decide +kernel
theorem dJ6_bitCount_0f7a4_22 : decode cJ6_bitCount_0f7a4 22 = .ok (.iadd, 1) := by decide +kernel
theorem dJ6_bitCount_0f7a4_23 : decode cJ6_bitCount_0f7a4 23 = .ok (.istore_n 0, 1) := by decide +kernel
theorem dJ6_bitCount_0f7a4_24 : decode cJ6_bitCount_0f7a4 24 = .ok (.iload_n 0, 1) := by decide +kernel
theorem dJ6_bitCount_0f7a4_25 : decode cJ6_bitCount_0f7a4 25 = .ok (.iload_n 0, 1) := by decide +kernel
theorem dJ6_bitCount_0f7a4_26 : decode cJ6_bitCount_0f7a4 26 = .ok (.iconst 4, 1) := by decide +kernel
theorem dJ6_bitCount_0f7a4_27 : decode cJ6_bitCount_0f7a4 27 = .ok (.iushr, 1) := by decide +kernel
theorem dJ6_bitCount_0f7a4_28 : decode cJ6_bitCount_0f7a4 28 = .ok (.iadd, 1) := by decide +kernel
theorem dJ6_bitCount_0f7a4_29 : decode cJ6_bitCount_0f7a4 29 = .ok (.ldc_w 267, 3) := by decide +kernel
theorem dJ6_bitCount_0f7a4_32 : decode cJ6_bitCount_0f7a4 32 = .ok (.iand, 1) := by decide +kernel
theorem dJ6_bitCount_0f7a4_33 : decode cJ6_bitCount_0f7a4 33 = .ok (.istore_n 0, 1) := by decide +kernel
theorem dJ6_bitCount_0f7a4_34 : decode cJ6_bitCount_0f7a4 34 = .ok (.iload_n 0, 1) := by decide +kernel
theorem dJ6_bitCount_0f7a4_35 : decode cJ6_bitCount_0f7a4 35 = .ok (.iload_n 0, 1) := by decide +kernel
theorem dJ6_bitCount_0f7a4_36 : decode cJ6_bitCount_0f7a4 36 = .ok (.bipush 8, 2) := by decide +kernel
theorem dJ6_bitCount_0f7a4_38 : decode cJ6_bitCount_0f7a4 38 = .ok (.iushr, 1) := by decide +kernel
theorem dJ6_bitCount_0f7a4_39 : decode cJ6_bitCount_0f7a4 39 = .ok (.iadd, 1) := by decide +kernel
theorem dJ6_bitCount_0f7a4_40 : decode cJ6_bitCount_0f7a4 40 = .ok (.istore_n 0, 1) := by decide +kernel
theorem dJ6_bitCount_0f7a4_41 : decode cJ6_bitCount_0f7a4 41 = .ok (.iload_n 0, 1) := by decide +kernel
theorem dJ6_bitCount_0f7a4_42 : decode cJ6_bitCount_0f7a4 42 = .ok (.iload_n 0, 1) := by decide +kernel
theorem dJ6_bitCount_0f7a4_43 : decode cJ6_bitCount_0f7a4 43 = .ok (.bipush 16, 2) := by decide +kernel
theorem dJ6_bitCount_0f7a4_45 : decode cJ6_bitCount_0f7a4 45 = .ok (.iushr, 1) := by decide +kernel
theorem dJ6_bitCount_0f7a4_46 : decode cJ6_bitCount_0f7a4 46 = .ok (.iadd, 1) := by decide +kernel
theorem dJ6_bitCount_0f7a4_47 : decode cJ6_bitCount_0f7a4 47 = .ok (.istore_n 0, 1) := by decide +kernel
theorem dJ6_bitCount_0f7a4_48 : decode cJ6_bitCount_0f7a4 48 = .ok (.iload_n 0, 1) := by decide +kernel
theorem dJ6_bitCount_0f7a4_49 : decode cJ6_bitCount_0f7a4 49 = .ok (.bipush 63, 2) := by decide +kernel
theorem dJ6_bitCount_0f7a4_51 : decode cJ6_bitCount_0f7a4 51 = .ok (.iand, 1) := by decide +kernel
theorem dJ6_bitCount_0f7a4_52 : decode cJ6_bitCount_0f7a4 52 = .ok (.ireturn, 1) := by decide +kernel
def v_J6_bitCount_0f7a4 (p0 : Int32) (T : zT) (F : zF) (Post : Int32 → Prop) : Prop :=
  ((∀ (y1 : Int32), y1 = (p0 - (((p0.toUInt32 >>> ((1 : Int32).toUInt32 &&& Int32.toUInt32 31)).toInt32) &&& 1431655765)) → (∀ (y3 : Int32), y3 = ((y1 &&& 858993459) + (((y1.toUInt32 >>> ((2 : Int32).toUInt32 &&& Int32.toUInt32 31)).toInt32) &&& 858993459)) → (∀ (y5 : Int32), y5 = ((y3 + ((y3.toUInt32 >>> ((4 : Int32).toUInt32 &&& Int32.toUInt32 31)).toInt32)) &&& 252645135) → (∀ (y7 : Int32), y7 = (y5 + ((y5.toUInt32 >>> ((8 : Int32).toUInt32 &&& Int32.toUInt32 31)).toInt32)) → (∀ (y9 : Int32), y9 = (y7 + ((y7.toUInt32 >>> ((16 : Int32).toUInt32 &&& Int32.toUInt32 31)).toInt32)) → Post (y9 &&& 63)))))))
set_option maxRecDepth 100000 in
set_option maxHeartbeats 4000000 in
theorem k_J6_bitCount_0f7a4 {l : Launch} {D : va_G} {cA : Nat → ClassId} {N0 zE : Nat} {p0 : Int32} {T : zT} {F : zF} {Post : Int32 → Prop} (h : v_J6_bitCount_0f7a4 p0 T F Post) : z_Mt l D cA N0 zE yJ6_bitCount_0f7a4 cJ6_bitCount_0f7a4 1 (some .int) ({ frames := 0, cells := 0, slots := 0, locals := 0 } : Room) [.int p0] T F (fun v T' F' => ∃ r : Int32, v = some (.int r) ∧ T = T' ∧ F = F' ∧ Post r) := by
  unfold v_J6_bitCount_0f7a4 at h
  refine z_bodyT (by decide) (Nat.le_of_ble_eq_true rfl) ?_
  intro p e s m args below meth c C hnm
  have C : z_C p l s m args meth c RJ6 cJ6_bitCount_0f7a4 1 (some .int) D cA N0 zE := C
  show z_w p l e ({ frames := 0, cells := 0, slots := 0, locals := 0 } : Room) s m args below meth c D cA N0 1 0 0 (MQ below (z_Qc D cA N0 (fun v T' F' => ∃ r : Int32, v = some (.int r) ∧ T = T' ∧ F = F' ∧ Post r)) args s 0 0 (fun q => N0 ≤ q)) 0 [(0, .int p0)] [] T F
  refine zr_iload_n C 0 dJ6_bitCount_0f7a4_0 rfl rfl ?_
  refine zr_iload_n C 0 dJ6_bitCount_0f7a4_1 rfl rfl ?_
  refine zr_iconst C 1 dJ6_bitCount_0f7a4_2 (by decide) ?_
  refine zr_iushr C dJ6_bitCount_0f7a4_3 ?_
  refine zr_ldcw C 1431655765 dJ6_bitCount_0f7a4_4 zq_546 ?_
  refine zr_iand C dJ6_bitCount_0f7a4_7 ?_
  refine zr_isub C dJ6_bitCount_0f7a4_8 ?_
  refine zr_topi (fun y1 hy2 => ?_)
  have h := h y1 hy2
  refine zr_istore_n C [(0, .int y1)] dJ6_bitCount_0f7a4_9 rfl (by decide) rfl ?_
  refine zr_iload_n C 0 dJ6_bitCount_0f7a4_10 rfl rfl ?_
  refine zr_ldcw C 858993459 dJ6_bitCount_0f7a4_11 zq_547 ?_
  refine zr_iand C dJ6_bitCount_0f7a4_14 ?_
  refine zr_iload_n C 0 dJ6_bitCount_0f7a4_15 rfl rfl ?_
  refine zr_iconst C 2 dJ6_bitCount_0f7a4_16 (by decide) ?_
  refine zr_iushr C dJ6_bitCount_0f7a4_17 ?_
  refine zr_ldcw C 858993459 dJ6_bitCount_0f7a4_18 zq_547 ?_
  refine zr_iand C dJ6_bitCount_0f7a4_21 ?_
  refine zr_iadd C dJ6_bitCount_0f7a4_22 ?_
  refine zr_topi (fun y3 hy4 => ?_)
  have h := h y3 hy4
  refine zr_istore_n C [(0, .int y3)] dJ6_bitCount_0f7a4_23 rfl (by decide) rfl ?_
  refine zr_iload_n C 0 dJ6_bitCount_0f7a4_24 rfl rfl ?_
  refine zr_iload_n C 0 dJ6_bitCount_0f7a4_25 rfl rfl ?_
  refine zr_iconst C 4 dJ6_bitCount_0f7a4_26 (by decide) ?_
  refine zr_iushr C dJ6_bitCount_0f7a4_27 ?_
  refine zr_iadd C dJ6_bitCount_0f7a4_28 ?_
  refine zr_ldcw C 252645135 dJ6_bitCount_0f7a4_29 zq_548 ?_
  refine zr_iand C dJ6_bitCount_0f7a4_32 ?_
  refine zr_topi (fun y5 hy6 => ?_)
  have h := h y5 hy6
  refine zr_istore_n C [(0, .int y5)] dJ6_bitCount_0f7a4_33 rfl (by decide) rfl ?_
  refine zr_iload_n C 0 dJ6_bitCount_0f7a4_34 rfl rfl ?_
  refine zr_iload_n C 0 dJ6_bitCount_0f7a4_35 rfl rfl ?_
  refine zr_bipush C 8 dJ6_bitCount_0f7a4_36 (by decide) ?_
  refine zr_iushr C dJ6_bitCount_0f7a4_38 ?_
  refine zr_iadd C dJ6_bitCount_0f7a4_39 ?_
  refine zr_topi (fun y7 hy8 => ?_)
  have h := h y7 hy8
  refine zr_istore_n C [(0, .int y7)] dJ6_bitCount_0f7a4_40 rfl (by decide) rfl ?_
  refine zr_iload_n C 0 dJ6_bitCount_0f7a4_41 rfl rfl ?_
  refine zr_iload_n C 0 dJ6_bitCount_0f7a4_42 rfl rfl ?_
  refine zr_bipush C 16 dJ6_bitCount_0f7a4_43 (by decide) ?_
  refine zr_iushr C dJ6_bitCount_0f7a4_45 ?_
  refine zr_iadd C dJ6_bitCount_0f7a4_46 ?_
  refine zr_topi (fun y9 hy10 => ?_)
  have h := h y9 hy10
  refine zr_istore_n C [(0, .int y9)] dJ6_bitCount_0f7a4_47 rfl (by decide) rfl ?_
  refine zr_iload_n C 0 dJ6_bitCount_0f7a4_48 rfl rfl ?_
  refine zr_bipush C 63 dJ6_bitCount_0f7a4_49 (by decide) ?_
  refine zr_iand C dJ6_bitCount_0f7a4_51 ?_
  exact zr_iret C rfl ⟨_, rfl, rfl, rfl, h⟩ (Nat.le_of_ble_eq_true rfl) (Nat.le_of_ble_eq_true rfl) dJ6_bitCount_0f7a4_52
