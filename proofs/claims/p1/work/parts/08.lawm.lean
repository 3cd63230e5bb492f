theorem dL_asset_0 : decode cL_asset 0 = .ok (.aload_n 1, 1) := by decide +kernel
theorem dL_asset_1 : decode cL_asset 1 = .ok (.iconst 0, 1) := by decide +kernel
theorem dL_asset_2 : decode cL_asset 2 = .ok (.aload_n 0, 1) := by decide +kernel
theorem dL_asset_6 : decode cL_asset 6 = .ok (.i2l, 1) := by decide +kernel
theorem dL_asset_7 : decode cL_asset 7 = .ok (.lastore, 1) := by decide +kernel
theorem dL_asset_8 : decode cL_asset 8 = .ok (.goto 6, 3) := by decide +kernel
theorem dL_asset_14 : decode cL_asset 14 = .ok (.iconst 0, 1) := by decide +kernel
theorem dL_asset_15 : decode cL_asset 15 = .ok (.ireturn, 1) := by decide +kernel
theorem dL_asset_11 : decode cL_asset 11 = .ok (.astore_n 2, 1) := by decide +kernel
theorem dL_asset_12 : decode cL_asset 12 = .ok (.iconst 1, 1) := by decide +kernel
theorem dL_asset_13 : decode cL_asset 13 = .ok (.ireturn, 1) := by decide +kernel
theorem dL_asset_3 : decode cL_asset 3 = .ok (.invokevirtual 7, 3) := by decide +kernel
def v_L_asset (zE : Nat) (a0 : Nat) (a1 : Nat) (T : zT) (F : zF) (Post : Int32 → zT → zF → Prop) : Prop :=
  (T a0 = some (7, 4) ∧ (v_X4_asset zE a0 T F (fun (r2 : Int32) (T3 : zT) (F4 : zF) => (∃ n5 : Nat, T3 a1 = some (103, n5) ∧ vp_in 0 n5 ∧ Post 0 T3 (zu F4 a1 (0 : Int32).toNatClampNeg (.long r2.toInt64)))) (fun (E9 : String) (T9 : zT) (F9 : zF) => (E9 = "java/lang/IllegalStateException" ∧ Post 1 T9 F9))))
set_option maxRecDepth 100000 in
set_option maxHeartbeats 4000000 in
theorem k_L_asset {l : Launch} {D : va_G} {cA : Nat → ClassId} {N0 zE : Nat} {a0 : Nat} {a1 : Nat} {T : zT} {F : zF} {Post : Int32 → zT → zF → Prop} (h : v_L_asset zE a0 a1 T F Post) : z_MH l D cA N0 zE yL_asset cL_asset 3 (some .int) [(0, 8, 11, 13)] ({ frames := 7, cells := 4, slots := 26, locals := 151 } : Room) [.ref a0, .ref a1] T F (fun v T' F' => ∃ r : Int32, v = some (.int r) ∧ Post r T' F') (fun E T' F' => False) := by
  unfold v_L_asset at h
  refine z_bodyH (by decide) (Nat.le_of_ble_eq_true rfl) ?_
  intro p e s m args below meth c C hxt hnm
  have C : z_C p l s m args meth c RL cL_asset 3 (some .int) D cA N0 zE := C
  show z_w p l e ({ frames := 7, cells := 4, slots := 26, locals := 151 } : Room) s m args below meth c D cA N0 3 0 0 (vx_MQ below (z_Qc D cA N0 (fun v T' F' => ∃ r : Int32, v = some (.int r) ∧ Post r T' F')) (z_XC D cA N0 (fun E T' F' => False)) args s 4 26 (fun q => N0 ≤ q)) 0 [(0, .ref a0), (1, .ref a1)] [] T F
  refine zr_aload_n C 1 dL_asset_0 rfl rfl ?_
  refine zr_iconst C 0 dL_asset_1 (by decide) ?_
  refine zr_aload_n C 0 dL_asset_2 rfl rfl ?_
  obtain ⟨hT1, h⟩ := h
  refine zr_callVX (As := []) (r := (RX4, TX4, 4)) C (k_X4_asset h) ok_L_7 zq_620 zq_621 hT1 (by decide) rfl rfl ⟨by decide, (Nat.le_of_ble_eq_true rfl)⟩ ⟨(Nat.le_of_ble_eq_true rfl), (Nat.le_of_ble_eq_true rfl)⟩ (Nat.le_of_ble_eq_true rfl) dL_asset_3 ?_ (fun v8 U9 G10 hq => ?_)
  · clear h
    intro E9 T9 F9 hq
    · obtain ⟨rfl, h⟩ := hq
      refine zr_catch C "java/lang/IllegalStateException" _ [] ⟨0, 8, 11, 13⟩ [] 11 hxt rfl (fun _ h9 => nomatch h9) (by decide) (by decide) zq_618 zq_625 rfl (fun q9 => ?_)
      refine zr_astore_n C [(2, .ref q9), (0, .ref a0), (1, .ref a1)] dL_asset_11 rfl (by decide) rfl ?_
      refine zr_iconst C 1 dL_asset_12 (by decide) ?_
      exact zr_X (zr_iret C rfl ⟨_, rfl, h⟩ (Nat.le_of_ble_eq_true rfl) (Nat.le_of_ble_eq_true rfl) dL_asset_13)
  · obtain ⟨r2, rfl, h⟩ := hq
    skip
    refine zr_i2l C dL_asset_6 ?_
    obtain ⟨n5, hT6, hi7, h⟩ := h
    refine zr_last C rfl hT6 hi7 dL_asset_7 ?_
    refine zr_goto C 14 dL_asset_8 (by decide) ?_
    refine zr_iconst C 0 dL_asset_14 (by decide) ?_
    exact zr_X (zr_iret C rfl ⟨_, rfl, h⟩ (Nat.le_of_ble_eq_true rfl) (Nat.le_of_ble_eq_true rfl) dL_asset_15)
theorem dL_version_0 : decode cL_version 0 = .ok (.aload_n 3, 1) := by decide +kernel
theorem dL_version_1 : decode cL_version 1 = .ok (.iconst 0, 1) := by decide +kernel
theorem dL_version_2 : decode cL_version 2 = .ok (.aload_n 0, 1) := by decide +kernel
theorem dL_version_3 : decode cL_version 3 = .ok (.iload_n 1, 1) := by decide +kernel
theorem dL_version_4 : decode cL_version 4 = .ok (.iload_n 2, 1) := by decide +kernel
theorem dL_version_8 : decode cL_version 8 = .ok (.i2l, 1) := by decide +kernel
theorem dL_version_9 : decode cL_version 9 = .ok (.lastore, 1) := by decide +kernel
theorem dL_version_10 : decode cL_version 10 = .ok (.goto 15, 3) := by decide +kernel
theorem dL_version_25 : decode cL_version 25 = .ok (.iconst 0, 1) := by decide +kernel
theorem dL_version_26 : decode cL_version 26 = .ok (.ireturn, 1) := by decide +kernel
theorem dL_version_13 : decode cL_version 13 = .ok (.astore 4, 2) := by decide +kernel
theorem dL_version_15 : decode cL_version 15 = .ok (.iconst 1, 1) := by decide +kernel
theorem dL_version_16 : decode cL_version 16 = .ok (.ireturn, 1) := by decide +kernel
theorem dL_version_17 : decode cL_version 17 = .ok (.astore 4, 2) := by decide +kernel
theorem dL_version_19 : decode cL_version 19 = .ok (.iconst 2, 1) := by decide +kernel
theorem dL_version_20 : decode cL_version 20 = .ok (.ireturn, 1) := by decide +kernel
theorem dL_version_21 : decode cL_version 21 = .ok (.astore 4, 2) := by decide +kernel
theorem dL_version_23 : decode cL_version 23 = .ok (.iconst 3, 1) := by decide +kernel
theorem dL_version_24 : decode cL_version 24 = .ok (.ireturn, 1) := by decide +kernel
theorem dL_version_5 : decode cL_version 5 = .ok (.invokevirtual 15, 3) := by decide +kernel
def v_L_version (a0 : Nat) (p1 : Int32) (p2 : Int32) (a3 : Nat) (T : zT) (F : zF) (Post : Int32 → zF → Prop) : Prop :=
  (T a0 = some (7, 4) ∧ (v_X4_version a0 p1 p2 T F (fun (r2 : Int32) => (∃ n3 : Nat, T a3 = some (103, n3) ∧ vp_in 0 n3 ∧ Post 0 (zu F a3 (0 : Int32).toNatClampNeg (.long r2.toInt64)))) (fun (E9 : String) => (E9 = "java/lang/IndexOutOfBoundsException" ∧ Post 1 F) ∨ (E9 = "java/lang/IllegalArgumentException" ∧ Post 2 F) ∨ (E9 = "java/lang/IllegalStateException" ∧ Post 3 F))))
set_option maxRecDepth 100000 in
set_option maxHeartbeats 4000000 in
theorem k_L_version {l : Launch} {D : va_G} {cA : Nat → ClassId} {N0 zE : Nat} {a0 : Nat} {p1 : Int32} {p2 : Int32} {a3 : Nat} {T : zT} {F : zF} {Post : Int32 → zF → Prop} (h : v_L_version a0 p1 p2 a3 T F Post) : z_MH l D cA N0 zE yL_version cL_version 5 (some .int) [(0, 10, 13, 19), (0, 10, 17, 21), (0, 10, 21, 13)] ({ frames := 8, cells := 1, slots := 6, locals := 135 } : Room) [.ref a0, .int p1, .int p2, .ref a3] T F (fun v T' F' => ∃ r : Int32, v = some (.int r) ∧ T = T' ∧ Post r F') (fun E T' F' => False) := by
  unfold v_L_version at h
  refine z_bodyH (by decide) (Nat.le_of_ble_eq_true rfl) ?_
  intro p e s m args below meth c C hxt hnm
  have C : z_C p l s m args meth c RL cL_version 5 (some .int) D cA N0 zE := C
  show z_w p l e ({ frames := 8, cells := 1, slots := 6, locals := 135 } : Room) s m args below meth c D cA N0 5 0 0 (vx_MQ below (z_Qc D cA N0 (fun v T' F' => ∃ r : Int32, v = some (.int r) ∧ T = T' ∧ Post r F')) (z_XC D cA N0 (fun E T' F' => False)) args s 1 6 (fun q => N0 ≤ q)) 0 [(0, .ref a0), (1, .int p1), (2, .int p2), (3, .ref a3)] [] T F
  refine zr_aload_n C 3 dL_version_0 rfl rfl ?_
  refine zr_iconst C 0 dL_version_1 (by decide) ?_
  refine zr_aload_n C 0 dL_version_2 rfl rfl ?_
  refine zr_iload_n C 1 dL_version_3 rfl rfl ?_
  refine zr_iload_n C 2 dL_version_4 rfl rfl ?_
  obtain ⟨hT1, h⟩ := h
  refine zr_callVX (As := [.int p1, .int p2]) (r := (RX4, TX4, 4)) C (k_X4_version h) ok_L_15 zq_671 zq_672 hT1 (by decide) rfl rfl ⟨by decide, (Nat.le_of_ble_eq_true rfl)⟩ ⟨(Nat.le_of_ble_eq_true rfl), (Nat.le_of_ble_eq_true rfl)⟩ (Nat.le_of_ble_eq_true rfl) dL_version_5 ?_ (fun v6 U7 G8 hq => ?_)
  · clear h
    intro E9 T9 F9 hq
    obtain ⟨rfl, rfl, hq⟩ := hq
    rcases hq with hq | hq | hq
    · obtain ⟨rfl, h⟩ := hq
      refine zr_catch C "java/lang/IndexOutOfBoundsException" _ [] ⟨0, 10, 13, 19⟩ [⟨0, 10, 17, 21⟩, ⟨0, 10, 21, 13⟩] 13 hxt rfl (fun _ h9 => nomatch h9) (by decide) (by decide) zq_668 zq_267 rfl (fun q9 => ?_)
      refine zr_astore C [(4, .ref q9), (0, .ref a0), (1, .int p1), (2, .int p2), (3, .ref a3)] dL_version_13 (by decide) rfl ?_
      refine zr_iconst C 1 dL_version_15 (by decide) ?_
      exact zr_X (zr_iret C rfl ⟨_, rfl, rfl, h⟩ (Nat.le_of_ble_eq_true rfl) (Nat.le_of_ble_eq_true rfl) dL_version_16)
    · obtain ⟨rfl, h⟩ := hq
      refine zr_catch C "java/lang/IllegalArgumentException" _ [⟨0, 10, 13, 19⟩] ⟨0, 10, 17, 21⟩ [⟨0, 10, 21, 13⟩] 17 hxt rfl (List.forall_mem_cons.mpr ⟨Or.inr ⟨by decide, "java/lang/IndexOutOfBoundsException", zq_668, by decide +kernel⟩, (fun _ h9 => nomatch h9)⟩) (by decide) (by decide) zq_669 zq_191 rfl (fun q9 => ?_)
      refine zr_astore C [(4, .ref q9), (0, .ref a0), (1, .int p1), (2, .int p2), (3, .ref a3)] dL_version_17 (by decide) rfl ?_
      refine zr_iconst C 2 dL_version_19 (by decide) ?_
      exact zr_X (zr_iret C rfl ⟨_, rfl, rfl, h⟩ (Nat.le_of_ble_eq_true rfl) (Nat.le_of_ble_eq_true rfl) dL_version_20)
    · obtain ⟨rfl, h⟩ := hq
      refine zr_catch C "java/lang/IllegalStateException" _ [⟨0, 10, 13, 19⟩, ⟨0, 10, 17, 21⟩] ⟨0, 10, 21, 13⟩ [] 21 hxt rfl (List.forall_mem_cons.mpr ⟨Or.inr ⟨by decide, "java/lang/IndexOutOfBoundsException", zq_668, by decide +kernel⟩, (List.forall_mem_cons.mpr ⟨Or.inr ⟨by decide, "java/lang/IllegalArgumentException", zq_669, by decide +kernel⟩, (fun _ h9 => nomatch h9)⟩)⟩) (by decide) (by decide) zq_618 zq_625 rfl (fun q9 => ?_)
      refine zr_astore C [(4, .ref q9), (0, .ref a0), (1, .int p1), (2, .int p2), (3, .ref a3)] dL_version_21 (by decide) rfl ?_
      refine zr_iconst C 3 dL_version_23 (by decide) ?_
      exact zr_X (zr_iret C rfl ⟨_, rfl, rfl, h⟩ (Nat.le_of_ble_eq_true rfl) (Nat.le_of_ble_eq_true rfl) dL_version_24)
  · obtain ⟨r2, rfl, rfl, rfl, h⟩ := hq
    refine zr_i2l C dL_version_8 ?_
    obtain ⟨n3, hT4, hi5, h⟩ := h
    refine zr_last C rfl hT4 hi5 dL_version_9 ?_
    refine zr_goto C 25 dL_version_10 (by decide) ?_
    refine zr_iconst C 0 dL_version_25 (by decide) ?_
    exact zr_X (zr_iret C rfl ⟨_, rfl, rfl, h⟩ (Nat.le_of_ble_eq_true rfl) (Nat.le_of_ble_eq_true rfl) dL_version_26)
theorem dL_late_0 : decode cL_late 0 = .ok (.aload_n 3, 1) := by decide +kernel
theorem dL_late_1 : decode cL_late 1 = .ok (.iconst 0, 1) := by decide +kernel
theorem dL_late_2 : decode cL_late 2 = .ok (.aload_n 0, 1) := by decide +kernel
theorem dL_late_3 : decode cL_late 3 = .ok (.iload_n 1, 1) := by decide +kernel
theorem dL_late_4 : decode cL_late 4 = .ok (.iload_n 2, 1) := by decide +kernel
theorem dL_late_8 : decode cL_late 8 = .ok (.i2l, 1) := by decide +kernel
theorem dL_late_9 : decode cL_late 9 = .ok (.lastore, 1) := by decide +kernel
theorem dL_late_10 : decode cL_late 10 = .ok (.goto 15, 3) := by decide +kernel
theorem dL_late_25 : decode cL_late 25 = .ok (.iconst 0, 1) := by decide +kernel
theorem dL_late_26 : decode cL_late 26 = .ok (.ireturn, 1) := by decide +kernel
theorem dL_late_13 : decode cL_late 13 = .ok (.astore 4, 2) := by decide +kernel
theorem dL_late_15 : decode cL_late 15 = .ok (.iconst 1, 1) := by decide +kernel
theorem dL_late_16 : decode cL_late 16 = .ok (.ireturn, 1) := by decide +kernel
theorem dL_late_17 : decode cL_late 17 = .ok (.astore 4, 2) := by decide +kernel
theorem dL_late_19 : decode cL_late 19 = .ok (.iconst 2, 1) := by decide +kernel
theorem dL_late_20 : decode cL_late 20 = .ok (.ireturn, 1) := by decide +kernel
theorem dL_late_21 : decode cL_late 21 = .ok (.astore 4, 2) := by decide +kernel
theorem dL_late_23 : decode cL_late 23 = .ok (.iconst 3, 1) := by decide +kernel
theorem dL_late_24 : decode cL_late 24 = .ok (.ireturn, 1) := by decide +kernel
theorem dL_late_5 : decode cL_late 5 = .ok (.invokevirtual 23, 3) := by decide +kernel
def v_L_late (a0 : Nat) (p1 : Int32) (p2 : Int32) (a3 : Nat) (T : zT) (F : zF) (Post : Int32 → zF → Prop) : Prop :=
  (T a0 = some (7, 4) ∧ (v_X4_late a0 p1 p2 T F (fun (r2 : Int32) => (∃ n3 : Nat, T a3 = some (103, n3) ∧ vp_in 0 n3 ∧ Post 0 (zu F a3 (0 : Int32).toNatClampNeg (.long r2.toInt64)))) (fun (E9 : String) => (E9 = "java/lang/IndexOutOfBoundsException" ∧ Post 1 F) ∨ (E9 = "java/lang/IllegalArgumentException" ∧ Post 2 F) ∨ (E9 = "java/lang/IllegalStateException" ∧ Post 3 F))))
set_option maxRecDepth 100000 in
set_option maxHeartbeats 4000000 in
theorem k_L_late {l : Launch} {D : va_G} {cA : Nat → ClassId} {N0 zE : Nat} {a0 : Nat} {p1 : Int32} {p2 : Int32} {a3 : Nat} {T : zT} {F : zF} {Post : Int32 → zF → Prop} (h : v_L_late a0 p1 p2 a3 T F Post) : z_MH l D cA N0 zE yL_late cL_late 5 (some .int) [(0, 10, 13, 19), (0, 10, 17, 21), (0, 10, 21, 13)] ({ frames := 8, cells := 1, slots := 6, locals := 136 } : Room) [.ref a0, .int p1, .int p2, .ref a3] T F (fun v T' F' => ∃ r : Int32, v = some (.int r) ∧ T = T' ∧ Post r F') (fun E T' F' => False) := by
  unfold v_L_late at h
  refine z_bodyH (by decide) (Nat.le_of_ble_eq_true rfl) ?_
  intro p e s m args below meth c C hxt hnm
  have C : z_C p l s m args meth c RL cL_late 5 (some .int) D cA N0 zE := C
  show z_w p l e ({ frames := 8, cells := 1, slots := 6, locals := 136 } : Room) s m args below meth c D cA N0 5 0 0 (vx_MQ below (z_Qc D cA N0 (fun v T' F' => ∃ r : Int32, v = some (.int r) ∧ T = T' ∧ Post r F')) (z_XC D cA N0 (fun E T' F' => False)) args s 1 6 (fun q => N0 ≤ q)) 0 [(0, .ref a0), (1, .int p1), (2, .int p2), (3, .ref a3)] [] T F
  refine zr_aload_n C 3 dL_late_0 rfl rfl ?_
  refine zr_iconst C 0 dL_late_1 (by decide) ?_
  refine zr_aload_n C 0 dL_late_2 rfl rfl ?_
  refine zr_iload_n C 1 dL_late_3 rfl rfl ?_
  refine zr_iload_n C 2 dL_late_4 rfl rfl ?_
  obtain ⟨hT1, h⟩ := h
  refine zr_callVX (As := [.int p1, .int p2]) (r := (RX4, TX4, 4)) C (k_X4_late h) ok_L_23 zq_684 zq_685 hT1 (by decide) rfl rfl ⟨by decide, (Nat.le_of_ble_eq_true rfl)⟩ ⟨(Nat.le_of_ble_eq_true rfl), (Nat.le_of_ble_eq_true rfl)⟩ (Nat.le_of_ble_eq_true rfl) dL_late_5 ?_ (fun v6 U7 G8 hq => ?_)
  · clear h
    intro E9 T9 F9 hq
    obtain ⟨rfl, rfl, hq⟩ := hq
    rcases hq with hq | hq | hq
    · obtain ⟨rfl, h⟩ := hq
      refine zr_catch C "java/lang/IndexOutOfBoundsException" _ [] ⟨0, 10, 13, 19⟩ [⟨0, 10, 17, 21⟩, ⟨0, 10, 21, 13⟩] 13 hxt rfl (fun _ h9 => nomatch h9) (by decide) (by decide) zq_668 zq_267 rfl (fun q9 => ?_)
      refine zr_astore C [(4, .ref q9), (0, .ref a0), (1, .int p1), (2, .int p2), (3, .ref a3)] dL_late_13 (by decide) rfl ?_
      refine zr_iconst C 1 dL_late_15 (by decide) ?_
      exact zr_X (zr_iret C rfl ⟨_, rfl, rfl, h⟩ (Nat.le_of_ble_eq_true rfl) (Nat.le_of_ble_eq_true rfl) dL_late_16)
    · obtain ⟨rfl, h⟩ := hq
      refine zr_catch C "java/lang/IllegalArgumentException" _ [⟨0, 10, 13, 19⟩] ⟨0, 10, 17, 21⟩ [⟨0, 10, 21, 13⟩] 17 hxt rfl (List.forall_mem_cons.mpr ⟨Or.inr ⟨by decide, "java/lang/IndexOutOfBoundsException", zq_668, by decide +kernel⟩, (fun _ h9 => nomatch h9)⟩) (by decide) (by decide) zq_669 zq_191 rfl (fun q9 => ?_)
      refine zr_astore C [(4, .ref q9), (0, .ref a0), (1, .int p1), (2, .int p2), (3, .ref a3)] dL_late_17 (by decide) rfl ?_
      refine zr_iconst C 2 dL_late_19 (by decide) ?_
      exact zr_X (zr_iret C rfl ⟨_, rfl, rfl, h⟩ (Nat.le_of_ble_eq_true rfl) (Nat.le_of_ble_eq_true rfl) dL_late_20)
    · obtain ⟨rfl, h⟩ := hq
      refine zr_catch C "java/lang/IllegalStateException" _ [⟨0, 10, 13, 19⟩, ⟨0, 10, 17, 21⟩] ⟨0, 10, 21, 13⟩ [] 21 hxt rfl (List.forall_mem_cons.mpr ⟨Or.inr ⟨by decide, "java/lang/IndexOutOfBoundsException", zq_668, by decide +kernel⟩, (List.forall_mem_cons.mpr ⟨Or.inr ⟨by decide, "java/lang/IllegalArgumentException", zq_669, by decide +kernel⟩, (fun _ h9 => nomatch h9)⟩)⟩) (by decide) (by decide) zq_618 zq_625 rfl (fun q9 => ?_)
      refine zr_astore C [(4, .ref q9), (0, .ref a0), (1, .int p1), (2, .int p2), (3, .ref a3)] dL_late_21 (by decide) rfl ?_
      refine zr_iconst C 3 dL_late_23 (by decide) ?_
      exact zr_X (zr_iret C rfl ⟨_, rfl, rfl, h⟩ (Nat.le_of_ble_eq_true rfl) (Nat.le_of_ble_eq_true rfl) dL_late_24)
  · obtain ⟨r2, rfl, rfl, rfl, h⟩ := hq
    refine zr_i2l C dL_late_8 ?_
    obtain ⟨n3, hT4, hi5, h⟩ := h
    refine zr_last C rfl hT4 hi5 dL_late_9 ?_
    refine zr_goto C 25 dL_late_10 (by decide) ?_
    refine zr_iconst C 0 dL_late_25 (by decide) ?_
    exact zr_X (zr_iret C rfl ⟨_, rfl, rfl, h⟩ (Nat.le_of_ble_eq_true rfl) (Nat.le_of_ble_eq_true rfl) dL_late_26)
theorem dL_rights_0 : decode cL_rights 0 = .ok (.aload 5, 2) := by decide +kernel
theorem dL_rights_2 : decode cL_rights 2 = .ok (.iconst 0, 1) := by decide +kernel
theorem dL_rights_3 : decode cL_rights 3 = .ok (.aload_n 0, 1) := by decide +kernel
theorem dL_rights_4 : decode cL_rights 4 = .ok (.iload_n 1, 1) := by decide +kernel
theorem dL_rights_5 : decode cL_rights 5 = .ok (.iload_n 2, 1) := by decide +kernel
theorem dL_rights_6 : decode cL_rights 6 = .ok (.iload_n 3, 1) := by decide +kernel
theorem dL_rights_7 : decode cL_rights 7 = .ok (.iload 4, 2) := by decide +kernel
theorem dL_rights_12 : decode cL_rights 12 = .ok (.i2l, 1) := by decide +kernel
theorem dL_rights_13 : decode cL_rights 13 = .ok (.lastore, 1) := by decide +kernel
theorem dL_rights_14 : decode cL_rights 14 = .ok (.goto 11, 3) := by decide +kernel
theorem dL_rights_25 : decode cL_rights 25 = .ok (.iconst 0, 1) := by decide +kernel
theorem dL_rights_26 : decode cL_rights 26 = .ok (.ireturn, 1) := by decide +kernel
theorem dL_rights_17 : decode cL_rights 17 = .ok (.astore 6, 2) := by decide +kernel
theorem dL_rights_19 : decode cL_rights 19 = .ok (.iconst 1, 1) := by decide +kernel
theorem dL_rights_20 : decode cL_rights 20 = .ok (.ireturn, 1) := by decide +kernel
theorem dL_rights_21 : decode cL_rights 21 = .ok (.astore 6, 2) := by decide +kernel
theorem dL_rights_23 : decode cL_rights 23 = .ok (.iconst 2, 1) := by decide +kernel
theorem dL_rights_24 : decode cL_rights 24 = .ok (.ireturn, 1) := by decide +kernel
theorem dL_rights_9 : decode cL_rights 9 = .ok (.invokevirtual 26, 3) := by decide +kernel
def v_L_rights (a0 : Nat) (p1 : Int32) (p2 : Int32) (p3 : Int32) (p4 : Int32) (a5 : Nat) (T : zT) (F : zF) (Post : Int32 → zF → Prop) : Prop :=
  (T a0 = some (7, 4) ∧ (v_X4_rights a0 p1 p2 p3 p4 T F (fun (r2 : Int32) => (∃ n3 : Nat, T a5 = some (103, n3) ∧ vp_in 0 n3 ∧ Post 0 (zu F a5 (0 : Int32).toNatClampNeg (.long r2.toInt64)))) (fun (E9 : String) => (E9 = "java/lang/IndexOutOfBoundsException" ∧ Post 1 F) ∨ (E9 = "java/lang/IllegalArgumentException" ∧ Post 2 F))))
set_option maxRecDepth 100000 in
set_option maxHeartbeats 4000000 in
theorem k_L_rights {l : Launch} {D : va_G} {cA : Nat → ClassId} {N0 zE : Nat} {a0 : Nat} {p1 : Int32} {p2 : Int32} {p3 : Int32} {p4 : Int32} {a5 : Nat} {T : zT} {F : zF} {Post : Int32 → zF → Prop} (h : v_L_rights a0 p1 p2 p3 p4 a5 T F Post) : z_MH l D cA N0 zE yL_rights cL_rights 7 (some .int) [(0, 14, 17, 19), (0, 14, 21, 21)] ({ frames := 8, cells := 1, slots := 6, locals := 137 } : Room) [.ref a0, .int p1, .int p2, .int p3, .int p4, .ref a5] T F (fun v T' F' => ∃ r : Int32, v = some (.int r) ∧ T = T' ∧ Post r F') (fun E T' F' => False) := by
  unfold v_L_rights at h
  refine z_bodyH (by decide) (Nat.le_of_ble_eq_true rfl) ?_
  intro p e s m args below meth c C hxt hnm
  have C : z_C p l s m args meth c RL cL_rights 7 (some .int) D cA N0 zE := C
  show z_w p l e ({ frames := 8, cells := 1, slots := 6, locals := 137 } : Room) s m args below meth c D cA N0 7 0 0 (vx_MQ below (z_Qc D cA N0 (fun v T' F' => ∃ r : Int32, v = some (.int r) ∧ T = T' ∧ Post r F')) (z_XC D cA N0 (fun E T' F' => False)) args s 1 6 (fun q => N0 ≤ q)) 0 [(0, .ref a0), (1, .int p1), (2, .int p2), (3, .int p3), (4, .int p4), (5, .ref a5)] [] T F
  refine zr_aload C 5 dL_rights_0 rfl ?_
  refine zr_iconst C 0 dL_rights_2 (by decide) ?_
  refine zr_aload_n C 0 dL_rights_3 rfl rfl ?_
  refine zr_iload_n C 1 dL_rights_4 rfl rfl ?_
  refine zr_iload_n C 2 dL_rights_5 rfl rfl ?_
  refine zr_iload_n C 3 dL_rights_6 rfl rfl ?_
  refine zr_iload C 4 dL_rights_7 rfl ?_
  obtain ⟨hT1, h⟩ := h
  refine zr_callVX (As := [.int p1, .int p2, .int p3, .int p4]) (r := (RX4, TX4, 4)) C (k_X4_rights h) ok_L_26 zq_705 zq_706 hT1 (by decide) rfl rfl ⟨by decide, (Nat.le_of_ble_eq_true rfl)⟩ ⟨(Nat.le_of_ble_eq_true rfl), (Nat.le_of_ble_eq_true rfl)⟩ (Nat.le_of_ble_eq_true rfl) dL_rights_9 ?_ (fun v6 U7 G8 hq => ?_)
  · clear h
    intro E9 T9 F9 hq
    obtain ⟨rfl, rfl, hq⟩ := hq
    rcases hq with hq | hq
    · obtain ⟨rfl, h⟩ := hq
      refine zr_catch C "java/lang/IndexOutOfBoundsException" _ [] ⟨0, 14, 17, 19⟩ [⟨0, 14, 21, 21⟩] 17 hxt rfl (fun _ h9 => nomatch h9) (by decide) (by decide) zq_668 zq_267 rfl (fun q9 => ?_)
      refine zr_astore C [(6, .ref q9), (0, .ref a0), (1, .int p1), (2, .int p2), (3, .int p3), (4, .int p4), (5, .ref a5)] dL_rights_17 (by decide) rfl ?_
      refine zr_iconst C 1 dL_rights_19 (by decide) ?_
      exact zr_X (zr_iret C rfl ⟨_, rfl, rfl, h⟩ (Nat.le_of_ble_eq_true rfl) (Nat.le_of_ble_eq_true rfl) dL_rights_20)
    · obtain ⟨rfl, h⟩ := hq
      refine zr_catch C "java/lang/IllegalArgumentException" _ [⟨0, 14, 17, 19⟩] ⟨0, 14, 21, 21⟩ [] 21 hxt rfl (List.forall_mem_cons.mpr ⟨Or.inr ⟨by decide, "java/lang/IndexOutOfBoundsException", zq_668, by decide +kernel⟩, (fun _ h9 => nomatch h9)⟩) (by decide) (by decide) zq_669 zq_191 rfl (fun q9 => ?_)
      refine zr_astore C [(6, .ref q9), (0, .ref a0), (1, .int p1), (2, .int p2), (3, .int p3), (4, .int p4), (5, .ref a5)] dL_rights_21 (by decide) rfl ?_
      refine zr_iconst C 2 dL_rights_23 (by decide) ?_
      exact zr_X (zr_iret C rfl ⟨_, rfl, rfl, h⟩ (Nat.le_of_ble_eq_true rfl) (Nat.le_of_ble_eq_true rfl) dL_rights_24)
  · obtain ⟨r2, rfl, rfl, rfl, h⟩ := hq
    refine zr_i2l C dL_rights_12 ?_
    obtain ⟨n3, hT4, hi5, h⟩ := h
    refine zr_last C rfl hT4 hi5 dL_rights_13 ?_
    refine zr_goto C 25 dL_rights_14 (by decide) ?_
    refine zr_iconst C 0 dL_rights_25 (by decide) ?_
    exact zr_X (zr_iret C rfl ⟨_, rfl, rfl, h⟩ (Nat.le_of_ble_eq_true rfl) (Nat.le_of_ble_eq_true rfl) dL_rights_26)
theorem dL_versionOn_0 : decode cL_versionOn 0 = .ok (.aload_n 3, 1) := by decide +kernel
theorem dL_versionOn_1 : decode cL_versionOn 1 = .ok (.iconst 0, 1) := by decide +kernel
theorem dL_versionOn_2 : decode cL_versionOn 2 = .ok (.aload_n 0, 1) := by decide +kernel
theorem dL_versionOn_3 : decode cL_versionOn 3 = .ok (.iload_n 1, 1) := by decide +kernel
theorem dL_versionOn_4 : decode cL_versionOn 4 = .ok (.iload_n 2, 1) := by decide +kernel
theorem dL_versionOn_8 : decode cL_versionOn 8 = .ok (.i2l, 1) := by decide +kernel
theorem dL_versionOn_9 : decode cL_versionOn 9 = .ok (.lastore, 1) := by decide +kernel
theorem dL_versionOn_10 : decode cL_versionOn 10 = .ok (.goto 11, 3) := by decide +kernel
theorem dL_versionOn_21 : decode cL_versionOn 21 = .ok (.iconst 0, 1) := by decide +kernel
theorem dL_versionOn_22 : decode cL_versionOn 22 = .ok (.ireturn, 1) := by decide +kernel
theorem dL_versionOn_13 : decode cL_versionOn 13 = .ok (.astore 4, 2) := by decide +kernel
theorem dL_versionOn_15 : decode cL_versionOn 15 = .ok (.iconst 1, 1) := by decide +kernel
theorem dL_versionOn_16 : decode cL_versionOn 16 = .ok (.ireturn, 1) := by decide +kernel
theorem dL_versionOn_17 : decode cL_versionOn 17 = .ok (.astore 4, 2) := by decide +kernel
theorem dL_versionOn_19 : decode cL_versionOn 19 = .ok (.iconst 2, 1) := by decide +kernel
theorem dL_versionOn_20 : decode cL_versionOn 20 = .ok (.ireturn, 1) := by decide +kernel
theorem dL_versionOn_5 : decode cL_versionOn 5 = .ok (.invokevirtual 30, 3) := by decide +kernel
def v_L_versionOn (a0 : Nat) (p1 : Int32) (p2 : Int32) (a3 : Nat) (T : zT) (F : zF) (Post : Int32 → zF → Prop) : Prop :=
  (T a0 = some (7, 4) ∧ (v_X4_versionOn a0 p1 p2 T F (fun (r2 : Int32) => (∃ n3 : Nat, T a3 = some (103, n3) ∧ vp_in 0 n3 ∧ Post 0 (zu F a3 (0 : Int32).toNatClampNeg (.long r2.toInt64)))) (fun (E9 : String) => (E9 = "java/lang/IndexOutOfBoundsException" ∧ Post 1 F) ∨ (E9 = "java/lang/IllegalArgumentException" ∧ Post 2 F))))
set_option maxRecDepth 100000 in
set_option maxHeartbeats 4000000 in
theorem k_L_versionOn {l : Launch} {D : va_G} {cA : Nat → ClassId} {N0 zE : Nat} {a0 : Nat} {p1 : Int32} {p2 : Int32} {a3 : Nat} {T : zT} {F : zF} {Post : Int32 → zF → Prop} (h : v_L_versionOn a0 p1 p2 a3 T F Post) : z_MH l D cA N0 zE yL_versionOn cL_versionOn 5 (some .int) [(0, 10, 13, 19), (0, 10, 17, 21)] ({ frames := 8, cells := 1, slots := 6, locals := 134 } : Room) [.ref a0, .int p1, .int p2, .ref a3] T F (fun v T' F' => ∃ r : Int32, v = some (.int r) ∧ T = T' ∧ Post r F') (fun E T' F' => False) := by
  unfold v_L_versionOn at h
  refine z_bodyH (by decide) (Nat.le_of_ble_eq_true rfl) ?_
  intro p e s m args below meth c C hxt hnm
  have C : z_C p l s m args meth c RL cL_versionOn 5 (some .int) D cA N0 zE := C
  show z_w p l e ({ frames := 8, cells := 1, slots := 6, locals := 134 } : Room) s m args below meth c D cA N0 5 0 0 (vx_MQ below (z_Qc D cA N0 (fun v T' F' => ∃ r : Int32, v = some (.int r) ∧ T = T' ∧ Post r F')) (z_XC D cA N0 (fun E T' F' => False)) args s 1 6 (fun q => N0 ≤ q)) 0 [(0, .ref a0), (1, .int p1), (2, .int p2), (3, .ref a3)] [] T F
  refine zr_aload_n C 3 dL_versionOn_0 rfl rfl ?_
  refine zr_iconst C 0 dL_versionOn_1 (by decide) ?_
  refine zr_aload_n C 0 dL_versionOn_2 rfl rfl ?_
  refine zr_iload_n C 1 dL_versionOn_3 rfl rfl ?_
  refine zr_iload_n C 2 dL_versionOn_4 rfl rfl ?_
  obtain ⟨hT1, h⟩ := h
  refine zr_callVX (As := [.int p1, .int p2]) (r := (RX4, TX4, 4)) C (k_X4_versionOn h) ok_L_30 zq_258 zq_259 hT1 (by decide) rfl rfl ⟨by decide, (Nat.le_of_ble_eq_true rfl)⟩ ⟨(Nat.le_of_ble_eq_true rfl), (Nat.le_of_ble_eq_true rfl)⟩ (Nat.le_of_ble_eq_true rfl) dL_versionOn_5 ?_ (fun v6 U7 G8 hq => ?_)
  · clear h
    intro E9 T9 F9 hq
    obtain ⟨rfl, rfl, hq⟩ := hq
    rcases hq with hq | hq
    · obtain ⟨rfl, h⟩ := hq
      refine zr_catch C "java/lang/IndexOutOfBoundsException" _ [] ⟨0, 10, 13, 19⟩ [⟨0, 10, 17, 21⟩] 13 hxt rfl (fun _ h9 => nomatch h9) (by decide) (by decide) zq_668 zq_267 rfl (fun q9 => ?_)
      refine zr_astore C [(4, .ref q9), (0, .ref a0), (1, .int p1), (2, .int p2), (3, .ref a3)] dL_versionOn_13 (by decide) rfl ?_
      refine zr_iconst C 1 dL_versionOn_15 (by decide) ?_
      exact zr_X (zr_iret C rfl ⟨_, rfl, rfl, h⟩ (Nat.le_of_ble_eq_true rfl) (Nat.le_of_ble_eq_true rfl) dL_versionOn_16)
    · obtain ⟨rfl, h⟩ := hq
      refine zr_catch C "java/lang/IllegalArgumentException" _ [⟨0, 10, 13, 19⟩] ⟨0, 10, 17, 21⟩ [] 17 hxt rfl (List.forall_mem_cons.mpr ⟨Or.inr ⟨by decide, "java/lang/IndexOutOfBoundsException", zq_668, by decide +kernel⟩, (fun _ h9 => nomatch h9)⟩) (by decide) (by decide) zq_669 zq_191 rfl (fun q9 => ?_)
      refine zr_astore C [(4, .ref q9), (0, .ref a0), (1, .int p1), (2, .int p2), (3, .ref a3)] dL_versionOn_17 (by decide) rfl ?_
      refine zr_iconst C 2 dL_versionOn_19 (by decide) ?_
      exact zr_X (zr_iret C rfl ⟨_, rfl, rfl, h⟩ (Nat.le_of_ble_eq_true rfl) (Nat.le_of_ble_eq_true rfl) dL_versionOn_20)
  · obtain ⟨r2, rfl, rfl, rfl, h⟩ := hq
    refine zr_i2l C dL_versionOn_8 ?_
    obtain ⟨n3, hT4, hi5, h⟩ := h
    refine zr_last C rfl hT4 hi5 dL_versionOn_9 ?_
    refine zr_goto C 21 dL_versionOn_10 (by decide) ?_
    refine zr_iconst C 0 dL_versionOn_21 (by decide) ?_
    exact zr_X (zr_iret C rfl ⟨_, rfl, rfl, h⟩ (Nat.le_of_ble_eq_true rfl) (Nat.le_of_ble_eq_true rfl) dL_versionOn_22)
theorem dL_hasRights_0 : decode cL_hasRights 0 = .ok (.aload 4, 2) := by decide +kernel
theorem dL_hasRights_2 : decode cL_hasRights 2 = .ok (.iconst 0, 1) := by decide +kernel
theorem dL_hasRights_3 : decode cL_hasRights 3 = .ok (.aload_n 0, 1) := by decide +kernel
theorem dL_hasRights_4 : decode cL_hasRights 4 = .ok (.iload_n 1, 1) := by decide +kernel
theorem dL_hasRights_5 : decode cL_hasRights 5 = .ok (.iload_n 2, 1) := by decide +kernel
theorem dL_hasRights_6 : decode cL_hasRights 6 = .ok (.iload_n 3, 1) := by decide +kernel
theorem dL_hasRights_10 : decode cL_hasRights 10 = .ok (.ifCond .eq 7, 3) := by decide +kernel
theorem dL_hasRights_17 : decode cL_hasRights 17 = .ok (.lconst 0, 1) := by decide +kernel
theorem dL_hasRights_18 : decode cL_hasRights 18 = .ok (.lastore, 1) := by decide +kernel
theorem dL_hasRights_19 : decode cL_hasRights 19 = .ok (.goto 11, 3) := by decide +kernel
theorem dL_hasRights_30 : decode cL_hasRights 30 = .ok (.iconst 0, 1) := by decide +kernel
theorem dL_hasRights_31 : decode cL_hasRights 31 = .ok (.ireturn, 1) := by decide +kernel
theorem dL_hasRights_13 : decode cL_hasRights 13 = .ok (.lconst 1, 1) := by decide +kernel
theorem dL_hasRights_14 : decode cL_hasRights 14 = .ok (.goto 4, 3) := by decide +kernel
theorem dL_hasRights_22 : decode cL_hasRights 22 = .ok (.astore 5, 2) := by decide +kernel
theorem dL_hasRights_24 : decode cL_hasRights 24 = .ok (.iconst 1, 1) := by decide +kernel
theorem dL_hasRights_25 : decode cL_hasRights 25 = .ok (.ireturn, 1) := by decide +kernel
theorem dL_hasRights_26 : decode cL_hasRights 26 = .ok (.astore 5, 2) := by decide +kernel
theorem dL_hasRights_28 : decode cL_hasRights 28 = .ok (.iconst 2, 1) := by decide +kernel
theorem dL_hasRights_29 : decode cL_hasRights 29 = .ok (.ireturn, 1) := by decide +kernel
theorem dL_hasRights_7 : decode cL_hasRights 7 = .ok (.invokevirtual 33, 3) := by decide +kernel
def v_L_hasRights (a0 : Nat) (p1 : Int32) (p2 : Int32) (p3 : Int32) (a4 : Nat) (T : zT) (F : zF) (Post : Int32 → zF → Prop) : Prop :=
  (T a0 = some (7, 4) ∧ (v_X4_hasRights a0 p1 p2 p3 T F (fun (r2 : Int32) => ((r2 = 0 → (∃ n3 : Nat, T a4 = some (103, n3) ∧ vp_in 0 n3 ∧ Post 0 (zu F a4 (0 : Int32).toNatClampNeg (.long 0)))) ∧ (¬ r2 = 0 → (∃ n6 : Nat, T a4 = some (103, n6) ∧ vp_in 0 n6 ∧ Post 0 (zu F a4 (0 : Int32).toNatClampNeg (.long 1)))))) (fun (E9 : String) => (E9 = "java/lang/IndexOutOfBoundsException" ∧ Post 1 F) ∨ (E9 = "java/lang/IllegalArgumentException" ∧ Post 2 F))))
set_option maxRecDepth 100000 in
set_option maxHeartbeats 4000000 in
theorem k_L_hasRights {l : Launch} {D : va_G} {cA : Nat → ClassId} {N0 zE : Nat} {a0 : Nat} {p1 : Int32} {p2 : Int32} {p3 : Int32} {a4 : Nat} {T : zT} {F : zF} {Post : Int32 → zF → Prop} (h : v_L_hasRights a0 p1 p2 p3 a4 T F Post) : z_MH l D cA N0 zE yL_hasRights cL_hasRights 6 (some .int) [(0, 19, 22, 19), (0, 19, 26, 21)] ({ frames := 8, cells := 1, slots := 6, locals := 135 } : Room) [.ref a0, .int p1, .int p2, .int p3, .ref a4] T F (fun v T' F' => ∃ r : Int32, v = some (.int r) ∧ T = T' ∧ Post r F') (fun E T' F' => False) := by
  unfold v_L_hasRights at h
  refine z_bodyH (by decide) (Nat.le_of_ble_eq_true rfl) ?_
  intro p e s m args below meth c C hxt hnm
  have C : z_C p l s m args meth c RL cL_hasRights 6 (some .int) D cA N0 zE := C
  show z_w p l e ({ frames := 8, cells := 1, slots := 6, locals := 135 } : Room) s m args below meth c D cA N0 6 0 0 (vx_MQ below (z_Qc D cA N0 (fun v T' F' => ∃ r : Int32, v = some (.int r) ∧ T = T' ∧ Post r F')) (z_XC D cA N0 (fun E T' F' => False)) args s 1 6 (fun q => N0 ≤ q)) 0 [(0, .ref a0), (1, .int p1), (2, .int p2), (3, .int p3), (4, .ref a4)] [] T F
  refine zr_aload C 4 dL_hasRights_0 rfl ?_
  refine zr_iconst C 0 dL_hasRights_2 (by decide) ?_
  refine zr_aload_n C 0 dL_hasRights_3 rfl rfl ?_
  refine zr_iload_n C 1 dL_hasRights_4 rfl rfl ?_
  refine zr_iload_n C 2 dL_hasRights_5 rfl rfl ?_
  refine zr_iload_n C 3 dL_hasRights_6 rfl rfl ?_
  obtain ⟨hT1, h⟩ := h
  refine zr_callVX (As := [.int p1, .int p2, .int p3]) (r := (RX4, TX4, 4)) C (k_X4_hasRights h) ok_L_33 zq_722 zq_723 hT1 (by decide) rfl rfl ⟨by decide, (Nat.le_of_ble_eq_true rfl)⟩ ⟨(Nat.le_of_ble_eq_true rfl), (Nat.le_of_ble_eq_true rfl)⟩ (Nat.le_of_ble_eq_true rfl) dL_hasRights_7 ?_ (fun v9 U10 G11 hq => ?_)
  · clear h
    intro E9 T9 F9 hq
    obtain ⟨rfl, rfl, hq⟩ := hq
    rcases hq with hq | hq
    · obtain ⟨rfl, h⟩ := hq
      refine zr_catch C "java/lang/IndexOutOfBoundsException" _ [] ⟨0, 19, 22, 19⟩ [⟨0, 19, 26, 21⟩] 22 hxt rfl (fun _ h9 => nomatch h9) (by decide) (by decide) zq_668 zq_267 rfl (fun q9 => ?_)
      refine zr_astore C [(5, .ref q9), (0, .ref a0), (1, .int p1), (2, .int p2), (3, .int p3), (4, .ref a4)] dL_hasRights_22 (by decide) rfl ?_
      refine zr_iconst C 1 dL_hasRights_24 (by decide) ?_
      exact zr_X (zr_iret C rfl ⟨_, rfl, rfl, h⟩ (Nat.le_of_ble_eq_true rfl) (Nat.le_of_ble_eq_true rfl) dL_hasRights_25)
    · obtain ⟨rfl, h⟩ := hq
      refine zr_catch C "java/lang/IllegalArgumentException" _ [⟨0, 19, 22, 19⟩] ⟨0, 19, 26, 21⟩ [] 26 hxt rfl (List.forall_mem_cons.mpr ⟨Or.inr ⟨by decide, "java/lang/IndexOutOfBoundsException", zq_668, by decide +kernel⟩, (fun _ h9 => nomatch h9)⟩) (by decide) (by decide) zq_669 zq_191 rfl (fun q9 => ?_)
      refine zr_astore C [(5, .ref q9), (0, .ref a0), (1, .int p1), (2, .int p2), (3, .int p3), (4, .ref a4)] dL_hasRights_26 (by decide) rfl ?_
      refine zr_iconst C 2 dL_hasRights_28 (by decide) ?_
      exact zr_X (zr_iret C rfl ⟨_, rfl, rfl, h⟩ (Nat.le_of_ble_eq_true rfl) (Nat.le_of_ble_eq_true rfl) dL_hasRights_29)
  · obtain ⟨r2, rfl, rfl, rfl, h⟩ := hq
    obtain ⟨h1, h2⟩ := h
    refine zr_if_eq C 17 dL_hasRights_10 (by decide) (fun hc => ?_) (fun hc => ?_)
    · have h := h1 hc
      clear h1 h2
      refine zr_lconst C 0 dL_hasRights_17 (by decide) ?_
      obtain ⟨n3, hT4, hi5, h⟩ := h
      refine zr_last C rfl hT4 hi5 dL_hasRights_18 ?_
      refine zr_goto C 30 dL_hasRights_19 (by decide) ?_
      refine zr_iconst C 0 dL_hasRights_30 (by decide) ?_
      exact zr_X (zr_iret C rfl ⟨_, rfl, rfl, h⟩ (Nat.le_of_ble_eq_true rfl) (Nat.le_of_ble_eq_true rfl) dL_hasRights_31)
    · have h := h2 hc
      clear h1 h2
      refine zr_lconst C 1 dL_hasRights_13 (by decide) ?_
      refine zr_goto C 18 dL_hasRights_14 (by decide) ?_
      obtain ⟨n6, hT7, hi8, h⟩ := h
      refine zr_last C rfl hT7 hi8 dL_hasRights_18 ?_
      refine zr_goto C 30 dL_hasRights_19 (by decide) ?_
      refine zr_iconst C 0 dL_hasRights_30 (by decide) ?_
      exact zr_X (zr_iret C rfl ⟨_, rfl, rfl, h⟩ (Nat.le_of_ble_eq_true rfl) (Nat.le_of_ble_eq_true rfl) dL_hasRights_31)
theorem dL_piece_0 : decode cL_piece 0 = .ok (.aload_n 3, 1) := by decide +kernel
theorem dL_piece_1 : decode cL_piece 1 = .ok (.iconst 0, 1) := by decide +kernel
theorem dL_piece_2 : decode cL_piece 2 = .ok (.aload_n 0, 1) := by decide +kernel
theorem dL_piece_3 : decode cL_piece 3 = .ok (.iload_n 1, 1) := by decide +kernel
theorem dL_piece_4 : decode cL_piece 4 = .ok (.iload_n 2, 1) := by decide +kernel
theorem dL_piece_8 : decode cL_piece 8 = .ok (.i2l, 1) := by decide +kernel
theorem dL_piece_9 : decode cL_piece 9 = .ok (.lastore, 1) := by decide +kernel
theorem dL_piece_10 : decode cL_piece 10 = .ok (.goto 11, 3) := by decide +kernel
theorem dL_piece_21 : decode cL_piece 21 = .ok (.iconst 0, 1) := by decide +kernel
theorem dL_piece_22 : decode cL_piece 22 = .ok (.ireturn, 1) := by decide +kernel
theorem dL_piece_13 : decode cL_piece 13 = .ok (.astore 4, 2) := by decide +kernel
theorem dL_piece_15 : decode cL_piece 15 = .ok (.iconst 1, 1) := by decide +kernel
theorem dL_piece_16 : decode cL_piece 16 = .ok (.ireturn, 1) := by decide +kernel
theorem dL_piece_17 : decode cL_piece 17 = .ok (.astore 4, 2) := by decide +kernel
theorem dL_piece_19 : decode cL_piece 19 = .ok (.iconst 2, 1) := by decide +kernel
theorem dL_piece_20 : decode cL_piece 20 = .ok (.ireturn, 1) := by decide +kernel
theorem dL_piece_5 : decode cL_piece 5 = .ok (.invokevirtual 37, 3) := by decide +kernel
def v_L_piece (a0 : Nat) (p1 : Int32) (p2 : Int32) (a3 : Nat) (T : zT) (F : zF) (Post : Int32 → zT → zF → Prop) : Prop :=
  (T a0 = some (7, 4) ∧ (v_X4_piece a0 p1 p2 T F (fun (r2 : Int32) (T3 : zT) (F4 : zF) => (∃ n5 : Nat, T3 a3 = some (103, n5) ∧ vp_in 0 n5 ∧ Post 0 T3 (zu F4 a3 (0 : Int32).toNatClampNeg (.long r2.toInt64)))) (fun (E9 : String) (T9 : zT) (F9 : zF) => (E9 = "java/lang/IllegalArgumentException" ∧ Post 1 T9 F9) ∨ (E9 = "java/lang/IllegalStateException" ∧ Post 2 T9 F9))))
set_option maxRecDepth 100000 in
set_option maxHeartbeats 4000000 in
theorem k_L_piece {l : Launch} {D : va_G} {cA : Nat → ClassId} {N0 zE : Nat} {a0 : Nat} {p1 : Int32} {p2 : Int32} {a3 : Nat} {T : zT} {F : zF} {Post : Int32 → zT → zF → Prop} (h : v_L_piece a0 p1 p2 a3 T F Post) : z_MH l D cA N0 zE yL_piece cL_piece 5 (some .int) [(0, 10, 13, 21), (0, 10, 17, 13)] ({ frames := 7, cells := 2, slots := 11, locals := 114 } : Room) [.ref a0, .int p1, .int p2, .ref a3] T F (fun v T' F' => ∃ r : Int32, v = some (.int r) ∧ Post r T' F') (fun E T' F' => False) := by
  unfold v_L_piece at h
  refine z_bodyH (by decide) (Nat.le_of_ble_eq_true rfl) ?_
  intro p e s m args below meth c C hxt hnm
  have C : z_C p l s m args meth c RL cL_piece 5 (some .int) D cA N0 zE := C
  show z_w p l e ({ frames := 7, cells := 2, slots := 11, locals := 114 } : Room) s m args below meth c D cA N0 5 0 0 (vx_MQ below (z_Qc D cA N0 (fun v T' F' => ∃ r : Int32, v = some (.int r) ∧ Post r T' F')) (z_XC D cA N0 (fun E T' F' => False)) args s 2 11 (fun q => N0 ≤ q)) 0 [(0, .ref a0), (1, .int p1), (2, .int p2), (3, .ref a3)] [] T F
  refine zr_aload_n C 3 dL_piece_0 rfl rfl ?_
  refine zr_iconst C 0 dL_piece_1 (by decide) ?_
  refine zr_aload_n C 0 dL_piece_2 rfl rfl ?_
  refine zr_iload_n C 1 dL_piece_3 rfl rfl ?_
  refine zr_iload_n C 2 dL_piece_4 rfl rfl ?_
  obtain ⟨hT1, h⟩ := h
  refine zr_callVX (As := [.int p1, .int p2]) (r := (RX4, TX4, 4)) C (k_X4_piece h) ok_L_37 zq_730 zq_731 hT1 (by decide) rfl rfl ⟨by decide, (Nat.le_of_ble_eq_true rfl)⟩ ⟨(Nat.le_of_ble_eq_true rfl), (Nat.le_of_ble_eq_true rfl)⟩ (Nat.le_of_ble_eq_true rfl) dL_piece_5 ?_ (fun v8 U9 G10 hq => ?_)
  · clear h
    intro E9 T9 F9 hq
    rcases hq with hq | hq
    · obtain ⟨rfl, h⟩ := hq
      refine zr_catch C "java/lang/IllegalArgumentException" _ [] ⟨0, 10, 13, 21⟩ [⟨0, 10, 17, 13⟩] 13 hxt rfl (fun _ h9 => nomatch h9) (by decide) (by decide) zq_669 zq_191 rfl (fun q9 => ?_)
      refine zr_astore C [(4, .ref q9), (0, .ref a0), (1, .int p1), (2, .int p2), (3, .ref a3)] dL_piece_13 (by decide) rfl ?_
      refine zr_iconst C 1 dL_piece_15 (by decide) ?_
      exact zr_X (zr_iret C rfl ⟨_, rfl, h⟩ (Nat.le_of_ble_eq_true rfl) (Nat.le_of_ble_eq_true rfl) dL_piece_16)
    · obtain ⟨rfl, h⟩ := hq
      refine zr_catch C "java/lang/IllegalStateException" _ [⟨0, 10, 13, 21⟩] ⟨0, 10, 17, 13⟩ [] 17 hxt rfl (List.forall_mem_cons.mpr ⟨Or.inr ⟨by decide, "java/lang/IllegalArgumentException", zq_669, by decide +kernel⟩, (fun _ h9 => nomatch h9)⟩) (by decide) (by decide) zq_618 zq_625 rfl (fun q9 => ?_)
      refine zr_astore C [(4, .ref q9), (0, .ref a0), (1, .int p1), (2, .int p2), (3, .ref a3)] dL_piece_17 (by decide) rfl ?_
      refine zr_iconst C 2 dL_piece_19 (by decide) ?_
      exact zr_X (zr_iret C rfl ⟨_, rfl, h⟩ (Nat.le_of_ble_eq_true rfl) (Nat.le_of_ble_eq_true rfl) dL_piece_20)
  · obtain ⟨r2, rfl, h⟩ := hq
    skip
    refine zr_i2l C dL_piece_8 ?_
    obtain ⟨n5, hT6, hi7, h⟩ := h
    refine zr_last C rfl hT6 hi7 dL_piece_9 ?_
    refine zr_goto C 21 dL_piece_10 (by decide) ?_
    refine zr_iconst C 0 dL_piece_21 (by decide) ?_
    exact zr_X (zr_iret C rfl ⟨_, rfl, h⟩ (Nat.le_of_ble_eq_true rfl) (Nat.le_of_ble_eq_true rfl) dL_piece_22)
theorem dL_approve_0 : decode cL_approve 0 = .ok (.aload_n 3, 1) := by decide +kernel
theorem dL_approve_1 : decode cL_approve 1 = .ok (.iconst 0, 1) := by decide +kernel
theorem dL_approve_2 : decode cL_approve 2 = .ok (.aload_n 0, 1) := by decide +kernel
theorem dL_approve_3 : decode cL_approve 3 = .ok (.iload_n 1, 1) := by decide +kernel
theorem dL_approve_4 : decode cL_approve 4 = .ok (.iload_n 2, 1) := by decide +kernel
theorem dL_approve_8 : decode cL_approve 8 = .ok (.ifCond .eq 7, 3) := by decide +kernel
theorem dL_approve_15 : decode cL_approve 15 = .ok (.lconst 0, 1) := by decide +kernel
theorem dL_approve_16 : decode cL_approve 16 = .ok (.lastore, 1) := by decide +kernel
theorem dL_approve_17 : decode cL_approve 17 = .ok (.goto 11, 3) := by decide +kernel
theorem dL_approve_28 : decode cL_approve 28 = .ok (.iconst 0, 1) := by decide +kernel
theorem dL_approve_29 : decode cL_approve 29 = .ok (.ireturn, 1) := by decide +kernel
theorem dL_approve_11 : decode cL_approve 11 = .ok (.lconst 1, 1) := by decide +kernel
theorem dL_approve_12 : decode cL_approve 12 = .ok (.goto 4, 3) := by decide +kernel
theorem dL_approve_20 : decode cL_approve 20 = .ok (.astore 4, 2) := by decide +kernel
theorem dL_approve_22 : decode cL_approve 22 = .ok (.iconst 1, 1) := by decide +kernel
theorem dL_approve_23 : decode cL_approve 23 = .ok (.ireturn, 1) := by decide +kernel
theorem dL_approve_24 : decode cL_approve 24 = .ok (.astore 4, 2) := by decide +kernel
theorem dL_approve_26 : decode cL_approve 26 = .ok (.iconst 2, 1) := by decide +kernel
theorem dL_approve_27 : decode cL_approve 27 = .ok (.ireturn, 1) := by decide +kernel
theorem dL_approve_5 : decode cL_approve 5 = .ok (.invokevirtual 40, 3) := by decide +kernel
def v_L_approve (a0 : Nat) (p1 : Int32) (p2 : Int32) (a3 : Nat) (T : zT) (F : zF) (Post : Int32 → zF → Prop) : Prop :=
  (T a0 = some (7, 4) ∧ (v_X4_approve a0 p1 p2 T F (fun (r2 : Int32) => ((r2 = 0 → (∃ n3 : Nat, T a3 = some (103, n3) ∧ vp_in 0 n3 ∧ Post 0 (zu F a3 (0 : Int32).toNatClampNeg (.long 0)))) ∧ (¬ r2 = 0 → (∃ n6 : Nat, T a3 = some (103, n6) ∧ vp_in 0 n6 ∧ Post 0 (zu F a3 (0 : Int32).toNatClampNeg (.long 1)))))) (fun (E9 : String) => (E9 = "java/lang/IndexOutOfBoundsException" ∧ Post 1 F) ∨ (E9 = "java/lang/IllegalStateException" ∧ Post 2 F))))
set_option maxRecDepth 100000 in
set_option maxHeartbeats 4000000 in
theorem k_L_approve {l : Launch} {D : va_G} {cA : Nat → ClassId} {N0 zE : Nat} {a0 : Nat} {p1 : Int32} {p2 : Int32} {a3 : Nat} {T : zT} {F : zF} {Post : Int32 → zF → Prop} (h : v_L_approve a0 p1 p2 a3 T F Post) : z_MH l D cA N0 zE yL_approve cL_approve 5 (some .int) [(0, 17, 20, 19), (0, 17, 24, 13)] ({ frames := 8, cells := 1, slots := 6, locals := 135 } : Room) [.ref a0, .int p1, .int p2, .ref a3] T F (fun v T' F' => ∃ r : Int32, v = some (.int r) ∧ T = T' ∧ Post r F') (fun E T' F' => False) := by
  unfold v_L_approve at h
  refine z_bodyH (by decide) (Nat.le_of_ble_eq_true rfl) ?_
  intro p e s m args below meth c C hxt hnm
  have C : z_C p l s m args meth c RL cL_approve 5 (some .int) D cA N0 zE := C
  show z_w p l e ({ frames := 8, cells := 1, slots := 6, locals := 135 } : Room) s m args below meth c D cA N0 5 0 0 (vx_MQ below (z_Qc D cA N0 (fun v T' F' => ∃ r : Int32, v = some (.int r) ∧ T = T' ∧ Post r F')) (z_XC D cA N0 (fun E T' F' => False)) args s 1 6 (fun q => N0 ≤ q)) 0 [(0, .ref a0), (1, .int p1), (2, .int p2), (3, .ref a3)] [] T F
  refine zr_aload_n C 3 dL_approve_0 rfl rfl ?_
  refine zr_iconst C 0 dL_approve_1 (by decide) ?_
  refine zr_aload_n C 0 dL_approve_2 rfl rfl ?_
  refine zr_iload_n C 1 dL_approve_3 rfl rfl ?_
  refine zr_iload_n C 2 dL_approve_4 rfl rfl ?_
  obtain ⟨hT1, h⟩ := h
  refine zr_callVX (As := [.int p1, .int p2]) (r := (RX4, TX4, 4)) C (k_X4_approve h) ok_L_40 zq_771 zq_772 hT1 (by decide) rfl rfl ⟨by decide, (Nat.le_of_ble_eq_true rfl)⟩ ⟨(Nat.le_of_ble_eq_true rfl), (Nat.le_of_ble_eq_true rfl)⟩ (Nat.le_of_ble_eq_true rfl) dL_approve_5 ?_ (fun v9 U10 G11 hq => ?_)
  · clear h
    intro E9 T9 F9 hq
    obtain ⟨rfl, rfl, hq⟩ := hq
    rcases hq with hq | hq
    · obtain ⟨rfl, h⟩ := hq
      refine zr_catch C "java/lang/IndexOutOfBoundsException" _ [] ⟨0, 17, 20, 19⟩ [⟨0, 17, 24, 13⟩] 20 hxt rfl (fun _ h9 => nomatch h9) (by decide) (by decide) zq_668 zq_267 rfl (fun q9 => ?_)
      refine zr_astore C [(4, .ref q9), (0, .ref a0), (1, .int p1), (2, .int p2), (3, .ref a3)] dL_approve_20 (by decide) rfl ?_
      refine zr_iconst C 1 dL_approve_22 (by decide) ?_
      exact zr_X (zr_iret C rfl ⟨_, rfl, rfl, h⟩ (Nat.le_of_ble_eq_true rfl) (Nat.le_of_ble_eq_true rfl) dL_approve_23)
    · obtain ⟨rfl, h⟩ := hq
      refine zr_catch C "java/lang/IllegalStateException" _ [⟨0, 17, 20, 19⟩] ⟨0, 17, 24, 13⟩ [] 24 hxt rfl (List.forall_mem_cons.mpr ⟨Or.inr ⟨by decide, "java/lang/IndexOutOfBoundsException", zq_668, by decide +kernel⟩, (fun _ h9 => nomatch h9)⟩) (by decide) (by decide) zq_618 zq_625 rfl (fun q9 => ?_)
      refine zr_astore C [(4, .ref q9), (0, .ref a0), (1, .int p1), (2, .int p2), (3, .ref a3)] dL_approve_24 (by decide) rfl ?_
      refine zr_iconst C 2 dL_approve_26 (by decide) ?_
      exact zr_X (zr_iret C rfl ⟨_, rfl, rfl, h⟩ (Nat.le_of_ble_eq_true rfl) (Nat.le_of_ble_eq_true rfl) dL_approve_27)
  · obtain ⟨r2, rfl, rfl, rfl, h⟩ := hq
    obtain ⟨h1, h2⟩ := h
    refine zr_if_eq C 15 dL_approve_8 (by decide) (fun hc => ?_) (fun hc => ?_)
    · have h := h1 hc
      clear h1 h2
      refine zr_lconst C 0 dL_approve_15 (by decide) ?_
      obtain ⟨n3, hT4, hi5, h⟩ := h
      refine zr_last C rfl hT4 hi5 dL_approve_16 ?_
      refine zr_goto C 28 dL_approve_17 (by decide) ?_
      refine zr_iconst C 0 dL_approve_28 (by decide) ?_
      exact zr_X (zr_iret C rfl ⟨_, rfl, rfl, h⟩ (Nat.le_of_ble_eq_true rfl) (Nat.le_of_ble_eq_true rfl) dL_approve_29)
    · have h := h2 hc
      clear h1 h2
      refine zr_lconst C 1 dL_approve_11 (by decide) ?_
      refine zr_goto C 16 dL_approve_12 (by decide) ?_
      obtain ⟨n6, hT7, hi8, h⟩ := h
      refine zr_last C rfl hT7 hi8 dL_approve_16 ?_
      refine zr_goto C 28 dL_approve_17 (by decide) ?_
      refine zr_iconst C 0 dL_approve_28 (by decide) ?_
      exact zr_X (zr_iret C rfl ⟨_, rfl, rfl, h⟩ (Nat.le_of_ble_eq_true rfl) (Nat.le_of_ble_eq_true rfl) dL_approve_29)
theorem dL_hold_0 : decode cL_hold 0 = .ok (.aload_n 3, 1) := by decide +kernel
theorem dL_hold_1 : decode cL_hold 1 = .ok (.iconst 0, 1) := by decide +kernel
theorem dL_hold_2 : decode cL_hold 2 = .ok (.aload_n 0, 1) := by decide +kernel
theorem dL_hold_3 : decode cL_hold 3 = .ok (.iload_n 1, 1) := by decide +kernel
theorem dL_hold_4 : decode cL_hold 4 = .ok (.iload_n 2, 1) := by decide +kernel
theorem dL_hold_8 : decode cL_hold 8 = .ok (.ifCond .eq 7, 3) := by decide +kernel
theorem dL_hold_15 : decode cL_hold 15 = .ok (.lconst 0, 1) := by decide +kernel
theorem dL_hold_16 : decode cL_hold 16 = .ok (.lastore, 1) := by decide +kernel
theorem dL_hold_17 : decode cL_hold 17 = .ok (.goto 7, 3) := by decide +kernel
theorem dL_hold_24 : decode cL_hold 24 = .ok (.iconst 0, 1) := by decide +kernel
theorem dL_hold_25 : decode cL_hold 25 = .ok (.ireturn, 1) := by decide +kernel
theorem dL_hold_11 : decode cL_hold 11 = .ok (.lconst 1, 1) := by decide +kernel
theorem dL_hold_12 : decode cL_hold 12 = .ok (.goto 4, 3) := by decide +kernel
theorem dL_hold_20 : decode cL_hold 20 = .ok (.astore 4, 2) := by decide +kernel
theorem dL_hold_22 : decode cL_hold 22 = .ok (.iconst 1, 1) := by decide +kernel
theorem dL_hold_23 : decode cL_hold 23 = .ok (.ireturn, 1) := by decide +kernel
theorem dL_hold_5 : decode cL_hold 5 = .ok (.invokevirtual 44, 3) := by decide +kernel
def v_L_hold (a0 : Nat) (p1 : Int32) (p2 : Int32) (a3 : Nat) (T : zT) (F : zF) (Post : Int32 → zF → Prop) : Prop :=
  (T a0 = some (7, 4) ∧ (v_X4_hold a0 p1 p2 T F (fun (r2 : Int32) => ((r2 = 0 → (∃ n3 : Nat, T a3 = some (103, n3) ∧ vp_in 0 n3 ∧ Post 0 (zu F a3 (0 : Int32).toNatClampNeg (.long 0)))) ∧ (¬ r2 = 0 → (∃ n6 : Nat, T a3 = some (103, n6) ∧ vp_in 0 n6 ∧ Post 0 (zu F a3 (0 : Int32).toNatClampNeg (.long 1)))))) (fun (E9 : String) => (E9 = "java/lang/IndexOutOfBoundsException" ∧ Post 1 F))))
set_option maxRecDepth 100000 in
set_option maxHeartbeats 4000000 in
theorem k_L_hold {l : Launch} {D : va_G} {cA : Nat → ClassId} {N0 zE : Nat} {a0 : Nat} {p1 : Int32} {p2 : Int32} {a3 : Nat} {T : zT} {F : zF} {Post : Int32 → zF → Prop} (h : v_L_hold a0 p1 p2 a3 T F Post) : z_MH l D cA N0 zE yL_hold cL_hold 5 (some .int) [(0, 17, 20, 19)] ({ frames := 8, cells := 1, slots := 6, locals := 135 } : Room) [.ref a0, .int p1, .int p2, .ref a3] T F (fun v T' F' => ∃ r : Int32, v = some (.int r) ∧ T = T' ∧ Post r F') (fun E T' F' => False) := by
  unfold v_L_hold at h
  refine z_bodyH (by decide) (Nat.le_of_ble_eq_true rfl) ?_
  intro p e s m args below meth c C hxt hnm
  have C : z_C p l s m args meth c RL cL_hold 5 (some .int) D cA N0 zE := C
  show z_w p l e ({ frames := 8, cells := 1, slots := 6, locals := 135 } : Room) s m args below meth c D cA N0 5 0 0 (vx_MQ below (z_Qc D cA N0 (fun v T' F' => ∃ r : Int32, v = some (.int r) ∧ T = T' ∧ Post r F')) (z_XC D cA N0 (fun E T' F' => False)) args s 1 6 (fun q => N0 ≤ q)) 0 [(0, .ref a0), (1, .int p1), (2, .int p2), (3, .ref a3)] [] T F
  refine zr_aload_n C 3 dL_hold_0 rfl rfl ?_
  refine zr_iconst C 0 dL_hold_1 (by decide) ?_
  refine zr_aload_n C 0 dL_hold_2 rfl rfl ?_
  refine zr_iload_n C 1 dL_hold_3 rfl rfl ?_
  refine zr_iload_n C 2 dL_hold_4 rfl rfl ?_
  obtain ⟨hT1, h⟩ := h
  refine zr_callVX (As := [.int p1, .int p2]) (r := (RX4, TX4, 4)) C (k_X4_hold h) ok_L_44 zq_785 zq_786 hT1 (by decide) rfl rfl ⟨by decide, (Nat.le_of_ble_eq_true rfl)⟩ ⟨(Nat.le_of_ble_eq_true rfl), (Nat.le_of_ble_eq_true rfl)⟩ (Nat.le_of_ble_eq_true rfl) dL_hold_5 ?_ (fun v9 U10 G11 hq => ?_)
  · clear h
    intro E9 T9 F9 hq
    obtain ⟨rfl, rfl, hq⟩ := hq
    · obtain ⟨rfl, h⟩ := hq
      refine zr_catch C "java/lang/IndexOutOfBoundsException" _ [] ⟨0, 17, 20, 19⟩ [] 20 hxt rfl (fun _ h9 => nomatch h9) (by decide) (by decide) zq_668 zq_267 rfl (fun q9 => ?_)
      refine zr_astore C [(4, .ref q9), (0, .ref a0), (1, .int p1), (2, .int p2), (3, .ref a3)] dL_hold_20 (by decide) rfl ?_
      refine zr_iconst C 1 dL_hold_22 (by decide) ?_
      exact zr_X (zr_iret C rfl ⟨_, rfl, rfl, h⟩ (Nat.le_of_ble_eq_true rfl) (Nat.le_of_ble_eq_true rfl) dL_hold_23)
  · obtain ⟨r2, rfl, rfl, rfl, h⟩ := hq
    obtain ⟨h1, h2⟩ := h
    refine zr_if_eq C 15 dL_hold_8 (by decide) (fun hc => ?_) (fun hc => ?_)
    · have h := h1 hc
      clear h1 h2
      refine zr_lconst C 0 dL_hold_15 (by decide) ?_
      obtain ⟨n3, hT4, hi5, h⟩ := h
      refine zr_last C rfl hT4 hi5 dL_hold_16 ?_
      refine zr_goto C 24 dL_hold_17 (by decide) ?_
      refine zr_iconst C 0 dL_hold_24 (by decide) ?_
      exact zr_X (zr_iret C rfl ⟨_, rfl, rfl, h⟩ (Nat.le_of_ble_eq_true rfl) (Nat.le_of_ble_eq_true rfl) dL_hold_25)
    · have h := h2 hc
      clear h1 h2
      refine zr_lconst C 1 dL_hold_11 (by decide) ?_
      refine zr_goto C 16 dL_hold_12 (by decide) ?_
      obtain ⟨n6, hT7, hi8, h⟩ := h
      refine zr_last C rfl hT7 hi8 dL_hold_16 ?_
      refine zr_goto C 24 dL_hold_17 (by decide) ?_
      refine zr_iconst C 0 dL_hold_24 (by decide) ?_
      exact zr_X (zr_iret C rfl ⟨_, rfl, rfl, h⟩ (Nat.le_of_ble_eq_true rfl) (Nat.le_of_ble_eq_true rfl) dL_hold_25)
theorem dL_reason_0 : decode cL_reason 0 = .ok (.aload 4, 2) := by decide +kernel
theorem dL_reason_2 : decode cL_reason 2 = .ok (.iconst 0, 1) := by decide +kernel
theorem dL_reason_3 : decode cL_reason 3 = .ok (.aload_n 0, 1) := by decide +kernel
theorem dL_reason_4 : decode cL_reason 4 = .ok (.iload_n 1, 1) := by decide +kernel
theorem dL_reason_5 : decode cL_reason 5 = .ok (.iload_n 2, 1) := by decide +kernel
theorem dL_reason_6 : decode cL_reason 6 = .ok (.iload_n 3, 1) := by decide +kernel
theorem dL_reason_10 : decode cL_reason 10 = .ok (.i2l, 1) := by decide +kernel
theorem dL_reason_11 : decode cL_reason 11 = .ok (.lastore, 1) := by decide +kernel
theorem dL_reason_12 : decode cL_reason 12 = .ok (.goto 11, 3) := by decide +kernel
theorem dL_reason_23 : decode cL_reason 23 = .ok (.iconst 0, 1) := by decide +kernel
theorem dL_reason_24 : decode cL_reason 24 = .ok (.ireturn, 1) := by decide +kernel
theorem dL_reason_15 : decode cL_reason 15 = .ok (.astore 5, 2) := by decide +kernel
theorem dL_reason_17 : decode cL_reason 17 = .ok (.iconst 1, 1) := by decide +kernel
theorem dL_reason_18 : decode cL_reason 18 = .ok (.ireturn, 1) := by decide +kernel
theorem dL_reason_19 : decode cL_reason 19 = .ok (.astore 5, 2) := by decide +kernel
theorem dL_reason_21 : decode cL_reason 21 = .ok (.iconst 2, 1) := by decide +kernel
theorem dL_reason_22 : decode cL_reason 22 = .ok (.ireturn, 1) := by decide +kernel
theorem dL_reason_7 : decode cL_reason 7 = .ok (.invokevirtual 47, 3) := by decide +kernel
def v_L_reason (a0 : Nat) (p1 : Int32) (p2 : Int32) (p3 : Int32) (a4 : Nat) (T : zT) (F : zF) (Post : Int32 → zF → Prop) : Prop :=
  (T a0 = some (7, 4) ∧ (v_X4_reason a0 p1 p2 p3 T F (fun (r2 : Int32) => (∃ n3 : Nat, T a4 = some (103, n3) ∧ vp_in 0 n3 ∧ Post 0 (zu F a4 (0 : Int32).toNatClampNeg (.long r2.toInt64)))) (fun (E9 : String) => (E9 = "java/lang/IndexOutOfBoundsException" ∧ Post 1 F) ∨ (E9 = "java/lang/IllegalArgumentException" ∧ Post 2 F))))
set_option maxRecDepth 100000 in
set_option maxHeartbeats 4000000 in
theorem k_L_reason {l : Launch} {D : va_G} {cA : Nat → ClassId} {N0 zE : Nat} {a0 : Nat} {p1 : Int32} {p2 : Int32} {p3 : Int32} {a4 : Nat} {T : zT} {F : zF} {Post : Int32 → zF → Prop} (h : v_L_reason a0 p1 p2 p3 a4 T F Post) : z_MH l D cA N0 zE yL_reason cL_reason 6 (some .int) [(0, 12, 15, 19), (0, 12, 19, 21)] ({ frames := 8, cells := 1, slots := 6, locals := 135 } : Room) [.ref a0, .int p1, .int p2, .int p3, .ref a4] T F (fun v T' F' => ∃ r : Int32, v = some (.int r) ∧ T = T' ∧ Post r F') (fun E T' F' => False) := by
  unfold v_L_reason at h
  refine z_bodyH (by decide) (Nat.le_of_ble_eq_true rfl) ?_
  intro p e s m args below meth c C hxt hnm
  have C : z_C p l s m args meth c RL cL_reason 6 (some .int) D cA N0 zE := C
  show z_w p l e ({ frames := 8, cells := 1, slots := 6, locals := 135 } : Room) s m args below meth c D cA N0 6 0 0 (vx_MQ below (z_Qc D cA N0 (fun v T' F' => ∃ r : Int32, v = some (.int r) ∧ T = T' ∧ Post r F')) (z_XC D cA N0 (fun E T' F' => False)) args s 1 6 (fun q => N0 ≤ q)) 0 [(0, .ref a0), (1, .int p1), (2, .int p2), (3, .int p3), (4, .ref a4)] [] T F
  refine zr_aload C 4 dL_reason_0 rfl ?_
  refine zr_iconst C 0 dL_reason_2 (by decide) ?_
  refine zr_aload_n C 0 dL_reason_3 rfl rfl ?_
  refine zr_iload_n C 1 dL_reason_4 rfl rfl ?_
  refine zr_iload_n C 2 dL_reason_5 rfl rfl ?_
  refine zr_iload_n C 3 dL_reason_6 rfl rfl ?_
  obtain ⟨hT1, h⟩ := h
  refine zr_callVX (As := [.int p1, .int p2, .int p3]) (r := (RX4, TX4, 4)) C (k_X4_reason h) ok_L_47 zq_341 zq_342 hT1 (by decide) rfl rfl ⟨by decide, (Nat.le_of_ble_eq_true rfl)⟩ ⟨(Nat.le_of_ble_eq_true rfl), (Nat.le_of_ble_eq_true rfl)⟩ (Nat.le_of_ble_eq_true rfl) dL_reason_7 ?_ (fun v6 U7 G8 hq => ?_)
  · clear h
    intro E9 T9 F9 hq
    obtain ⟨rfl, rfl, hq⟩ := hq
    rcases hq with hq | hq
    · obtain ⟨rfl, h⟩ := hq
      refine zr_catch C "java/lang/IndexOutOfBoundsException" _ [] ⟨0, 12, 15, 19⟩ [⟨0, 12, 19, 21⟩] 15 hxt rfl (fun _ h9 => nomatch h9) (by decide) (by decide) zq_668 zq_267 rfl (fun q9 => ?_)
      refine zr_astore C [(5, .ref q9), (0, .ref a0), (1, .int p1), (2, .int p2), (3, .int p3), (4, .ref a4)] dL_reason_15 (by decide) rfl ?_
      refine zr_iconst C 1 dL_reason_17 (by decide) ?_
      exact zr_X (zr_iret C rfl ⟨_, rfl, rfl, h⟩ (Nat.le_of_ble_eq_true rfl) (Nat.le_of_ble_eq_true rfl) dL_reason_18)
    · obtain ⟨rfl, h⟩ := hq
      refine zr_catch C "java/lang/IllegalArgumentException" _ [⟨0, 12, 15, 19⟩] ⟨0, 12, 19, 21⟩ [] 19 hxt rfl (List.forall_mem_cons.mpr ⟨Or.inr ⟨by decide, "java/lang/IndexOutOfBoundsException", zq_668, by decide +kernel⟩, (fun _ h9 => nomatch h9)⟩) (by decide) (by decide) zq_669 zq_191 rfl (fun q9 => ?_)
      refine zr_astore C [(5, .ref q9), (0, .ref a0), (1, .int p1), (2, .int p2), (3, .int p3), (4, .ref a4)] dL_reason_19 (by decide) rfl ?_
      refine zr_iconst C 2 dL_reason_21 (by decide) ?_
      exact zr_X (zr_iret C rfl ⟨_, rfl, rfl, h⟩ (Nat.le_of_ble_eq_true rfl) (Nat.le_of_ble_eq_true rfl) dL_reason_22)
  · obtain ⟨r2, rfl, rfl, rfl, h⟩ := hq
    refine zr_i2l C dL_reason_10 ?_
    obtain ⟨n3, hT4, hi5, h⟩ := h
    refine zr_last C rfl hT4 hi5 dL_reason_11 ?_
    refine zr_goto C 23 dL_reason_12 (by decide) ?_
    refine zr_iconst C 0 dL_reason_23 (by decide) ?_
    exact zr_X (zr_iret C rfl ⟨_, rfl, rfl, h⟩ (Nat.le_of_ble_eq_true rfl) (Nat.le_of_ble_eq_true rfl) dL_reason_24)
theorem dL_isFit_0 : decode cL_isFit 0 = .ok (.aload 4, 2) := by decide +kernel
theorem dL_isFit_2 : decode cL_isFit 2 = .ok (.iconst 0, 1) := by decide +kernel
theorem dL_isFit_3 : decode cL_isFit 3 = .ok (.aload_n 0, 1) := by decide +kernel
theorem dL_isFit_4 : decode cL_isFit 4 = .ok (.iload_n 1, 1) := by decide +kernel
theorem dL_isFit_5 : decode cL_isFit 5 = .ok (.iload_n 2, 1) := by decide +kernel
theorem dL_isFit_6 : decode cL_isFit 6 = .ok (.iload_n 3, 1) := by decide +kernel
theorem dL_isFit_10 : decode cL_isFit 10 = .ok (.ifCond .eq 7, 3) := by decide +kernel
theorem dL_isFit_17 : decode cL_isFit 17 = .ok (.lconst 0, 1) := by decide +kernel
theorem dL_isFit_18 : decode cL_isFit 18 = .ok (.lastore, 1) := by decide +kernel
theorem dL_isFit_19 : decode cL_isFit 19 = .ok (.goto 11, 3) := by decide +kernel
theorem dL_isFit_30 : decode cL_isFit 30 = .ok (.iconst 0, 1) := by decide +kernel
theorem dL_isFit_31 : decode cL_isFit 31 = .ok (.ireturn, 1) := by decide +kernel
theorem dL_isFit_13 : decode cL_isFit 13 = .ok (.lconst 1, 1) := by decide +kernel
theorem dL_isFit_14 : decode cL_isFit 14 = .ok (.goto 4, 3) := by decide +kernel
theorem dL_isFit_22 : decode cL_isFit 22 = .ok (.astore 5, 2) := by decide +kernel
theorem dL_isFit_24 : decode cL_isFit 24 = .ok (.iconst 1, 1) := by decide +kernel
theorem dL_isFit_25 : decode cL_isFit 25 = .ok (.ireturn, 1) := by decide +kernel
theorem dL_isFit_26 : decode cL_isFit 26 = .ok (.astore 5, 2) := by decide +kernel
theorem dL_isFit_28 : decode cL_isFit 28 = .ok (.iconst 2, 1) := by decide +kernel
theorem dL_isFit_29 : decode cL_isFit 29 = .ok (.ireturn, 1) := by decide +kernel
theorem dL_isFit_7 : decode cL_isFit 7 = .ok (.invokevirtual 51, 3) := by decide +kernel
def v_L_isFit (a0 : Nat) (p1 : Int32) (p2 : Int32) (p3 : Int32) (a4 : Nat) (T : zT) (F : zF) (Post : Int32 → zF → Prop) : Prop :=
  (T a0 = some (7, 4) ∧ (v_X4_isFit a0 p1 p2 p3 T F (fun (r2 : Int32) => ((r2 = 0 → (∃ n3 : Nat, T a4 = some (103, n3) ∧ vp_in 0 n3 ∧ Post 0 (zu F a4 (0 : Int32).toNatClampNeg (.long 0)))) ∧ (¬ r2 = 0 → (∃ n6 : Nat, T a4 = some (103, n6) ∧ vp_in 0 n6 ∧ Post 0 (zu F a4 (0 : Int32).toNatClampNeg (.long 1)))))) (fun (E9 : String) => (E9 = "java/lang/IndexOutOfBoundsException" ∧ Post 1 F) ∨ (E9 = "java/lang/IllegalArgumentException" ∧ Post 2 F))))
set_option maxRecDepth 100000 in
set_option maxHeartbeats 4000000 in
theorem k_L_isFit {l : Launch} {D : va_G} {cA : Nat → ClassId} {N0 zE : Nat} {a0 : Nat} {p1 : Int32} {p2 : Int32} {p3 : Int32} {a4 : Nat} {T : zT} {F : zF} {Post : Int32 → zF → Prop} (h : v_L_isFit a0 p1 p2 p3 a4 T F Post) : z_MH l D cA N0 zE yL_isFit cL_isFit 6 (some .int) [(0, 19, 22, 19), (0, 19, 26, 21)] ({ frames := 8, cells := 1, slots := 6, locals := 135 } : Room) [.ref a0, .int p1, .int p2, .int p3, .ref a4] T F (fun v T' F' => ∃ r : Int32, v = some (.int r) ∧ T = T' ∧ Post r F') (fun E T' F' => False) := by
  unfold v_L_isFit at h
  refine z_bodyH (by decide) (Nat.le_of_ble_eq_true rfl) ?_
  intro p e s m args below meth c C hxt hnm
  have C : z_C p l s m args meth c RL cL_isFit 6 (some .int) D cA N0 zE := C
  show z_w p l e ({ frames := 8, cells := 1, slots := 6, locals := 135 } : Room) s m args below meth c D cA N0 6 0 0 (vx_MQ below (z_Qc D cA N0 (fun v T' F' => ∃ r : Int32, v = some (.int r) ∧ T = T' ∧ Post r F')) (z_XC D cA N0 (fun E T' F' => False)) args s 1 6 (fun q => N0 ≤ q)) 0 [(0, .ref a0), (1, .int p1), (2, .int p2), (3, .int p3), (4, .ref a4)] [] T F
  refine zr_aload C 4 dL_isFit_0 rfl ?_
  refine zr_iconst C 0 dL_isFit_2 (by decide) ?_
  refine zr_aload_n C 0 dL_isFit_3 rfl rfl ?_
  refine zr_iload_n C 1 dL_isFit_4 rfl rfl ?_
  refine zr_iload_n C 2 dL_isFit_5 rfl rfl ?_
  refine zr_iload_n C 3 dL_isFit_6 rfl rfl ?_
  obtain ⟨hT1, h⟩ := h
  refine zr_callVX (As := [.int p1, .int p2, .int p3]) (r := (RX4, TX4, 4)) C (k_X4_isFit h) ok_L_51 zq_800 zq_801 hT1 (by decide) rfl rfl ⟨by decide, (Nat.le_of_ble_eq_true rfl)⟩ ⟨(Nat.le_of_ble_eq_true rfl), (Nat.le_of_ble_eq_true rfl)⟩ (Nat.le_of_ble_eq_true rfl) dL_isFit_7 ?_ (fun v9 U10 G11 hq => ?_)
  · clear h
    intro E9 T9 F9 hq
    obtain ⟨rfl, rfl, hq⟩ := hq
    rcases hq with hq | hq
    · obtain ⟨rfl, h⟩ := hq
      refine zr_catch C "java/lang/IndexOutOfBoundsException" _ [] ⟨0, 19, 22, 19⟩ [⟨0, 19, 26, 21⟩] 22 hxt rfl (fun _ h9 => nomatch h9) (by decide) (by decide) zq_668 zq_267 rfl (fun q9 => ?_)
      refine zr_astore C [(5, .ref q9), (0, .ref a0), (1, .int p1), (2, .int p2), (3, .int p3), (4, .ref a4)] dL_isFit_22 (by decide) rfl ?_
      refine zr_iconst C 1 dL_isFit_24 (by decide) ?_
      exact zr_X (zr_iret C rfl ⟨_, rfl, rfl, h⟩ (Nat.le_of_ble_eq_true rfl) (Nat.le_of_ble_eq_true rfl) dL_isFit_25)
    · obtain ⟨rfl, h⟩ := hq
      refine zr_catch C "java/lang/IllegalArgumentException" _ [⟨0, 19, 22, 19⟩] ⟨0, 19, 26, 21⟩ [] 26 hxt rfl (List.forall_mem_cons.mpr ⟨Or.inr ⟨by decide, "java/lang/IndexOutOfBoundsException", zq_668, by decide +kernel⟩, (fun _ h9 => nomatch h9)⟩) (by decide) (by decide) zq_669 zq_191 rfl (fun q9 => ?_)
      refine zr_astore C [(5, .ref q9), (0, .ref a0), (1, .int p1), (2, .int p2), (3, .int p3), (4, .ref a4)] dL_isFit_26 (by decide) rfl ?_
      refine zr_iconst C 2 dL_isFit_28 (by decide) ?_
      exact zr_X (zr_iret C rfl ⟨_, rfl, rfl, h⟩ (Nat.le_of_ble_eq_true rfl) (Nat.le_of_ble_eq_true rfl) dL_isFit_29)
  · obtain ⟨r2, rfl, rfl, rfl, h⟩ := hq
    obtain ⟨h1, h2⟩ := h
    refine zr_if_eq C 17 dL_isFit_10 (by decide) (fun hc => ?_) (fun hc => ?_)
    · have h := h1 hc
      clear h1 h2
      refine zr_lconst C 0 dL_isFit_17 (by decide) ?_
      obtain ⟨n3, hT4, hi5, h⟩ := h
      refine zr_last C rfl hT4 hi5 dL_isFit_18 ?_
      refine zr_goto C 30 dL_isFit_19 (by decide) ?_
      refine zr_iconst C 0 dL_isFit_30 (by decide) ?_
      exact zr_X (zr_iret C rfl ⟨_, rfl, rfl, h⟩ (Nat.le_of_ble_eq_true rfl) (Nat.le_of_ble_eq_true rfl) dL_isFit_31)
    · have h := h2 hc
      clear h1 h2
      refine zr_lconst C 1 dL_isFit_13 (by decide) ?_
      refine zr_goto C 18 dL_isFit_14 (by decide) ?_
      obtain ⟨n6, hT7, hi8, h⟩ := h
      refine zr_last C rfl hT7 hi8 dL_isFit_18 ?_
      refine zr_goto C 30 dL_isFit_19 (by decide) ?_
      refine zr_iconst C 0 dL_isFit_30 (by decide) ?_
      exact zr_X (zr_iret C rfl ⟨_, rfl, rfl, h⟩ (Nat.le_of_ble_eq_true rfl) (Nat.le_of_ble_eq_true rfl) dL_isFit_31)
theorem dL_ofPiece_0 : decode cL_ofPiece 0 = .ok (.aload_n 3, 1) := by decide +kernel
theorem dL_ofPiece_1 : decode cL_ofPiece 1 = .ok (.iconst 0, 1) := by decide +kernel
theorem dL_ofPiece_2 : decode cL_ofPiece 2 = .ok (.aload_n 0, 1) := by decide +kernel
theorem dL_ofPiece_3 : decode cL_ofPiece 3 = .ok (.iload_n 1, 1) := by decide +kernel
theorem dL_ofPiece_4 : decode cL_ofPiece 4 = .ok (.iload_n 2, 1) := by decide +kernel
theorem dL_ofPiece_8 : decode cL_ofPiece 8 = .ok (.i2l, 1) := by decide +kernel
theorem dL_ofPiece_9 : decode cL_ofPiece 9 = .ok (.lastore, 1) := by decide +kernel
theorem dL_ofPiece_10 : decode cL_ofPiece 10 = .ok (.goto 11, 3) := by decide +kernel
theorem dL_ofPiece_21 : decode cL_ofPiece 21 = .ok (.iconst 0, 1) := by decide +kernel
theorem dL_ofPiece_22 : decode cL_ofPiece 22 = .ok (.ireturn, 1) := by decide +kernel
theorem dL_ofPiece_13 : decode cL_ofPiece 13 = .ok (.astore 4, 2) := by decide +kernel
theorem dL_ofPiece_15 : decode cL_ofPiece 15 = .ok (.iconst 1, 1) := by decide +kernel
theorem dL_ofPiece_16 : decode cL_ofPiece 16 = .ok (.ireturn, 1) := by decide +kernel
theorem dL_ofPiece_17 : decode cL_ofPiece 17 = .ok (.astore 4, 2) := by decide +kernel
theorem dL_ofPiece_19 : decode cL_ofPiece 19 = .ok (.iconst 2, 1) := by decide +kernel
theorem dL_ofPiece_20 : decode cL_ofPiece 20 = .ok (.ireturn, 1) := by decide +kernel
theorem dL_ofPiece_5 : decode cL_ofPiece 5 = .ok (.invokevirtual 54, 3) := by decide +kernel
def v_L_ofPiece (a0 : Nat) (p1 : Int32) (p2 : Int32) (a3 : Nat) (T : zT) (F : zF) (Post : Int32 → zF → Prop) : Prop :=
  (T a0 = some (7, 4) ∧ (v_X4_ofPiece a0 p1 p2 T F (fun (r2 : Int32) => (∃ n3 : Nat, T a3 = some (103, n3) ∧ vp_in 0 n3 ∧ Post 0 (zu F a3 (0 : Int32).toNatClampNeg (.long r2.toInt64)))) (fun (E9 : String) => (E9 = "java/lang/IndexOutOfBoundsException" ∧ Post 1 F) ∨ (E9 = "java/lang/IllegalArgumentException" ∧ Post 2 F))))
set_option maxRecDepth 100000 in
set_option maxHeartbeats 4000000 in
theorem k_L_ofPiece {l : Launch} {D : va_G} {cA : Nat → ClassId} {N0 zE : Nat} {a0 : Nat} {p1 : Int32} {p2 : Int32} {a3 : Nat} {T : zT} {F : zF} {Post : Int32 → zF → Prop} (h : v_L_ofPiece a0 p1 p2 a3 T F Post) : z_MH l D cA N0 zE yL_ofPiece cL_ofPiece 5 (some .int) [(0, 10, 13, 19), (0, 10, 17, 21)] ({ frames := 8, cells := 1, slots := 6, locals := 134 } : Room) [.ref a0, .int p1, .int p2, .ref a3] T F (fun v T' F' => ∃ r : Int32, v = some (.int r) ∧ T = T' ∧ Post r F') (fun E T' F' => False) := by
  unfold v_L_ofPiece at h
  refine z_bodyH (by decide) (Nat.le_of_ble_eq_true rfl) ?_
  intro p e s m args below meth c C hxt hnm
  have C : z_C p l s m args meth c RL cL_ofPiece 5 (some .int) D cA N0 zE := C
  show z_w p l e ({ frames := 8, cells := 1, slots := 6, locals := 134 } : Room) s m args below meth c D cA N0 5 0 0 (vx_MQ below (z_Qc D cA N0 (fun v T' F' => ∃ r : Int32, v = some (.int r) ∧ T = T' ∧ Post r F')) (z_XC D cA N0 (fun E T' F' => False)) args s 1 6 (fun q => N0 ≤ q)) 0 [(0, .ref a0), (1, .int p1), (2, .int p2), (3, .ref a3)] [] T F
  refine zr_aload_n C 3 dL_ofPiece_0 rfl rfl ?_
  refine zr_iconst C 0 dL_ofPiece_1 (by decide) ?_
  refine zr_aload_n C 0 dL_ofPiece_2 rfl rfl ?_
  refine zr_iload_n C 1 dL_ofPiece_3 rfl rfl ?_
  refine zr_iload_n C 2 dL_ofPiece_4 rfl rfl ?_
  obtain ⟨hT1, h⟩ := h
  refine zr_callVX (As := [.int p1, .int p2]) (r := (RX4, TX4, 4)) C (k_X4_ofPiece h) ok_L_54 zq_296 zq_297 hT1 (by decide) rfl rfl ⟨by decide, (Nat.le_of_ble_eq_true rfl)⟩ ⟨(Nat.le_of_ble_eq_true rfl), (Nat.le_of_ble_eq_true rfl)⟩ (Nat.le_of_ble_eq_true rfl) dL_ofPiece_5 ?_ (fun v6 U7 G8 hq => ?_)
  · clear h
    intro E9 T9 F9 hq
    obtain ⟨rfl, rfl, hq⟩ := hq
    rcases hq with hq | hq
    · obtain ⟨rfl, h⟩ := hq
      refine zr_catch C "java/lang/IndexOutOfBoundsException" _ [] ⟨0, 10, 13, 19⟩ [⟨0, 10, 17, 21⟩] 13 hxt rfl (fun _ h9 => nomatch h9) (by decide) (by decide) zq_668 zq_267 rfl (fun q9 => ?_)
      refine zr_astore C [(4, .ref q9), (0, .ref a0), (1, .int p1), (2, .int p2), (3, .ref a3)] dL_ofPiece_13 (by decide) rfl ?_
      refine zr_iconst C 1 dL_ofPiece_15 (by decide) ?_
      exact zr_X (zr_iret C rfl ⟨_, rfl, rfl, h⟩ (Nat.le_of_ble_eq_true rfl) (Nat.le_of_ble_eq_true rfl) dL_ofPiece_16)
    · obtain ⟨rfl, h⟩ := hq
      refine zr_catch C "java/lang/IllegalArgumentException" _ [⟨0, 10, 13, 19⟩] ⟨0, 10, 17, 21⟩ [] 17 hxt rfl (List.forall_mem_cons.mpr ⟨Or.inr ⟨by decide, "java/lang/IndexOutOfBoundsException", zq_668, by decide +kernel⟩, (fun _ h9 => nomatch h9)⟩) (by decide) (by decide) zq_669 zq_191 rfl (fun q9 => ?_)
      refine zr_astore C [(4, .ref q9), (0, .ref a0), (1, .int p1), (2, .int p2), (3, .ref a3)] dL_ofPiece_17 (by decide) rfl ?_
      refine zr_iconst C 2 dL_ofPiece_19 (by decide) ?_
      exact zr_X (zr_iret C rfl ⟨_, rfl, rfl, h⟩ (Nat.le_of_ble_eq_true rfl) (Nat.le_of_ble_eq_true rfl) dL_ofPiece_20)
  · obtain ⟨r2, rfl, rfl, rfl, h⟩ := hq
    refine zr_i2l C dL_ofPiece_8 ?_
    obtain ⟨n3, hT4, hi5, h⟩ := h
    refine zr_last C rfl hT4 hi5 dL_ofPiece_9 ?_
    refine zr_goto C 21 dL_ofPiece_10 (by decide) ?_
    refine zr_iconst C 0 dL_ofPiece_21 (by decide) ?_
    exact zr_X (zr_iret C rfl ⟨_, rfl, rfl, h⟩ (Nat.le_of_ble_eq_true rfl) (Nat.le_of_ble_eq_true rfl) dL_ofPiece_22)
theorem dL_book_0 : decode cL_book 0 = .ok (.aload 7, 2) := by decide +kernel
theorem dL_book_2 : decode cL_book 2 = .ok (.iconst 0, 1) := by decide +kernel
theorem dL_book_3 : decode cL_book 3 = .ok (.aload_n 0, 1) := by decide +kernel
theorem dL_book_4 : decode cL_book 4 = .ok (.iload_n 1, 1) := by decide +kernel
theorem dL_book_5 : decode cL_book 5 = .ok (.iload_n 2, 1) := by decide +kernel
theorem dL_book_6 : decode cL_book 6 = .ok (.iload_n 3, 1) := by decide +kernel
theorem dL_book_7 : decode cL_book 7 = .ok (.iload 4, 2) := by decide +kernel
theorem dL_book_9 : decode cL_book 9 = .ok (.iload 5, 2) := by decide +kernel
theorem dL_book_11 : decode cL_book 11 = .ok (.iload 6, 2) := by decide +kernel
theorem dL_book_16 : decode cL_book 16 = .ok (.i2l, 1) := by decide +kernel
theorem dL_book_17 : decode cL_book 17 = .ok (.lastore, 1) := by decide +kernel
theorem dL_book_18 : decode cL_book 18 = .ok (.goto 15, 3) := by decide +kernel
theorem dL_book_33 : decode cL_book 33 = .ok (.iconst 0, 1) := by decide +kernel
theorem dL_book_34 : decode cL_book 34 = .ok (.ireturn, 1) := by decide +kernel
theorem dL_book_21 : decode cL_book 21 = .ok (.astore 8, 2) := by decide +kernel
theorem dL_book_23 : decode cL_book 23 = .ok (.iconst 1, 1) := by decide +kernel
theorem dL_book_24 : decode cL_book 24 = .ok (.ireturn, 1) := by decide +kernel
theorem dL_book_25 : decode cL_book 25 = .ok (.astore 8, 2) := by decide +kernel
theorem dL_book_27 : decode cL_book 27 = .ok (.iconst 2, 1) := by decide +kernel
theorem dL_book_28 : decode cL_book 28 = .ok (.ireturn, 1) := by decide +kernel
theorem dL_book_29 : decode cL_book 29 = .ok (.astore 8, 2) := by decide +kernel
theorem dL_book_31 : decode cL_book 31 = .ok (.iconst 3, 1) := by decide +kernel
theorem dL_book_32 : decode cL_book 32 = .ok (.ireturn, 1) := by decide +kernel
theorem dL_book_13 : decode cL_book 13 = .ok (.invokevirtual 57, 3) := by decide +kernel
def v_L_book (a0 : Nat) (p1 : Int32) (p2 : Int32) (p3 : Int32) (p4 : Int32) (p5 : Int32) (p6 : Int32) (a7 : Nat) (T : zT) (F : zF) (Post : Int32 → zF → Prop) : Prop :=
  (T a0 = some (7, 4) ∧ (v_X4_book a0 p1 p2 p3 p4 p5 p6 T F (fun (r2 : Int32) => (∃ n3 : Nat, T a7 = some (103, n3) ∧ vp_in 0 n3 ∧ Post 0 (zu F a7 (0 : Int32).toNatClampNeg (.long r2.toInt64)))) (fun (E9 : String) => (E9 = "java/lang/IndexOutOfBoundsException" ∧ Post 1 F) ∨ (E9 = "java/lang/IllegalArgumentException" ∧ Post 2 F) ∨ (E9 = "java/lang/IllegalStateException" ∧ Post 3 F))))
set_option maxRecDepth 100000 in
set_option maxHeartbeats 4000000 in
theorem k_L_book {l : Launch} {D : va_G} {cA : Nat → ClassId} {N0 zE : Nat} {a0 : Nat} {p1 : Int32} {p2 : Int32} {p3 : Int32} {p4 : Int32} {p5 : Int32} {p6 : Int32} {a7 : Nat} {T : zT} {F : zF} {Post : Int32 → zF → Prop} (h : v_L_book a0 p1 p2 p3 p4 p5 p6 a7 T F Post) : z_MH l D cA N0 zE yL_book cL_book 9 (some .int) [(0, 18, 21, 19), (0, 18, 25, 21), (0, 18, 29, 13)] ({ frames := 8, cells := 1, slots := 6, locals := 138 } : Room) [.ref a0, .int p1, .int p2, .int p3, .int p4, .int p5, .int p6, .ref a7] T F (fun v T' F' => ∃ r : Int32, v = some (.int r) ∧ T = T' ∧ Post r F') (fun E T' F' => False) := by
  unfold v_L_book at h
  refine z_bodyH (by decide) (Nat.le_of_ble_eq_true rfl) ?_
  intro p e s m args below meth c C hxt hnm
  have C : z_C p l s m args meth c RL cL_book 9 (some .int) D cA N0 zE := C
  show z_w p l e ({ frames := 8, cells := 1, slots := 6, locals := 138 } : Room) s m args below meth c D cA N0 9 0 0 (vx_MQ below (z_Qc D cA N0 (fun v T' F' => ∃ r : Int32, v = some (.int r) ∧ T = T' ∧ Post r F')) (z_XC D cA N0 (fun E T' F' => False)) args s 1 6 (fun q => N0 ≤ q)) 0 [(0, .ref a0), (1, .int p1), (2, .int p2), (3, .int p3), (4, .int p4), (5, .int p5), (6, .int p6), (7, .ref a7)] [] T F
  refine zr_aload C 7 dL_book_0 rfl ?_
  refine zr_iconst C 0 dL_book_2 (by decide) ?_
  refine zr_aload_n C 0 dL_book_3 rfl rfl ?_
  refine zr_iload_n C 1 dL_book_4 rfl rfl ?_
  refine zr_iload_n C 2 dL_book_5 rfl rfl ?_
  refine zr_iload_n C 3 dL_book_6 rfl rfl ?_
  refine zr_iload C 4 dL_book_7 rfl ?_
  refine zr_iload C 5 dL_book_9 rfl ?_
  refine zr_iload C 6 dL_book_11 rfl ?_
  obtain ⟨hT1, h⟩ := h
  refine zr_callVX (As := [.int p1, .int p2, .int p3, .int p4, .int p5, .int p6]) (r := (RX4, TX4, 4)) C (k_X4_book h) ok_L_57 zq_811 zq_812 hT1 (by decide) rfl rfl ⟨by decide, (Nat.le_of_ble_eq_true rfl)⟩ ⟨(Nat.le_of_ble_eq_true rfl), (Nat.le_of_ble_eq_true rfl)⟩ (Nat.le_of_ble_eq_true rfl) dL_book_13 ?_ (fun v6 U7 G8 hq => ?_)
  · clear h
    intro E9 T9 F9 hq
    obtain ⟨rfl, rfl, hq⟩ := hq
    rcases hq with hq | hq | hq
    · obtain ⟨rfl, h⟩ := hq
      refine zr_catch C "java/lang/IndexOutOfBoundsException" _ [] ⟨0, 18, 21, 19⟩ [⟨0, 18, 25, 21⟩, ⟨0, 18, 29, 13⟩] 21 hxt rfl (fun _ h9 => nomatch h9) (by decide) (by decide) zq_668 zq_267 rfl (fun q9 => ?_)
      refine zr_astore C [(8, .ref q9), (0, .ref a0), (1, .int p1), (2, .int p2), (3, .int p3), (4, .int p4), (5, .int p5), (6, .int p6), (7, .ref a7)] dL_book_21 (by decide) rfl ?_
      refine zr_iconst C 1 dL_book_23 (by decide) ?_
      exact zr_X (zr_iret C rfl ⟨_, rfl, rfl, h⟩ (Nat.le_of_ble_eq_true rfl) (Nat.le_of_ble_eq_true rfl) dL_book_24)
    · obtain ⟨rfl, h⟩ := hq
      refine zr_catch C "java/lang/IllegalArgumentException" _ [⟨0, 18, 21, 19⟩] ⟨0, 18, 25, 21⟩ [⟨0, 18, 29, 13⟩] 25 hxt rfl (List.forall_mem_cons.mpr ⟨Or.inr ⟨by decide, "java/lang/IndexOutOfBoundsException", zq_668, by decide +kernel⟩, (fun _ h9 => nomatch h9)⟩) (by decide) (by decide) zq_669 zq_191 rfl (fun q9 => ?_)
      refine zr_astore C [(8, .ref q9), (0, .ref a0), (1, .int p1), (2, .int p2), (3, .int p3), (4, .int p4), (5, .int p5), (6, .int p6), (7, .ref a7)] dL_book_25 (by decide) rfl ?_
      refine zr_iconst C 2 dL_book_27 (by decide) ?_
      exact zr_X (zr_iret C rfl ⟨_, rfl, rfl, h⟩ (Nat.le_of_ble_eq_true rfl) (Nat.le_of_ble_eq_true rfl) dL_book_28)
    · obtain ⟨rfl, h⟩ := hq
      refine zr_catch C "java/lang/IllegalStateException" _ [⟨0, 18, 21, 19⟩, ⟨0, 18, 25, 21⟩] ⟨0, 18, 29, 13⟩ [] 29 hxt rfl (List.forall_mem_cons.mpr ⟨Or.inr ⟨by decide, "java/lang/IndexOutOfBoundsException", zq_668, by decide +kernel⟩, (List.forall_mem_cons.mpr ⟨Or.inr ⟨by decide, "java/lang/IllegalArgumentException", zq_669, by decide +kernel⟩, (fun _ h9 => nomatch h9)⟩)⟩) (by decide) (by decide) zq_618 zq_625 rfl (fun q9 => ?_)
      refine zr_astore C [(8, .ref q9), (0, .ref a0), (1, .int p1), (2, .int p2), (3, .int p3), (4, .int p4), (5, .int p5), (6, .int p6), (7, .ref a7)] dL_book_29 (by decide) rfl ?_
      refine zr_iconst C 3 dL_book_31 (by decide) ?_
      exact zr_X (zr_iret C rfl ⟨_, rfl, rfl, h⟩ (Nat.le_of_ble_eq_true rfl) (Nat.le_of_ble_eq_true rfl) dL_book_32)
  · obtain ⟨r2, rfl, rfl, rfl, h⟩ := hq
    refine zr_i2l C dL_book_16 ?_
    obtain ⟨n3, hT4, hi5, h⟩ := h
    refine zr_last C rfl hT4 hi5 dL_book_17 ?_
    refine zr_goto C 33 dL_book_18 (by decide) ?_
    refine zr_iconst C 0 dL_book_33 (by decide) ?_
    exact zr_X (zr_iret C rfl ⟨_, rfl, rfl, h⟩ (Nat.le_of_ble_eq_true rfl) (Nat.le_of_ble_eq_true rfl) dL_book_34)
theorem dL_cancel_0 : decode cL_cancel 0 = .ok (.aload_n 2, 1) := by decide +kernel
theorem dL_cancel_1 : decode cL_cancel 1 = .ok (.iconst 0, 1) := by decide +kernel
theorem dL_cancel_2 : decode cL_cancel 2 = .ok (.aload_n 0, 1) := by decide +kernel
theorem dL_cancel_3 : decode cL_cancel 3 = .ok (.iload_n 1, 1) := by decide +kernel
theorem dL_cancel_7 : decode cL_cancel 7 = .ok (.i2l, 1) := by decide +kernel
theorem dL_cancel_8 : decode cL_cancel 8 = .ok (.lastore, 1) := by decide +kernel
theorem dL_cancel_9 : decode cL_cancel 9 = .ok (.goto 9, 3) := by decide +kernel
theorem dL_cancel_18 : decode cL_cancel 18 = .ok (.iconst 0, 1) := by decide +kernel
theorem dL_cancel_19 : decode cL_cancel 19 = .ok (.ireturn, 1) := by decide +kernel
theorem dL_cancel_12 : decode cL_cancel 12 = .ok (.astore_n 3, 1) := by decide +kernel
theorem dL_cancel_13 : decode cL_cancel 13 = .ok (.iconst 1, 1) := by decide +kernel
theorem dL_cancel_14 : decode cL_cancel 14 = .ok (.ireturn, 1) := by decide +kernel
theorem dL_cancel_15 : decode cL_cancel 15 = .ok (.astore_n 3, 1) := by decide +kernel
theorem dL_cancel_16 : decode cL_cancel 16 = .ok (.iconst 2, 1) := by decide +kernel
theorem dL_cancel_17 : decode cL_cancel 17 = .ok (.ireturn, 1) := by decide +kernel
theorem dL_cancel_4 : decode cL_cancel 4 = .ok (.invokevirtual 61, 3) := by decide +kernel
def v_L_cancel (a0 : Nat) (p1 : Int32) (a2 : Nat) (T : zT) (F : zF) (Post : Int32 → zF → Prop) : Prop :=
  (T a0 = some (7, 4) ∧ (v_X4_cancel a0 p1 T F (fun (r2 : Int32) => (∃ n3 : Nat, T a2 = some (103, n3) ∧ vp_in 0 n3 ∧ Post 0 (zu F a2 (0 : Int32).toNatClampNeg (.long r2.toInt64)))) (fun (E9 : String) => (E9 = "java/lang/IndexOutOfBoundsException" ∧ Post 1 F) ∨ (E9 = "java/lang/IllegalStateException" ∧ Post 2 F))))
set_option maxRecDepth 100000 in
set_option maxHeartbeats 4000000 in
theorem k_L_cancel {l : Launch} {D : va_G} {cA : Nat → ClassId} {N0 zE : Nat} {a0 : Nat} {p1 : Int32} {a2 : Nat} {T : zT} {F : zF} {Post : Int32 → zF → Prop} (h : v_L_cancel a0 p1 a2 T F Post) : z_MH l D cA N0 zE yL_cancel cL_cancel 4 (some .int) [(0, 9, 12, 19), (0, 9, 15, 13)] ({ frames := 8, cells := 1, slots := 6, locals := 133 } : Room) [.ref a0, .int p1, .ref a2] T F (fun v T' F' => ∃ r : Int32, v = some (.int r) ∧ T = T' ∧ Post r F') (fun E T' F' => False) := by
  unfold v_L_cancel at h
  refine z_bodyH (by decide) (Nat.le_of_ble_eq_true rfl) ?_
  intro p e s m args below meth c C hxt hnm
  have C : z_C p l s m args meth c RL cL_cancel 4 (some .int) D cA N0 zE := C
  show z_w p l e ({ frames := 8, cells := 1, slots := 6, locals := 133 } : Room) s m args below meth c D cA N0 4 0 0 (vx_MQ below (z_Qc D cA N0 (fun v T' F' => ∃ r : Int32, v = some (.int r) ∧ T = T' ∧ Post r F')) (z_XC D cA N0 (fun E T' F' => False)) args s 1 6 (fun q => N0 ≤ q)) 0 [(0, .ref a0), (1, .int p1), (2, .ref a2)] [] T F
  refine zr_aload_n C 2 dL_cancel_0 rfl rfl ?_
  refine zr_iconst C 0 dL_cancel_1 (by decide) ?_
  refine zr_aload_n C 0 dL_cancel_2 rfl rfl ?_
  refine zr_iload_n C 1 dL_cancel_3 rfl rfl ?_
  obtain ⟨hT1, h⟩ := h
  refine zr_callVX (As := [.int p1]) (r := (RX4, TX4, 4)) C (k_X4_cancel h) ok_L_61 zq_840 zq_841 hT1 (by decide) rfl rfl ⟨by decide, (Nat.le_of_ble_eq_true rfl)⟩ ⟨(Nat.le_of_ble_eq_true rfl), (Nat.le_of_ble_eq_true rfl)⟩ (Nat.le_of_ble_eq_true rfl) dL_cancel_4 ?_ (fun v6 U7 G8 hq => ?_)
  · clear h
    intro E9 T9 F9 hq
    obtain ⟨rfl, rfl, hq⟩ := hq
    rcases hq with hq | hq
    · obtain ⟨rfl, h⟩ := hq
      refine zr_catch C "java/lang/IndexOutOfBoundsException" _ [] ⟨0, 9, 12, 19⟩ [⟨0, 9, 15, 13⟩] 12 hxt rfl (fun _ h9 => nomatch h9) (by decide) (by decide) zq_668 zq_267 rfl (fun q9 => ?_)
      refine zr_astore_n C [(3, .ref q9), (0, .ref a0), (1, .int p1), (2, .ref a2)] dL_cancel_12 rfl (by decide) rfl ?_
      refine zr_iconst C 1 dL_cancel_13 (by decide) ?_
      exact zr_X (zr_iret C rfl ⟨_, rfl, rfl, h⟩ (Nat.le_of_ble_eq_true rfl) (Nat.le_of_ble_eq_true rfl) dL_cancel_14)
    · obtain ⟨rfl, h⟩ := hq
      refine zr_catch C "java/lang/IllegalStateException" _ [⟨0, 9, 12, 19⟩] ⟨0, 9, 15, 13⟩ [] 15 hxt rfl (List.forall_mem_cons.mpr ⟨Or.inr ⟨by decide, "java/lang/IndexOutOfBoundsException", zq_668, by decide +kernel⟩, (fun _ h9 => nomatch h9)⟩) (by decide) (by decide) zq_618 zq_625 rfl (fun q9 => ?_)
      refine zr_astore_n C [(3, .ref q9), (0, .ref a0), (1, .int p1), (2, .ref a2)] dL_cancel_15 rfl (by decide) rfl ?_
      refine zr_iconst C 2 dL_cancel_16 (by decide) ?_
      exact zr_X (zr_iret C rfl ⟨_, rfl, rfl, h⟩ (Nat.le_of_ble_eq_true rfl) (Nat.le_of_ble_eq_true rfl) dL_cancel_17)
  · obtain ⟨r2, rfl, rfl, rfl, h⟩ := hq
    refine zr_i2l C dL_cancel_7 ?_
    obtain ⟨n3, hT4, hi5, h⟩ := h
    refine zr_last C rfl hT4 hi5 dL_cancel_8 ?_
    refine zr_goto C 18 dL_cancel_9 (by decide) ?_
    refine zr_iconst C 0 dL_cancel_18 (by decide) ?_
    exact zr_X (zr_iret C rfl ⟨_, rfl, rfl, h⟩ (Nat.le_of_ble_eq_true rfl) (Nat.le_of_ble_eq_true rfl) dL_cancel_19)
theorem dL_swap_0 : decode cL_swap 0 = .ok (.aload_n 3, 1) := by decide +kernel
theorem dL_swap_1 : decode cL_swap 1 = .ok (.iconst 0, 1) := by decide +kernel
theorem dL_swap_2 : decode cL_swap 2 = .ok (.aload_n 0, 1) := by decide +kernel
theorem dL_swap_3 : decode cL_swap 3 = .ok (.iload_n 1, 1) := by decide +kernel
theorem dL_swap_4 : decode cL_swap 4 = .ok (.iload_n 2, 1) := by decide +kernel
theorem dL_swap_8 : decode cL_swap 8 = .ok (.i2l, 1) := by decide +kernel
theorem dL_swap_9 : decode cL_swap 9 = .ok (.lastore, 1) := by decide +kernel
theorem dL_swap_10 : decode cL_swap 10 = .ok (.goto 11, 3) := by decide +kernel
theorem dL_swap_21 : decode cL_swap 21 = .ok (.iconst 0, 1) := by decide +kernel
theorem dL_swap_22 : decode cL_swap 22 = .ok (.ireturn, 1) := by decide +kernel
theorem dL_swap_13 : decode cL_swap 13 = .ok (.astore 4, 2) := by decide +kernel
theorem dL_swap_15 : decode cL_swap 15 = .ok (.iconst 1, 1) := by decide +kernel
theorem dL_swap_16 : decode cL_swap 16 = .ok (.ireturn, 1) := by decide +kernel
theorem dL_swap_17 : decode cL_swap 17 = .ok (.astore 4, 2) := by decide +kernel
theorem dL_swap_19 : decode cL_swap 19 = .ok (.iconst 2, 1) := by decide +kernel
theorem dL_swap_20 : decode cL_swap 20 = .ok (.ireturn, 1) := by decide +kernel
theorem dL_swap_5 : decode cL_swap 5 = .ok (.invokevirtual 65, 3) := by decide +kernel
def v_L_swap (a0 : Nat) (p1 : Int32) (p2 : Int32) (a3 : Nat) (T : zT) (F : zF) (Post : Int32 → zF → Prop) : Prop :=
  (T a0 = some (7, 4) ∧ (v_X4_swap a0 p1 p2 T F (fun (r2 : Int32) => (∃ n3 : Nat, T a3 = some (103, n3) ∧ vp_in 0 n3 ∧ Post 0 (zu F a3 (0 : Int32).toNatClampNeg (.long r2.toInt64)))) (fun (E9 : String) => (E9 = "java/lang/IndexOutOfBoundsException" ∧ Post 1 F) ∨ (E9 = "java/lang/IllegalStateException" ∧ Post 2 F))))
set_option maxRecDepth 100000 in
set_option maxHeartbeats 4000000 in
theorem k_L_swap {l : Launch} {D : va_G} {cA : Nat → ClassId} {N0 zE : Nat} {a0 : Nat} {p1 : Int32} {p2 : Int32} {a3 : Nat} {T : zT} {F : zF} {Post : Int32 → zF → Prop} (h : v_L_swap a0 p1 p2 a3 T F Post) : z_MH l D cA N0 zE yL_swap cL_swap 5 (some .int) [(0, 10, 13, 19), (0, 10, 17, 13)] ({ frames := 8, cells := 1, slots := 6, locals := 136 } : Room) [.ref a0, .int p1, .int p2, .ref a3] T F (fun v T' F' => ∃ r : Int32, v = some (.int r) ∧ T = T' ∧ Post r F') (fun E T' F' => False) := by
  unfold v_L_swap at h
  refine z_bodyH (by decide) (Nat.le_of_ble_eq_true rfl) ?_
  intro p e s m args below meth c C hxt hnm
  have C : z_C p l s m args meth c RL cL_swap 5 (some .int) D cA N0 zE := C
  show z_w p l e ({ frames := 8, cells := 1, slots := 6, locals := 136 } : Room) s m args below meth c D cA N0 5 0 0 (vx_MQ below (z_Qc D cA N0 (fun v T' F' => ∃ r : Int32, v = some (.int r) ∧ T = T' ∧ Post r F')) (z_XC D cA N0 (fun E T' F' => False)) args s 1 6 (fun q => N0 ≤ q)) 0 [(0, .ref a0), (1, .int p1), (2, .int p2), (3, .ref a3)] [] T F
  refine zr_aload_n C 3 dL_swap_0 rfl rfl ?_
  refine zr_iconst C 0 dL_swap_1 (by decide) ?_
  refine zr_aload_n C 0 dL_swap_2 rfl rfl ?_
  refine zr_iload_n C 1 dL_swap_3 rfl rfl ?_
  refine zr_iload_n C 2 dL_swap_4 rfl rfl ?_
  obtain ⟨hT1, h⟩ := h
  refine zr_callVX (As := [.int p1, .int p2]) (r := (RX4, TX4, 4)) C (k_X4_swap h) ok_L_65 zq_853 zq_854 hT1 (by decide) rfl rfl ⟨by decide, (Nat.le_of_ble_eq_true rfl)⟩ ⟨(Nat.le_of_ble_eq_true rfl), (Nat.le_of_ble_eq_true rfl)⟩ (Nat.le_of_ble_eq_true rfl) dL_swap_5 ?_ (fun v6 U7 G8 hq => ?_)
  · clear h
    intro E9 T9 F9 hq
    obtain ⟨rfl, rfl, hq⟩ := hq
    rcases hq with hq | hq
    · obtain ⟨rfl, h⟩ := hq
      refine zr_catch C "java/lang/IndexOutOfBoundsException" _ [] ⟨0, 10, 13, 19⟩ [⟨0, 10, 17, 13⟩] 13 hxt rfl (fun _ h9 => nomatch h9) (by decide) (by decide) zq_668 zq_267 rfl (fun q9 => ?_)
      refine zr_astore C [(4, .ref q9), (0, .ref a0), (1, .int p1), (2, .int p2), (3, .ref a3)] dL_swap_13 (by decide) rfl ?_
      refine zr_iconst C 1 dL_swap_15 (by decide) ?_
      exact zr_X (zr_iret C rfl ⟨_, rfl, rfl, h⟩ (Nat.le_of_ble_eq_true rfl) (Nat.le_of_ble_eq_true rfl) dL_swap_16)
    · obtain ⟨rfl, h⟩ := hq
      refine zr_catch C "java/lang/IllegalStateException" _ [⟨0, 10, 13, 19⟩] ⟨0, 10, 17, 13⟩ [] 17 hxt rfl (List.forall_mem_cons.mpr ⟨Or.inr ⟨by decide, "java/lang/IndexOutOfBoundsException", zq_668, by decide +kernel⟩, (fun _ h9 => nomatch h9)⟩) (by decide) (by decide) zq_618 zq_625 rfl (fun q9 => ?_)
      refine zr_astore C [(4, .ref q9), (0, .ref a0), (1, .int p1), (2, .int p2), (3, .ref a3)] dL_swap_17 (by decide) rfl ?_
      refine zr_iconst C 2 dL_swap_19 (by decide) ?_
      exact zr_X (zr_iret C rfl ⟨_, rfl, rfl, h⟩ (Nat.le_of_ble_eq_true rfl) (Nat.le_of_ble_eq_true rfl) dL_swap_20)
  · obtain ⟨r2, rfl, rfl, rfl, h⟩ := hq
    refine zr_i2l C dL_swap_8 ?_
    obtain ⟨n3, hT4, hi5, h⟩ := h
    refine zr_last C rfl hT4 hi5 dL_swap_9 ?_
    refine zr_goto C 21 dL_swap_10 (by decide) ?_
    refine zr_iconst C 0 dL_swap_21 (by decide) ?_
    exact zr_X (zr_iret C rfl ⟨_, rfl, rfl, h⟩ (Nat.le_of_ble_eq_true rfl) (Nat.le_of_ble_eq_true rfl) dL_swap_22)
theorem dL_ofBooking_0 : decode cL_ofBooking 0 = .ok (.aload_n 3, 1) := by decide +kernel
theorem dL_ofBooking_1 : decode cL_ofBooking 1 = .ok (.iconst 0, 1) := by decide +kernel
theorem dL_ofBooking_2 : decode cL_ofBooking 2 = .ok (.aload_n 0, 1) := by decide +kernel
theorem dL_ofBooking_3 : decode cL_ofBooking 3 = .ok (.iload_n 1, 1) := by decide +kernel
theorem dL_ofBooking_4 : decode cL_ofBooking 4 = .ok (.iload_n 2, 1) := by decide +kernel
theorem dL_ofBooking_8 : decode cL_ofBooking 8 = .ok (.i2l, 1) := by decide +kernel
theorem dL_ofBooking_9 : decode cL_ofBooking 9 = .ok (.lastore, 1) := by decide +kernel
theorem dL_ofBooking_10 : decode cL_ofBooking 10 = .ok (.goto 11, 3) := by decide +kernel
theorem dL_ofBooking_21 : decode cL_ofBooking 21 = .ok (.iconst 0, 1) := by decide +kernel
theorem dL_ofBooking_22 : decode cL_ofBooking 22 = .ok (.ireturn, 1) := by decide +kernel
theorem dL_ofBooking_13 : decode cL_ofBooking 13 = .ok (.astore 4, 2) := by decide +kernel
theorem dL_ofBooking_15 : decode cL_ofBooking 15 = .ok (.iconst 1, 1) := by decide +kernel
theorem dL_ofBooking_16 : decode cL_ofBooking 16 = .ok (.ireturn, 1) := by decide +kernel
theorem dL_ofBooking_17 : decode cL_ofBooking 17 = .ok (.astore 4, 2) := by decide +kernel
theorem dL_ofBooking_19 : decode cL_ofBooking 19 = .ok (.iconst 2, 1) := by decide +kernel
theorem dL_ofBooking_20 : decode cL_ofBooking 20 = .ok (.ireturn, 1) := by decide +kernel
theorem dL_ofBooking_5 : decode cL_ofBooking 5 = .ok (.invokevirtual 68, 3) := by decide +kernel
def v_L_ofBooking (a0 : Nat) (p1 : Int32) (p2 : Int32) (a3 : Nat) (T : zT) (F : zF) (Post : Int32 → zF → Prop) : Prop :=
  (T a0 = some (7, 4) ∧ (v_X4_ofBooking a0 p1 p2 T F (fun (r2 : Int32) => (∃ n3 : Nat, T a3 = some (103, n3) ∧ vp_in 0 n3 ∧ Post 0 (zu F a3 (0 : Int32).toNatClampNeg (.long r2.toInt64)))) (fun (E9 : String) => (E9 = "java/lang/IndexOutOfBoundsException" ∧ Post 1 F) ∨ (E9 = "java/lang/IllegalArgumentException" ∧ Post 2 F))))
set_option maxRecDepth 100000 in
set_option maxHeartbeats 4000000 in
theorem k_L_ofBooking {l : Launch} {D : va_G} {cA : Nat → ClassId} {N0 zE : Nat} {a0 : Nat} {p1 : Int32} {p2 : Int32} {a3 : Nat} {T : zT} {F : zF} {Post : Int32 → zF → Prop} (h : v_L_ofBooking a0 p1 p2 a3 T F Post) : z_MH l D cA N0 zE yL_ofBooking cL_ofBooking 5 (some .int) [(0, 10, 13, 19), (0, 10, 17, 21)] ({ frames := 8, cells := 1, slots := 6, locals := 134 } : Room) [.ref a0, .int p1, .int p2, .ref a3] T F (fun v T' F' => ∃ r : Int32, v = some (.int r) ∧ T = T' ∧ Post r F') (fun E T' F' => False) := by
  unfold v_L_ofBooking at h
  refine z_bodyH (by decide) (Nat.le_of_ble_eq_true rfl) ?_
  intro p e s m args below meth c C hxt hnm
  have C : z_C p l s m args meth c RL cL_ofBooking 5 (some .int) D cA N0 zE := C
  show z_w p l e ({ frames := 8, cells := 1, slots := 6, locals := 134 } : Room) s m args below meth c D cA N0 5 0 0 (vx_MQ below (z_Qc D cA N0 (fun v T' F' => ∃ r : Int32, v = some (.int r) ∧ T = T' ∧ Post r F')) (z_XC D cA N0 (fun E T' F' => False)) args s 1 6 (fun q => N0 ≤ q)) 0 [(0, .ref a0), (1, .int p1), (2, .int p2), (3, .ref a3)] [] T F
  refine zr_aload_n C 3 dL_ofBooking_0 rfl rfl ?_
  refine zr_iconst C 0 dL_ofBooking_1 (by decide) ?_
  refine zr_aload_n C 0 dL_ofBooking_2 rfl rfl ?_
  refine zr_iload_n C 1 dL_ofBooking_3 rfl rfl ?_
  refine zr_iload_n C 2 dL_ofBooking_4 rfl rfl ?_
  obtain ⟨hT1, h⟩ := h
  refine zr_callVX (As := [.int p1, .int p2]) (r := (RX4, TX4, 4)) C (k_X4_ofBooking h) ok_L_68 zq_372 zq_373 hT1 (by decide) rfl rfl ⟨by decide, (Nat.le_of_ble_eq_true rfl)⟩ ⟨(Nat.le_of_ble_eq_true rfl), (Nat.le_of_ble_eq_true rfl)⟩ (Nat.le_of_ble_eq_true rfl) dL_ofBooking_5 ?_ (fun v6 U7 G8 hq => ?_)
  · clear h
    intro E9 T9 F9 hq
    obtain ⟨rfl, rfl, hq⟩ := hq
    rcases hq with hq | hq
    · obtain ⟨rfl, h⟩ := hq
      refine zr_catch C "java/lang/IndexOutOfBoundsException" _ [] ⟨0, 10, 13, 19⟩ [⟨0, 10, 17, 21⟩] 13 hxt rfl (fun _ h9 => nomatch h9) (by decide) (by decide) zq_668 zq_267 rfl (fun q9 => ?_)
      refine zr_astore C [(4, .ref q9), (0, .ref a0), (1, .int p1), (2, .int p2), (3, .ref a3)] dL_ofBooking_13 (by decide) rfl ?_
      refine zr_iconst C 1 dL_ofBooking_15 (by decide) ?_
      exact zr_X (zr_iret C rfl ⟨_, rfl, rfl, h⟩ (Nat.le_of_ble_eq_true rfl) (Nat.le_of_ble_eq_true rfl) dL_ofBooking_16)
    · obtain ⟨rfl, h⟩ := hq
      refine zr_catch C "java/lang/IllegalArgumentException" _ [⟨0, 10, 13, 19⟩] ⟨0, 10, 17, 21⟩ [] 17 hxt rfl (List.forall_mem_cons.mpr ⟨Or.inr ⟨by decide, "java/lang/IndexOutOfBoundsException", zq_668, by decide +kernel⟩, (fun _ h9 => nomatch h9)⟩) (by decide) (by decide) zq_669 zq_191 rfl (fun q9 => ?_)
      refine zr_astore C [(4, .ref q9), (0, .ref a0), (1, .int p1), (2, .int p2), (3, .ref a3)] dL_ofBooking_17 (by decide) rfl ?_
      refine zr_iconst C 2 dL_ofBooking_19 (by decide) ?_
      exact zr_X (zr_iret C rfl ⟨_, rfl, rfl, h⟩ (Nat.le_of_ble_eq_true rfl) (Nat.le_of_ble_eq_true rfl) dL_ofBooking_20)
  · obtain ⟨r2, rfl, rfl, rfl, h⟩ := hq
    refine zr_i2l C dL_ofBooking_8 ?_
    obtain ⟨n3, hT4, hi5, h⟩ := h
    refine zr_last C rfl hT4 hi5 dL_ofBooking_9 ?_
    refine zr_goto C 21 dL_ofBooking_10 (by decide) ?_
    refine zr_iconst C 0 dL_ofBooking_21 (by decide) ?_
    exact zr_X (zr_iret C rfl ⟨_, rfl, rfl, h⟩ (Nat.le_of_ble_eq_true rfl) (Nat.le_of_ble_eq_true rfl) dL_ofBooking_22)
theorem dL_day_0 : decode cL_day 0 = .ok (.aload_n 1, 1) := by decide +kernel
theorem dL_day_1 : decode cL_day 1 = .ok (.iconst 0, 1) := by decide +kernel
theorem dL_day_2 : decode cL_day 2 = .ok (.aload_n 0, 1) := by decide +kernel
theorem dL_day_6 : decode cL_day 6 = .ok (.i2l, 1) := by decide +kernel
theorem dL_day_7 : decode cL_day 7 = .ok (.lastore, 1) := by decide +kernel
theorem dL_day_8 : decode cL_day 8 = .ok (.goto 6, 3) := by decide +kernel
theorem dL_day_14 : decode cL_day 14 = .ok (.iconst 0, 1) := by decide +kernel
theorem dL_day_15 : decode cL_day 15 = .ok (.ireturn, 1) := by decide +kernel
theorem dL_day_11 : decode cL_day 11 = .ok (.astore_n 2, 1) := by decide +kernel
theorem dL_day_12 : decode cL_day 12 = .ok (.iconst 1, 1) := by decide +kernel
theorem dL_day_13 : decode cL_day 13 = .ok (.ireturn, 1) := by decide +kernel
theorem dL_day_3 : decode cL_day 3 = .ok (.invokevirtual 71, 3) := by decide +kernel
def v_L_day (a0 : Nat) (a1 : Nat) (T : zT) (F : zF) (Post : Int32 → zF → Prop) : Prop :=
  (T a0 = some (7, 4) ∧ (v_X4_day a0 T F (fun (r2 : Int32) (F3 : zF) => (∃ n4 : Nat, T a1 = some (103, n4) ∧ vp_in 0 n4 ∧ Post 0 (zu F3 a1 (0 : Int32).toNatClampNeg (.long r2.toInt64)))) (fun (E9 : String) (F9 : zF) => (E9 = "java/lang/IllegalStateException" ∧ Post 1 F9))))
set_option maxRecDepth 100000 in
set_option maxHeartbeats 4000000 in
theorem k_L_day {l : Launch} {D : va_G} {cA : Nat → ClassId} {N0 zE : Nat} {a0 : Nat} {a1 : Nat} {T : zT} {F : zF} {Post : Int32 → zF → Prop} (h : v_L_day a0 a1 T F Post) : z_MH l D cA N0 zE yL_day cL_day 3 (some .int) [(0, 8, 11, 13)] ({ frames := 7, cells := 1, slots := 6, locals := 110 } : Room) [.ref a0, .ref a1] T F (fun v T' F' => ∃ r : Int32, v = some (.int r) ∧ T = T' ∧ Post r F') (fun E T' F' => False) := by
  unfold v_L_day at h
  refine z_bodyH (by decide) (Nat.le_of_ble_eq_true rfl) ?_
  intro p e s m args below meth c C hxt hnm
  have C : z_C p l s m args meth c RL cL_day 3 (some .int) D cA N0 zE := C
  show z_w p l e ({ frames := 7, cells := 1, slots := 6, locals := 110 } : Room) s m args below meth c D cA N0 3 0 0 (vx_MQ below (z_Qc D cA N0 (fun v T' F' => ∃ r : Int32, v = some (.int r) ∧ T = T' ∧ Post r F')) (z_XC D cA N0 (fun E T' F' => False)) args s 1 6 (fun q => N0 ≤ q)) 0 [(0, .ref a0), (1, .ref a1)] [] T F
  refine zr_aload_n C 1 dL_day_0 rfl rfl ?_
  refine zr_iconst C 0 dL_day_1 (by decide) ?_
  refine zr_aload_n C 0 dL_day_2 rfl rfl ?_
  obtain ⟨hT1, h⟩ := h
  refine zr_callVX (As := []) (r := (RX4, TX4, 4)) C (k_X4_day h) ok_L_71 zq_867 zq_868 hT1 (by decide) rfl rfl ⟨by decide, (Nat.le_of_ble_eq_true rfl)⟩ ⟨(Nat.le_of_ble_eq_true rfl), (Nat.le_of_ble_eq_true rfl)⟩ (Nat.le_of_ble_eq_true rfl) dL_day_3 ?_ (fun v7 U8 G9 hq => ?_)
  · clear h
    intro E9 T9 F9 hq
    obtain ⟨rfl, hq⟩ := hq
    · obtain ⟨rfl, h⟩ := hq
      refine zr_catch C "java/lang/IllegalStateException" _ [] ⟨0, 8, 11, 13⟩ [] 11 hxt rfl (fun _ h9 => nomatch h9) (by decide) (by decide) zq_618 zq_625 rfl (fun q9 => ?_)
      refine zr_astore_n C [(2, .ref q9), (0, .ref a0), (1, .ref a1)] dL_day_11 rfl (by decide) rfl ?_
      refine zr_iconst C 1 dL_day_12 (by decide) ?_
      exact zr_X (zr_iret C rfl ⟨_, rfl, rfl, h⟩ (Nat.le_of_ble_eq_true rfl) (Nat.le_of_ble_eq_true rfl) dL_day_13)
  · obtain ⟨r2, rfl, rfl, h⟩ := hq
    refine zr_i2l C dL_day_6 ?_
    obtain ⟨n4, hT5, hi6, h⟩ := h
    refine zr_last C rfl hT5 hi6 dL_day_7 ?_
    refine zr_goto C 14 dL_day_8 (by decide) ?_
    refine zr_iconst C 0 dL_day_14 (by decide) ?_
    exact zr_X (zr_iret C rfl ⟨_, rfl, rfl, h⟩ (Nat.le_of_ble_eq_true rfl) (Nat.le_of_ble_eq_true rfl) dL_day_15)
theorem dL_at_0 : decode cL_at 0 = .ok (.aload 4, 2) := by decide +kernel
theorem dL_at_2 : decode cL_at 2 = .ok (.iconst 0, 1) := by decide +kernel
theorem dL_at_3 : decode cL_at 3 = .ok (.aload_n 0, 1) := by decide +kernel
theorem dL_at_4 : decode cL_at 4 = .ok (.iload_n 1, 1) := by decide +kernel
theorem dL_at_5 : decode cL_at 5 = .ok (.iload_n 2, 1) := by decide +kernel
theorem dL_at_6 : decode cL_at 6 = .ok (.iload_n 3, 1) := by decide +kernel
theorem dL_at_10 : decode cL_at 10 = .ok (.i2l, 1) := by decide +kernel
theorem dL_at_11 : decode cL_at 11 = .ok (.lastore, 1) := by decide +kernel
theorem dL_at_12 : decode cL_at 12 = .ok (.goto 11, 3) := by decide +kernel
theorem dL_at_23 : decode cL_at 23 = .ok (.iconst 0, 1) := by decide +kernel
theorem dL_at_24 : decode cL_at 24 = .ok (.ireturn, 1) := by decide +kernel
theorem dL_at_15 : decode cL_at 15 = .ok (.astore 5, 2) := by decide +kernel
theorem dL_at_17 : decode cL_at 17 = .ok (.iconst 1, 1) := by decide +kernel
theorem dL_at_18 : decode cL_at 18 = .ok (.ireturn, 1) := by decide +kernel
theorem dL_at_19 : decode cL_at 19 = .ok (.astore 5, 2) := by decide +kernel
theorem dL_at_21 : decode cL_at 21 = .ok (.iconst 2, 1) := by decide +kernel
theorem dL_at_22 : decode cL_at 22 = .ok (.ireturn, 1) := by decide +kernel
theorem dL_at_7 : decode cL_at 7 = .ok (.invokevirtual 74, 3) := by decide +kernel
def v_L_at (a0 : Nat) (p1 : Int32) (p2 : Int32) (p3 : Int32) (a4 : Nat) (T : zT) (F : zF) (Post : Int32 → zF → Prop) : Prop :=
  (T a0 = some (7, 4) ∧ (v_X4_at a0 p1 p2 p3 T F (fun (r2 : Int32) => (∃ n3 : Nat, T a4 = some (103, n3) ∧ vp_in 0 n3 ∧ Post 0 (zu F a4 (0 : Int32).toNatClampNeg (.long r2.toInt64)))) (fun (E9 : String) => (E9 = "java/lang/IndexOutOfBoundsException" ∧ Post 1 F) ∨ (E9 = "java/lang/IllegalArgumentException" ∧ Post 2 F))))
set_option maxRecDepth 100000 in
set_option maxHeartbeats 4000000 in
theorem k_L_at {l : Launch} {D : va_G} {cA : Nat → ClassId} {N0 zE : Nat} {a0 : Nat} {p1 : Int32} {p2 : Int32} {p3 : Int32} {a4 : Nat} {T : zT} {F : zF} {Post : Int32 → zF → Prop} (h : v_L_at a0 p1 p2 p3 a4 T F Post) : z_MH l D cA N0 zE yL_at cL_at 6 (some .int) [(0, 12, 15, 19), (0, 12, 19, 21)] ({ frames := 8, cells := 3, slots := 18, locals := 133 } : Room) [.ref a0, .int p1, .int p2, .int p3, .ref a4] T F (fun v T' F' => ∃ r : Int32, v = some (.int r) ∧ T = T' ∧ Post r F') (fun E T' F' => False) := by
  unfold v_L_at at h
  refine z_bodyH (by decide) (Nat.le_of_ble_eq_true rfl) ?_
  intro p e s m args below meth c C hxt hnm
  have C : z_C p l s m args meth c RL cL_at 6 (some .int) D cA N0 zE := C
  show z_w p l e ({ frames := 8, cells := 3, slots := 18, locals := 133 } : Room) s m args below meth c D cA N0 6 0 0 (vx_MQ below (z_Qc D cA N0 (fun v T' F' => ∃ r : Int32, v = some (.int r) ∧ T = T' ∧ Post r F')) (z_XC D cA N0 (fun E T' F' => False)) args s 3 18 (fun q => N0 ≤ q)) 0 [(0, .ref a0), (1, .int p1), (2, .int p2), (3, .int p3), (4, .ref a4)] [] T F
  refine zr_aload C 4 dL_at_0 rfl ?_
  refine zr_iconst C 0 dL_at_2 (by decide) ?_
  refine zr_aload_n C 0 dL_at_3 rfl rfl ?_
  refine zr_iload_n C 1 dL_at_4 rfl rfl ?_
  refine zr_iload_n C 2 dL_at_5 rfl rfl ?_
  refine zr_iload_n C 3 dL_at_6 rfl rfl ?_
  obtain ⟨hT1, h⟩ := h
  refine zr_callVX (As := [.int p1, .int p2, .int p3]) (r := (RX4, TX4, 4)) C (k_X4_at h) ok_L_74 zq_875 zq_876 hT1 (by decide) rfl rfl ⟨by decide, (Nat.le_of_ble_eq_true rfl)⟩ ⟨(Nat.le_of_ble_eq_true rfl), (Nat.le_of_ble_eq_true rfl)⟩ (Nat.le_of_ble_eq_true rfl) dL_at_7 ?_ (fun v6 U7 G8 hq => ?_)
  · clear h
    intro E9 T9 F9 hq
    obtain ⟨rfl, rfl, hq⟩ := hq
    rcases hq with hq | hq
    · obtain ⟨rfl, h⟩ := hq
      refine zr_catch C "java/lang/IndexOutOfBoundsException" _ [] ⟨0, 12, 15, 19⟩ [⟨0, 12, 19, 21⟩] 15 hxt rfl (fun _ h9 => nomatch h9) (by decide) (by decide) zq_668 zq_267 rfl (fun q9 => ?_)
      refine zr_astore C [(5, .ref q9), (0, .ref a0), (1, .int p1), (2, .int p2), (3, .int p3), (4, .ref a4)] dL_at_15 (by decide) rfl ?_
      refine zr_iconst C 1 dL_at_17 (by decide) ?_
      exact zr_X (zr_iret C rfl ⟨_, rfl, rfl, h⟩ (Nat.le_of_ble_eq_true rfl) (Nat.le_of_ble_eq_true rfl) dL_at_18)
    · obtain ⟨rfl, h⟩ := hq
      refine zr_catch C "java/lang/IllegalArgumentException" _ [⟨0, 12, 15, 19⟩] ⟨0, 12, 19, 21⟩ [] 19 hxt rfl (List.forall_mem_cons.mpr ⟨Or.inr ⟨by decide, "java/lang/IndexOutOfBoundsException", zq_668, by decide +kernel⟩, (fun _ h9 => nomatch h9)⟩) (by decide) (by decide) zq_669 zq_191 rfl (fun q9 => ?_)
      refine zr_astore C [(5, .ref q9), (0, .ref a0), (1, .int p1), (2, .int p2), (3, .int p3), (4, .ref a4)] dL_at_19 (by decide) rfl ?_
      refine zr_iconst C 2 dL_at_21 (by decide) ?_
      exact zr_X (zr_iret C rfl ⟨_, rfl, rfl, h⟩ (Nat.le_of_ble_eq_true rfl) (Nat.le_of_ble_eq_true rfl) dL_at_22)
  · obtain ⟨r2, rfl, rfl, rfl, h⟩ := hq
    refine zr_i2l C dL_at_10 ?_
    obtain ⟨n3, hT4, hi5, h⟩ := h
    refine zr_last C rfl hT4 hi5 dL_at_11 ?_
    refine zr_goto C 23 dL_at_12 (by decide) ?_
    refine zr_iconst C 0 dL_at_23 (by decide) ?_
    exact zr_X (zr_iret C rfl ⟨_, rfl, rfl, h⟩ (Nat.le_of_ble_eq_true rfl) (Nat.le_of_ble_eq_true rfl) dL_at_24)
theorem dL_many_0 : decode cL_many 0 = .ok (.aload_n 2, 1) := by decide +kernel
theorem dL_many_1 : decode cL_many 1 = .ok (.iconst 0, 1) := by decide +kernel
theorem dL_many_2 : decode cL_many 2 = .ok (.aload_n 0, 1) := by decide +kernel
theorem dL_many_3 : decode cL_many 3 = .ok (.iload_n 1, 1) := by decide +kernel
theorem dL_many_7 : decode cL_many 7 = .ok (.i2l, 1) := by decide +kernel
theorem dL_many_8 : decode cL_many 8 = .ok (.lastore, 1) := by decide +kernel
theorem dL_many_9 : decode cL_many 9 = .ok (.goto 6, 3) := by decide +kernel
theorem dL_many_15 : decode cL_many 15 = .ok (.iconst 0, 1) := by decide +kernel
theorem dL_many_16 : decode cL_many 16 = .ok (.ireturn, 1) := by decide +kernel
theorem dL_many_12 : decode cL_many 12 = .ok (.astore_n 3, 1) := by decide +kernel
theorem dL_many_13 : decode cL_many 13 = .ok (.iconst 1, 1) := by decide +kernel
theorem dL_many_14 : decode cL_many 14 = .ok (.ireturn, 1) := by decide +kernel
theorem dL_many_4 : decode cL_many 4 = .ok (.invokevirtual 77, 3) := by decide +kernel
def v_L_many (a0 : Nat) (p1 : Int32) (a2 : Nat) (T : zT) (F : zF) (Post : Int32 → zF → Prop) : Prop :=
  (T a0 = some (7, 4) ∧ (v_X4_many a0 p1 T F (fun (r2 : Int32) => (∃ n3 : Nat, T a2 = some (103, n3) ∧ vp_in 0 n3 ∧ Post 0 (zu F a2 (0 : Int32).toNatClampNeg (.long r2.toInt64)))) (fun (E9 : String) => (E9 = "java/lang/IllegalArgumentException" ∧ Post 1 F))))
set_option maxRecDepth 100000 in
set_option maxHeartbeats 4000000 in
theorem k_L_many {l : Launch} {D : va_G} {cA : Nat → ClassId} {N0 zE : Nat} {a0 : Nat} {p1 : Int32} {a2 : Nat} {T : zT} {F : zF} {Post : Int32 → zF → Prop} (h : v_L_many a0 p1 a2 T F Post) : z_MH l D cA N0 zE yL_many cL_many 4 (some .int) [(0, 9, 12, 21)] ({ frames := 7, cells := 1, slots := 6, locals := 111 } : Room) [.ref a0, .int p1, .ref a2] T F (fun v T' F' => ∃ r : Int32, v = some (.int r) ∧ T = T' ∧ Post r F') (fun E T' F' => False) := by
  unfold v_L_many at h
  refine z_bodyH (by decide) (Nat.le_of_ble_eq_true rfl) ?_
  intro p e s m args below meth c C hxt hnm
  have C : z_C p l s m args meth c RL cL_many 4 (some .int) D cA N0 zE := C
  show z_w p l e ({ frames := 7, cells := 1, slots := 6, locals := 111 } : Room) s m args below meth c D cA N0 4 0 0 (vx_MQ below (z_Qc D cA N0 (fun v T' F' => ∃ r : Int32, v = some (.int r) ∧ T = T' ∧ Post r F')) (z_XC D cA N0 (fun E T' F' => False)) args s 1 6 (fun q => N0 ≤ q)) 0 [(0, .ref a0), (1, .int p1), (2, .ref a2)] [] T F
  refine zr_aload_n C 2 dL_many_0 rfl rfl ?_
  refine zr_iconst C 0 dL_many_1 (by decide) ?_
  refine zr_aload_n C 0 dL_many_2 rfl rfl ?_
  refine zr_iload_n C 1 dL_many_3 rfl rfl ?_
  obtain ⟨hT1, h⟩ := h
  refine zr_callVX (As := [.int p1]) (r := (RX4, TX4, 4)) C (k_X4_many h) ok_L_77 zq_170 zq_171 hT1 (by decide) rfl rfl ⟨by decide, (Nat.le_of_ble_eq_true rfl)⟩ ⟨(Nat.le_of_ble_eq_true rfl), (Nat.le_of_ble_eq_true rfl)⟩ (Nat.le_of_ble_eq_true rfl) dL_many_4 ?_ (fun v6 U7 G8 hq => ?_)
  · clear h
    intro E9 T9 F9 hq
    obtain ⟨rfl, rfl, hq⟩ := hq
    · obtain ⟨rfl, h⟩ := hq
      refine zr_catch C "java/lang/IllegalArgumentException" _ [] ⟨0, 9, 12, 21⟩ [] 12 hxt rfl (fun _ h9 => nomatch h9) (by decide) (by decide) zq_669 zq_191 rfl (fun q9 => ?_)
      refine zr_astore_n C [(3, .ref q9), (0, .ref a0), (1, .int p1), (2, .ref a2)] dL_many_12 rfl (by decide) rfl ?_
      refine zr_iconst C 1 dL_many_13 (by decide) ?_
      exact zr_X (zr_iret C rfl ⟨_, rfl, rfl, h⟩ (Nat.le_of_ble_eq_true rfl) (Nat.le_of_ble_eq_true rfl) dL_many_14)
  · obtain ⟨r2, rfl, rfl, rfl, h⟩ := hq
    refine zr_i2l C dL_many_7 ?_
    obtain ⟨n3, hT4, hi5, h⟩ := h
    refine zr_last C rfl hT4 hi5 dL_many_8 ?_
    refine zr_goto C 15 dL_many_9 (by decide) ?_
    refine zr_iconst C 0 dL_many_15 (by decide) ?_
    exact zr_X (zr_iret C rfl ⟨_, rfl, rfl, h⟩ (Nat.le_of_ble_eq_true rfl) (Nat.le_of_ble_eq_true rfl) dL_many_16)
theorem dL_groups_0 : decode cL_groups 0 = .ok (.aload 4, 2) := by decide +kernel
theorem dL_groups_2 : decode cL_groups 2 = .ok (.iconst 0, 1) := by decide +kernel
theorem dL_groups_3 : decode cL_groups 3 = .ok (.aload_n 0, 1) := by decide +kernel
theorem dL_groups_4 : decode cL_groups 4 = .ok (.iload_n 1, 1) := by decide +kernel
theorem dL_groups_5 : decode cL_groups 5 = .ok (.iload_n 2, 1) := by decide +kernel
theorem dL_groups_6 : decode cL_groups 6 = .ok (.iload_n 3, 1) := by decide +kernel
theorem dL_groups_10 : decode cL_groups 10 = .ok (.i2l, 1) := by decide +kernel
theorem dL_groups_11 : decode cL_groups 11 = .ok (.lastore, 1) := by decide +kernel
theorem dL_groups_12 : decode cL_groups 12 = .ok (.goto 11, 3) := by decide +kernel
theorem dL_groups_23 : decode cL_groups 23 = .ok (.iconst 0, 1) := by decide +kernel
theorem dL_groups_24 : decode cL_groups 24 = .ok (.ireturn, 1) := by decide +kernel
theorem dL_groups_15 : decode cL_groups 15 = .ok (.astore 5, 2) := by decide +kernel
theorem dL_groups_17 : decode cL_groups 17 = .ok (.iconst 1, 1) := by decide +kernel
theorem dL_groups_18 : decode cL_groups 18 = .ok (.ireturn, 1) := by decide +kernel
theorem dL_groups_19 : decode cL_groups 19 = .ok (.astore 5, 2) := by decide +kernel
theorem dL_groups_21 : decode cL_groups 21 = .ok (.iconst 2, 1) := by decide +kernel
theorem dL_groups_22 : decode cL_groups 22 = .ok (.ireturn, 1) := by decide +kernel
theorem dL_groups_7 : decode cL_groups 7 = .ok (.invokevirtual 80, 3) := by decide +kernel
def v_L_groups (a0 : Nat) (p1 : Int32) (p2 : Int32) (p3 : Int32) (a4 : Nat) (T : zT) (F : zF) (Post : Int32 → zF → Prop) : Prop :=
  (T a0 = some (7, 4) ∧ (v_X4_groups a0 p1 p2 p3 T F (fun (r2 : Int32) (F3 : zF) => (∃ n4 : Nat, T a4 = some (103, n4) ∧ vp_in 0 n4 ∧ Post 0 (zu F3 a4 (0 : Int32).toNatClampNeg (.long r2.toInt64)))) (fun (E9 : String) (F9 : zF) => (E9 = "java/lang/IndexOutOfBoundsException" ∧ Post 1 F9) ∨ (E9 = "java/lang/IllegalArgumentException" ∧ Post 2 F9))))
set_option maxRecDepth 100000 in
set_option maxHeartbeats 4000000 in
theorem k_L_groups {l : Launch} {D : va_G} {cA : Nat → ClassId} {N0 zE : Nat} {a0 : Nat} {p1 : Int32} {p2 : Int32} {p3 : Int32} {a4 : Nat} {T : zT} {F : zF} {Post : Int32 → zF → Prop} (h : v_L_groups a0 p1 p2 p3 a4 T F Post) : z_MH l D cA N0 zE yL_groups cL_groups 6 (some .int) [(0, 12, 15, 19), (0, 12, 19, 21)] ({ frames := 8, cells := 3, slots := 18, locals := 135 } : Room) [.ref a0, .int p1, .int p2, .int p3, .ref a4] T F (fun v T' F' => ∃ r : Int32, v = some (.int r) ∧ T = T' ∧ Post r F') (fun E T' F' => False) := by
  unfold v_L_groups at h
  refine z_bodyH (by decide) (Nat.le_of_ble_eq_true rfl) ?_
  intro p e s m args below meth c C hxt hnm
  have C : z_C p l s m args meth c RL cL_groups 6 (some .int) D cA N0 zE := C
  show z_w p l e ({ frames := 8, cells := 3, slots := 18, locals := 135 } : Room) s m args below meth c D cA N0 6 0 0 (vx_MQ below (z_Qc D cA N0 (fun v T' F' => ∃ r : Int32, v = some (.int r) ∧ T = T' ∧ Post r F')) (z_XC D cA N0 (fun E T' F' => False)) args s 3 18 (fun q => N0 ≤ q)) 0 [(0, .ref a0), (1, .int p1), (2, .int p2), (3, .int p3), (4, .ref a4)] [] T F
  refine zr_aload C 4 dL_groups_0 rfl ?_
  refine zr_iconst C 0 dL_groups_2 (by decide) ?_
  refine zr_aload_n C 0 dL_groups_3 rfl rfl ?_
  refine zr_iload_n C 1 dL_groups_4 rfl rfl ?_
  refine zr_iload_n C 2 dL_groups_5 rfl rfl ?_
  refine zr_iload_n C 3 dL_groups_6 rfl rfl ?_
  obtain ⟨hT1, h⟩ := h
  refine zr_callVX (As := [.int p1, .int p2, .int p3]) (r := (RX4, TX4, 4)) C (k_X4_groups h) ok_L_80 zq_890 zq_891 hT1 (by decide) rfl rfl ⟨by decide, (Nat.le_of_ble_eq_true rfl)⟩ ⟨(Nat.le_of_ble_eq_true rfl), (Nat.le_of_ble_eq_true rfl)⟩ (Nat.le_of_ble_eq_true rfl) dL_groups_7 ?_ (fun v7 U8 G9 hq => ?_)
  · clear h
    intro E9 T9 F9 hq
    obtain ⟨rfl, hq⟩ := hq
    rcases hq with hq | hq
    · obtain ⟨rfl, h⟩ := hq
      refine zr_catch C "java/lang/IndexOutOfBoundsException" _ [] ⟨0, 12, 15, 19⟩ [⟨0, 12, 19, 21⟩] 15 hxt rfl (fun _ h9 => nomatch h9) (by decide) (by decide) zq_668 zq_267 rfl (fun q9 => ?_)
      refine zr_astore C [(5, .ref q9), (0, .ref a0), (1, .int p1), (2, .int p2), (3, .int p3), (4, .ref a4)] dL_groups_15 (by decide) rfl ?_
      refine zr_iconst C 1 dL_groups_17 (by decide) ?_
      exact zr_X (zr_iret C rfl ⟨_, rfl, rfl, h⟩ (Nat.le_of_ble_eq_true rfl) (Nat.le_of_ble_eq_true rfl) dL_groups_18)
    · obtain ⟨rfl, h⟩ := hq
      refine zr_catch C "java/lang/IllegalArgumentException" _ [⟨0, 12, 15, 19⟩] ⟨0, 12, 19, 21⟩ [] 19 hxt rfl (List.forall_mem_cons.mpr ⟨Or.inr ⟨by decide, "java/lang/IndexOutOfBoundsException", zq_668, by decide +kernel⟩, (fun _ h9 => nomatch h9)⟩) (by decide) (by decide) zq_669 zq_191 rfl (fun q9 => ?_)
      refine zr_astore C [(5, .ref q9), (0, .ref a0), (1, .int p1), (2, .int p2), (3, .int p3), (4, .ref a4)] dL_groups_19 (by decide) rfl ?_
      refine zr_iconst C 2 dL_groups_21 (by decide) ?_
      exact zr_X (zr_iret C rfl ⟨_, rfl, rfl, h⟩ (Nat.le_of_ble_eq_true rfl) (Nat.le_of_ble_eq_true rfl) dL_groups_22)
  · obtain ⟨r2, rfl, rfl, h⟩ := hq
    refine zr_i2l C dL_groups_10 ?_
    obtain ⟨n4, hT5, hi6, h⟩ := h
    refine zr_last C rfl hT5 hi6 dL_groups_11 ?_
    refine zr_goto C 23 dL_groups_12 (by decide) ?_
    refine zr_iconst C 0 dL_groups_23 (by decide) ?_
    exact zr_X (zr_iret C rfl ⟨_, rfl, rfl, h⟩ (Nat.le_of_ble_eq_true rfl) (Nat.le_of_ble_eq_true rfl) dL_groups_24)
theorem dL_reach_0 : decode cL_reach 0 = .ok (.aload_n 2, 1) := by decide +kernel
theorem dL_reach_1 : decode cL_reach 1 = .ok (.iconst 0, 1) := by decide +kernel
theorem dL_reach_2 : decode cL_reach 2 = .ok (.aload_n 0, 1) := by decide +kernel
theorem dL_reach_3 : decode cL_reach 3 = .ok (.iload_n 1, 1) := by decide +kernel
theorem dL_reach_7 : decode cL_reach 7 = .ok (.i2l, 1) := by decide +kernel
theorem dL_reach_8 : decode cL_reach 8 = .ok (.lastore, 1) := by decide +kernel
theorem dL_reach_9 : decode cL_reach 9 = .ok (.goto 6, 3) := by decide +kernel
theorem dL_reach_15 : decode cL_reach 15 = .ok (.iconst 0, 1) := by decide +kernel
theorem dL_reach_16 : decode cL_reach 16 = .ok (.ireturn, 1) := by decide +kernel
theorem dL_reach_12 : decode cL_reach 12 = .ok (.astore_n 3, 1) := by decide +kernel
theorem dL_reach_13 : decode cL_reach 13 = .ok (.iconst 1, 1) := by decide +kernel
theorem dL_reach_14 : decode cL_reach 14 = .ok (.ireturn, 1) := by decide +kernel
theorem dL_reach_4 : decode cL_reach 4 = .ok (.invokevirtual 83, 3) := by decide +kernel
def v_L_reach (a0 : Nat) (p1 : Int32) (a2 : Nat) (T : zT) (F : zF) (Post : Int32 → zF → Prop) : Prop :=
  (T a0 = some (7, 4) ∧ (v_X4_reach a0 p1 T F (fun (r2 : Int32) => (∃ n3 : Nat, T a2 = some (103, n3) ∧ vp_in 0 n3 ∧ Post 0 (zu F a2 (0 : Int32).toNatClampNeg (.long r2.toInt64)))) (fun (E9 : String) => (E9 = "java/lang/IndexOutOfBoundsException" ∧ Post 1 F))))
set_option maxRecDepth 100000 in
set_option maxHeartbeats 4000000 in
theorem k_L_reach {l : Launch} {D : va_G} {cA : Nat → ClassId} {N0 zE : Nat} {a0 : Nat} {p1 : Int32} {a2 : Nat} {T : zT} {F : zF} {Post : Int32 → zF → Prop} (h : v_L_reach a0 p1 a2 T F Post) : z_MH l D cA N0 zE yL_reach cL_reach 4 (some .int) [(0, 9, 12, 19)] ({ frames := 8, cells := 1, slots := 6, locals := 131 } : Room) [.ref a0, .int p1, .ref a2] T F (fun v T' F' => ∃ r : Int32, v = some (.int r) ∧ T = T' ∧ Post r F') (fun E T' F' => False) := by
  unfold v_L_reach at h
  refine z_bodyH (by decide) (Nat.le_of_ble_eq_true rfl) ?_
  intro p e s m args below meth c C hxt hnm
  have C : z_C p l s m args meth c RL cL_reach 4 (some .int) D cA N0 zE := C
  show z_w p l e ({ frames := 8, cells := 1, slots := 6, locals := 131 } : Room) s m args below meth c D cA N0 4 0 0 (vx_MQ below (z_Qc D cA N0 (fun v T' F' => ∃ r : Int32, v = some (.int r) ∧ T = T' ∧ Post r F')) (z_XC D cA N0 (fun E T' F' => False)) args s 1 6 (fun q => N0 ≤ q)) 0 [(0, .ref a0), (1, .int p1), (2, .ref a2)] [] T F
  refine zr_aload_n C 2 dL_reach_0 rfl rfl ?_
  refine zr_iconst C 0 dL_reach_1 (by decide) ?_
  refine zr_aload_n C 0 dL_reach_2 rfl rfl ?_
  refine zr_iload_n C 1 dL_reach_3 rfl rfl ?_
  obtain ⟨hT1, h⟩ := h
  refine zr_callVX (As := [.int p1]) (r := (RX4, TX4, 4)) C (k_X4_reach h) ok_L_83 zq_408 zq_409 hT1 (by decide) rfl rfl ⟨by decide, (Nat.le_of_ble_eq_true rfl)⟩ ⟨(Nat.le_of_ble_eq_true rfl), (Nat.le_of_ble_eq_true rfl)⟩ (Nat.le_of_ble_eq_true rfl) dL_reach_4 ?_ (fun v6 U7 G8 hq => ?_)
  · clear h
    intro E9 T9 F9 hq
    obtain ⟨rfl, rfl, hq⟩ := hq
    · obtain ⟨rfl, h⟩ := hq
      refine zr_catch C "java/lang/IndexOutOfBoundsException" _ [] ⟨0, 9, 12, 19⟩ [] 12 hxt rfl (fun _ h9 => nomatch h9) (by decide) (by decide) zq_668 zq_267 rfl (fun q9 => ?_)
      refine zr_astore_n C [(3, .ref q9), (0, .ref a0), (1, .int p1), (2, .ref a2)] dL_reach_12 rfl (by decide) rfl ?_
      refine zr_iconst C 1 dL_reach_13 (by decide) ?_
      exact zr_X (zr_iret C rfl ⟨_, rfl, rfl, h⟩ (Nat.le_of_ble_eq_true rfl) (Nat.le_of_ble_eq_true rfl) dL_reach_14)
  · obtain ⟨r2, rfl, rfl, rfl, h⟩ := hq
    refine zr_i2l C dL_reach_7 ?_
    obtain ⟨n3, hT4, hi5, h⟩ := h
    refine zr_last C rfl hT4 hi5 dL_reach_8 ?_
    refine zr_goto C 15 dL_reach_9 (by decide) ?_
    refine zr_iconst C 0 dL_reach_15 (by decide) ?_
    exact zr_X (zr_iret C rfl ⟨_, rfl, rfl, h⟩ (Nat.le_of_ble_eq_true rfl) (Nat.le_of_ble_eq_true rfl) dL_reach_16)
theorem dL_price_0 : decode cL_price 0 = .ok (.aload 4, 2) := by decide +kernel
theorem dL_price_2 : decode cL_price 2 = .ok (.iconst 0, 1) := by decide +kernel
theorem dL_price_3 : decode cL_price 3 = .ok (.aload_n 0, 1) := by decide +kernel
theorem dL_price_4 : decode cL_price 4 = .ok (.iload_n 1, 1) := by decide +kernel
theorem dL_price_5 : decode cL_price 5 = .ok (.iload_n 2, 1) := by decide +kernel
theorem dL_price_6 : decode cL_price 6 = .ok (.iload_n 3, 1) := by decide +kernel
theorem dL_price_10 : decode cL_price 10 = .ok (.i2l, 1) := by decide +kernel
theorem dL_price_11 : decode cL_price 11 = .ok (.lastore, 1) := by decide +kernel
theorem dL_price_12 : decode cL_price 12 = .ok (.goto 7, 3) := by decide +kernel
theorem dL_price_19 : decode cL_price 19 = .ok (.iconst 0, 1) := by decide +kernel
theorem dL_price_20 : decode cL_price 20 = .ok (.ireturn, 1) := by decide +kernel
theorem dL_price_15 : decode cL_price 15 = .ok (.astore 5, 2) := by decide +kernel
theorem dL_price_17 : decode cL_price 17 = .ok (.iconst 1, 1) := by decide +kernel
theorem dL_price_18 : decode cL_price 18 = .ok (.ireturn, 1) := by decide +kernel
theorem dL_price_7 : decode cL_price 7 = .ok (.invokevirtual 86, 3) := by decide +kernel
def v_L_price (a0 : Nat) (p1 : Int32) (p2 : Int32) (p3 : Int32) (a4 : Nat) (T : zT) (F : zF) (Post : Int32 → zF → Prop) : Prop :=
  (T a0 = some (7, 4) ∧ (v_X4_price a0 p1 p2 p3 T F (fun (r2 : Int32) => (∃ n3 : Nat, T a4 = some (103, n3) ∧ vp_in 0 n3 ∧ Post 0 (zu F a4 (0 : Int32).toNatClampNeg (.long r2.toInt64)))) (fun (E9 : String) => (E9 = "java/lang/IllegalArgumentException" ∧ Post 1 F))))
set_option maxRecDepth 100000 in
set_option maxHeartbeats 4000000 in
theorem k_L_price {l : Launch} {D : va_G} {cA : Nat → ClassId} {N0 zE : Nat} {a0 : Nat} {p1 : Int32} {p2 : Int32} {p3 : Int32} {a4 : Nat} {T : zT} {F : zF} {Post : Int32 → zF → Prop} (h : v_L_price a0 p1 p2 p3 a4 T F Post) : z_MH l D cA N0 zE yL_price cL_price 6 (some .int) [(0, 12, 15, 21)] ({ frames := 8, cells := 1, slots := 6, locals := 136 } : Room) [.ref a0, .int p1, .int p2, .int p3, .ref a4] T F (fun v T' F' => ∃ r : Int32, v = some (.int r) ∧ T = T' ∧ Post r F') (fun E T' F' => False) := by
  unfold v_L_price at h
  refine z_bodyH (by decide) (Nat.le_of_ble_eq_true rfl) ?_
  intro p e s m args below meth c C hxt hnm
  have C : z_C p l s m args meth c RL cL_price 6 (some .int) D cA N0 zE := C
  show z_w p l e ({ frames := 8, cells := 1, slots := 6, locals := 136 } : Room) s m args below meth c D cA N0 6 0 0 (vx_MQ below (z_Qc D cA N0 (fun v T' F' => ∃ r : Int32, v = some (.int r) ∧ T = T' ∧ Post r F')) (z_XC D cA N0 (fun E T' F' => False)) args s 1 6 (fun q => N0 ≤ q)) 0 [(0, .ref a0), (1, .int p1), (2, .int p2), (3, .int p3), (4, .ref a4)] [] T F
  refine zr_aload C 4 dL_price_0 rfl ?_
  refine zr_iconst C 0 dL_price_2 (by decide) ?_
  refine zr_aload_n C 0 dL_price_3 rfl rfl ?_
  refine zr_iload_n C 1 dL_price_4 rfl rfl ?_
  refine zr_iload_n C 2 dL_price_5 rfl rfl ?_
  refine zr_iload_n C 3 dL_price_6 rfl rfl ?_
  obtain ⟨hT1, h⟩ := h
  refine zr_callVX (As := [.int p1, .int p2, .int p3]) (r := (RX4, TX4, 4)) C (k_X4_price h) ok_L_86 zq_902 zq_903 hT1 (by decide) rfl rfl ⟨by decide, (Nat.le_of_ble_eq_true rfl)⟩ ⟨(Nat.le_of_ble_eq_true rfl), (Nat.le_of_ble_eq_true rfl)⟩ (Nat.le_of_ble_eq_true rfl) dL_price_7 ?_ (fun v6 U7 G8 hq => ?_)
  · clear h
    intro E9 T9 F9 hq
    obtain ⟨rfl, rfl, hq⟩ := hq
    · obtain ⟨rfl, h⟩ := hq
      refine zr_catch C "java/lang/IllegalArgumentException" _ [] ⟨0, 12, 15, 21⟩ [] 15 hxt rfl (fun _ h9 => nomatch h9) (by decide) (by decide) zq_669 zq_191 rfl (fun q9 => ?_)
      refine zr_astore C [(5, .ref q9), (0, .ref a0), (1, .int p1), (2, .int p2), (3, .int p3), (4, .ref a4)] dL_price_15 (by decide) rfl ?_
      refine zr_iconst C 1 dL_price_17 (by decide) ?_
      exact zr_X (zr_iret C rfl ⟨_, rfl, rfl, h⟩ (Nat.le_of_ble_eq_true rfl) (Nat.le_of_ble_eq_true rfl) dL_price_18)
  · obtain ⟨r2, rfl, rfl, rfl, h⟩ := hq
    refine zr_i2l C dL_price_10 ?_
    obtain ⟨n3, hT4, hi5, h⟩ := h
    refine zr_last C rfl hT4 hi5 dL_price_11 ?_
    refine zr_goto C 19 dL_price_12 (by decide) ?_
    refine zr_iconst C 0 dL_price_19 (by decide) ?_
    exact zr_X (zr_iret C rfl ⟨_, rfl, rfl, h⟩ (Nat.le_of_ble_eq_true rfl) (Nat.le_of_ble_eq_true rfl) dL_price_20)
theorem dL_swapFor_0 : decode cL_swapFor 0 = .ok (.aload_n 2, 1) := by decide +kernel
theorem dL_swapFor_1 : decode cL_swapFor 1 = .ok (.iconst 0, 1) := by decide +kernel
theorem dL_swapFor_2 : decode cL_swapFor 2 = .ok (.aload_n 0, 1) := by decide +kernel
theorem dL_swapFor_3 : decode cL_swapFor 3 = .ok (.iload_n 1, 1) := by decide +kernel
theorem dL_swapFor_7 : decode cL_swapFor 7 = .ok (.i2l, 1) := by decide +kernel
theorem dL_swapFor_8 : decode cL_swapFor 8 = .ok (.lastore, 1) := by decide +kernel
theorem dL_swapFor_9 : decode cL_swapFor 9 = .ok (.goto 6, 3) := by decide +kernel
theorem dL_swapFor_15 : decode cL_swapFor 15 = .ok (.iconst 0, 1) := by decide +kernel
theorem dL_swapFor_16 : decode cL_swapFor 16 = .ok (.ireturn, 1) := by decide +kernel
theorem dL_swapFor_12 : decode cL_swapFor 12 = .ok (.astore_n 3, 1) := by decide +kernel
theorem dL_swapFor_13 : decode cL_swapFor 13 = .ok (.iconst 1, 1) := by decide +kernel
theorem dL_swapFor_14 : decode cL_swapFor 14 = .ok (.ireturn, 1) := by decide +kernel
theorem dL_swapFor_4 : decode cL_swapFor 4 = .ok (.invokevirtual 89, 3) := by decide +kernel
def v_L_swapFor (a0 : Nat) (p1 : Int32) (a2 : Nat) (T : zT) (F : zF) (Post : Int32 → zF → Prop) : Prop :=
  (T a0 = some (7, 4) ∧ (v_X4_swapFor a0 p1 T F (fun (r2 : Int32) => (∃ n3 : Nat, T a2 = some (103, n3) ∧ vp_in 0 n3 ∧ Post 0 (zu F a2 (0 : Int32).toNatClampNeg (.long r2.toInt64)))) (fun (E9 : String) => (E9 = "java/lang/IndexOutOfBoundsException" ∧ Post 1 F))))
set_option maxRecDepth 100000 in
set_option maxHeartbeats 4000000 in
theorem k_L_swapFor {l : Launch} {D : va_G} {cA : Nat → ClassId} {N0 zE : Nat} {a0 : Nat} {p1 : Int32} {a2 : Nat} {T : zT} {F : zF} {Post : Int32 → zF → Prop} (h : v_L_swapFor a0 p1 a2 T F Post) : z_MH l D cA N0 zE yL_swapFor cL_swapFor 4 (some .int) [(0, 9, 12, 19)] ({ frames := 8, cells := 1, slots := 6, locals := 133 } : Room) [.ref a0, .int p1, .ref a2] T F (fun v T' F' => ∃ r : Int32, v = some (.int r) ∧ T = T' ∧ Post r F') (fun E T' F' => False) := by
  unfold v_L_swapFor at h
  refine z_bodyH (by decide) (Nat.le_of_ble_eq_true rfl) ?_
  intro p e s m args below meth c C hxt hnm
  have C : z_C p l s m args meth c RL cL_swapFor 4 (some .int) D cA N0 zE := C
  show z_w p l e ({ frames := 8, cells := 1, slots := 6, locals := 133 } : Room) s m args below meth c D cA N0 4 0 0 (vx_MQ below (z_Qc D cA N0 (fun v T' F' => ∃ r : Int32, v = some (.int r) ∧ T = T' ∧ Post r F')) (z_XC D cA N0 (fun E T' F' => False)) args s 1 6 (fun q => N0 ≤ q)) 0 [(0, .ref a0), (1, .int p1), (2, .ref a2)] [] T F
  refine zr_aload_n C 2 dL_swapFor_0 rfl rfl ?_
  refine zr_iconst C 0 dL_swapFor_1 (by decide) ?_
  refine zr_aload_n C 0 dL_swapFor_2 rfl rfl ?_
  refine zr_iload_n C 1 dL_swapFor_3 rfl rfl ?_
  obtain ⟨hT1, h⟩ := h
  refine zr_callVX (As := [.int p1]) (r := (RX4, TX4, 4)) C (k_X4_swapFor h) ok_L_89 zq_384 zq_385 hT1 (by decide) rfl rfl ⟨by decide, (Nat.le_of_ble_eq_true rfl)⟩ ⟨(Nat.le_of_ble_eq_true rfl), (Nat.le_of_ble_eq_true rfl)⟩ (Nat.le_of_ble_eq_true rfl) dL_swapFor_4 ?_ (fun v6 U7 G8 hq => ?_)
  · clear h
    intro E9 T9 F9 hq
    obtain ⟨rfl, rfl, hq⟩ := hq
    · obtain ⟨rfl, h⟩ := hq
      refine zr_catch C "java/lang/IndexOutOfBoundsException" _ [] ⟨0, 9, 12, 19⟩ [] 12 hxt rfl (fun _ h9 => nomatch h9) (by decide) (by decide) zq_668 zq_267 rfl (fun q9 => ?_)
      refine zr_astore_n C [(3, .ref q9), (0, .ref a0), (1, .int p1), (2, .ref a2)] dL_swapFor_12 rfl (by decide) rfl ?_
      refine zr_iconst C 1 dL_swapFor_13 (by decide) ?_
      exact zr_X (zr_iret C rfl ⟨_, rfl, rfl, h⟩ (Nat.le_of_ble_eq_true rfl) (Nat.le_of_ble_eq_true rfl) dL_swapFor_14)
  · obtain ⟨r2, rfl, rfl, rfl, h⟩ := hq
    refine zr_i2l C dL_swapFor_7 ?_
    obtain ⟨n3, hT4, hi5, h⟩ := h
    refine zr_last C rfl hT4 hi5 dL_swapFor_8 ?_
    refine zr_goto C 15 dL_swapFor_9 (by decide) ?_
    refine zr_iconst C 0 dL_swapFor_15 (by decide) ?_
    exact zr_X (zr_iret C rfl ⟨_, rfl, rfl, h⟩ (Nat.le_of_ble_eq_true rfl) (Nat.le_of_ble_eq_true rfl) dL_swapFor_16)
theorem dL_offIn_0 : decode cL_offIn 0 = .ok (.aload_n 2, 1) := by decide +kernel
theorem dL_offIn_1 : decode cL_offIn 1 = .ok (.iconst 0, 1) := by decide +kernel
theorem dL_offIn_2 : decode cL_offIn 2 = .ok (.aload_n 0, 1) := by decide +kernel
theorem dL_offIn_3 : decode cL_offIn 3 = .ok (.iload_n 1, 1) := by decide +kernel
theorem dL_offIn_7 : decode cL_offIn 7 = .ok (.i2l, 1) := by decide +kernel
theorem dL_offIn_8 : decode cL_offIn 8 = .ok (.lastore, 1) := by decide +kernel
theorem dL_offIn_9 : decode cL_offIn 9 = .ok (.goto 6, 3) := by decide +kernel
theorem dL_offIn_15 : decode cL_offIn 15 = .ok (.iconst 0, 1) := by decide +kernel
theorem dL_offIn_16 : decode cL_offIn 16 = .ok (.ireturn, 1) := by decide +kernel
theorem dL_offIn_12 : decode cL_offIn 12 = .ok (.astore_n 3, 1) := by decide +kernel
theorem dL_offIn_13 : decode cL_offIn 13 = .ok (.iconst 1, 1) := by decide +kernel
theorem dL_offIn_14 : decode cL_offIn 14 = .ok (.ireturn, 1) := by decide +kernel
theorem dL_offIn_4 : decode cL_offIn 4 = .ok (.invokevirtual 92, 3) := by decide +kernel
def v_L_offIn (a0 : Nat) (p1 : Int32) (a2 : Nat) (T : zT) (F : zF) (Post : Int32 → zF → Prop) : Prop :=
  (T a0 = some (7, 4) ∧ (v_X4_offIn a0 p1 T F (fun (r2 : Int32) => (∃ n3 : Nat, T a2 = some (103, n3) ∧ vp_in 0 n3 ∧ Post 0 (zu F a2 (0 : Int32).toNatClampNeg (.long r2.toInt64)))) (fun (E9 : String) => (E9 = "java/lang/IndexOutOfBoundsException" ∧ Post 1 F))))
set_option maxRecDepth 100000 in
set_option maxHeartbeats 4000000 in
theorem k_L_offIn {l : Launch} {D : va_G} {cA : Nat → ClassId} {N0 zE : Nat} {a0 : Nat} {p1 : Int32} {a2 : Nat} {T : zT} {F : zF} {Post : Int32 → zF → Prop} (h : v_L_offIn a0 p1 a2 T F Post) : z_MH l D cA N0 zE yL_offIn cL_offIn 4 (some .int) [(0, 9, 12, 19)] ({ frames := 8, cells := 1, slots := 6, locals := 135 } : Room) [.ref a0, .int p1, .ref a2] T F (fun v T' F' => ∃ r : Int32, v = some (.int r) ∧ T = T' ∧ Post r F') (fun E T' F' => False) := by
  unfold v_L_offIn at h
  refine z_bodyH (by decide) (Nat.le_of_ble_eq_true rfl) ?_
  intro p e s m args below meth c C hxt hnm
  have C : z_C p l s m args meth c RL cL_offIn 4 (some .int) D cA N0 zE := C
  show z_w p l e ({ frames := 8, cells := 1, slots := 6, locals := 135 } : Room) s m args below meth c D cA N0 4 0 0 (vx_MQ below (z_Qc D cA N0 (fun v T' F' => ∃ r : Int32, v = some (.int r) ∧ T = T' ∧ Post r F')) (z_XC D cA N0 (fun E T' F' => False)) args s 1 6 (fun q => N0 ≤ q)) 0 [(0, .ref a0), (1, .int p1), (2, .ref a2)] [] T F
  refine zr_aload_n C 2 dL_offIn_0 rfl rfl ?_
  refine zr_iconst C 0 dL_offIn_1 (by decide) ?_
  refine zr_aload_n C 0 dL_offIn_2 rfl rfl ?_
  refine zr_iload_n C 1 dL_offIn_3 rfl rfl ?_
  obtain ⟨hT1, h⟩ := h
  refine zr_callVX (As := [.int p1]) (r := (RX4, TX4, 4)) C (k_X4_offIn h) ok_L_92 zq_403 zq_404 hT1 (by decide) rfl rfl ⟨by decide, (Nat.le_of_ble_eq_true rfl)⟩ ⟨(Nat.le_of_ble_eq_true rfl), (Nat.le_of_ble_eq_true rfl)⟩ (Nat.le_of_ble_eq_true rfl) dL_offIn_4 ?_ (fun v6 U7 G8 hq => ?_)
  · clear h
    intro E9 T9 F9 hq
    obtain ⟨rfl, rfl, hq⟩ := hq
    · obtain ⟨rfl, h⟩ := hq
      refine zr_catch C "java/lang/IndexOutOfBoundsException" _ [] ⟨0, 9, 12, 19⟩ [] 12 hxt rfl (fun _ h9 => nomatch h9) (by decide) (by decide) zq_668 zq_267 rfl (fun q9 => ?_)
      refine zr_astore_n C [(3, .ref q9), (0, .ref a0), (1, .int p1), (2, .ref a2)] dL_offIn_12 rfl (by decide) rfl ?_
      refine zr_iconst C 1 dL_offIn_13 (by decide) ?_
      exact zr_X (zr_iret C rfl ⟨_, rfl, rfl, h⟩ (Nat.le_of_ble_eq_true rfl) (Nat.le_of_ble_eq_true rfl) dL_offIn_14)
  · obtain ⟨r2, rfl, rfl, rfl, h⟩ := hq
    refine zr_i2l C dL_offIn_7 ?_
    obtain ⟨n3, hT4, hi5, h⟩ := h
    refine zr_last C rfl hT4 hi5 dL_offIn_8 ?_
    refine zr_goto C 15 dL_offIn_9 (by decide) ?_
    refine zr_iconst C 0 dL_offIn_15 (by decide) ?_
    exact zr_X (zr_iret C rfl ⟨_, rfl, rfl, h⟩ (Nat.le_of_ble_eq_true rfl) (Nat.le_of_ble_eq_true rfl) dL_offIn_16)
theorem dL_lostIn_0 : decode cL_lostIn 0 = .ok (.aload_n 2, 1) := by decide +kernel
theorem dL_lostIn_1 : decode cL_lostIn 1 = .ok (.iconst 0, 1) := by decide +kernel
theorem dL_lostIn_2 : decode cL_lostIn 2 = .ok (.aload_n 0, 1) := by decide +kernel
theorem dL_lostIn_3 : decode cL_lostIn 3 = .ok (.iload_n 1, 1) := by decide +kernel
theorem dL_lostIn_7 : decode cL_lostIn 7 = .ok (.i2l, 1) := by decide +kernel
theorem dL_lostIn_8 : decode cL_lostIn 8 = .ok (.lastore, 1) := by decide +kernel
theorem dL_lostIn_9 : decode cL_lostIn 9 = .ok (.goto 6, 3) := by decide +kernel
theorem dL_lostIn_15 : decode cL_lostIn 15 = .ok (.iconst 0, 1) := by decide +kernel
theorem dL_lostIn_16 : decode cL_lostIn 16 = .ok (.ireturn, 1) := by decide +kernel
theorem dL_lostIn_12 : decode cL_lostIn 12 = .ok (.astore_n 3, 1) := by decide +kernel
theorem dL_lostIn_13 : decode cL_lostIn 13 = .ok (.iconst 1, 1) := by decide +kernel
theorem dL_lostIn_14 : decode cL_lostIn 14 = .ok (.ireturn, 1) := by decide +kernel
theorem dL_lostIn_4 : decode cL_lostIn 4 = .ok (.invokevirtual 95, 3) := by decide +kernel
def v_L_lostIn (a0 : Nat) (p1 : Int32) (a2 : Nat) (T : zT) (F : zF) (Post : Int32 → zF → Prop) : Prop :=
  (T a0 = some (7, 4) ∧ (v_X4_lostIn a0 p1 T F (fun (r2 : Int32) (F3 : zF) => (∃ n4 : Nat, T a2 = some (103, n4) ∧ vp_in 0 n4 ∧ Post 0 (zu F3 a2 (0 : Int32).toNatClampNeg (.long r2.toInt64)))) (fun (E9 : String) (F9 : zF) => (E9 = "java/lang/IllegalArgumentException" ∧ Post 1 F9))))
set_option maxRecDepth 100000 in
set_option maxHeartbeats 4000000 in
theorem k_L_lostIn {l : Launch} {D : va_G} {cA : Nat → ClassId} {N0 zE : Nat} {a0 : Nat} {p1 : Int32} {a2 : Nat} {T : zT} {F : zF} {Post : Int32 → zF → Prop} (h : v_L_lostIn a0 p1 a2 T F Post) : z_MH l D cA N0 zE yL_lostIn cL_lostIn 4 (some .int) [(0, 9, 12, 21)] ({ frames := 7, cells := 1, slots := 6, locals := 113 } : Room) [.ref a0, .int p1, .ref a2] T F (fun v T' F' => ∃ r : Int32, v = some (.int r) ∧ T = T' ∧ Post r F') (fun E T' F' => False) := by
  unfold v_L_lostIn at h
  refine z_bodyH (by decide) (Nat.le_of_ble_eq_true rfl) ?_
  intro p e s m args below meth c C hxt hnm
  have C : z_C p l s m args meth c RL cL_lostIn 4 (some .int) D cA N0 zE := C
  show z_w p l e ({ frames := 7, cells := 1, slots := 6, locals := 113 } : Room) s m args below meth c D cA N0 4 0 0 (vx_MQ below (z_Qc D cA N0 (fun v T' F' => ∃ r : Int32, v = some (.int r) ∧ T = T' ∧ Post r F')) (z_XC D cA N0 (fun E T' F' => False)) args s 1 6 (fun q => N0 ≤ q)) 0 [(0, .ref a0), (1, .int p1), (2, .ref a2)] [] T F
  refine zr_aload_n C 2 dL_lostIn_0 rfl rfl ?_
  refine zr_iconst C 0 dL_lostIn_1 (by decide) ?_
  refine zr_aload_n C 0 dL_lostIn_2 rfl rfl ?_
  refine zr_iload_n C 1 dL_lostIn_3 rfl rfl ?_
  obtain ⟨hT1, h⟩ := h
  refine zr_callVX (As := [.int p1]) (r := (RX4, TX4, 4)) C (k_X4_lostIn h) ok_L_95 zq_429 zq_430 hT1 (by decide) rfl rfl ⟨by decide, (Nat.le_of_ble_eq_true rfl)⟩ ⟨(Nat.le_of_ble_eq_true rfl), (Nat.le_of_ble_eq_true rfl)⟩ (Nat.le_of_ble_eq_true rfl) dL_lostIn_4 ?_ (fun v7 U8 G9 hq => ?_)
  · clear h
    intro E9 T9 F9 hq
    obtain ⟨rfl, hq⟩ := hq
    · obtain ⟨rfl, h⟩ := hq
      refine zr_catch C "java/lang/IllegalArgumentException" _ [] ⟨0, 9, 12, 21⟩ [] 12 hxt rfl (fun _ h9 => nomatch h9) (by decide) (by decide) zq_669 zq_191 rfl (fun q9 => ?_)
      refine zr_astore_n C [(3, .ref q9), (0, .ref a0), (1, .int p1), (2, .ref a2)] dL_lostIn_12 rfl (by decide) rfl ?_
      refine zr_iconst C 1 dL_lostIn_13 (by decide) ?_
      exact zr_X (zr_iret C rfl ⟨_, rfl, rfl, h⟩ (Nat.le_of_ble_eq_true rfl) (Nat.le_of_ble_eq_true rfl) dL_lostIn_14)
  · obtain ⟨r2, rfl, rfl, h⟩ := hq
    refine zr_i2l C dL_lostIn_7 ?_
    obtain ⟨n4, hT5, hi6, h⟩ := h
    refine zr_last C rfl hT5 hi6 dL_lostIn_8 ?_
    refine zr_goto C 15 dL_lostIn_9 (by decide) ?_
    refine zr_iconst C 0 dL_lostIn_15 (by decide) ?_
    exact zr_X (zr_iret C rfl ⟨_, rfl, rfl, h⟩ (Nat.le_of_ble_eq_true rfl) (Nat.le_of_ble_eq_true rfl) dL_lostIn_16)
theorem dL_reachWith_0 : decode cL_reachWith 0 = .ok (.aload_n 2, 1) := by decide +kernel
theorem dL_reachWith_1 : decode cL_reachWith 1 = .ok (.iconst 0, 1) := by decide +kernel
theorem dL_reachWith_2 : decode cL_reachWith 2 = .ok (.aload_n 0, 1) := by decide +kernel
theorem dL_reachWith_3 : decode cL_reachWith 3 = .ok (.iload_n 1, 1) := by decide +kernel
theorem dL_reachWith_7 : decode cL_reachWith 7 = .ok (.i2l, 1) := by decide +kernel
theorem dL_reachWith_8 : decode cL_reachWith 8 = .ok (.lastore, 1) := by decide +kernel
theorem dL_reachWith_9 : decode cL_reachWith 9 = .ok (.goto 6, 3) := by decide +kernel
theorem dL_reachWith_15 : decode cL_reachWith 15 = .ok (.iconst 0, 1) := by decide +kernel
theorem dL_reachWith_16 : decode cL_reachWith 16 = .ok (.ireturn, 1) := by decide +kernel
theorem dL_reachWith_12 : decode cL_reachWith 12 = .ok (.astore_n 3, 1) := by decide +kernel
theorem dL_reachWith_13 : decode cL_reachWith 13 = .ok (.iconst 1, 1) := by decide +kernel
theorem dL_reachWith_14 : decode cL_reachWith 14 = .ok (.ireturn, 1) := by decide +kernel
theorem dL_reachWith_4 : decode cL_reachWith 4 = .ok (.invokevirtual 98, 3) := by decide +kernel
def v_L_reachWith (a0 : Nat) (p1 : Int32) (a2 : Nat) (T : zT) (F : zF) (Post : Int32 → zF → Prop) : Prop :=
  (T a0 = some (7, 4) ∧ (v_X4_reachWith a0 p1 T F (fun (r2 : Int32) => (∃ n3 : Nat, T a2 = some (103, n3) ∧ vp_in 0 n3 ∧ Post 0 (zu F a2 (0 : Int32).toNatClampNeg (.long r2.toInt64)))) (fun (E9 : String) => (E9 = "java/lang/IndexOutOfBoundsException" ∧ Post 1 F))))
set_option maxRecDepth 100000 in
set_option maxHeartbeats 4000000 in
theorem k_L_reachWith {l : Launch} {D : va_G} {cA : Nat → ClassId} {N0 zE : Nat} {a0 : Nat} {p1 : Int32} {a2 : Nat} {T : zT} {F : zF} {Post : Int32 → zF → Prop} (h : v_L_reachWith a0 p1 a2 T F Post) : z_MH l D cA N0 zE yL_reachWith cL_reachWith 4 (some .int) [(0, 9, 12, 19)] ({ frames := 8, cells := 1, slots := 6, locals := 133 } : Room) [.ref a0, .int p1, .ref a2] T F (fun v T' F' => ∃ r : Int32, v = some (.int r) ∧ T = T' ∧ Post r F') (fun E T' F' => False) := by
  unfold v_L_reachWith at h
  refine z_bodyH (by decide) (Nat.le_of_ble_eq_true rfl) ?_
  intro p e s m args below meth c C hxt hnm
  have C : z_C p l s m args meth c RL cL_reachWith 4 (some .int) D cA N0 zE := C
  show z_w p l e ({ frames := 8, cells := 1, slots := 6, locals := 133 } : Room) s m args below meth c D cA N0 4 0 0 (vx_MQ below (z_Qc D cA N0 (fun v T' F' => ∃ r : Int32, v = some (.int r) ∧ T = T' ∧ Post r F')) (z_XC D cA N0 (fun E T' F' => False)) args s 1 6 (fun q => N0 ≤ q)) 0 [(0, .ref a0), (1, .int p1), (2, .ref a2)] [] T F
  refine zr_aload_n C 2 dL_reachWith_0 rfl rfl ?_
  refine zr_iconst C 0 dL_reachWith_1 (by decide) ?_
  refine zr_aload_n C 0 dL_reachWith_2 rfl rfl ?_
  refine zr_iload_n C 1 dL_reachWith_3 rfl rfl ?_
  obtain ⟨hT1, h⟩ := h
  refine zr_callVX (As := [.int p1]) (r := (RX4, TX4, 4)) C (k_X4_reachWith h) ok_L_98 zq_921 zq_922 hT1 (by decide) rfl rfl ⟨by decide, (Nat.le_of_ble_eq_true rfl)⟩ ⟨(Nat.le_of_ble_eq_true rfl), (Nat.le_of_ble_eq_true rfl)⟩ (Nat.le_of_ble_eq_true rfl) dL_reachWith_4 ?_ (fun v6 U7 G8 hq => ?_)
  · clear h
    intro E9 T9 F9 hq
    obtain ⟨rfl, rfl, hq⟩ := hq
    · obtain ⟨rfl, h⟩ := hq
      refine zr_catch C "java/lang/IndexOutOfBoundsException" _ [] ⟨0, 9, 12, 19⟩ [] 12 hxt rfl (fun _ h9 => nomatch h9) (by decide) (by decide) zq_668 zq_267 rfl (fun q9 => ?_)
      refine zr_astore_n C [(3, .ref q9), (0, .ref a0), (1, .int p1), (2, .ref a2)] dL_reachWith_12 rfl (by decide) rfl ?_
      refine zr_iconst C 1 dL_reachWith_13 (by decide) ?_
      exact zr_X (zr_iret C rfl ⟨_, rfl, rfl, h⟩ (Nat.le_of_ble_eq_true rfl) (Nat.le_of_ble_eq_true rfl) dL_reachWith_14)
  · obtain ⟨r2, rfl, rfl, rfl, h⟩ := hq
    refine zr_i2l C dL_reachWith_7 ?_
    obtain ⟨n3, hT4, hi5, h⟩ := h
    refine zr_last C rfl hT4 hi5 dL_reachWith_8 ?_
    refine zr_goto C 15 dL_reachWith_9 (by decide) ?_
    refine zr_iconst C 0 dL_reachWith_15 (by decide) ?_
    exact zr_X (zr_iret C rfl ⟨_, rfl, rfl, h⟩ (Nat.le_of_ble_eq_true rfl) (Nat.le_of_ble_eq_true rfl) dL_reachWith_16)
