theorem dJx4a65c_size_8abf5_0 : decode cJx4a65c_size_8abf5 0 = .ok (.aload_n 0, 1) := by decide +kernel
theorem dJx4a65c_size_8abf5_1 : decode cJx4a65c_size_8abf5 1 = .ok (.getfield 48, 3) := by decide +kernel
theorem dJx4a65c_size_8abf5_4 : decode cJx4a65c_size_8abf5 4 = .ok (.ireturn, 1) := by decide +kernel
def v_Jx4a65c_size_8abf5 (a0 : Nat) (T : zT) (F : zF) (Post : Int32 → Prop) : Prop :=
  (T a0 = some (2, 3) ∧ ∃ x3 : Int32, F a0 2 = .int x3 ∧ Post x3)
set_option maxRecDepth 100000 in
set_option maxHeartbeats 4000000 in
theorem k_Jx4a65c_size_8abf5 {l : Launch} {D : va_G} {cA : Nat → ClassId} {N0 zE : Nat} {a0 : Nat} {T : zT} {F : zF} {Post : Int32 → Prop} (h : v_Jx4a65c_size_8abf5 a0 T F Post) : z_Mt l D cA N0 zE yJx4a65c_size_8abf5 cJx4a65c_size_8abf5 1 (some .int) ({ frames := 0, cells := 0, slots := 0, locals := 0 } : Room) [.ref a0] T F (fun v T' F' => ∃ r : Int32, v = some (.int r) ∧ T = T' ∧ F = F' ∧ Post r) := by
  unfold v_Jx4a65c_size_8abf5 at h
  refine z_bodyT (by decide) (Nat.le_of_ble_eq_true rfl) ?_
  intro p e s m args below meth c C hnm
  have C : z_C p l s m args meth c RJx4a65c cJx4a65c_size_8abf5 1 (some .int) D cA N0 zE := C
  show z_w p l e ({ frames := 0, cells := 0, slots := 0, locals := 0 } : Room) s m args below meth c D cA N0 1 0 0 (MQ below (z_Qc D cA N0 (fun v T' F' => ∃ r : Int32, v = some (.int r) ∧ T = T' ∧ F = F' ∧ Post r)) args s 0 0 (fun q => N0 ≤ q)) 0 [(0, .ref a0)] [] T F
  refine zr_aload_n C 0 dJx4a65c_size_8abf5_0 rfl rfl ?_
  obtain ⟨hT1, x3, hv2, h⟩ := h
  refine zr_get C fl_Jx4a65c_48 hT1 hv2 dJx4a65c_size_8abf5_1 ?_
  exact zr_iret C rfl ⟨_, rfl, rfl, rfl, h⟩ (Nat.le_of_ble_eq_true rfl) (Nat.le_of_ble_eq_true rfl) dJx4a65c_size_8abf5_4
theorem dJ7_fill_53178_0 : decode cJ7_fill_53178 0 = .ok (.iconst 0, 1) := by decide +kernel
theorem dJ7_fill_53178_1 : decode cJ7_fill_53178 1 = .ok (.istore_n 2, 1) := by decide +kernel
theorem dJ7_fill_53178_2 : decode cJ7_fill_53178 2 = .ok (.aload_n 0, 1) := by decide +kernel
theorem dJ7_fill_53178_3 : decode cJ7_fill_53178 3 = .ok (.arraylength, 1) := by decide +kernel
theorem dJ7_fill_53178_4 : decode cJ7_fill_53178 4 = .ok (.istore_n 3, 1) := by decide +kernel
theorem dJ7_fill_53178_5 : decode cJ7_fill_53178 5 = .ok (.iload_n 2, 1) := by decide +kernel
theorem dJ7_fill_53178_6 : decode cJ7_fill_53178 6 = .ok (.iload_n 3, 1) := by decide +kernel
theorem dJ7_fill_53178_7 : decode cJ7_fill_53178 7 = .ok (.if_icmp .ge 13, 3) := by decide +kernel
theorem dJ7_fill_53178_20 : decode cJ7_fill_53178 20 = .ok (.return_, 1) := by decide +kernel
theorem dJ7_fill_53178_10 : decode cJ7_fill_53178 10 = .ok (.aload_n 0, 1) := by decide +kernel
theorem dJ7_fill_53178_11 : decode cJ7_fill_53178 11 = .ok (.iload_n 2, 1) := by decide +kernel
theorem dJ7_fill_53178_12 : decode cJ7_fill_53178 12 = .ok (.iload_n 1, 1) := by decide +kernel
theorem dJ7_fill_53178_13 : decode cJ7_fill_53178 13 = .ok (.iastore, 1) := by decide +kernel
theorem dJ7_fill_53178_14 : decode cJ7_fill_53178 14 = .ok (.iinc 2 1, 3) := by decide +kernel
theorem dJ7_fill_53178_17 : decode cJ7_fill_53178 17 = .ok (.goto (-12), 3) := by decide +kernel
def v_J7_fill_53178 (a0 : Nat) (p1 : Int32) (T : zT) (F : zF) (Post : zF → Prop) : Prop :=
  (∃ n1 : Nat, T a0 = some (100, n1) ∧ (∃ I3 : Nat → Int32 → zF → Prop, (∃ n5 : Nat, I3 n5 0 F) ∧ (∀ (n4 : Nat) (y6 : Int32) (F7 : zF), I3 n4 y6 F7 → (((nI n1) ≤ y6 → Post F7) ∧ (¬ (nI n1) ≤ y6 → (vp_in y6 n1 ∧ (∃ n11 : Nat, n11 < n4 ∧ I3 n11 (y6 + 1) (zu F7 a0 (y6).toNatClampNeg (.int p1)))))))))
set_option maxRecDepth 100000 in
set_option maxHeartbeats 4000000 in
theorem k_J7_fill_53178 {l : Launch} {D : va_G} {cA : Nat → ClassId} {N0 zE : Nat} {a0 : Nat} {p1 : Int32} {T : zT} {F : zF} {Post : zF → Prop} (h : v_J7_fill_53178 a0 p1 T F Post) : z_Mt l D cA N0 zE yJ7_fill_53178 cJ7_fill_53178 4 none ({ frames := 0, cells := 0, slots := 0, locals := 0 } : Room) [.ref a0, .int p1] T F (fun v T' F' => v = none ∧ T = T' ∧ Post F') := by
  unfold v_J7_fill_53178 at h
  refine z_bodyT (by decide) (Nat.le_of_ble_eq_true rfl) ?_
  intro p e s m args below meth c C hnm
  have C : z_C p l s m args meth c RJ7 cJ7_fill_53178 4 none D cA N0 zE := C
  show z_w p l e ({ frames := 0, cells := 0, slots := 0, locals := 0 } : Room) s m args below meth c D cA N0 4 0 0 (MQ below (z_Qc D cA N0 (fun v T' F' => v = none ∧ T = T' ∧ Post F')) args s 0 0 (fun q => N0 ≤ q)) 0 [(0, .ref a0), (1, .int p1)] [] T F
  refine zr_iconst C 0 dJ7_fill_53178_0 (by decide) ?_
  refine zr_istore_n C [(2, .int 0), (0, .ref a0), (1, .int p1)] dJ7_fill_53178_1 rfl (by decide) rfl ?_
  refine zr_aload_n C 1 dJ7_fill_53178_2 rfl rfl ?_
  obtain ⟨n1, hT2, h⟩ := h
  refine zr_alen C hT2 (by decide) rfl dJ7_fill_53178_3 ?_
  refine zr_istore_n C [(3, .int (nI n1)), (2, .int 0), (0, .ref a0), (1, .int p1)] dJ7_fill_53178_4 rfl (by decide) rfl ?_
  obtain ⟨I3, ⟨n5, h013⟩, hI12⟩ := h
  have ky14 : ∀ (n4 : Nat) (y6 : Int32) (F7 : zF), I3 n4 y6 F7 → z_w p l e ({ frames := 0, cells := 0, slots := 0, locals := 0 } : Room) s m args below meth c D cA N0 4 0 0 (MQ below (z_Qc D cA N0 (fun v T' F' => v = none ∧ T = T' ∧ Post F')) args s 0 0 (fun q => N0 ≤ q)) 5 [(0, .ref a0), (1, .int p1), (2, .int y6), (3, .int (nI n1))] [] T F7 := by
    intro n4
    induction n4 using Nat.strongRecOn with
    | _ n4 ih8 =>
      intro y6 F7 hin
      have h := hI12 n4 y6 F7 hin
      refine zr_iload_n C 2 dJ7_fill_53178_5 rfl rfl ?_
      refine zr_iload_n C 3 dJ7_fill_53178_6 rfl rfl ?_
      obtain ⟨h1, h2⟩ := h
      refine zr_icmp_ge C 20 dJ7_fill_53178_7 (by decide) (fun hc => ?_) (fun hc => ?_)
      · have h := h1 hc
        clear h1 h2
        exact zr_vret C rfl ⟨rfl, rfl, h⟩ (Nat.le_of_ble_eq_true rfl) (Nat.le_of_ble_eq_true rfl) dJ7_fill_53178_20
      · have h := h2 hc
        clear h1 h2
        refine zr_aload_n C 0 dJ7_fill_53178_10 rfl rfl ?_
        refine zr_iload_n C 2 dJ7_fill_53178_11 rfl rfl ?_
        refine zr_iload_n C 1 dJ7_fill_53178_12 rfl rfl ?_
        obtain ⟨hi10, h⟩ := h
        refine zr_iast C rfl hT2 hi10 dJ7_fill_53178_13 ?_
        refine zr_iinc C [(2, .int (y6 + 1)), (0, .ref a0), (1, .int p1), (3, .int (nI n1))] 2 dJ7_fill_53178_14 rfl rfl (by decide) rfl ?_
        refine zr_goto C 5 dJ7_fill_53178_17 (by decide) ?_
        obtain ⟨n11, hlt, h⟩ := h
        exact zr_sub [1, 2, 0, 3] rfl (ih8 n11 hlt (y6 + 1) (zu F7 a0 (y6).toNatClampNeg (.int p1)) h)
  exact zr_sub [2, 3, 1, 0] rfl (ky14 n5 0 F h013)
theorem dJ8_newLength_cabcc_0 : decode cJ8_newLength_cabcc 0 = .ok (.iload_n 0, 1) := by decide +kernel
theorem dJ8_newLength_cabcc_1 : decode cJ8_newLength_cabcc 1 = .ok (.iload_n 1, 1) := by decide +kernel
theorem dJ8_newLength_cabcc_2 : decode cJ8_newLength_cabcc 2 = .ok (.iload_n 2, 1) := by decide +kernel
theorem dJ8_newLength_cabcc_3 : decode cJ8_newLength_cabcc 3 = .ok (.invokestatic 194, 3) := by decide +kernel
theorem dJ8_newLength_cabcc_6 : decode cJ8_newLength_cabcc 6 = .ok (.iadd, 1) := by decide +kernel
theorem dJ8_newLength_cabcc_7 : decode cJ8_newLength_cabcc 7 = .ok (.istore_n 3, 1) := by decide +kernel
theorem dJ8_newLength_cabcc_8 : decode cJ8_newLength_cabcc 8 = .ok (.iconst 0, 1) := by decide +kernel
theorem dJ8_newLength_cabcc_9 : decode cJ8_newLength_cabcc 9 = .ok (.iload_n 3, 1) := by decide +kernel
theorem dJ8_newLength_cabcc_10 : decode cJ8_newLength_cabcc 10 = .ok (.if_icmp .ge 11, 3) := by decide +kernel
theorem dJ8_newLength_cabcc_13 : decode cJ8_newLength_cabcc 13 = .ok (.iload_n 3, 1) := by decide +kernel
theorem dJ8_newLength_cabcc_14 : decode cJ8_newLength_cabcc 14 = .ok (.ldc 200, 2) := by decide +kernel
theorem dJ8_newLength_cabcc_16 : decode cJ8_newLength_cabcc 16 = .ok (.if_icmp .gt 5, 3) := by decide +kernel
theorem dJ8_newLength_cabcc_19 : decode cJ8_newLength_cabcc 19 = .ok (.iload_n 3, 1) := by decide +kernel
theorem dJ8_newLength_cabcc_20 : decode cJ8_newLength_cabcc 20 = .ok (.ireturn, 1) := by decide +kernel
def v_J8_newLength_cabcc (p0 : Int32) (p1 : Int32) (p2 : Int32) (T : zT) (F : zF) (Post : Int32 → Prop) : Prop :=
  (((p0 + (if p1 < p2 then p2 else p1)) ≤ (0 : Int32) → False) ∧ (¬ (p0 + (if p1 < p2 then p2 else p1)) ≤ (0 : Int32) → ((2147483639 < (p0 + (if p1 < p2 then p2 else p1)) → False) ∧ (¬ 2147483639 < (p0 + (if p1 < p2 then p2 else p1)) → Post (p0 + (if p1 < p2 then p2 else p1))))))
set_option maxRecDepth 100000 in
set_option maxHeartbeats 4000000 in
theorem k_J8_newLength_cabcc {l : Launch} {D : va_G} {cA : Nat → ClassId} {N0 zE : Nat} {p0 : Int32} {p1 : Int32} {p2 : Int32} {T : zT} {F : zF} {Post : Int32 → Prop} (h : v_J8_newLength_cabcc p0 p1 p2 T F Post) : z_Mt l D cA N0 zE yJ8_newLength_cabcc cJ8_newLength_cabcc 4 (some .int) ({ frames := 1, cells := 0, slots := 0, locals := 21 } : Room) [.int p0, .int p1, .int p2] T F (fun v T' F' => ∃ r : Int32, v = some (.int r) ∧ T = T' ∧ F = F' ∧ Post r) := by
  unfold v_J8_newLength_cabcc at h
  refine z_bodyT (by decide) (Nat.le_of_ble_eq_true rfl) ?_
  intro p e s m args below meth c C hnm
  have C : z_C p l s m args meth c RJ8 cJ8_newLength_cabcc 4 (some .int) D cA N0 zE := C
  show z_w p l e ({ frames := 1, cells := 0, slots := 0, locals := 21 } : Room) s m args below meth c D cA N0 4 0 0 (MQ below (z_Qc D cA N0 (fun v T' F' => ∃ r : Int32, v = some (.int r) ∧ T = T' ∧ F = F' ∧ Post r)) args s 0 0 (fun q => N0 ≤ q)) 0 [(0, .int p0), (1, .int p1), (2, .int p2)] [] T F
  refine zr_iload_n C 0 dJ8_newLength_cabcc_0 rfl rfl ?_
  refine zr_iload_n C 1 dJ8_newLength_cabcc_1 rfl rfl ?_
  refine zr_iload_n C 2 dJ8_newLength_cabcc_2 rfl rfl ?_
  refine zr_max C zq_522 zq_337 zq_45 zq_338 (by decide) (Nat.le_of_ble_eq_true rfl) (Nat.le_of_ble_eq_true rfl) (Nat.le_of_ble_eq_true rfl) dJ8_newLength_cabcc_3 ?_
  refine zr_iadd C dJ8_newLength_cabcc_6 ?_
  refine zr_istore_n C [(3, .int (p0 + (if p1 < p2 then p2 else p1))), (0, .int p0), (1, .int p1), (2, .int p2)] dJ8_newLength_cabcc_7 rfl (by decide) rfl ?_
  refine zr_iconst C 0 dJ8_newLength_cabcc_8 (by decide) ?_
  refine zr_iload_n C 0 dJ8_newLength_cabcc_9 rfl rfl ?_
  obtain ⟨h1, h2⟩ := h
  refine zr_icmp_ge C 21 dJ8_newLength_cabcc_10 (by decide) (fun hc => ?_) (fun hc => ?_)
  · have h := h1 hc
    clear h1 h2
    exact h.elim
  · have h := h2 hc
    clear h1 h2
    refine zr_iload_n C 0 dJ8_newLength_cabcc_13 rfl rfl ?_
    refine zr_ldc C 2147483639 dJ8_newLength_cabcc_14 zq_523 ?_
    obtain ⟨h1, h2⟩ := h
    refine zr_icmp_gt C 21 dJ8_newLength_cabcc_16 (by decide) (fun hc => ?_) (fun hc => ?_)
    · have h := h1 hc
      clear h1 h2
      exact h.elim
    · have h := h2 hc
      clear h1 h2
      refine zr_iload_n C 0 dJ8_newLength_cabcc_19 rfl rfl ?_
      exact zr_iret C rfl ⟨_, rfl, rfl, rfl, h⟩ (Nat.le_of_ble_eq_true rfl) (Nat.le_of_ble_eq_true rfl) dJ8_newLength_cabcc_20
theorem dJx4a65c_grow_92f84_0 : decode cJx4a65c_grow_92f84 0 = .ok (.aload_n 0, 1) := by decide +kernel
theorem dJx4a65c_grow_92f84_1 : decode cJx4a65c_grow_92f84 1 = .ok (.getfield 9, 3) := by decide +kernel
theorem dJx4a65c_grow_92f84_4 : decode cJx4a65c_grow_92f84 4 = .ok (.arraylength, 1) := by decide +kernel
theorem dJx4a65c_grow_92f84_5 : decode cJx4a65c_grow_92f84 5 = .ok (.istore_n 2, 1) := by decide +kernel
theorem dJx4a65c_grow_92f84_6 : decode cJx4a65c_grow_92f84 6 = .ok (.iload_n 2, 1) := by decide +kernel
theorem dJx4a65c_grow_92f84_7 : decode cJx4a65c_grow_92f84 7 = .ok (.ifCond .gt 13, 3) := by decide +kernel
theorem dJx4a65c_grow_92f84_20 : decode cJx4a65c_grow_92f84 20 = .ok (.iload_n 2, 1) := by decide +kernel
theorem dJx4a65c_grow_92f84_21 : decode cJx4a65c_grow_92f84 21 = .ok (.iload_n 1, 1) := by decide +kernel
theorem dJx4a65c_grow_92f84_22 : decode cJx4a65c_grow_92f84 22 = .ok (.iload_n 2, 1) := by decide +kernel
theorem dJx4a65c_grow_92f84_23 : decode cJx4a65c_grow_92f84 23 = .ok (.isub, 1) := by decide +kernel
theorem dJx4a65c_grow_92f84_24 : decode cJx4a65c_grow_92f84 24 = .ok (.iload_n 2, 1) := by decide +kernel
theorem dJx4a65c_grow_92f84_25 : decode cJx4a65c_grow_92f84 25 = .ok (.iconst 1, 1) := by decide +kernel
theorem dJx4a65c_grow_92f84_26 : decode cJx4a65c_grow_92f84 26 = .ok (.ishr, 1) := by decide +kernel
theorem dJx4a65c_grow_92f84_30 : decode cJx4a65c_grow_92f84 30 = .ok (.istore_n 3, 1) := by decide +kernel
theorem dJx4a65c_grow_92f84_31 : decode cJx4a65c_grow_92f84 31 = .ok (.aload_n 0, 1) := by decide +kernel
theorem dJx4a65c_grow_92f84_32 : decode cJx4a65c_grow_92f84 32 = .ok (.aload_n 0, 1) := by decide +kernel
theorem dJx4a65c_grow_92f84_33 : decode cJx4a65c_grow_92f84 33 = .ok (.getfield 9, 3) := by decide +kernel
theorem dJx4a65c_grow_92f84_36 : decode cJx4a65c_grow_92f84 36 = .ok (.iload_n 3, 1) := by decide +kernel
theorem dJx4a65c_grow_92f84_27 : decode cJx4a65c_grow_92f84 27 = .ok (.invokestatic 73, 3) := by decide +kernel
theorem dJx4a65c_grow_92f84_10 : decode cJx4a65c_grow_92f84 10 = .ok (.aload_n 0, 1) := by decide +kernel
theorem dJx4a65c_grow_92f84_11 : decode cJx4a65c_grow_92f84 11 = .ok (.getfield 9, 3) := by decide +kernel
theorem dJx4a65c_grow_92f84_14 : decode cJx4a65c_grow_92f84 14 = .ok (.getstatic 39, 3) := by decide +kernel
theorem dJx4a65c_grow_92f84_17 : decode cJx4a65c_grow_92f84 17 = .ok (.if_acmp .eq 28, 3) := by decide +kernel
theorem dJx4a65c_grow_92f84_45 : decode cJx4a65c_grow_92f84 45 = .ok (.aload_n 0, 1) := by decide +kernel
theorem dJx4a65c_grow_92f84_46 : decode cJx4a65c_grow_92f84 46 = .ok (.bipush 10, 2) := by decide +kernel
theorem dJx4a65c_grow_92f84_48 : decode cJx4a65c_grow_92f84 48 = .ok (.iload_n 1, 1) := by decide +kernel
theorem dJx4a65c_grow_92f84_49 : decode cJx4a65c_grow_92f84 49 = .ok (.invokestatic 79, 3) := by decide +kernel
theorem dJx4a65c_grow_92f84_52 : decode cJx4a65c_grow_92f84 52 = .ok (.anewarray 7, 3) := by decide +kernel
theorem dJx4a65c_grow_92f84_55 : decode cJx4a65c_grow_92f84 55 = .ok (.dup_x1, 1) := by decide +kernel
theorem dJx4a65c_grow_92f84_56 : decode cJx4a65c_grow_92f84 56 = .ok (.putfield 9, 3) := by decide +kernel
theorem dJx4a65c_grow_92f84_59 : decode cJx4a65c_grow_92f84 59 = .ok (.areturn, 1) := by decide +kernel
def v_Jx4a65c_grow_92f84 (zE : Nat) (a0 : Nat) (p1 : Int32) (T : zT) (F : zF) (Post : Nat → zT → zF → Prop) : Prop :=
  (T a0 = some (2, 3) ∧ ∃ x3 : Nat, F a0 1 = .ref x3 ∧ ∃ n4 : Nat, T x3 = some (101, n4) ∧ ((0 < (nI n4) → (v_J8_newLength_cabcc (nI n4) (p1 - (nI n4)) ((nI n4) >>> (1 &&& 31)) T F (fun (r6 : Int32) => False))) ∧ (¬ 0 < (nI n4) → (((some x3 : Option Nat) = some zE → ((if (10 : Int32) < p1 then p1 else (10 : Int32)) = 10 ∧ (∀ q11 : Nat, (∀ b, q11 ≤ b → T b = none) → (zn T q11 (101, 10) a0 = some (2, 3) ∧ Post q11 (zn T q11 (101, 10)) (zu (zm F q11 (fun _ => .null)) a0 1 (.ref q11)))))) ∧ (¬ (some x3 : Option Nat) = some zE → (v_J8_newLength_cabcc (nI n4) (p1 - (nI n4)) ((nI n4) >>> (1 &&& 31)) T F (fun (r14 : Int32) => False)))))))
set_option maxRecDepth 100000 in
set_option maxHeartbeats 4000000 in
theorem k_Jx4a65c_grow_92f84 {l : Launch} {D : va_G} {cA : Nat → ClassId} {N0 zE : Nat} {a0 : Nat} {p1 : Int32} {T : zT} {F : zF} {Post : Nat → zT → zF → Prop} (h : v_Jx4a65c_grow_92f84 zE a0 p1 T F Post) : z_Mt l D cA N0 zE yJx4a65c_grow_92f84 cJx4a65c_grow_92f84 4 (some (.array (.object "java/lang/Object"))) ({ frames := 2, cells := 1, slots := 10, locals := 44 } : Room) [.ref a0, .int p1] T F (fun v T' F' => ∃ r : Nat, v = some (.ref r) ∧ Post r T' F') := by
  unfold v_Jx4a65c_grow_92f84 at h
  refine z_bodyT (by decide) (Nat.le_of_ble_eq_true rfl) ?_
  intro p e s m args below meth c C hnm
  have C : z_C p l s m args meth c RJx4a65c cJx4a65c_grow_92f84 4 (some (.array (.object "java/lang/Object"))) D cA N0 zE := C
  show z_w p l e ({ frames := 2, cells := 1, slots := 10, locals := 44 } : Room) s m args below meth c D cA N0 4 0 0 (MQ below (z_Qc D cA N0 (fun v T' F' => ∃ r : Nat, v = some (.ref r) ∧ Post r T' F')) args s 1 10 (fun q => N0 ≤ q)) 0 [(0, .ref a0), (1, .int p1)] [] T F
  refine zr_aload_n C 0 dJx4a65c_grow_92f84_0 rfl rfl ?_
  obtain ⟨hT1, x3, hv2, h⟩ := h
  refine zr_get C fl_Jx4a65c_9 hT1 hv2 dJx4a65c_grow_92f84_1 ?_
  obtain ⟨n4, hT5, h⟩ := h
  refine zr_alen C hT5 (by decide) rfl dJx4a65c_grow_92f84_4 ?_
  refine zr_istore_n C [(2, .int (nI n4)), (0, .ref a0), (1, .int p1)] dJx4a65c_grow_92f84_5 rfl (by decide) rfl ?_
  refine zr_iload_n C 0 dJx4a65c_grow_92f84_6 rfl rfl ?_
  obtain ⟨h1, h2⟩ := h
  refine zr_if_gt C 20 dJx4a65c_grow_92f84_7 (by decide) (fun hc => ?_) (fun hc => ?_)
  · have h := h1 hc
    clear h1 h2
    refine zr_iload_n C 0 dJx4a65c_grow_92f84_20 rfl rfl ?_
    refine zr_iload_n C 2 dJx4a65c_grow_92f84_21 rfl rfl ?_
    refine zr_iload_n C 0 dJx4a65c_grow_92f84_22 rfl rfl ?_
    refine zr_isub C dJx4a65c_grow_92f84_23 ?_
    refine zr_iload_n C 0 dJx4a65c_grow_92f84_24 rfl rfl ?_
    refine zr_iconst C 1 dJx4a65c_grow_92f84_25 (by decide) ?_
    refine zr_ishr C dJx4a65c_grow_92f84_26 ?_
    refine zr_callS (As := [.int (nI n4), .int (p1 - (nI n4)), .int ((nI n4) >>> (1 &&& 31))]) C (k_J8_newLength_cabcc h) ok_Jx4a65c_73 zq_520 rfl ⟨by decide, (Nat.le_of_ble_eq_true rfl)⟩ ⟨(Nat.le_of_ble_eq_true rfl), (Nat.le_of_ble_eq_true rfl)⟩ (Nat.le_of_ble_eq_true rfl) dJx4a65c_grow_92f84_27 (fun v7 U8 G9 hq => ?_)
    clear h
    · obtain ⟨r6, rfl, rfl, rfl, h⟩ := hq
      refine zr_istore_n C [(3, .int r6), (2, .int (nI n4)), (0, .ref a0), (1, .int p1)] dJx4a65c_grow_92f84_30 rfl (by decide) rfl ?_
      refine zr_aload_n C 2 dJx4a65c_grow_92f84_31 rfl rfl ?_
      refine zr_aload_n C 2 dJx4a65c_grow_92f84_32 rfl rfl ?_
      refine zr_get C fl_Jx4a65c_9 hT1 hv2 dJx4a65c_grow_92f84_33 ?_
      refine zr_iload_n C 0 dJx4a65c_grow_92f84_36 rfl rfl ?_
      exact h.elim
  · have h := h2 hc
    clear h1 h2
    refine zr_aload_n C 1 dJx4a65c_grow_92f84_10 rfl rfl ?_
    refine zr_get C fl_Jx4a65c_9 hT1 hv2 dJx4a65c_grow_92f84_11 ?_
    refine zr_getsE C zq_83 dJx4a65c_grow_92f84_14 ?_
    obtain ⟨h1, h2⟩ := h
    refine zr_acmp_eq (rx := some x3) (ry := some zE) C 45 dJx4a65c_grow_92f84_17 (by decide) (fun hc => ?_) (fun hc => ?_)
    · have h := h1 hc
      clear h1 h2
      refine zr_aload_n C 1 dJx4a65c_grow_92f84_45 rfl rfl ?_
      refine zr_bipush C 10 dJx4a65c_grow_92f84_46 (by decide) ?_
      refine zr_iload_n C 2 dJx4a65c_grow_92f84_48 rfl rfl ?_
      refine zr_max C zq_561 zq_337 zq_45 zq_338 (by decide) (Nat.le_of_ble_eq_true rfl) (Nat.le_of_ble_eq_true rfl) (Nat.le_of_ble_eq_true rfl) dJx4a65c_grow_92f84_49 ?_
      obtain ⟨hz10, h⟩ := h
      refine zr_eqi hz10 ?_
      refine zr_anew (n := 10) C 1 rfl zq_562 zq_555 (by decide) (by decide) (Nat.le_of_ble_eq_true rfl) (Nat.le_of_ble_eq_true rfl) dJx4a65c_grow_92f84_52 (fun q11 hq12 => ?_)
      have h := h q11 hq12
      refine zr_dup_x1 C dJx4a65c_grow_92f84_55 rfl rfl ?_
      obtain ⟨hT13, h⟩ := h
      refine zr_put C fl_Jx4a65c_9 hT13 rfl rfl dJx4a65c_grow_92f84_56 ?_
      exact zr_aret C rfl (Or.inr ⟨_, rfl⟩) (Or.inr ⟨_, rfl⟩) ⟨_, rfl, h⟩ (Nat.le_of_ble_eq_true rfl) (Nat.le_of_ble_eq_true rfl) dJx4a65c_grow_92f84_59
    · have h := h2 hc
      clear h1 h2
      refine zr_iload_n C 0 dJx4a65c_grow_92f84_20 rfl rfl ?_
      refine zr_iload_n C 2 dJx4a65c_grow_92f84_21 rfl rfl ?_
      refine zr_iload_n C 0 dJx4a65c_grow_92f84_22 rfl rfl ?_
      refine zr_isub C dJx4a65c_grow_92f84_23 ?_
      refine zr_iload_n C 0 dJx4a65c_grow_92f84_24 rfl rfl ?_
      refine zr_iconst C 1 dJx4a65c_grow_92f84_25 (by decide) ?_
      refine zr_ishr C dJx4a65c_grow_92f84_26 ?_
      refine zr_callS (As := [.int (nI n4), .int (p1 - (nI n4)), .int ((nI n4) >>> (1 &&& 31))]) C (k_J8_newLength_cabcc h) ok_Jx4a65c_73 zq_520 rfl ⟨by decide, (Nat.le_of_ble_eq_true rfl)⟩ ⟨(Nat.le_of_ble_eq_true rfl), (Nat.le_of_ble_eq_true rfl)⟩ (Nat.le_of_ble_eq_true rfl) dJx4a65c_grow_92f84_27 (fun v15 U16 G17 hq => ?_)
      clear h
      · obtain ⟨r14, rfl, rfl, rfl, h⟩ := hq
        refine zr_istore_n C [(3, .int r14), (2, .int (nI n4)), (0, .ref a0), (1, .int p1)] dJx4a65c_grow_92f84_30 rfl (by decide) rfl ?_
        refine zr_aload_n C 2 dJx4a65c_grow_92f84_31 rfl rfl ?_
        refine zr_aload_n C 2 dJx4a65c_grow_92f84_32 rfl rfl ?_
        refine zr_get C fl_Jx4a65c_9 hT1 hv2 dJx4a65c_grow_92f84_33 ?_
        refine zr_iload_n C 0 dJx4a65c_grow_92f84_36 rfl rfl ?_
        exact h.elim
theorem dJx4a65c_grow_d5877_0 : decode cJx4a65c_grow_d5877 0 = .ok (.aload_n 0, 1) := by decide +kernel
theorem dJx4a65c_grow_d5877_1 : decode cJx4a65c_grow_d5877 1 = .ok (.aload_n 0, 1) := by decide +kernel
theorem dJx4a65c_grow_d5877_2 : decode cJx4a65c_grow_d5877 2 = .ok (.getfield 48, 3) := by decide +kernel
theorem dJx4a65c_grow_d5877_5 : decode cJx4a65c_grow_d5877 5 = .ok (.iconst 1, 1) := by decide +kernel
theorem dJx4a65c_grow_d5877_6 : decode cJx4a65c_grow_d5877 6 = .ok (.iadd, 1) := by decide +kernel
theorem dJx4a65c_grow_d5877_10 : decode cJx4a65c_grow_d5877 10 = .ok (.areturn, 1) := by decide +kernel
theorem dJx4a65c_grow_d5877_7 : decode cJx4a65c_grow_d5877 7 = .ok (.invokevirtual 69, 3) := by decide +kernel
def v_Jx4a65c_grow_d5877 (zE : Nat) (a0 : Nat) (T : zT) (F : zF) (Post : Nat → zT → zF → Prop) : Prop :=
  (T a0 = some (2, 3) ∧ ∃ x3 : Int32, F a0 2 = .int x3 ∧ (v_Jx4a65c_grow_92f84 zE a0 (x3 + 1) T F (fun (r4 : Nat) (T5 : zT) (F6 : zF) => Post r4 T5 F6)))
set_option maxRecDepth 100000 in
set_option maxHeartbeats 4000000 in
theorem k_Jx4a65c_grow_d5877 {l : Launch} {D : va_G} {cA : Nat → ClassId} {N0 zE : Nat} {a0 : Nat} {T : zT} {F : zF} {Post : Nat → zT → zF → Prop} (h : v_Jx4a65c_grow_d5877 zE a0 T F Post) : z_Mt l D cA N0 zE yJx4a65c_grow_d5877 cJx4a65c_grow_d5877 1 (some (.array (.object "java/lang/Object"))) ({ frames := 3, cells := 1, slots := 10, locals := 67 } : Room) [.ref a0] T F (fun v T' F' => ∃ r : Nat, v = some (.ref r) ∧ Post r T' F') := by
  unfold v_Jx4a65c_grow_d5877 at h
  refine z_bodyT (by decide) (Nat.le_of_ble_eq_true rfl) ?_
  intro p e s m args below meth c C hnm
  have C : z_C p l s m args meth c RJx4a65c cJx4a65c_grow_d5877 1 (some (.array (.object "java/lang/Object"))) D cA N0 zE := C
  show z_w p l e ({ frames := 3, cells := 1, slots := 10, locals := 67 } : Room) s m args below meth c D cA N0 1 0 0 (MQ below (z_Qc D cA N0 (fun v T' F' => ∃ r : Nat, v = some (.ref r) ∧ Post r T' F')) args s 1 10 (fun q => N0 ≤ q)) 0 [(0, .ref a0)] [] T F
  refine zr_aload_n C 0 dJx4a65c_grow_d5877_0 rfl rfl ?_
  refine zr_aload_n C 0 dJx4a65c_grow_d5877_1 rfl rfl ?_
  obtain ⟨hT1, x3, hv2, h⟩ := h
  refine zr_get C fl_Jx4a65c_48 hT1 hv2 dJx4a65c_grow_d5877_2 ?_
  refine zr_iconst C 1 dJx4a65c_grow_d5877_5 (by decide) ?_
  refine zr_iadd C dJx4a65c_grow_d5877_6 ?_
  refine zr_callV (As := [.int (x3 + 1)]) (r := (RJx4a65c, TJx4a65c, 3)) C (k_Jx4a65c_grow_92f84 h) ok_Jx4a65c_69 zq_517 zq_12 hT1 (by decide) rfl rfl ⟨by decide, (Nat.le_of_ble_eq_true rfl)⟩ ⟨(Nat.le_of_ble_eq_true rfl), (Nat.le_of_ble_eq_true rfl)⟩ (Nat.le_of_ble_eq_true rfl) dJx4a65c_grow_d5877_7 (fun v7 U8 G9 hq => ?_)
  clear h
  · obtain ⟨r4, rfl, h⟩ := hq
    skip
    exact zr_aret C rfl (Or.inr ⟨_, rfl⟩) (Or.inr ⟨_, rfl⟩) ⟨_, rfl, h⟩ (Nat.le_of_ble_eq_true rfl) (Nat.le_of_ble_eq_true rfl) dJx4a65c_grow_d5877_10
theorem dJx4a65c_add_72be8_0 : decode cJx4a65c_add_72be8 0 = .ok (.iload_n 3, 1) := by decide +kernel
theorem dJx4a65c_add_72be8_1 : decode cJx4a65c_add_72be8 1 = .ok (.aload_n 2, 1) := by decide +kernel
theorem dJx4a65c_add_72be8_2 : decode cJx4a65c_add_72be8 2 = .ok (.arraylength, 1) := by decide +kernel
theorem dJx4a65c_add_72be8_3 : decode cJx4a65c_add_72be8 3 = .ok (.if_icmp .ne 8, 3) := by decide +kernel
theorem dJx4a65c_add_72be8_11 : decode cJx4a65c_add_72be8 11 = .ok (.aload_n 2, 1) := by decide +kernel
theorem dJx4a65c_add_72be8_12 : decode cJx4a65c_add_72be8 12 = .ok (.iload_n 3, 1) := by decide +kernel
theorem dJx4a65c_add_72be8_13 : decode cJx4a65c_add_72be8 13 = .ok (.aload_n 1, 1) := by decide +kernel
theorem dJx4a65c_add_72be8_14 : decode cJx4a65c_add_72be8 14 = .ok (.aastore, 1) := by decide +kernel
theorem dJx4a65c_add_72be8_15 : decode cJx4a65c_add_72be8 15 = .ok (.aload_n 0, 1) := by decide +kernel
theorem dJx4a65c_add_72be8_16 : decode cJx4a65c_add_72be8 16 = .ok (.iload_n 3, 1) := by decide +kernel
theorem dJx4a65c_add_72be8_17 : decode cJx4a65c_add_72be8 17 = .ok (.iconst 1, 1) := by decide +kernel
theorem dJx4a65c_add_72be8_18 : decode cJx4a65c_add_72be8 18 = .ok (.iadd, 1) := by decide +kernel
theorem dJx4a65c_add_72be8_19 : decode cJx4a65c_add_72be8 19 = .ok (.putfield 48, 3) := by decide +kernel
theorem dJx4a65c_add_72be8_22 : decode cJx4a65c_add_72be8 22 = .ok (.return_, 1) := by decide +kernel
theorem dJx4a65c_add_72be8_6 : decode cJx4a65c_add_72be8 6 = .ok (.aload_n 0, 1) := by decide +kernel
theorem dJx4a65c_add_72be8_10 : decode cJx4a65c_add_72be8 10 = .ok (.astore_n 2, 1) := by decide +kernel
theorem dJx4a65c_add_72be8_7 : decode cJx4a65c_add_72be8 7 = .ok (.invokevirtual 129, 3) := by decide +kernel
def v_Jx4a65c_add_72be8 (zE : Nat) (a0 : Nat) (a1 : Nat) (a2 : Nat) (p3 : Int32) (T : zT) (F : zF) (Post : zT → zF → Prop) : Prop :=
  (∃ n1 : Nat, T a2 = some (101, n1) ∧ ((¬ p3 = (nI n1) → (vp_in p3 n1 ∧ z_ob T a1 ∧ T a0 = some (2, 3) ∧ Post T (zu (zu F a2 (p3).toNatClampNeg (.ref a1)) a0 2 (.int (p3 + 1))))) ∧ (p3 = (nI n1) → (T a0 = some (2, 3) ∧ (v_Jx4a65c_grow_d5877 zE a0 T F (fun (r9 : Nat) (T10 : zT) (F11 : zF) => (∃ n12 : Nat, T10 r9 = some (101, n12) ∧ vp_in p3 n12 ∧ z_ob T10 a1 ∧ T10 a0 = some (2, 3) ∧ Post T10 (zu (zu F11 r9 (p3).toNatClampNeg (.ref a1)) a0 2 (.int (p3 + 1))))))))))
set_option maxRecDepth 100000 in
set_option maxHeartbeats 4000000 in
theorem k_Jx4a65c_add_72be8 {l : Launch} {D : va_G} {cA : Nat → ClassId} {N0 zE : Nat} {a0 : Nat} {a1 : Nat} {a2 : Nat} {p3 : Int32} {T : zT} {F : zF} {Post : zT → zF → Prop} (h : v_Jx4a65c_add_72be8 zE a0 a1 a2 p3 T F Post) : z_Mt l D cA N0 zE yJx4a65c_add_72be8 cJx4a65c_add_72be8 4 none ({ frames := 4, cells := 1, slots := 10, locals := 87 } : Room) [.ref a0, .ref a1, .ref a2, .int p3] T F (fun v T' F' => v = none ∧ Post T' F') := by
  unfold v_Jx4a65c_add_72be8 at h
  refine z_bodyT (by decide) (Nat.le_of_ble_eq_true rfl) ?_
  intro p e s m args below meth c C hnm
  have C : z_C p l s m args meth c RJx4a65c cJx4a65c_add_72be8 4 none D cA N0 zE := C
  show z_w p l e ({ frames := 4, cells := 1, slots := 10, locals := 87 } : Room) s m args below meth c D cA N0 4 0 0 (MQ below (z_Qc D cA N0 (fun v T' F' => v = none ∧ Post T' F')) args s 1 10 (fun q => N0 ≤ q)) 0 [(0, .ref a0), (1, .ref a1), (2, .ref a2), (3, .int p3)] [] T F
  refine zr_iload_n C 3 dJx4a65c_add_72be8_0 rfl rfl ?_
  refine zr_aload_n C 2 dJx4a65c_add_72be8_1 rfl rfl ?_
  obtain ⟨n1, hT2, h⟩ := h
  refine zr_alen C hT2 (by decide) rfl dJx4a65c_add_72be8_2 ?_
  obtain ⟨h1, h2⟩ := h
  refine zr_icmp_ne C 11 dJx4a65c_add_72be8_3 (by decide) (fun hc => ?_) (fun hc => ?_)
  · have h := h1 hc
    clear h1 h2
    refine zr_aload_n C 2 dJx4a65c_add_72be8_11 rfl rfl ?_
    refine zr_iload_n C 3 dJx4a65c_add_72be8_12 rfl rfl ?_
    refine zr_aload_n C 1 dJx4a65c_add_72be8_13 rfl rfl ?_
    obtain ⟨hi3, h⟩ := h
    obtain ⟨ho6, h⟩ := h
    obtain ⟨ci9, n9, r9, ho1, ho2, ho3, ho4⟩ := ho6
    refine zr_aastO C rfl hT2 hi3 ho1 ho2 ho3 ho4 dJx4a65c_add_72be8_14 ?_
    refine zr_aload_n C 0 dJx4a65c_add_72be8_15 rfl rfl ?_
    refine zr_iload_n C 3 dJx4a65c_add_72be8_16 rfl rfl ?_
    refine zr_iconst C 1 dJx4a65c_add_72be8_17 (by decide) ?_
    refine zr_iadd C dJx4a65c_add_72be8_18 ?_
    obtain ⟨hT7, h⟩ := h
    refine zr_put C fl_Jx4a65c_48 hT7 rfl rfl dJx4a65c_add_72be8_19 ?_
    exact zr_vret C rfl ⟨rfl, h⟩ (Nat.le_of_ble_eq_true rfl) (Nat.le_of_ble_eq_true rfl) dJx4a65c_add_72be8_22
  · have h := h2 hc
    clear h1 h2
    refine zr_aload_n C 0 dJx4a65c_add_72be8_6 rfl rfl ?_
    obtain ⟨hT8, h⟩ := h
    refine zr_callV (As := []) (r := (RJx4a65c, TJx4a65c, 3)) C (k_Jx4a65c_grow_d5877 h) ok_Jx4a65c_129 zq_513 zq_11 hT8 (by decide) rfl rfl ⟨by decide, (Nat.le_of_ble_eq_true rfl)⟩ ⟨(Nat.le_of_ble_eq_true rfl), (Nat.le_of_ble_eq_true rfl)⟩ (Nat.le_of_ble_eq_true rfl) dJx4a65c_add_72be8_7 (fun v19 U20 G21 hq => ?_)
    clear h
    · obtain ⟨r9, rfl, h⟩ := hq
      skip
      refine zr_astore_n C [(2, .ref r9), (0, .ref a0), (1, .ref a1), (3, .int p3)] dJx4a65c_add_72be8_10 rfl (by decide) rfl ?_
      refine zr_aload_n C 0 dJx4a65c_add_72be8_11 rfl rfl ?_
      refine zr_iload_n C 3 dJx4a65c_add_72be8_12 rfl rfl ?_
      refine zr_aload_n C 2 dJx4a65c_add_72be8_13 rfl rfl ?_
      obtain ⟨n12, hT13, hi14, h⟩ := h
      obtain ⟨ho17, h⟩ := h
      obtain ⟨ci9, n9, r9, ho1, ho2, ho3, ho4⟩ := ho17
      refine zr_aastO C rfl hT13 hi14 ho1 ho2 ho3 ho4 dJx4a65c_add_72be8_14 ?_
      refine zr_aload_n C 1 dJx4a65c_add_72be8_15 rfl rfl ?_
      refine zr_iload_n C 3 dJx4a65c_add_72be8_16 rfl rfl ?_
      refine zr_iconst C 1 dJx4a65c_add_72be8_17 (by decide) ?_
      refine zr_iadd C dJx4a65c_add_72be8_18 ?_
      obtain ⟨hT18, h⟩ := h
      refine zr_put C fl_Jx4a65c_48 hT18 rfl rfl dJx4a65c_add_72be8_19 ?_
      exact zr_vret C rfl ⟨rfl, h⟩ (Nat.le_of_ble_eq_true rfl) (Nat.le_of_ble_eq_true rfl) dJx4a65c_add_72be8_22
theorem dJx4a65c_add_9ea2d_0 : decode cJx4a65c_add_9ea2d 0 = .ok (.aload_n 0, 1) := by decide +kernel
theorem dJx4a65c_add_9ea2d_1 : decode cJx4a65c_add_9ea2d 1 = .ok (.dup, 1) := by decide +kernel
theorem dJx4a65c_add_9ea2d_2 : decode cJx4a65c_add_9ea2d 2 = .ok (.getfield 63, 3) := by decide +kernel
theorem dJx4a65c_add_9ea2d_5 : decode cJx4a65c_add_9ea2d 5 = .ok (.iconst 1, 1) := by decide +kernel
theorem dJx4a65c_add_9ea2d_6 : decode cJx4a65c_add_9ea2d 6 = .ok (.iadd, 1) := by decide +kernel
theorem dJx4a65c_add_9ea2d_7 : decode cJx4a65c_add_9ea2d 7 = .ok (.putfield 63, 3) := by decide +kernel
theorem dJx4a65c_add_9ea2d_10 : decode cJx4a65c_add_9ea2d 10 = .ok (.aload_n 0, 1) := by decide +kernel
theorem dJx4a65c_add_9ea2d_11 : decode cJx4a65c_add_9ea2d 11 = .ok (.aload_n 1, 1) := by decide +kernel
theorem dJx4a65c_add_9ea2d_12 : decode cJx4a65c_add_9ea2d 12 = .ok (.aload_n 0, 1) := by decide +kernel
theorem dJx4a65c_add_9ea2d_13 : decode cJx4a65c_add_9ea2d 13 = .ok (.getfield 9, 3) := by decide +kernel
theorem dJx4a65c_add_9ea2d_16 : decode cJx4a65c_add_9ea2d 16 = .ok (.aload_n 0, 1) := by decide +kernel
theorem dJx4a65c_add_9ea2d_17 : decode cJx4a65c_add_9ea2d 17 = .ok (.getfield 48, 3) := by decide +kernel
theorem dJx4a65c_add_9ea2d_23 : decode cJx4a65c_add_9ea2d 23 = .ok (.iconst 1, 1) := by decide +kernel
theorem dJx4a65c_add_9ea2d_24 : decode cJx4a65c_add_9ea2d 24 = .ok (.ireturn, 1) := by decide +kernel
theorem dJx4a65c_add_9ea2d_20 : decode cJx4a65c_add_9ea2d 20 = .ok (.invokevirtual 131, 3) := by decide +kernel
def v_Jx4a65c_add_9ea2d (zE : Nat) (a0 : Nat) (a1 : Nat) (T : zT) (F : zF) (Post : Int32 → zT → zF → Prop) : Prop :=
  (T a0 = some (2, 3) ∧ ∃ x3 : Int32, F a0 0 = .int x3 ∧ ∃ x5 : Nat, (zu F a0 0 (.int (x3 + 1))) a0 1 = .ref x5 ∧ ∃ x7 : Int32, (zu F a0 0 (.int (x3 + 1))) a0 2 = .int x7 ∧ (v_Jx4a65c_add_72be8 zE a0 a1 x5 x7 T (zu F a0 0 (.int (x3 + 1))) (fun (T8 : zT) (F9 : zF) => Post 1 T8 F9)))
set_option maxRecDepth 100000 in
set_option maxHeartbeats 4000000 in
theorem k_Jx4a65c_add_9ea2d {l : Launch} {D : va_G} {cA : Nat → ClassId} {N0 zE : Nat} {a0 : Nat} {a1 : Nat} {T : zT} {F : zF} {Post : Int32 → zT → zF → Prop} (h : v_Jx4a65c_add_9ea2d zE a0 a1 T F Post) : z_Mt l D cA N0 zE yJx4a65c_add_9ea2d cJx4a65c_add_9ea2d 2 (some .boolean) ({ frames := 5, cells := 1, slots := 10, locals := 110 } : Room) [.ref a0, .ref a1] T F (fun v T' F' => ∃ r : Int32, v = some (.int r) ∧ Post r T' F') := by
  unfold v_Jx4a65c_add_9ea2d at h
  refine z_bodyT (by decide) (Nat.le_of_ble_eq_true rfl) ?_
  intro p e s m args below meth c C hnm
  have C : z_C p l s m args meth c RJx4a65c cJx4a65c_add_9ea2d 2 (some .boolean) D cA N0 zE := C
  show z_w p l e ({ frames := 5, cells := 1, slots := 10, locals := 110 } : Room) s m args below meth c D cA N0 2 0 0 (MQ below (z_Qc D cA N0 (fun v T' F' => ∃ r : Int32, v = some (.int r) ∧ Post r T' F')) args s 1 10 (fun q => N0 ≤ q)) 0 [(0, .ref a0), (1, .ref a1)] [] T F
  refine zr_aload_n C 0 dJx4a65c_add_9ea2d_0 rfl rfl ?_
  refine zr_dup C dJx4a65c_add_9ea2d_1 rfl ?_
  obtain ⟨hT1, x3, hv2, h⟩ := h
  refine zr_get C fl_Jx4a65c_63 hT1 hv2 dJx4a65c_add_9ea2d_2 ?_
  refine zr_iconst C 1 dJx4a65c_add_9ea2d_5 (by decide) ?_
  refine zr_iadd C dJx4a65c_add_9ea2d_6 ?_
  refine zr_put C fl_Jx4a65c_63 hT1 rfl rfl dJx4a65c_add_9ea2d_7 ?_
  refine zr_aload_n C 0 dJx4a65c_add_9ea2d_10 rfl rfl ?_
  refine zr_aload_n C 1 dJx4a65c_add_9ea2d_11 rfl rfl ?_
  refine zr_aload_n C 0 dJx4a65c_add_9ea2d_12 rfl rfl ?_
  obtain ⟨x5, hv4, h⟩ := h
  refine zr_get C fl_Jx4a65c_9 hT1 hv4 dJx4a65c_add_9ea2d_13 ?_
  refine zr_aload_n C 0 dJx4a65c_add_9ea2d_16 rfl rfl ?_
  obtain ⟨x7, hv6, h⟩ := h
  refine zr_get C fl_Jx4a65c_48 hT1 hv6 dJx4a65c_add_9ea2d_17 ?_
  refine zr_callV (As := [.ref a1, .ref x5, .int x7]) (r := (RJx4a65c, TJx4a65c, 3)) C (k_Jx4a65c_add_72be8 h) ok_Jx4a65c_131 zq_509 zq_10 hT1 (by decide) rfl rfl ⟨by decide, (Nat.le_of_ble_eq_true rfl)⟩ ⟨(Nat.le_of_ble_eq_true rfl), (Nat.le_of_ble_eq_true rfl)⟩ (Nat.le_of_ble_eq_true rfl) dJx4a65c_add_9ea2d_20 (fun v10 U11 G12 hq => ?_)
  clear h
  · obtain ⟨rfl, h⟩ := hq
    skip
    refine zr_iconst C 1 dJx4a65c_add_9ea2d_23 (by decide) ?_
    exact zr_zret C rfl (Or.inr rfl) ⟨_, rfl, h⟩ (Nat.le_of_ble_eq_true rfl) (Nat.le_of_ble_eq_true rfl) dJx4a65c_add_9ea2d_24
theorem dJ6_bitCount_0f7a4_0 : decode cJ6_bitCount_0f7a4 0 = .ok (.iload_n 0, 1) := by decide +kernel
theorem dJ6_bitCount_0f7a4_1 : decode cJ6_bitCount_0f7a4 1 = .ok (.iload_n 0, 1) := by decide +kernel
theorem dJ6_bitCount_0f7a4_2 : decode cJ6_bitCount_0f7a4 2 = .ok (.iconst 1, 1) := by decide +kernel
theorem dJ6_bitCount_0f7a4_3 : decode cJ6_bitCount_0f7a4 3 = .ok (.iushr, 1) := by decide +kernel
theorem dJ6_bitCount_0f7a4_4 : decode cJ6_bitCount_0f7a4 4 = .ok (.ldc_w 265, 3) := by decide +kernel
theorem dJ6_bitCount_0f7a4_7 : decode cJ6_bitCount_0f7a4 7 = .ok (.iand, 1) := by decide +kernel
theorem dJ6_bitCount_0f7a4_8 : decode cJ6_bitCount_0f7a4 8 = .ok (.isub, 1) := by decide +kernel
theorem dJ6_bitCount_0f7a4_9 : decode cJ6_bitCount_0f7a4 9 = .ok (.istore_n 0, 1) := by decide +kernel
theorem dJ6_bitCount_0f7a4_10 : decode cJ6_bitCount_0f7a4 10 = .ok (.iload_n 0, 1) := by decide +kernel
theorem dJ6_bitCount_0f7a4_11 : decode cJ6_bitCount_0f7a4 11 = .ok (.ldc_w 266, 3) := by decide +kernel
theorem dJ6_bitCount_0f7a4_14 : decode cJ6_bitCount_0f7a4 14 = .ok (.iand, 1) := by decide +kernel
theorem dJ6_bitCount_0f7a4_15 : decode cJ6_bitCount_0f7a4 15 = .ok (.iload_n 0, 1) := by decide +kernel
theorem dJ6_bitCount_0f7a4_16 : decode cJ6_bitCount_0f7a4 16 = .ok (.iconst 2, 1) := by decide +kernel
theorem dJ6_bitCount_0f7a4_17 : decode cJ6_bitCount_0f7a4 17 = .ok (.iushr, 1) := by decide +kernel
theorem dJ6_bitCount_0f7a4_18 : decode cJ6_bitCount_0f7a4 18 = .ok (.ldc_w 266, 3) := by decide +kernel
theorem dJ6_bitCount_0f7a4_21 : decode cJ6_bitCount_0f7a4 21 = .ok (.iand, 1) := by decide +kernel
theorem dJ6_bitCount_0f7a4_22 : decode cJ6_bitCount_0f7a4 22 = .ok (.iadd, 1) := by decide +kernel
theorem dJ6_bitCount_0f7a4_23 : decode cJ6_bitCount_0f7a4 23 = .ok (.istore_n 0, 1) := by decide +kernel
theorem dJ6_bitCount_0f7a4_24 : decode cJ6_bitCount_0f7a4 24 = .ok (.iload_n 0, 1) := by decide +kernel
theorem dJ6_bitCount_0f7a4_25 : decode cJ6_bitCount_0f7a4 25 = .ok (.iload_n 0, 1) := by decide +kernel
theorem dJ6_bitCount_0f7a4_26 : decode cJ6_bitCount_0f7a4 26 = .ok (.iconst 4, 1) := by decide +kernel
theorem dJ6_bitCount_0f7a4_27 : decode cJ6_bitCount_0f7a4 27 = .ok (.iushr, 1) := by decide +kernel
theorem dJ6_bitCount_0f7a4_28 : decode cJ6_bitCount_0f7a4 28 = .ok (.iadd, 1) := by decide +kernel
theorem dJ6_bitCount_0f7a4_29 : decode cJ6_bitCount_0f7a4 29 = .ok (.ldc_w 267, 3) := by decide +kernel
theorem dJ6_bitCount_0f7a4_32 : decode cJ6_bitCount_0f7a4 32 = .ok (.iand, 1) := by decide +kernel
theorem dJ6_bitCount_0f7a4_33 : decode cJ6_bitCount_0f7a4 33 = .ok (.istore_n 0, 1) := by decide +kernel
theorem dJ6_bitCount_0f7a4_34 : decode cJ6_bitCount_0f7a4 34 = .ok (.iload_n 0, 1) := by decide +kernel
theorem dJ6_bitCount_0f7a4_35 : decode cJ6_bitCount_0f7a4 35 = .ok (.iload_n 0, 1) := by decide +kernel
theorem dJ6_bitCount_0f7a4_36 : decode cJ6_bitCount_0f7a4 36 = .ok (.bipush 8, 2) := by decide +kernel
theorem dJ6_bitCount_0f7a4_38 : decode cJ6_bitCount_0f7a4 38 = .ok (.iushr, 1) := by decide +kernel
theorem dJ6_bitCount_0f7a4_39 : decode cJ6_bitCount_0f7a4 39 = .ok (.iadd, 1) := by decide +kernel
theorem dJ6_bitCount_0f7a4_40 : decode cJ6_bitCount_0f7a4 40 = .ok (.istore_n 0, 1) := by decide +kernel
theorem dJ6_bitCount_0f7a4_41 : decode cJ6_bitCount_0f7a4 41 = .ok (.iload_n 0, 1) := by decide +kernel
theorem dJ6_bitCount_0f7a4_42 : decode cJ6_bitCount_0f7a4 42 = .ok (.iload_n 0, 1) := by decide +kernel
theorem dJ6_bitCount_0f7a4_43 : decode cJ6_bitCount_0f7a4 43 = .ok (.bipush 16, 2) := by decide +kernel
theorem dJ6_bitCount_0f7a4_45 : decode cJ6_bitCount_0f7a4 45 = .ok (.iushr, 1) := by decide +kernel
theorem dJ6_bitCount_0f7a4_46 : decode cJ6_bitCount_0f7a4 46 = .ok (.iadd, 1) := by decide +kernel
theorem dJ6_bitCount_0f7a4_47 : decode cJ6_bitCount_0f7a4 47 = .ok (.istore_n 0, 1) := by decide +kernel
theorem dJ6_bitCount_0f7a4_48 : decode cJ6_bitCount_0f7a4 48 = .ok (.iload_n 0, 1) := by decide +kernel
theorem dJ6_bitCount_0f7a4_49 : decode cJ6_bitCount_0f7a4 49 = .ok (.bipush 63, 2) := by decide +kernel
theorem dJ6_bitCount_0f7a4_51 : decode cJ6_bitCount_0f7a4 51 = .ok (.iand, 1) := by decide +kernel
theorem dJ6_bitCount_0f7a4_52 : decode cJ6_bitCount_0f7a4 52 = .ok (.ireturn, 1) := by decide +kernel
def v_J6_bitCount_0f7a4 (p0 : Int32) (T : zT) (F : zF) (Post : Int32 → Prop) : Prop :=
  ((∀ (y1 : Int32), y1 = (p0 - (((p0.toUInt32 >>> ((1 : Int32).toUInt32 &&& Int32.toUInt32 31)).toInt32) &&& 1431655765)) → (∀ (y3 : Int32), y3 = ((y1 &&& 858993459) + (((y1.toUInt32 >>> ((2 : Int32).toUInt32 &&& Int32.toUInt32 31)).toInt32) &&& 858993459)) → (∀ (y5 : Int32), y5 = ((y3 + ((y3.toUInt32 >>> ((4 : Int32).toUInt32 &&& Int32.toUInt32 31)).toInt32)) &&& 252645135) → (∀ (y7 : Int32), y7 = (y5 + ((y5.toUInt32 >>> ((8 : Int32).toUInt32 &&& Int32.toUInt32 31)).toInt32)) → (∀ (y9 : Int32), y9 = (y7 + ((y7.toUInt32 >>> ((16 : Int32).toUInt32 &&& Int32.toUInt32 31)).toInt32)) → Post (y9 &&& 63)))))))
set_option maxRecDepth 100000 in
set_option maxHeartbeats 4000000 in
theorem k_J6_bitCount_0f7a4 {l : Launch} {D : va_G} {cA : Nat → ClassId} {N0 zE : Nat} {p0 : Int32} {T : zT} {F : zF} {Post : Int32 → Prop} (h : v_J6_bitCount_0f7a4 p0 T F Post) : z_Mt l D cA N0 zE yJ6_bitCount_0f7a4 cJ6_bitCount_0f7a4 1 (some .int) ({ frames := 0, cells := 0, slots := 0, locals := 0 } : Room) [.int p0] T F (fun v T' F' => ∃ r : Int32, v = some (.int r) ∧ T = T' ∧ F = F' ∧ Post r) := by
  unfold v_J6_bitCount_0f7a4 at h
  refine z_bodyT (by decide) (Nat.le_of_ble_eq_true rfl) ?_
  intro p e s m args below meth c C hnm
  have C : z_C p l s m args meth c RJ6 cJ6_bitCount_0f7a4 1 (some .int) D cA N0 zE := C
  show z_w p l e ({ frames := 0, cells := 0, slots := 0, locals := 0 } : Room) s m args below meth c D cA N0 1 0 0 (MQ below (z_Qc D cA N0 (fun v T' F' => ∃ r : Int32, v = some (.int r) ∧ T = T' ∧ F = F' ∧ Post r)) args s 0 0 (fun q => N0 ≤ q)) 0 [(0, .int p0)] [] T F
  refine zr_iload_n C 0 dJ6_bitCount_0f7a4_0 rfl rfl ?_
  refine zr_iload_n C 0 dJ6_bitCount_0f7a4_1 rfl rfl ?_
  refine zr_iconst C 1 dJ6_bitCount_0f7a4_2 (by decide) ?_
  refine zr_iushr C dJ6_bitCount_0f7a4_3 ?_
  refine zr_ldcw C 1431655765 dJ6_bitCount_0f7a4_4 zq_425 ?_
  refine zr_iand C dJ6_bitCount_0f7a4_7 ?_
  refine zr_isub C dJ6_bitCount_0f7a4_8 ?_
  refine zr_topi (fun y1 hy2 => ?_)
  have h := h y1 hy2
  refine zr_istore_n C [(0, .int y1)] dJ6_bitCount_0f7a4_9 rfl (by decide) rfl ?_
  refine zr_iload_n C 0 dJ6_bitCount_0f7a4_10 rfl rfl ?_
  refine zr_ldcw C 858993459 dJ6_bitCount_0f7a4_11 zq_426 ?_
  refine zr_iand C dJ6_bitCount_0f7a4_14 ?_
  refine zr_iload_n C 0 dJ6_bitCount_0f7a4_15 rfl rfl ?_
  refine zr_iconst C 2 dJ6_bitCount_0f7a4_16 (by decide) ?_
  refine zr_iushr C dJ6_bitCount_0f7a4_17 ?_
  refine zr_ldcw C 858993459 dJ6_bitCount_0f7a4_18 zq_426 ?_
  refine zr_iand C dJ6_bitCount_0f7a4_21 ?_
  refine zr_iadd C dJ6_bitCount_0f7a4_22 ?_
  refine zr_topi (fun y3 hy4 => ?_)
  have h := h y3 hy4
  refine zr_istore_n C [(0, .int y3)] dJ6_bitCount_0f7a4_23 rfl (by decide) rfl ?_
  refine zr_iload_n C 0 dJ6_bitCount_0f7a4_24 rfl rfl ?_
  refine zr_iload_n C 0 dJ6_bitCount_0f7a4_25 rfl rfl ?_
  refine zr_iconst C 4 dJ6_bitCount_0f7a4_26 (by decide) ?_
  refine zr_iushr C dJ6_bitCount_0f7a4_27 ?_
  refine zr_iadd C dJ6_bitCount_0f7a4_28 ?_
  refine zr_ldcw C 252645135 dJ6_bitCount_0f7a4_29 zq_427 ?_
  refine zr_iand C dJ6_bitCount_0f7a4_32 ?_
  refine zr_topi (fun y5 hy6 => ?_)
  have h := h y5 hy6
  refine zr_istore_n C [(0, .int y5)] dJ6_bitCount_0f7a4_33 rfl (by decide) rfl ?_
  refine zr_iload_n C 0 dJ6_bitCount_0f7a4_34 rfl rfl ?_
  refine zr_iload_n C 0 dJ6_bitCount_0f7a4_35 rfl rfl ?_
  refine zr_bipush C 8 dJ6_bitCount_0f7a4_36 (by decide) ?_
  refine zr_iushr C dJ6_bitCount_0f7a4_38 ?_
  refine zr_iadd C dJ6_bitCount_0f7a4_39 ?_
  refine zr_topi (fun y7 hy8 => ?_)
  have h := h y7 hy8
  refine zr_istore_n C [(0, .int y7)] dJ6_bitCount_0f7a4_40 rfl (by decide) rfl ?_
  refine zr_iload_n C 0 dJ6_bitCount_0f7a4_41 rfl rfl ?_
  refine zr_iload_n C 0 dJ6_bitCount_0f7a4_42 rfl rfl ?_
  refine zr_bipush C 16 dJ6_bitCount_0f7a4_43 (by decide) ?_
  refine zr_iushr C dJ6_bitCount_0f7a4_45 ?_
  refine zr_iadd C dJ6_bitCount_0f7a4_46 ?_
  refine zr_topi (fun y9 hy10 => ?_)
  have h := h y9 hy10
  refine zr_istore_n C [(0, .int y9)] dJ6_bitCount_0f7a4_47 rfl (by decide) rfl ?_
  refine zr_iload_n C 0 dJ6_bitCount_0f7a4_48 rfl rfl ?_
  refine zr_bipush C 63 dJ6_bitCount_0f7a4_49 (by decide) ?_
  refine zr_iand C dJ6_bitCount_0f7a4_51 ?_
  exact zr_iret C rfl ⟨_, rfl, rfl, rfl, h⟩ (Nat.le_of_ble_eq_true rfl) (Nat.le_of_ble_eq_true rfl) dJ6_bitCount_0f7a4_52
theorem dJxa1e45_init_da8c8_0 : decode cJxa1e45_init_da8c8 0 = .ok (.aload_n 0, 1) := by decide +kernel
theorem dJxa1e45_init_da8c8_1 : decode cJxa1e45_init_da8c8 1 = .ok (.invokespecial 1, 3) := by decide +kernel
theorem dJxa1e45_init_da8c8_4 : decode cJxa1e45_init_da8c8 4 = .ok (.return_, 1) := by decide +kernel
def v_Jxa1e45_init_da8c8 (a0 : Nat) (T : zT) (F : zF) (Post : Prop) : Prop :=
  Post
set_option maxRecDepth 100000 in
set_option maxHeartbeats 4000000 in
theorem k_Jxa1e45_init_da8c8 {l : Launch} {D : va_G} {cA : Nat → ClassId} {N0 zE : Nat} {a0 : Nat} {T : zT} {F : zF} {Post : Prop} (h : v_Jxa1e45_init_da8c8 a0 T F Post) : z_Mt l D cA N0 zE yJxa1e45_init_da8c8 cJxa1e45_init_da8c8 1 none ({ frames := 1, cells := 0, slots := 0, locals := 20 } : Room) [.ref a0] T F (fun v T' F' => v = none ∧ T = T' ∧ F = F' ∧ Post) := by
  unfold v_Jxa1e45_init_da8c8 at h
  refine z_bodyT (by decide) (Nat.le_of_ble_eq_true rfl) ?_
  intro p e s m args below meth c C hnm
  have C : z_C p l s m args meth c RJxa1e45 cJxa1e45_init_da8c8 1 none D cA N0 zE := C
  show z_w p l e ({ frames := 1, cells := 0, slots := 0, locals := 20 } : Room) s m args below meth c D cA N0 1 0 0 (MQ below (z_Qc D cA N0 (fun v T' F' => v = none ∧ T = T' ∧ F = F' ∧ Post)) args s 0 0 (fun q => N0 ≤ q)) 0 [(0, .ref a0)] [] T F
  refine zr_aload_n C 0 dJxa1e45_init_da8c8_0 rfl rfl ?_
  refine zr_objInit C zq_82 zq_69 zq_70 (by decide) (Nat.le_of_ble_eq_true rfl) dJxa1e45_init_da8c8_1 ?_
  exact zr_vret C rfl ⟨rfl, rfl, rfl, h⟩ (Nat.le_of_ble_eq_true rfl) (Nat.le_of_ble_eq_true rfl) dJxa1e45_init_da8c8_4
theorem dJxc12de_init_da8c8_0 : decode cJxc12de_init_da8c8 0 = .ok (.aload_n 0, 1) := by decide +kernel
theorem dJxc12de_init_da8c8_4 : decode cJxc12de_init_da8c8 4 = .ok (.aload_n 0, 1) := by decide +kernel
theorem dJxc12de_init_da8c8_5 : decode cJxc12de_init_da8c8 5 = .ok (.iconst 0, 1) := by decide +kernel
theorem dJxc12de_init_da8c8_6 : decode cJxc12de_init_da8c8 6 = .ok (.putfield 7, 3) := by decide +kernel
theorem dJxc12de_init_da8c8_9 : decode cJxc12de_init_da8c8 9 = .ok (.return_, 1) := by decide +kernel
theorem dJxc12de_init_da8c8_1 : decode cJxc12de_init_da8c8 1 = .ok (.invokespecial 1, 3) := by decide +kernel
def v_Jxc12de_init_da8c8 (a0 : Nat) (T : zT) (F : zF) (Post : zF → Prop) : Prop :=
  (v_Jxa1e45_init_da8c8 a0 T F (T a0 = some (2, 3) ∧ Post (zu F a0 0 (.int 0))))
set_option maxRecDepth 100000 in
set_option maxHeartbeats 4000000 in
theorem k_Jxc12de_init_da8c8 {l : Launch} {D : va_G} {cA : Nat → ClassId} {N0 zE : Nat} {a0 : Nat} {T : zT} {F : zF} {Post : zF → Prop} (h : v_Jxc12de_init_da8c8 a0 T F Post) : z_Mt l D cA N0 zE yJxc12de_init_da8c8 cJxc12de_init_da8c8 1 none ({ frames := 2, cells := 0, slots := 0, locals := 40 } : Room) [.ref a0] T F (fun v T' F' => v = none ∧ T = T' ∧ Post F') := by
  unfold v_Jxc12de_init_da8c8 at h
  refine z_bodyT (by decide) (Nat.le_of_ble_eq_true rfl) ?_
  intro p e s m args below meth c C hnm
  have C : z_C p l s m args meth c RJxc12de cJxc12de_init_da8c8 1 none D cA N0 zE := C
  show z_w p l e ({ frames := 2, cells := 0, slots := 0, locals := 40 } : Room) s m args below meth c D cA N0 1 0 0 (MQ below (z_Qc D cA N0 (fun v T' F' => v = none ∧ T = T' ∧ Post F')) args s 0 0 (fun q => N0 ≤ q)) 0 [(0, .ref a0)] [] T F
  refine zr_aload_n C 0 dJxc12de_init_da8c8_0 rfl rfl ?_
  refine zr_callI (As := []) C (k_Jxa1e45_init_da8c8 h) ok_Jxc12de_1 zq_80 rfl rfl ⟨by decide, (Nat.le_of_ble_eq_true rfl)⟩ ⟨(Nat.le_of_ble_eq_true rfl), (Nat.le_of_ble_eq_true rfl)⟩ (Nat.le_of_ble_eq_true rfl) dJxc12de_init_da8c8_1 (fun v2 U3 G4 hq => ?_)
  clear h
  · obtain ⟨rfl, rfl, rfl, h⟩ := hq
    refine zr_aload_n C 0 dJxc12de_init_da8c8_4 rfl rfl ?_
    refine zr_iconst C 0 dJxc12de_init_da8c8_5 (by decide) ?_
    obtain ⟨hT1, h⟩ := h
    refine zr_put C fl_Jxc12de_7 hT1 rfl rfl dJxc12de_init_da8c8_6 ?_
    exact zr_vret C rfl ⟨rfl, rfl, h⟩ (Nat.le_of_ble_eq_true rfl) (Nat.le_of_ble_eq_true rfl) dJxc12de_init_da8c8_9
theorem dJx4a65c_init_da8c8_0 : decode cJx4a65c_init_da8c8 0 = .ok (.aload_n 0, 1) := by decide +kernel
theorem dJx4a65c_init_da8c8_4 : decode cJx4a65c_init_da8c8 4 = .ok (.aload_n 0, 1) := by decide +kernel
theorem dJx4a65c_init_da8c8_5 : decode cJx4a65c_init_da8c8 5 = .ok (.getstatic 39, 3) := by decide +kernel
theorem dJx4a65c_init_da8c8_8 : decode cJx4a65c_init_da8c8 8 = .ok (.putfield 9, 3) := by decide +kernel
theorem dJx4a65c_init_da8c8_11 : decode cJx4a65c_init_da8c8 11 = .ok (.return_, 1) := by decide +kernel
theorem dJx4a65c_init_da8c8_1 : decode cJx4a65c_init_da8c8 1 = .ok (.invokespecial 1, 3) := by decide +kernel
def v_Jx4a65c_init_da8c8 (zE : Nat) (a0 : Nat) (T : zT) (F : zF) (Post : zF → Prop) : Prop :=
  (v_Jxc12de_init_da8c8 a0 T F (fun (F1 : zF) => (T a0 = some (2, 3) ∧ Post (zu F1 a0 1 (.ref zE)))))
set_option maxRecDepth 100000 in
set_option maxHeartbeats 4000000 in
theorem k_Jx4a65c_init_da8c8 {l : Launch} {D : va_G} {cA : Nat → ClassId} {N0 zE : Nat} {a0 : Nat} {T : zT} {F : zF} {Post : zF → Prop} (h : v_Jx4a65c_init_da8c8 zE a0 T F Post) : z_Mt l D cA N0 zE yJx4a65c_init_da8c8 cJx4a65c_init_da8c8 1 none ({ frames := 3, cells := 0, slots := 0, locals := 60 } : Room) [.ref a0] T F (fun v T' F' => v = none ∧ T = T' ∧ Post F') := by
  unfold v_Jx4a65c_init_da8c8 at h
  refine z_bodyT (by decide) (Nat.le_of_ble_eq_true rfl) ?_
  intro p e s m args below meth c C hnm
  have C : z_C p l s m args meth c RJx4a65c cJx4a65c_init_da8c8 1 none D cA N0 zE := C
  show z_w p l e ({ frames := 3, cells := 0, slots := 0, locals := 60 } : Room) s m args below meth c D cA N0 1 0 0 (MQ below (z_Qc D cA N0 (fun v T' F' => v = none ∧ T = T' ∧ Post F')) args s 0 0 (fun q => N0 ≤ q)) 0 [(0, .ref a0)] [] T F
  refine zr_aload_n C 0 dJx4a65c_init_da8c8_0 rfl rfl ?_
  refine zr_callI (As := []) C (k_Jxc12de_init_da8c8 h) ok_Jx4a65c_1 zq_77 rfl rfl ⟨by decide, (Nat.le_of_ble_eq_true rfl)⟩ ⟨(Nat.le_of_ble_eq_true rfl), (Nat.le_of_ble_eq_true rfl)⟩ (Nat.le_of_ble_eq_true rfl) dJx4a65c_init_da8c8_1 (fun v3 U4 G5 hq => ?_)
  clear h
  · obtain ⟨rfl, rfl, h⟩ := hq
    refine zr_aload_n C 0 dJx4a65c_init_da8c8_4 rfl rfl ?_
    refine zr_getsE C zq_83 dJx4a65c_init_da8c8_5 ?_
    obtain ⟨hT2, h⟩ := h
    refine zr_put C fl_Jx4a65c_9 hT2 rfl rfl dJx4a65c_init_da8c8_8 ?_
    exact zr_vret C rfl ⟨rfl, rfl, h⟩ (Nat.le_of_ble_eq_true rfl) (Nat.le_of_ble_eq_true rfl) dJx4a65c_init_da8c8_11
theorem dJx35411_init_45d68_0 : decode cJx35411_init_45d68 0 = .ok (.aload_n 0, 1) := by decide +kernel
theorem dJx35411_init_45d68_1 : decode cJx35411_init_45d68 1 = .ok (.aload_n 1, 1) := by decide +kernel
theorem dJx35411_init_45d68_2 : decode cJx35411_init_45d68 2 = .ok (.putfield 1, 3) := by decide +kernel
theorem dJx35411_init_45d68_5 : decode cJx35411_init_45d68 5 = .ok (.aload_n 0, 1) := by decide +kernel
theorem dJx35411_init_45d68_6 : decode cJx35411_init_45d68 6 = .ok (.invokespecial 7, 3) := by decide +kernel
theorem dJx35411_init_45d68_9 : decode cJx35411_init_45d68 9 = .ok (.aload_n 0, 1) := by decide +kernel
theorem dJx35411_init_45d68_10 : decode cJx35411_init_45d68 10 = .ok (.iconst (-1), 1) := by decide +kernel
theorem dJx35411_init_45d68_11 : decode cJx35411_init_45d68 11 = .ok (.putfield 13, 3) := by decide +kernel
theorem dJx35411_init_45d68_14 : decode cJx35411_init_45d68 14 = .ok (.aload_n 0, 1) := by decide +kernel
theorem dJx35411_init_45d68_15 : decode cJx35411_init_45d68 15 = .ok (.aload_n 0, 1) := by decide +kernel
theorem dJx35411_init_45d68_16 : decode cJx35411_init_45d68 16 = .ok (.getfield 1, 3) := by decide +kernel
theorem dJx35411_init_45d68_19 : decode cJx35411_init_45d68 19 = .ok (.getfield 17, 3) := by decide +kernel
theorem dJx35411_init_45d68_22 : decode cJx35411_init_45d68 22 = .ok (.putfield 22, 3) := by decide +kernel
theorem dJx35411_init_45d68_25 : decode cJx35411_init_45d68 25 = .ok (.return_, 1) := by decide +kernel
def v_Jx35411_init_45d68 (a0 : Nat) (a1 : Nat) (T : zT) (F : zF) (Post : zF → Prop) : Prop :=
  (T a0 = some (1, 4) ∧ T a1 = some (2, 3) ∧ ∃ x5 : Int32, (zu (zu F a0 3 (.ref a1)) a0 1 (.int ((-1)))) a1 0 = .int x5 ∧ Post (zu (zu (zu F a0 3 (.ref a1)) a0 1 (.int ((-1)))) a0 2 (.int x5)))
set_option maxRecDepth 100000 in
set_option maxHeartbeats 4000000 in
theorem k_Jx35411_init_45d68 {l : Launch} {D : va_G} {cA : Nat → ClassId} {N0 zE : Nat} {a0 : Nat} {a1 : Nat} {T : zT} {F : zF} {Post : zF → Prop} (h : v_Jx35411_init_45d68 a0 a1 T F Post) : z_Mt l D cA N0 zE yJx35411_init_45d68 cJx35411_init_45d68 2 none ({ frames := 1, cells := 0, slots := 0, locals := 20 } : Room) [.ref a0, .ref a1] T F (fun v T' F' => v = none ∧ T = T' ∧ Post F') := by
  unfold v_Jx35411_init_45d68 at h
  refine z_bodyT (by decide) (Nat.le_of_ble_eq_true rfl) ?_
  intro p e s m args below meth c C hnm
  have C : z_C p l s m args meth c RJx35411 cJx35411_init_45d68 2 none D cA N0 zE := C
  show z_w p l e ({ frames := 1, cells := 0, slots := 0, locals := 20 } : Room) s m args below meth c D cA N0 2 0 0 (MQ below (z_Qc D cA N0 (fun v T' F' => v = none ∧ T = T' ∧ Post F')) args s 0 0 (fun q => N0 ≤ q)) 0 [(0, .ref a0), (1, .ref a1)] [] T F
  refine zr_aload_n C 0 dJx35411_init_45d68_0 rfl rfl ?_
  refine zr_aload_n C 1 dJx35411_init_45d68_1 rfl rfl ?_
  obtain ⟨hT1, h⟩ := h
  refine zr_putF C fl_Jx35411_1 fd_Jx35411_1 hT1 rfl rfl hnm dJx35411_init_45d68_2 ?_
  refine zr_aload_n C 0 dJx35411_init_45d68_5 rfl rfl ?_
  refine zr_objInit C zq_1288 zq_69 zq_70 (by decide) (Nat.le_of_ble_eq_true rfl) dJx35411_init_45d68_6 ?_
  refine zr_aload_n C 0 dJx35411_init_45d68_9 rfl rfl ?_
  refine zr_iconst C (-1) dJx35411_init_45d68_10 (by decide) ?_
  refine zr_put C fl_Jx35411_13 hT1 rfl rfl dJx35411_init_45d68_11 ?_
  refine zr_aload_n C 0 dJx35411_init_45d68_14 rfl rfl ?_
  refine zr_aload_n C 0 dJx35411_init_45d68_15 rfl rfl ?_
  refine zr_get C fl_Jx35411_1 hT1 (z_une z_ueq (by decide)) dJx35411_init_45d68_16 ?_
  obtain ⟨hT3, x5, hv4, h⟩ := h
  refine zr_get C fl_Jx35411_17 hT3 hv4 dJx35411_init_45d68_19 ?_
  refine zr_put C fl_Jx35411_22 hT1 rfl rfl dJx35411_init_45d68_22 ?_
  exact zr_vret C rfl ⟨rfl, rfl, h⟩ (Nat.le_of_ble_eq_true rfl) (Nat.le_of_ble_eq_true rfl) dJx35411_init_45d68_25
theorem dJx4a65c_iterator_32c93_0 : decode cJx4a65c_iterator_32c93 0 = .ok (.new 267, 3) := by decide +kernel
theorem dJx4a65c_iterator_32c93_3 : decode cJx4a65c_iterator_32c93 3 = .ok (.dup, 1) := by decide +kernel
theorem dJx4a65c_iterator_32c93_4 : decode cJx4a65c_iterator_32c93 4 = .ok (.aload_n 0, 1) := by decide +kernel
theorem dJx4a65c_iterator_32c93_8 : decode cJx4a65c_iterator_32c93 8 = .ok (.areturn, 1) := by decide +kernel
theorem dJx4a65c_iterator_32c93_5 : decode cJx4a65c_iterator_32c93 5 = .ok (.invokespecial 269, 3) := by decide +kernel
def v_Jx4a65c_iterator_32c93 (a0 : Nat) (T : zT) (F : zF) (Post : Nat → zT → zF → Prop) : Prop :=
  (∀ q1 : Nat, (∀ b, q1 ≤ b → T b = none) → (v_Jx35411_init_45d68 q1 a0 (zn T q1 (1, 4)) (zm F q1 (fun j => defaultValue (tyJx35411 j))) (fun (F3 : zF) => Post q1 (zn T q1 (1, 4)) F3)))
set_option maxRecDepth 100000 in
set_option maxHeartbeats 4000000 in
theorem k_Jx4a65c_iterator_32c93 {l : Launch} {D : va_G} {cA : Nat → ClassId} {N0 zE : Nat} {a0 : Nat} {T : zT} {F : zF} {Post : Nat → zT → zF → Prop} (h : v_Jx4a65c_iterator_32c93 a0 T F Post) : z_Mt l D cA N0 zE yJx4a65c_iterator_32c93 cJx4a65c_iterator_32c93 1 (some (.object "java/util/Iterator")) ({ frames := 2, cells := 1, slots := 4, locals := 41 } : Room) [.ref a0] T F (fun v T' F' => ∃ r : Nat, v = some (.ref r) ∧ Post r T' F') := by
  unfold v_Jx4a65c_iterator_32c93 at h
  refine z_bodyT (by decide) (Nat.le_of_ble_eq_true rfl) ?_
  intro p e s m args below meth c C hnm
  have C : z_C p l s m args meth c RJx4a65c cJx4a65c_iterator_32c93 1 (some (.object "java/util/Iterator")) D cA N0 zE := C
  show z_w p l e ({ frames := 2, cells := 1, slots := 4, locals := 41 } : Room) s m args below meth c D cA N0 1 0 0 (MQ below (z_Qc D cA N0 (fun v T' F' => ∃ r : Nat, v = some (.ref r) ∧ Post r T' F')) args s 1 4 (fun q => N0 ≤ q)) 0 [(0, .ref a0)] [] T F
  refine zr_new C nw_Jx4a65c_267 (Nat.le_of_ble_eq_true rfl) (Nat.le_of_ble_eq_true rfl) dJx4a65c_iterator_32c93_0 (fun q1 hq2 => ?_)
  have h := h q1 hq2
  refine zr_dup C dJx4a65c_iterator_32c93_3 rfl ?_
  refine zr_aload_n C 0 dJx4a65c_iterator_32c93_4 rfl rfl ?_
  refine zr_callI (As := [.ref a0]) C (k_Jx35411_init_45d68 h) ok_Jx4a65c_269 zq_1286 rfl rfl ⟨by decide, (Nat.le_of_ble_eq_true rfl)⟩ ⟨(Nat.le_of_ble_eq_true rfl), (Nat.le_of_ble_eq_true rfl)⟩ (Nat.le_of_ble_eq_true rfl) dJx4a65c_iterator_32c93_5 (fun v4 U5 G6 hq => ?_)
  clear h
  · obtain ⟨rfl, rfl, h⟩ := hq
    exact zr_aret C rfl (Or.inl ⟨_, rfl⟩) (Or.inr ⟨_, rfl⟩) ⟨_, rfl, h⟩ (Nat.le_of_ble_eq_true rfl) (Nat.le_of_ble_eq_true rfl) dJx4a65c_iterator_32c93_8
theorem dJx35411_hasNext_aae02_0 : decode cJx35411_hasNext_aae02 0 = .ok (.aload_n 0, 1) := by decide +kernel
theorem dJx35411_hasNext_aae02_1 : decode cJx35411_hasNext_aae02 1 = .ok (.getfield 25, 3) := by decide +kernel
theorem dJx35411_hasNext_aae02_4 : decode cJx35411_hasNext_aae02 4 = .ok (.aload_n 0, 1) := by decide +kernel
theorem dJx35411_hasNext_aae02_5 : decode cJx35411_hasNext_aae02 5 = .ok (.getfield 1, 3) := by decide +kernel
theorem dJx35411_hasNext_aae02_8 : decode cJx35411_hasNext_aae02 8 = .ok (.getfield 28, 3) := by decide +kernel
theorem dJx35411_hasNext_aae02_11 : decode cJx35411_hasNext_aae02 11 = .ok (.if_icmp .eq 7, 3) := by decide +kernel
theorem dJx35411_hasNext_aae02_18 : decode cJx35411_hasNext_aae02 18 = .ok (.iconst 0, 1) := by decide +kernel
theorem dJx35411_hasNext_aae02_19 : decode cJx35411_hasNext_aae02 19 = .ok (.ireturn, 1) := by decide +kernel
theorem dJx35411_hasNext_aae02_14 : decode cJx35411_hasNext_aae02 14 = .ok (.iconst 1, 1) := by decide +kernel
theorem dJx35411_hasNext_aae02_15 : decode cJx35411_hasNext_aae02 15 = .ok (.goto 4, 3) := by decide +kernel
def v_Jx35411_hasNext_aae02 (a0 : Nat) (T : zT) (F : zF) (Post : Int32 → Prop) : Prop :=
  (T a0 = some (1, 4) ∧ ∃ x3 : Int32, F a0 0 = .int x3 ∧ ∃ x5 : Nat, F a0 3 = .ref x5 ∧ T x5 = some (2, 3) ∧ ∃ x8 : Int32, F x5 2 = .int x8 ∧ ((x3 = x8 → Post 0) ∧ (¬ x3 = x8 → Post 1)))
set_option maxRecDepth 100000 in
set_option maxHeartbeats 4000000 in
theorem k_Jx35411_hasNext_aae02 {l : Launch} {D : va_G} {cA : Nat → ClassId} {N0 zE : Nat} {a0 : Nat} {T : zT} {F : zF} {Post : Int32 → Prop} (h : v_Jx35411_hasNext_aae02 a0 T F Post) : z_Mt l D cA N0 zE yJx35411_hasNext_aae02 cJx35411_hasNext_aae02 1 (some .boolean) ({ frames := 0, cells := 0, slots := 0, locals := 0 } : Room) [.ref a0] T F (fun v T' F' => ∃ r : Int32, v = some (.int r) ∧ T = T' ∧ F = F' ∧ Post r) := by
  unfold v_Jx35411_hasNext_aae02 at h
  refine z_bodyT (by decide) (Nat.le_of_ble_eq_true rfl) ?_
  intro p e s m args below meth c C hnm
  have C : z_C p l s m args meth c RJx35411 cJx35411_hasNext_aae02 1 (some .boolean) D cA N0 zE := C
  show z_w p l e ({ frames := 0, cells := 0, slots := 0, locals := 0 } : Room) s m args below meth c D cA N0 1 0 0 (MQ below (z_Qc D cA N0 (fun v T' F' => ∃ r : Int32, v = some (.int r) ∧ T = T' ∧ F = F' ∧ Post r)) args s 0 0 (fun q => N0 ≤ q)) 0 [(0, .ref a0)] [] T F
  refine zr_aload_n C 0 dJx35411_hasNext_aae02_0 rfl rfl ?_
  obtain ⟨hT1, x3, hv2, h⟩ := h
  refine zr_get C fl_Jx35411_25 hT1 hv2 dJx35411_hasNext_aae02_1 ?_
  refine zr_aload_n C 0 dJx35411_hasNext_aae02_4 rfl rfl ?_
  obtain ⟨x5, hv4, h⟩ := h
  refine zr_get C fl_Jx35411_1 hT1 hv4 dJx35411_hasNext_aae02_5 ?_
  obtain ⟨hT6, x8, hv7, h⟩ := h
  refine zr_get C fl_Jx35411_28 hT6 hv7 dJx35411_hasNext_aae02_8 ?_
  obtain ⟨h1, h2⟩ := h
  refine zr_icmp_eq C 18 dJx35411_hasNext_aae02_11 (by decide) (fun hc => ?_) (fun hc => ?_)
  · have h := h1 hc
    clear h1 h2
    refine zr_iconst C 0 dJx35411_hasNext_aae02_18 (by decide) ?_
    exact zr_zret C rfl (Or.inl rfl) ⟨_, rfl, rfl, rfl, h⟩ (Nat.le_of_ble_eq_true rfl) (Nat.le_of_ble_eq_true rfl) dJx35411_hasNext_aae02_19
  · have h := h2 hc
    clear h1 h2
    refine zr_iconst C 1 dJx35411_hasNext_aae02_14 (by decide) ?_
    refine zr_goto C 19 dJx35411_hasNext_aae02_15 (by decide) ?_
    exact zr_zret C rfl (Or.inr rfl) ⟨_, rfl, rfl, rfl, h⟩ (Nat.le_of_ble_eq_true rfl) (Nat.le_of_ble_eq_true rfl) dJx35411_hasNext_aae02_19
theorem dJx4a65c_isEmpty_aae02_0 : decode cJx4a65c_isEmpty_aae02 0 = .ok (.aload_n 0, 1) := by decide +kernel
theorem dJx4a65c_isEmpty_aae02_1 : decode cJx4a65c_isEmpty_aae02 1 = .ok (.getfield 48, 3) := by decide +kernel
theorem dJx4a65c_isEmpty_aae02_4 : decode cJx4a65c_isEmpty_aae02 4 = .ok (.ifCond .ne 7, 3) := by decide +kernel
theorem dJx4a65c_isEmpty_aae02_11 : decode cJx4a65c_isEmpty_aae02 11 = .ok (.iconst 0, 1) := by decide +kernel
theorem dJx4a65c_isEmpty_aae02_12 : decode cJx4a65c_isEmpty_aae02 12 = .ok (.ireturn, 1) := by decide +kernel
theorem dJx4a65c_isEmpty_aae02_7 : decode cJx4a65c_isEmpty_aae02 7 = .ok (.iconst 1, 1) := by decide +kernel
theorem dJx4a65c_isEmpty_aae02_8 : decode cJx4a65c_isEmpty_aae02 8 = .ok (.goto 4, 3) := by decide +kernel
def v_Jx4a65c_isEmpty_aae02 (a0 : Nat) (T : zT) (F : zF) (Post : Int32 → Prop) : Prop :=
  (T a0 = some (2, 3) ∧ ∃ x3 : Int32, F a0 2 = .int x3 ∧ ((¬ x3 = 0 → Post 0) ∧ (x3 = 0 → Post 1)))
set_option maxRecDepth 100000 in
set_option maxHeartbeats 4000000 in
theorem k_Jx4a65c_isEmpty_aae02 {l : Launch} {D : va_G} {cA : Nat → ClassId} {N0 zE : Nat} {a0 : Nat} {T : zT} {F : zF} {Post : Int32 → Prop} (h : v_Jx4a65c_isEmpty_aae02 a0 T F Post) : z_Mt l D cA N0 zE yJx4a65c_isEmpty_aae02 cJx4a65c_isEmpty_aae02 1 (some .boolean) ({ frames := 0, cells := 0, slots := 0, locals := 0 } : Room) [.ref a0] T F (fun v T' F' => ∃ r : Int32, v = some (.int r) ∧ T = T' ∧ F = F' ∧ Post r) := by
  unfold v_Jx4a65c_isEmpty_aae02 at h
  refine z_bodyT (by decide) (Nat.le_of_ble_eq_true rfl) ?_
  intro p e s m args below meth c C hnm
  have C : z_C p l s m args meth c RJx4a65c cJx4a65c_isEmpty_aae02 1 (some .boolean) D cA N0 zE := C
  show z_w p l e ({ frames := 0, cells := 0, slots := 0, locals := 0 } : Room) s m args below meth c D cA N0 1 0 0 (MQ below (z_Qc D cA N0 (fun v T' F' => ∃ r : Int32, v = some (.int r) ∧ T = T' ∧ F = F' ∧ Post r)) args s 0 0 (fun q => N0 ≤ q)) 0 [(0, .ref a0)] [] T F
  refine zr_aload_n C 0 dJx4a65c_isEmpty_aae02_0 rfl rfl ?_
  obtain ⟨hT1, x3, hv2, h⟩ := h
  refine zr_get C fl_Jx4a65c_48 hT1 hv2 dJx4a65c_isEmpty_aae02_1 ?_
  obtain ⟨h1, h2⟩ := h
  refine zr_if_ne C 11 dJx4a65c_isEmpty_aae02_4 (by decide) (fun hc => ?_) (fun hc => ?_)
  · have h := h1 hc
    clear h1 h2
    refine zr_iconst C 0 dJx4a65c_isEmpty_aae02_11 (by decide) ?_
    exact zr_zret C rfl (Or.inl rfl) ⟨_, rfl, rfl, rfl, h⟩ (Nat.le_of_ble_eq_true rfl) (Nat.le_of_ble_eq_true rfl) dJx4a65c_isEmpty_aae02_12
  · have h := h2 hc
    clear h1 h2
    refine zr_iconst C 1 dJx4a65c_isEmpty_aae02_7 (by decide) ?_
    refine zr_goto C 12 dJx4a65c_isEmpty_aae02_8 (by decide) ?_
    exact zr_zret C rfl (Or.inr rfl) ⟨_, rfl, rfl, rfl, h⟩ (Nat.le_of_ble_eq_true rfl) (Nat.le_of_ble_eq_true rfl) dJx4a65c_isEmpty_aae02_12
