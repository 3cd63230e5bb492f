theorem dX3_init_0 : decode cX3_init 0 = .ok (.aload_n 0, 1) := by decide +kernel
theorem dX3_init_1 : decode cX3_init 1 = .ok (.invokespecial 3, 3) := by decide +kernel
theorem dX3_init_4 : decode cX3_init 4 = .ok (.aload_n 0, 1) := by decide +kernel
theorem dX3_init_5 : decode cX3_init 5 = .ok (.new 9, 3) := by decide +kernel
theorem dX3_init_8 : decode cX3_init 8 = .ok (.dup, 1) := by decide +kernel
theorem dX3_init_12 : decode cX3_init 12 = .ok (.putfield 12, 3) := by decide +kernel
theorem dX3_init_15 : decode cX3_init 15 = .ok (.aload_n 0, 1) := by decide +kernel
theorem dX3_init_16 : decode cX3_init 16 = .ok (.new 9, 3) := by decide +kernel
theorem dX3_init_19 : decode cX3_init 19 = .ok (.dup, 1) := by decide +kernel
theorem dX3_init_23 : decode cX3_init 23 = .ok (.putfield 18, 3) := by decide +kernel
theorem dX3_init_26 : decode cX3_init 26 = .ok (.aload_n 0, 1) := by decide +kernel
theorem dX3_init_27 : decode cX3_init 27 = .ok (.iconst 0, 1) := by decide +kernel
theorem dX3_init_28 : decode cX3_init 28 = .ok (.putfield 21, 3) := by decide +kernel
theorem dX3_init_31 : decode cX3_init 31 = .ok (.return_, 1) := by decide +kernel
theorem dX3_init_20 : decode cX3_init 20 = .ok (.invokespecial 11, 3) := by decide +kernel
theorem dX3_init_9 : decode cX3_init 9 = .ok (.invokespecial 11, 3) := by decide +kernel
def v_X3_init (zE : Nat) (a0 : Nat) (T : zT) (F : zF) (Post : zT → zF → Prop) : Prop :=
  (∀ q1 : Nat, (∀ b, q1 ≤ b → T b = none) → (v_Jx4a65c_init_da8c8 zE q1 (zn T q1 (0, 3)) (zm F q1 (fun j => defaultValue (tyJx4a65c j))) (fun (F3 : zF) => (zn T q1 (0, 3) a0 = some (4, 3) ∧ (∀ q5 : Nat, (∀ b, q5 ≤ b → (zn T q1 (0, 3)) b = none) → (v_Jx4a65c_init_da8c8 zE q5 (zn (zn T q1 (0, 3)) q5 (0, 3)) (zm (zu F3 a0 0 (.ref q1)) q5 (fun j => defaultValue (tyJx4a65c j))) (fun (F7 : zF) => (zn (zn T q1 (0, 3)) q5 (0, 3) a0 = some (4, 3) ∧ Post (zn (zn T q1 (0, 3)) q5 (0, 3)) (zu (zu F7 a0 1 (.ref q5)) a0 2 (.int 0))))))))))
set_option maxRecDepth 100000 in
set_option maxHeartbeats 4000000 in
theorem k_X3_init {l : Launch} {D : va_G} {cA : Nat → ClassId} {N0 zE : Nat} {a0 : Nat} {T : zT} {F : zF} {Post : zT → zF → Prop} (h : v_X3_init zE a0 T F Post) : z_Mt l D cA N0 zE yX3_init cX3_init 1 none ({ frames := 4, cells := 2, slots := 6, locals := 80 } : Room) [.ref a0] T F (fun v T' F' => v = none ∧ Post T' F') := by
  unfold v_X3_init at h
  refine z_bodyT (by decide) (Nat.le_of_ble_eq_true rfl) ?_
  intro p e s m args below meth c C hnm
  have C : z_C p l s m args meth c RX3 cX3_init 1 none D cA N0 zE := C
  show z_w p l e ({ frames := 4, cells := 2, slots := 6, locals := 80 } : Room) s m args below meth c D cA N0 1 0 0 (MQ below (z_Qc D cA N0 (fun v T' F' => v = none ∧ Post T' F')) args s 2 6 (fun q => N0 ≤ q)) 0 [(0, .ref a0)] [] T F
  refine zr_aload_n C 0 dX3_init_0 rfl rfl ?_
  refine zr_objInit C zq_77 zq_44 zq_45 (by decide) (Nat.le_of_ble_eq_true rfl) dX3_init_1 ?_
  refine zr_aload_n C 0 dX3_init_4 rfl rfl ?_
  refine zr_new C nw_X3_9 (Nat.le_of_ble_eq_true rfl) (Nat.le_of_ble_eq_true rfl) dX3_init_5 (fun q1 hq2 => ?_)
  have h := h q1 hq2
  refine zr_dup C dX3_init_8 rfl ?_
  refine zr_callI (As := []) C (k_Jx4a65c_init_da8c8 h) ok_X3_11 zq_49 rfl rfl ⟨by decide, (Nat.le_of_ble_eq_true rfl)⟩ ⟨(Nat.le_of_ble_eq_true rfl), (Nat.le_of_ble_eq_true rfl)⟩ (Nat.le_of_ble_eq_true rfl) dX3_init_9 (fun v13 U14 G15 hq => ?_)
  clear h
  · obtain ⟨rfl, rfl, h⟩ := hq
    obtain ⟨hT4, h⟩ := h
    refine zr_putF C fl_X3_12 fd_X3_12 hT4 rfl rfl hnm dX3_init_12 ?_
    refine zr_aload_n C 0 dX3_init_15 rfl rfl ?_
    refine zr_new C nw_X3_9 (Nat.le_of_ble_eq_true rfl) (Nat.le_of_ble_eq_true rfl) dX3_init_16 (fun q5 hq6 => ?_)
    have h := h q5 hq6
    refine zr_dup C dX3_init_19 rfl ?_
    refine zr_callI (As := []) C (k_Jx4a65c_init_da8c8 h) ok_X3_11 zq_49 rfl rfl ⟨by decide, (Nat.le_of_ble_eq_true rfl)⟩ ⟨(Nat.le_of_ble_eq_true rfl), (Nat.le_of_ble_eq_true rfl)⟩ (Nat.le_of_ble_eq_true rfl) dX3_init_20 (fun v10 U11 G12 hq => ?_)
    clear h
    · obtain ⟨rfl, rfl, h⟩ := hq
      obtain ⟨hT8, h⟩ := h
      refine zr_put C fl_X3_18 hT8 rfl rfl dX3_init_23 ?_
      refine zr_aload_n C 0 dX3_init_26 rfl rfl ?_
      refine zr_iconst C 0 dX3_init_27 (by decide) ?_
      refine zr_put C fl_X3_21 hT8 rfl rfl dX3_init_28 ?_
      exact zr_vret C rfl ⟨rfl, h⟩ (Nat.le_of_ble_eq_true rfl) (Nat.le_of_ble_eq_true rfl) dX3_init_31
theorem dX3_openBookingsOf_0 : decode cX3_openBookingsOf 0 = .ok (.iconst 0, 1) := by decide +kernel
theorem dX3_openBookingsOf_1 : decode cX3_openBookingsOf 1 = .ok (.istore_n 2, 1) := by decide +kernel
theorem dX3_openBookingsOf_2 : decode cX3_openBookingsOf 2 = .ok (.iconst 0, 1) := by decide +kernel
theorem dX3_openBookingsOf_3 : decode cX3_openBookingsOf 3 = .ok (.istore_n 3, 1) := by decide +kernel
theorem dX3_openBookingsOf_4 : decode cX3_openBookingsOf 4 = .ok (.iload_n 3, 1) := by decide +kernel
theorem dX3_openBookingsOf_5 : decode cX3_openBookingsOf 5 = .ok (.aload_n 0, 1) := by decide +kernel
theorem dX3_openBookingsOf_6 : decode cX3_openBookingsOf 6 = .ok (.getfield 12, 3) := by decide +kernel
theorem dX3_openBookingsOf_12 : decode cX3_openBookingsOf 12 = .ok (.if_icmp .ge 42, 3) := by decide +kernel
theorem dX3_openBookingsOf_54 : decode cX3_openBookingsOf 54 = .ok (.iload_n 2, 1) := by decide +kernel
theorem dX3_openBookingsOf_55 : decode cX3_openBookingsOf 55 = .ok (.ireturn, 1) := by decide +kernel
theorem dX3_openBookingsOf_15 : decode cX3_openBookingsOf 15 = .ok (.aload_n 0, 1) := by decide +kernel
theorem dX3_openBookingsOf_16 : decode cX3_openBookingsOf 16 = .ok (.getfield 12, 3) := by decide +kernel
theorem dX3_openBookingsOf_19 : decode cX3_openBookingsOf 19 = .ok (.iload_n 3, 1) := by decide +kernel
theorem dX3_openBookingsOf_23 : decode cX3_openBookingsOf 23 = .ok (.checkcast 33, 3) := by decide +kernel
theorem dX3_openBookingsOf_26 : decode cX3_openBookingsOf 26 = .ok (.astore 4, 2) := by decide +kernel
theorem dX3_openBookingsOf_28 : decode cX3_openBookingsOf 28 = .ok (.aload 4, 2) := by decide +kernel
theorem dX3_openBookingsOf_33 : decode cX3_openBookingsOf 33 = .ok (.ifCond .eq 15, 3) := by decide +kernel
theorem dX3_openBookingsOf_48 : decode cX3_openBookingsOf 48 = .ok (.iinc 3 1, 3) := by decide +kernel
theorem dX3_openBookingsOf_51 : decode cX3_openBookingsOf 51 = .ok (.goto (-47), 3) := by decide +kernel
theorem dX3_openBookingsOf_36 : decode cX3_openBookingsOf 36 = .ok (.aload 4, 2) := by decide +kernel
theorem dX3_openBookingsOf_38 : decode cX3_openBookingsOf 38 = .ok (.getfield 113, 3) := by decide +kernel
theorem dX3_openBookingsOf_41 : decode cX3_openBookingsOf 41 = .ok (.aload_n 1, 1) := by decide +kernel
theorem dX3_openBookingsOf_42 : decode cX3_openBookingsOf 42 = .ok (.if_acmp .ne 6, 3) := by decide +kernel
theorem dX3_openBookingsOf_45 : decode cX3_openBookingsOf 45 = .ok (.iinc 2 1, 3) := by decide +kernel
theorem dX3_openBookingsOf_30 : decode cX3_openBookingsOf 30 = .ok (.invokevirtual 97, 3) := by decide +kernel
theorem dX3_openBookingsOf_20 : decode cX3_openBookingsOf 20 = .ok (.invokevirtual 29, 3) := by decide +kernel
theorem dX3_openBookingsOf_9 : decode cX3_openBookingsOf 9 = .ok (.invokevirtual 25, 3) := by decide +kernel
def v_X3_openBookingsOf (a0 : Nat) (a1 : Nat) (T : zT) (F : zF) (Post : Int32 → Prop) : Prop :=
  (∃ I1 : Nat → Int32 → Int32 → Prop, (∃ n3 : Nat, I1 n3 0 0) ∧ (∀ (n2 : Nat) (y4 : Int32) (y5 : Int32), I1 n2 y4 y5 → (T a0 = some (4, 3) ∧ ∃ x10 : Nat, F a0 0 = .ref x10 ∧ T x10 = some (0, 3) ∧ (v_Jx4a65c_size_8abf5 x10 T F (fun (r12 : Int32) => ((r12 ≤ y5 → Post y4) ∧ (¬ r12 ≤ y5 → (v_Jx4a65c_get_915e3 x10 y5 T F (fun (r13 : Nat) => (T r13 = some (2, 12) ∧ (v_X1_isOpen r13 T F (fun (r15 : Int32) => ((r15 = 0 → (∃ n16 : Nat, n16 < n2 ∧ I1 n16 y4 (y5 + 1))) ∧ (¬ r15 = 0 → (∃ x18 : Nat, F r13 0 = .ref x18 ∧ ((¬ (some x18 : Option Nat) = some a1 → (∃ n19 : Nat, n19 < n2 ∧ I1 n19 y4 (y5 + 1))) ∧ ((some x18 : Option Nat) = some a1 → (∃ n20 : Nat, n20 < n2 ∧ I1 n20 (y4 + 1) (y5 + 1)))))))))))))))))))
set_option maxRecDepth 100000 in
set_option maxHeartbeats 4000000 in
theorem k_X3_openBookingsOf {l : Launch} {D : va_G} {cA : Nat → ClassId} {N0 zE : Nat} {a0 : Nat} {a1 : Nat} {T : zT} {F : zF} {Post : Int32 → Prop} (h : v_X3_openBookingsOf a0 a1 T F Post) : z_Mt l D cA N0 zE yX3_openBookingsOf cX3_openBookingsOf 5 (some .int) ({ frames := 3, cells := 0, slots := 0, locals := 64 } : Room) [.ref a0, .ref a1] T F (fun v T' F' => ∃ r : Int32, v = some (.int r) ∧ T = T' ∧ F = F' ∧ Post r) := by
  unfold v_X3_openBookingsOf at h
  refine z_bodyT (by decide) (Nat.le_of_ble_eq_true rfl) ?_
  intro p e s m args below meth c C hnm
  have C : z_C p l s m args meth c RX3 cX3_openBookingsOf 5 (some .int) D cA N0 zE := C
  show z_w p l e ({ frames := 3, cells := 0, slots := 0, locals := 64 } : Room) s m args below meth c D cA N0 5 0 0 (MQ below (z_Qc D cA N0 (fun v T' F' => ∃ r : Int32, v = some (.int r) ∧ T = T' ∧ F = F' ∧ Post r)) args s 0 0 (fun q => N0 ≤ q)) 0 [(0, .ref a0), (1, .ref a1)] [] T F
  refine zr_iconst C 0 dX3_openBookingsOf_0 (by decide) ?_
  refine zr_istore_n C [(2, .int 0), (0, .ref a0), (1, .ref a1)] dX3_openBookingsOf_1 rfl (by decide) rfl ?_
  refine zr_iconst C 0 dX3_openBookingsOf_2 (by decide) ?_
  refine zr_istore_n C [(3, .int 0), (2, .int 0), (0, .ref a0), (1, .ref a1)] dX3_openBookingsOf_3 rfl (by decide) rfl ?_
  obtain ⟨I1, ⟨n3, h031⟩, hI30⟩ := h
  have ky32 : ∀ (n2 : Nat) (y4 : Int32) (y5 : Int32), I1 n2 y4 y5 → z_w p l e ({ frames := 3, cells := 0, slots := 0, locals := 64 } : Room) s m args below meth c D cA N0 5 0 0 (MQ below (z_Qc D cA N0 (fun v T' F' => ∃ r : Int32, v = some (.int r) ∧ T = T' ∧ F = F' ∧ Post r)) args s 0 0 (fun q => N0 ≤ q)) 4 [(0, .ref a0), (1, .ref a1), (2, .int y4), (3, .int y5)] [] T F := by
    intro n2
    induction n2 using Nat.strongRecOn with
    | _ n2 ih6 =>
      intro y4 y5 hin
      have h := hI30 n2 y4 y5 hin
      refine zr_iload_n C 3 dX3_openBookingsOf_4 rfl rfl ?_
      refine zr_aload_n C 0 dX3_openBookingsOf_5 rfl rfl ?_
      obtain ⟨hT8, x10, hv9, h⟩ := h
      refine zr_get C fl_X3_12 hT8 hv9 dX3_openBookingsOf_6 ?_
      obtain ⟨hT11, h⟩ := h
      refine zr_callV (As := []) (r := (RJx4a65c, TJx4a65c, 3)) C (k_Jx4a65c_size_8abf5 h) ok_X3_25 zq_112 zq_113 hT11 (by decide) rfl rfl ⟨by decide, (Nat.le_of_ble_eq_true rfl)⟩ ⟨(Nat.le_of_ble_eq_true rfl), (Nat.le_of_ble_eq_true rfl)⟩ (Nat.le_of_ble_eq_true rfl) dX3_openBookingsOf_9 (fun v27 U28 G29 hq => ?_)
      clear h
      · obtain ⟨r12, rfl, rfl, rfl, h⟩ := hq
        obtain ⟨h1, h2⟩ := h
        refine zr_icmp_ge C 54 dX3_openBookingsOf_12 (by decide) (fun hc => ?_) (fun hc => ?_)
        · have h := h1 hc
          clear h1 h2
          refine zr_iload_n C 2 dX3_openBookingsOf_54 rfl rfl ?_
          exact zr_iret C rfl ⟨_, rfl, rfl, rfl, h⟩ (Nat.le_of_ble_eq_true rfl) (Nat.le_of_ble_eq_true rfl) dX3_openBookingsOf_55
        · have h := h2 hc
          clear h1 h2
          refine zr_aload_n C 0 dX3_openBookingsOf_15 rfl rfl ?_
          refine zr_get C fl_X3_12 hT8 hv9 dX3_openBookingsOf_16 ?_
          refine zr_iload_n C 3 dX3_openBookingsOf_19 rfl rfl ?_
          refine zr_callV (As := [.int y5]) (r := (RJx4a65c, TJx4a65c, 3)) C (k_Jx4a65c_get_915e3 h) ok_X3_29 zq_290 zq_291 hT11 (by decide) rfl rfl ⟨by decide, (Nat.le_of_ble_eq_true rfl)⟩ ⟨(Nat.le_of_ble_eq_true rfl), (Nat.le_of_ble_eq_true rfl)⟩ (Nat.le_of_ble_eq_true rfl) dX3_openBookingsOf_20 (fun v24 U25 G26 hq => ?_)
          clear h
          · obtain ⟨r13, rfl, rfl, rfl, h⟩ := hq
            obtain ⟨hT14, h⟩ := h
            refine zr_castS (r := (RX1, TX1, 12)) C hT14 (by decide) rfl zq_402 dX3_openBookingsOf_23 ?_
            refine zr_astore C [(4, .ref r13), (0, .ref a0), (1, .ref a1), (2, .int y4), (3, .int y5)] dX3_openBookingsOf_26 (by decide) rfl ?_
            refine zr_aload C 0 dX3_openBookingsOf_28 rfl ?_
            refine zr_callV (As := []) (r := (RX1, TX1, 12)) C (k_X1_isOpen h) ok_X3_97 zq_458 zq_459 hT14 (by decide) rfl rfl ⟨by decide, (Nat.le_of_ble_eq_true rfl)⟩ ⟨(Nat.le_of_ble_eq_true rfl), (Nat.le_of_ble_eq_true rfl)⟩ (Nat.le_of_ble_eq_true rfl) dX3_openBookingsOf_30 (fun v21 U22 G23 hq => ?_)
            clear h
            · obtain ⟨r15, rfl, rfl, rfl, h⟩ := hq
              obtain ⟨h1, h2⟩ := h
              refine zr_if_eq C 48 dX3_openBookingsOf_33 (by decide) (fun hc => ?_) (fun hc => ?_)
              · have h := h1 hc
                clear h1 h2
                refine zr_iinc C [(3, .int (y5 + 1)), (4, .ref r13), (0, .ref a0), (1, .ref a1), (2, .int y4)] 4 dX3_openBookingsOf_48 rfl rfl (by decide) rfl ?_
                refine zr_goto C 4 dX3_openBookingsOf_51 (by decide) ?_
                obtain ⟨n16, hlt, h⟩ := h
                exact zr_sub [2, 3, 4, 0] rfl (ih6 n16 hlt y4 (y5 + 1) h)
              · have h := h2 hc
                clear h1 h2
                refine zr_aload C 0 dX3_openBookingsOf_36 rfl ?_
                obtain ⟨x18, hv17, h⟩ := h
                refine zr_get C fl_X3_113 hT14 hv17 dX3_openBookingsOf_38 ?_
                refine zr_aload_n C 2 dX3_openBookingsOf_41 rfl rfl ?_
                obtain ⟨h1, h2⟩ := h
                refine zr_acmp_ne (rx := some x18) (ry := some a1) C 48 dX3_openBookingsOf_42 (by decide) (fun hc => ?_) (fun hc => ?_)
                · have h := h1 hc
                  clear h1 h2
                  refine zr_iinc C [(3, .int (y5 + 1)), (4, .ref r13), (0, .ref a0), (1, .ref a1), (2, .int y4)] 4 dX3_openBookingsOf_48 rfl rfl (by decide) rfl ?_
                  refine zr_goto C 4 dX3_openBookingsOf_51 (by decide) ?_
                  obtain ⟨n19, hlt, h⟩ := h
                  exact zr_sub [2, 3, 4, 0] rfl (ih6 n19 hlt y4 (y5 + 1) h)
                · have h := h2 hc
                  clear h1 h2
                  refine zr_iinc C [(2, .int (y4 + 1)), (4, .ref r13), (0, .ref a0), (1, .ref a1), (3, .int y5)] 3 dX3_openBookingsOf_45 rfl rfl (by decide) rfl ?_
                  refine zr_iinc C [(3, .int (y5 + 1)), (2, .int (y4 + 1)), (4, .ref r13), (0, .ref a0), (1, .ref a1)] 4 dX3_openBookingsOf_48 rfl rfl (by decide) rfl ?_
                  refine zr_goto C 4 dX3_openBookingsOf_51 (by decide) ?_
                  obtain ⟨n20, hlt, h⟩ := h
                  exact zr_sub [3, 4, 1, 0] rfl (ih6 n20 hlt (y4 + 1) (y5 + 1) h)
  exact zr_sub [2, 3, 1, 0] rfl (ky32 n3 0 0 h031)
theorem dX3_isTaken_0 : decode cX3_isTaken 0 = .ok (.iconst 0, 1) := by decide +kernel
theorem dX3_isTaken_1 : decode cX3_isTaken 1 = .ok (.istore 6, 2) := by decide +kernel
theorem dX3_isTaken_3 : decode cX3_isTaken 3 = .ok (.iload 6, 2) := by decide +kernel
theorem dX3_isTaken_5 : decode cX3_isTaken 5 = .ok (.aload_n 0, 1) := by decide +kernel
theorem dX3_isTaken_6 : decode cX3_isTaken 6 = .ok (.getfield 12, 3) := by decide +kernel
theorem dX3_isTaken_12 : decode cX3_isTaken 12 = .ok (.if_icmp .ge 61, 3) := by decide +kernel
theorem dX3_isTaken_73 : decode cX3_isTaken 73 = .ok (.iconst 0, 1) := by decide +kernel
theorem dX3_isTaken_74 : decode cX3_isTaken 74 = .ok (.ireturn, 1) := by decide +kernel
theorem dX3_isTaken_15 : decode cX3_isTaken 15 = .ok (.aload_n 0, 1) := by decide +kernel
theorem dX3_isTaken_16 : decode cX3_isTaken 16 = .ok (.getfield 12, 3) := by decide +kernel
theorem dX3_isTaken_19 : decode cX3_isTaken 19 = .ok (.iload 6, 2) := by decide +kernel
theorem dX3_isTaken_24 : decode cX3_isTaken 24 = .ok (.checkcast 33, 3) := by decide +kernel
theorem dX3_isTaken_27 : decode cX3_isTaken 27 = .ok (.astore 7, 2) := by decide +kernel
theorem dX3_isTaken_29 : decode cX3_isTaken 29 = .ok (.aload 7, 2) := by decide +kernel
theorem dX3_isTaken_31 : decode cX3_isTaken 31 = .ok (.aload 5, 2) := by decide +kernel
theorem dX3_isTaken_33 : decode cX3_isTaken 33 = .ok (.if_acmp .eq 34, 3) := by decide +kernel
theorem dX3_isTaken_67 : decode cX3_isTaken 67 = .ok (.iinc 6 1, 3) := by decide +kernel
theorem dX3_isTaken_70 : decode cX3_isTaken 70 = .ok (.goto (-67), 3) := by decide +kernel
theorem dX3_isTaken_36 : decode cX3_isTaken 36 = .ok (.aload 7, 2) := by decide +kernel
theorem dX3_isTaken_41 : decode cX3_isTaken 41 = .ok (.ifCond .eq 26, 3) := by decide +kernel
theorem dX3_isTaken_44 : decode cX3_isTaken 44 = .ok (.aload 7, 2) := by decide +kernel
theorem dX3_isTaken_46 : decode cX3_isTaken 46 = .ok (.iload_n 1, 1) := by decide +kernel
theorem dX3_isTaken_47 : decode cX3_isTaken 47 = .ok (.iload_n 2, 1) := by decide +kernel
theorem dX3_isTaken_51 : decode cX3_isTaken 51 = .ok (.ifCond .eq 16, 3) := by decide +kernel
theorem dX3_isTaken_54 : decode cX3_isTaken 54 = .ok (.aload 7, 2) := by decide +kernel
theorem dX3_isTaken_56 : decode cX3_isTaken 56 = .ok (.iload_n 3, 1) := by decide +kernel
theorem dX3_isTaken_57 : decode cX3_isTaken 57 = .ok (.iload 4, 2) := by decide +kernel
theorem dX3_isTaken_62 : decode cX3_isTaken 62 = .ok (.ifCond .eq 5, 3) := by decide +kernel
theorem dX3_isTaken_65 : decode cX3_isTaken 65 = .ok (.iconst 1, 1) := by decide +kernel
theorem dX3_isTaken_66 : decode cX3_isTaken 66 = .ok (.ireturn, 1) := by decide +kernel
theorem dX3_isTaken_59 : decode cX3_isTaken 59 = .ok (.invokevirtual 104, 3) := by decide +kernel
theorem dX3_isTaken_48 : decode cX3_isTaken 48 = .ok (.invokevirtual 100, 3) := by decide +kernel
theorem dX3_isTaken_38 : decode cX3_isTaken 38 = .ok (.invokevirtual 97, 3) := by decide +kernel
theorem dX3_isTaken_21 : decode cX3_isTaken 21 = .ok (.invokevirtual 29, 3) := by decide +kernel
theorem dX3_isTaken_9 : decode cX3_isTaken 9 = .ok (.invokevirtual 25, 3) := by decide +kernel
def v_X3_isTaken (a0 : Nat) (p1 : Int32) (p2 : Int32) (p3 : Int32) (p4 : Int32) (o5 : Option Nat) (T : zT) (F : zF) (Post : Int32 → Prop) : Prop :=
  ((o5 = none → (∃ I1 : Nat → Int32 → Prop, (∃ n3 : Nat, I1 n3 0) ∧ (∀ (n2 : Nat) (y4 : Int32), I1 n2 y4 → (T a0 = some (4, 3) ∧ ∃ x9 : Nat, F a0 0 = .ref x9 ∧ T x9 = some (0, 3) ∧ (v_Jx4a65c_size_8abf5 x9 T F (fun (r11 : Int32) => ((r11 ≤ y4 → Post 0) ∧ (¬ r11 ≤ y4 → (v_Jx4a65c_get_915e3 x9 y4 T F (fun (r12 : Nat) => (T r12 = some (2, 12) ∧ (((some r12 : Option Nat) = none → (∃ n14 : Nat, n14 < n2 ∧ I1 n14 (y4 + 1))) ∧ (¬ (some r12 : Option Nat) = none → (v_X1_isOpen r12 T F (fun (r15 : Int32) => ((r15 = 0 → (∃ n16 : Nat, n16 < n2 ∧ I1 n16 (y4 + 1))) ∧ (¬ r15 = 0 → (v_X1_isIn r12 p1 p2 T F (fun (r17 : Int32) => ((r17 = 0 → (∃ n18 : Nat, n18 < n2 ∧ I1 n18 (y4 + 1))) ∧ (¬ r17 = 0 → (v_X1_hasDayIn r12 p3 p4 T F (fun (r19 : Int32) => ((r19 = 0 → (∃ n20 : Nat, n20 < n2 ∧ I1 n20 (y4 + 1))) ∧ (¬ r19 = 0 → Post 1))))))))))))))))))))))))) ∧ (∀ y39 : Nat, o5 = some y39 → (∃ I40 : Nat → Int32 → Prop, (∃ n42 : Nat, I40 n42 0) ∧ (∀ (n41 : Nat) (y43 : Int32), I40 n41 y43 → (T a0 = some (4, 3) ∧ ∃ x48 : Nat, F a0 0 = .ref x48 ∧ T x48 = some (0, 3) ∧ (v_Jx4a65c_size_8abf5 x48 T F (fun (r50 : Int32) => ((r50 ≤ y43 → Post 0) ∧ (¬ r50 ≤ y43 → (v_Jx4a65c_get_915e3 x48 y43 T F (fun (r51 : Nat) => (T r51 = some (2, 12) ∧ (((some r51 : Option Nat) = some y39 → (∃ n53 : Nat, n53 < n41 ∧ I40 n53 (y43 + 1))) ∧ (¬ (some r51 : Option Nat) = some y39 → (v_X1_isOpen r51 T F (fun (r54 : Int32) => ((r54 = 0 → (∃ n55 : Nat, n55 < n41 ∧ I40 n55 (y43 + 1))) ∧ (¬ r54 = 0 → (v_X1_isIn r51 p1 p2 T F (fun (r56 : Int32) => ((r56 = 0 → (∃ n57 : Nat, n57 < n41 ∧ I40 n57 (y43 + 1))) ∧ (¬ r56 = 0 → (v_X1_hasDayIn r51 p3 p4 T F (fun (r58 : Int32) => ((r58 = 0 → (∃ n59 : Nat, n59 < n41 ∧ I40 n59 (y43 + 1))) ∧ (¬ r58 = 0 → Post 1))))))))))))))))))))))))))
set_option maxRecDepth 100000 in
set_option maxHeartbeats 4000000 in
theorem k_X3_isTaken {l : Launch} {D : va_G} {cA : Nat → ClassId} {N0 zE : Nat} {a0 : Nat} {p1 : Int32} {p2 : Int32} {p3 : Int32} {p4 : Int32} {o5 : Option Nat} {T : zT} {F : zF} {Post : Int32 → Prop} (h : v_X3_isTaken a0 p1 p2 p3 p4 o5 T F Post) : z_Mt l D cA N0 zE yX3_isTaken cX3_isTaken 8 (some .boolean) ({ frames := 3, cells := 0, slots := 0, locals := 64 } : Room) [.ref a0, .int p1, .int p2, .int p3, .int p4, va_rf o5] T F (fun v T' F' => ∃ r : Int32, v = some (.int r) ∧ T = T' ∧ F = F' ∧ Post r) := by
  unfold v_X3_isTaken at h
  obtain ⟨ha, hb⟩ := h
  cases o5 with
  | none =>
    have h := ha rfl
    refine z_bodyT (by decide) (Nat.le_of_ble_eq_true rfl) ?_
    intro p e s m args below meth c C hnm
    have C : z_C p l s m args meth c RX3 cX3_isTaken 8 (some .boolean) D cA N0 zE := C
    show z_w p l e ({ frames := 3, cells := 0, slots := 0, locals := 64 } : Room) s m args below meth c D cA N0 8 0 0 (MQ below (z_Qc D cA N0 (fun v T' F' => ∃ r : Int32, v = some (.int r) ∧ T = T' ∧ F = F' ∧ Post r)) args s 0 0 (fun q => N0 ≤ q)) 0 [(0, .ref a0), (1, .int p1), (2, .int p2), (3, .int p3), (4, .int p4), (5, .null)] [] T F
    refine zr_iconst C 0 dX3_isTaken_0 (by decide) ?_
    refine zr_istore C [(6, .int 0), (0, .ref a0), (1, .int p1), (2, .int p2), (3, .int p3), (4, .int p4), (5, .null)] dX3_isTaken_1 (by decide) rfl ?_
    obtain ⟨I1, ⟨n3, h037⟩, hI36⟩ := h
    have ky38 : ∀ (n2 : Nat) (y4 : Int32), I1 n2 y4 → z_w p l e ({ frames := 3, cells := 0, slots := 0, locals := 64 } : Room) s m args below meth c D cA N0 8 0 0 (MQ below (z_Qc D cA N0 (fun v T' F' => ∃ r : Int32, v = some (.int r) ∧ T = T' ∧ F = F' ∧ Post r)) args s 0 0 (fun q => N0 ≤ q)) 3 [(0, .ref a0), (1, .int p1), (2, .int p2), (3, .int p3), (4, .int p4), (5, .null), (6, .int y4)] [] T F := by
      intro n2
      induction n2 using Nat.strongRecOn with
      | _ n2 ih5 =>
        intro y4 hin
        have h := hI36 n2 y4 hin
        refine zr_iload C 6 dX3_isTaken_3 rfl ?_
        refine zr_aload_n C 0 dX3_isTaken_5 rfl rfl ?_
        obtain ⟨hT7, x9, hv8, h⟩ := h
        refine zr_get C fl_X3_12 hT7 hv8 dX3_isTaken_6 ?_
        obtain ⟨hT10, h⟩ := h
        refine zr_callV (As := []) (r := (RJx4a65c, TJx4a65c, 3)) C (k_Jx4a65c_size_8abf5 h) ok_X3_25 zq_112 zq_113 hT10 (by decide) rfl rfl ⟨by decide, (Nat.le_of_ble_eq_true rfl)⟩ ⟨(Nat.le_of_ble_eq_true rfl), (Nat.le_of_ble_eq_true rfl)⟩ (Nat.le_of_ble_eq_true rfl) dX3_isTaken_9 (fun v33 U34 G35 hq => ?_)
        clear h
        · obtain ⟨r11, rfl, rfl, rfl, h⟩ := hq
          obtain ⟨h1, h2⟩ := h
          refine zr_icmp_ge C 73 dX3_isTaken_12 (by decide) (fun hc => ?_) (fun hc => ?_)
          · have h := h1 hc
            clear h1 h2
            refine zr_iconst C 0 dX3_isTaken_73 (by decide) ?_
            exact zr_zret C rfl (Or.inl rfl) ⟨_, rfl, rfl, rfl, h⟩ (Nat.le_of_ble_eq_true rfl) (Nat.le_of_ble_eq_true rfl) dX3_isTaken_74
          · have h := h2 hc
            clear h1 h2
            refine zr_aload_n C 0 dX3_isTaken_15 rfl rfl ?_
            refine zr_get C fl_X3_12 hT7 hv8 dX3_isTaken_16 ?_
            refine zr_iload C 6 dX3_isTaken_19 rfl ?_
            refine zr_callV (As := [.int y4]) (r := (RJx4a65c, TJx4a65c, 3)) C (k_Jx4a65c_get_915e3 h) ok_X3_29 zq_290 zq_291 hT10 (by decide) rfl rfl ⟨by decide, (Nat.le_of_ble_eq_true rfl)⟩ ⟨(Nat.le_of_ble_eq_true rfl), (Nat.le_of_ble_eq_true rfl)⟩ (Nat.le_of_ble_eq_true rfl) dX3_isTaken_21 (fun v30 U31 G32 hq => ?_)
            clear h
            · obtain ⟨r12, rfl, rfl, rfl, h⟩ := hq
              obtain ⟨hT13, h⟩ := h
              refine zr_castS (r := (RX1, TX1, 12)) C hT13 (by decide) rfl zq_402 dX3_isTaken_24 ?_
              refine zr_astore C [(7, .ref r12), (0, .ref a0), (1, .int p1), (2, .int p2), (3, .int p3), (4, .int p4), (5, .null), (6, .int y4)] dX3_isTaken_27 (by decide) rfl ?_
              refine zr_aload C 0 dX3_isTaken_29 rfl ?_
              refine zr_aloadN C 6 dX3_isTaken_31 rfl ?_
              obtain ⟨h1, h2⟩ := h
              refine zr_acmp_eq (rx := some r12) (ry := none) C 67 dX3_isTaken_33 (by decide) (fun hc => ?_) (fun hc => ?_)
              · have h := h1 hc
                clear h1 h2
                refine zr_iinc C [(6, .int (y4 + 1)), (7, .ref r12), (0, .ref a0), (1, .int p1), (2, .int p2), (3, .int p3), (4, .int p4), (5, .null)] 7 dX3_isTaken_67 rfl rfl (by decide) rfl ?_
                refine zr_goto C 3 dX3_isTaken_70 (by decide) ?_
                obtain ⟨n14, hlt, h⟩ := h
                exact zr_sub [2, 3, 4, 5, 6, 7, 0] rfl (ih5 n14 hlt (y4 + 1) h)
              · have h := h2 hc
                clear h1 h2
                refine zr_aload C 0 dX3_isTaken_36 rfl ?_
                refine zr_callV (As := []) (r := (RX1, TX1, 12)) C (k_X1_isOpen h) ok_X3_97 zq_458 zq_459 hT13 (by decide) rfl rfl ⟨by decide, (Nat.le_of_ble_eq_true rfl)⟩ ⟨(Nat.le_of_ble_eq_true rfl), (Nat.le_of_ble_eq_true rfl)⟩ (Nat.le_of_ble_eq_true rfl) dX3_isTaken_38 (fun v27 U28 G29 hq => ?_)
                clear h
                · obtain ⟨r15, rfl, rfl, rfl, h⟩ := hq
                  obtain ⟨h1, h2⟩ := h
                  refine zr_if_eq C 67 dX3_isTaken_41 (by decide) (fun hc => ?_) (fun hc => ?_)
                  · have h := h1 hc
                    clear h1 h2
                    refine zr_iinc C [(6, .int (y4 + 1)), (7, .ref r12), (0, .ref a0), (1, .int p1), (2, .int p2), (3, .int p3), (4, .int p4), (5, .null)] 7 dX3_isTaken_67 rfl rfl (by decide) rfl ?_
                    refine zr_goto C 3 dX3_isTaken_70 (by decide) ?_
                    obtain ⟨n16, hlt, h⟩ := h
                    exact zr_sub [2, 3, 4, 5, 6, 7, 0] rfl (ih5 n16 hlt (y4 + 1) h)
                  · have h := h2 hc
                    clear h1 h2
                    refine zr_aload C 0 dX3_isTaken_44 rfl ?_
                    refine zr_iload_n C 2 dX3_isTaken_46 rfl rfl ?_
                    refine zr_iload_n C 3 dX3_isTaken_47 rfl rfl ?_
                    refine zr_callV (As := [.int p1, .int p2]) (r := (RX1, TX1, 12)) C (k_X1_isIn h) ok_X3_100 zq_656 zq_657 hT13 (by decide) rfl rfl ⟨by decide, (Nat.le_of_ble_eq_true rfl)⟩ ⟨(Nat.le_of_ble_eq_true rfl), (Nat.le_of_ble_eq_true rfl)⟩ (Nat.le_of_ble_eq_true rfl) dX3_isTaken_48 (fun v24 U25 G26 hq => ?_)
                    clear h
                    · obtain ⟨r17, rfl, rfl, rfl, h⟩ := hq
                      obtain ⟨h1, h2⟩ := h
                      refine zr_if_eq C 67 dX3_isTaken_51 (by decide) (fun hc => ?_) (fun hc => ?_)
                      · have h := h1 hc
                        clear h1 h2
                        refine zr_iinc C [(6, .int (y4 + 1)), (7, .ref r12), (0, .ref a0), (1, .int p1), (2, .int p2), (3, .int p3), (4, .int p4), (5, .null)] 7 dX3_isTaken_67 rfl rfl (by decide) rfl ?_
                        refine zr_goto C 3 dX3_isTaken_70 (by decide) ?_
                        obtain ⟨n18, hlt, h⟩ := h
                        exact zr_sub [2, 3, 4, 5, 6, 7, 0] rfl (ih5 n18 hlt (y4 + 1) h)
                      · have h := h2 hc
                        clear h1 h2
                        refine zr_aload C 0 dX3_isTaken_54 rfl ?_
                        refine zr_iload_n C 4 dX3_isTaken_56 rfl rfl ?_
                        refine zr_iload C 5 dX3_isTaken_57 rfl ?_
                        refine zr_callV (As := [.int p3, .int p4]) (r := (RX1, TX1, 12)) C (k_X1_hasDayIn h) ok_X3_104 zq_660 zq_661 hT13 (by decide) rfl rfl ⟨by decide, (Nat.le_of_ble_eq_true rfl)⟩ ⟨(Nat.le_of_ble_eq_true rfl), (Nat.le_of_ble_eq_true rfl)⟩ (Nat.le_of_ble_eq_true rfl) dX3_isTaken_59 (fun v21 U22 G23 hq => ?_)
                        clear h
                        · obtain ⟨r19, rfl, rfl, rfl, h⟩ := hq
                          obtain ⟨h1, h2⟩ := h
                          refine zr_if_eq C 67 dX3_isTaken_62 (by decide) (fun hc => ?_) (fun hc => ?_)
                          · have h := h1 hc
                            clear h1 h2
                            refine zr_iinc C [(6, .int (y4 + 1)), (7, .ref r12), (0, .ref a0), (1, .int p1), (2, .int p2), (3, .int p3), (4, .int p4), (5, .null)] 7 dX3_isTaken_67 rfl rfl (by decide) rfl ?_
                            refine zr_goto C 3 dX3_isTaken_70 (by decide) ?_
                            obtain ⟨n20, hlt, h⟩ := h
                            exact zr_sub [2, 3, 4, 5, 6, 7, 0] rfl (ih5 n20 hlt (y4 + 1) h)
                          · have h := h2 hc
                            clear h1 h2
                            refine zr_iconst C 1 dX3_isTaken_65 (by decide) ?_
                            exact zr_zret C rfl (Or.inr rfl) ⟨_, rfl, rfl, rfl, h⟩ (Nat.le_of_ble_eq_true rfl) (Nat.le_of_ble_eq_true rfl) dX3_isTaken_66
    exact zr_sub [1, 2, 3, 4, 5, 6, 0] rfl (ky38 n3 0 h037)
  | some y39 =>
    have h := hb y39 rfl
    refine z_bodyT (by decide) (Nat.le_of_ble_eq_true rfl) ?_
    intro p e s m args below meth c C hnm
    have C : z_C p l s m args meth c RX3 cX3_isTaken 8 (some .boolean) D cA N0 zE := C
    show z_w p l e ({ frames := 3, cells := 0, slots := 0, locals := 64 } : Room) s m args below meth c D cA N0 8 0 0 (MQ below (z_Qc D cA N0 (fun v T' F' => ∃ r : Int32, v = some (.int r) ∧ T = T' ∧ F = F' ∧ Post r)) args s 0 0 (fun q => N0 ≤ q)) 0 [(0, .ref a0), (1, .int p1), (2, .int p2), (3, .int p3), (4, .int p4), (5, .ref y39)] [] T F
    refine zr_iconst C 0 dX3_isTaken_0 (by decide) ?_
    refine zr_istore C [(6, .int 0), (0, .ref a0), (1, .int p1), (2, .int p2), (3, .int p3), (4, .int p4), (5, .ref y39)] dX3_isTaken_1 (by decide) rfl ?_
    obtain ⟨I40, ⟨n42, h076⟩, hI75⟩ := h
    have ky77 : ∀ (n41 : Nat) (y43 : Int32), I40 n41 y43 → z_w p l e ({ frames := 3, cells := 0, slots := 0, locals := 64 } : Room) s m args below meth c D cA N0 8 0 0 (MQ below (z_Qc D cA N0 (fun v T' F' => ∃ r : Int32, v = some (.int r) ∧ T = T' ∧ F = F' ∧ Post r)) args s 0 0 (fun q => N0 ≤ q)) 3 [(0, .ref a0), (1, .int p1), (2, .int p2), (3, .int p3), (4, .int p4), (5, .ref y39), (6, .int y43)] [] T F := by
      intro n41
      induction n41 using Nat.strongRecOn with
      | _ n41 ih44 =>
        intro y43 hin
        have h := hI75 n41 y43 hin
        refine zr_iload C 6 dX3_isTaken_3 rfl ?_
        refine zr_aload_n C 0 dX3_isTaken_5 rfl rfl ?_
        obtain ⟨hT46, x48, hv47, h⟩ := h
        refine zr_get C fl_X3_12 hT46 hv47 dX3_isTaken_6 ?_
        obtain ⟨hT49, h⟩ := h
        refine zr_callV (As := []) (r := (RJx4a65c, TJx4a65c, 3)) C (k_Jx4a65c_size_8abf5 h) ok_X3_25 zq_112 zq_113 hT49 (by decide) rfl rfl ⟨by decide, (Nat.le_of_ble_eq_true rfl)⟩ ⟨(Nat.le_of_ble_eq_true rfl), (Nat.le_of_ble_eq_true rfl)⟩ (Nat.le_of_ble_eq_true rfl) dX3_isTaken_9 (fun v72 U73 G74 hq => ?_)
        clear h
        · obtain ⟨r50, rfl, rfl, rfl, h⟩ := hq
          obtain ⟨h1, h2⟩ := h
          refine zr_icmp_ge C 73 dX3_isTaken_12 (by decide) (fun hc => ?_) (fun hc => ?_)
          · have h := h1 hc
            clear h1 h2
            refine zr_iconst C 0 dX3_isTaken_73 (by decide) ?_
            exact zr_zret C rfl (Or.inl rfl) ⟨_, rfl, rfl, rfl, h⟩ (Nat.le_of_ble_eq_true rfl) (Nat.le_of_ble_eq_true rfl) dX3_isTaken_74
          · have h := h2 hc
            clear h1 h2
            refine zr_aload_n C 0 dX3_isTaken_15 rfl rfl ?_
            refine zr_get C fl_X3_12 hT46 hv47 dX3_isTaken_16 ?_
            refine zr_iload C 6 dX3_isTaken_19 rfl ?_
            refine zr_callV (As := [.int y43]) (r := (RJx4a65c, TJx4a65c, 3)) C (k_Jx4a65c_get_915e3 h) ok_X3_29 zq_290 zq_291 hT49 (by decide) rfl rfl ⟨by decide, (Nat.le_of_ble_eq_true rfl)⟩ ⟨(Nat.le_of_ble_eq_true rfl), (Nat.le_of_ble_eq_true rfl)⟩ (Nat.le_of_ble_eq_true rfl) dX3_isTaken_21 (fun v69 U70 G71 hq => ?_)
            clear h
            · obtain ⟨r51, rfl, rfl, rfl, h⟩ := hq
              obtain ⟨hT52, h⟩ := h
              refine zr_castS (r := (RX1, TX1, 12)) C hT52 (by decide) rfl zq_402 dX3_isTaken_24 ?_
              refine zr_astore C [(7, .ref r51), (0, .ref a0), (1, .int p1), (2, .int p2), (3, .int p3), (4, .int p4), (5, .ref y39), (6, .int y43)] dX3_isTaken_27 (by decide) rfl ?_
              refine zr_aload C 0 dX3_isTaken_29 rfl ?_
              refine zr_aload C 6 dX3_isTaken_31 rfl ?_
              obtain ⟨h1, h2⟩ := h
              refine zr_acmp_eq (rx := some r51) (ry := some y39) C 67 dX3_isTaken_33 (by decide) (fun hc => ?_) (fun hc => ?_)
              · have h := h1 hc
                clear h1 h2
                refine zr_iinc C [(6, .int (y43 + 1)), (7, .ref r51), (0, .ref a0), (1, .int p1), (2, .int p2), (3, .int p3), (4, .int p4), (5, .ref y39)] 7 dX3_isTaken_67 rfl rfl (by decide) rfl ?_
                refine zr_goto C 3 dX3_isTaken_70 (by decide) ?_
                obtain ⟨n53, hlt, h⟩ := h
                exact zr_sub [2, 3, 4, 5, 6, 7, 0] rfl (ih44 n53 hlt (y43 + 1) h)
              · have h := h2 hc
                clear h1 h2
                refine zr_aload C 0 dX3_isTaken_36 rfl ?_
                refine zr_callV (As := []) (r := (RX1, TX1, 12)) C (k_X1_isOpen h) ok_X3_97 zq_458 zq_459 hT52 (by decide) rfl rfl ⟨by decide, (Nat.le_of_ble_eq_true rfl)⟩ ⟨(Nat.le_of_ble_eq_true rfl), (Nat.le_of_ble_eq_true rfl)⟩ (Nat.le_of_ble_eq_true rfl) dX3_isTaken_38 (fun v66 U67 G68 hq => ?_)
                clear h
                · obtain ⟨r54, rfl, rfl, rfl, h⟩ := hq
                  obtain ⟨h1, h2⟩ := h
                  refine zr_if_eq C 67 dX3_isTaken_41 (by decide) (fun hc => ?_) (fun hc => ?_)
                  · have h := h1 hc
                    clear h1 h2
                    refine zr_iinc C [(6, .int (y43 + 1)), (7, .ref r51), (0, .ref a0), (1, .int p1), (2, .int p2), (3, .int p3), (4, .int p4), (5, .ref y39)] 7 dX3_isTaken_67 rfl rfl (by decide) rfl ?_
                    refine zr_goto C 3 dX3_isTaken_70 (by decide) ?_
                    obtain ⟨n55, hlt, h⟩ := h
                    exact zr_sub [2, 3, 4, 5, 6, 7, 0] rfl (ih44 n55 hlt (y43 + 1) h)
                  · have h := h2 hc
                    clear h1 h2
                    refine zr_aload C 0 dX3_isTaken_44 rfl ?_
                    refine zr_iload_n C 2 dX3_isTaken_46 rfl rfl ?_
                    refine zr_iload_n C 3 dX3_isTaken_47 rfl rfl ?_
                    refine zr_callV (As := [.int p1, .int p2]) (r := (RX1, TX1, 12)) C (k_X1_isIn h) ok_X3_100 zq_656 zq_657 hT52 (by decide) rfl rfl ⟨by decide, (Nat.le_of_ble_eq_true rfl)⟩ ⟨(Nat.le_of_ble_eq_true rfl), (Nat.le_of_ble_eq_true rfl)⟩ (Nat.le_of_ble_eq_true rfl) dX3_isTaken_48 (fun v63 U64 G65 hq => ?_)
                    clear h
                    · obtain ⟨r56, rfl, rfl, rfl, h⟩ := hq
                      obtain ⟨h1, h2⟩ := h
                      refine zr_if_eq C 67 dX3_isTaken_51 (by decide) (fun hc => ?_) (fun hc => ?_)
                      · have h := h1 hc
                        clear h1 h2
                        refine zr_iinc C [(6, .int (y43 + 1)), (7, .ref r51), (0, .ref a0), (1, .int p1), (2, .int p2), (3, .int p3), (4, .int p4), (5, .ref y39)] 7 dX3_isTaken_67 rfl rfl (by decide) rfl ?_
                        refine zr_goto C 3 dX3_isTaken_70 (by decide) ?_
                        obtain ⟨n57, hlt, h⟩ := h
                        exact zr_sub [2, 3, 4, 5, 6, 7, 0] rfl (ih44 n57 hlt (y43 + 1) h)
                      · have h := h2 hc
                        clear h1 h2
                        refine zr_aload C 0 dX3_isTaken_54 rfl ?_
                        refine zr_iload_n C 4 dX3_isTaken_56 rfl rfl ?_
                        refine zr_iload C 5 dX3_isTaken_57 rfl ?_
                        refine zr_callV (As := [.int p3, .int p4]) (r := (RX1, TX1, 12)) C (k_X1_hasDayIn h) ok_X3_104 zq_660 zq_661 hT52 (by decide) rfl rfl ⟨by decide, (Nat.le_of_ble_eq_true rfl)⟩ ⟨(Nat.le_of_ble_eq_true rfl), (Nat.le_of_ble_eq_true rfl)⟩ (Nat.le_of_ble_eq_true rfl) dX3_isTaken_59 (fun v60 U61 G62 hq => ?_)
                        clear h
                        · obtain ⟨r58, rfl, rfl, rfl, h⟩ := hq
                          obtain ⟨h1, h2⟩ := h
                          refine zr_if_eq C 67 dX3_isTaken_62 (by decide) (fun hc => ?_) (fun hc => ?_)
                          · have h := h1 hc
                            clear h1 h2
                            refine zr_iinc C [(6, .int (y43 + 1)), (7, .ref r51), (0, .ref a0), (1, .int p1), (2, .int p2), (3, .int p3), (4, .int p4), (5, .ref y39)] 7 dX3_isTaken_67 rfl rfl (by decide) rfl ?_
                            refine zr_goto C 3 dX3_isTaken_70 (by decide) ?_
                            obtain ⟨n59, hlt, h⟩ := h
                            exact zr_sub [2, 3, 4, 5, 6, 7, 0] rfl (ih44 n59 hlt (y43 + 1) h)
                          · have h := h2 hc
                            clear h1 h2
                            refine zr_iconst C 1 dX3_isTaken_65 (by decide) ?_
                            exact zr_zret C rfl (Or.inr rfl) ⟨_, rfl, rfl, rfl, h⟩ (Nat.le_of_ble_eq_true rfl) (Nat.le_of_ble_eq_true rfl) dX3_isTaken_66
    exact zr_sub [1, 2, 3, 4, 5, 6, 0] rfl (ky77 n42 0 h076)
theorem dX3_priceToday_0 : decode cX3_priceToday 0 = .ok (.iload_n 3, 1) := by decide +kernel
theorem dX3_priceToday_1 : decode cX3_priceToday 1 = .ok (.iload_n 2, 1) := by decide +kernel
theorem dX3_priceToday_2 : decode cX3_priceToday 2 = .ok (.iload_n 1, 1) := by decide +kernel
theorem dX3_priceToday_3 : decode cX3_priceToday 3 = .ok (.isub, 1) := by decide +kernel
theorem dX3_priceToday_4 : decode cX3_priceToday 4 = .ok (.iconst 1, 1) := by decide +kernel
theorem dX3_priceToday_5 : decode cX3_priceToday 5 = .ok (.iadd, 1) := by decide +kernel
theorem dX3_priceToday_6 : decode cX3_priceToday 6 = .ok (.imul, 1) := by decide +kernel
theorem dX3_priceToday_7 : decode cX3_priceToday 7 = .ok (.istore 4, 2) := by decide +kernel
theorem dX3_priceToday_9 : decode cX3_priceToday 9 = .ok (.iconst 0, 1) := by decide +kernel
theorem dX3_priceToday_10 : decode cX3_priceToday 10 = .ok (.aload_n 0, 1) := by decide +kernel
theorem dX3_priceToday_11 : decode cX3_priceToday 11 = .ok (.getfield 21, 3) := by decide +kernel
theorem dX3_priceToday_14 : decode cX3_priceToday 14 = .ok (.iload_n 1, 1) := by decide +kernel
theorem dX3_priceToday_15 : decode cX3_priceToday 15 = .ok (.bipush 10, 2) := by decide +kernel
theorem dX3_priceToday_17 : decode cX3_priceToday 17 = .ok (.isub, 1) := by decide +kernel
theorem dX3_priceToday_18 : decode cX3_priceToday 18 = .ok (.isub, 1) := by decide +kernel
theorem dX3_priceToday_19 : decode cX3_priceToday 19 = .ok (.invokestatic 131, 3) := by decide +kernel
theorem dX3_priceToday_22 : decode cX3_priceToday 22 = .ok (.istore 5, 2) := by decide +kernel
theorem dX3_priceToday_24 : decode cX3_priceToday 24 = .ok (.iload 4, 2) := by decide +kernel
theorem dX3_priceToday_26 : decode cX3_priceToday 26 = .ok (.iload 5, 2) := by decide +kernel
theorem dX3_priceToday_28 : decode cX3_priceToday 28 = .ok (.iload 4, 2) := by decide +kernel
theorem dX3_priceToday_30 : decode cX3_priceToday 30 = .ok (.bipush 10, 2) := by decide +kernel
theorem dX3_priceToday_32 : decode cX3_priceToday 32 = .ok (.idiv, 1) := by decide +kernel
theorem dX3_priceToday_33 : decode cX3_priceToday 33 = .ok (.imul, 1) := by decide +kernel
theorem dX3_priceToday_34 : decode cX3_priceToday 34 = .ok (.iadd, 1) := by decide +kernel
theorem dX3_priceToday_35 : decode cX3_priceToday 35 = .ok (.ireturn, 1) := by decide +kernel
def v_X3_priceToday (a0 : Nat) (p1 : Int32) (p2 : Int32) (p3 : Int32) (T : zT) (F : zF) (Post : Int32 → Prop) : Prop :=
  (T a0 = some (4, 3) ∧ ∃ x3 : Int32, F a0 2 = .int x3 ∧ (∀ (y4 : Int32), y4 = (if (0 : Int32) < (x3 - (p1 - 10)) then (x3 - (p1 - 10)) else (0 : Int32)) → Post ((p3 * ((p2 - p1) + 1)) + (y4 * ((p3 * ((p2 - p1) + 1)) / 10)))))
set_option maxRecDepth 100000 in
set_option maxHeartbeats 4000000 in
theorem k_X3_priceToday {l : Launch} {D : va_G} {cA : Nat → ClassId} {N0 zE : Nat} {a0 : Nat} {p1 : Int32} {p2 : Int32} {p3 : Int32} {T : zT} {F : zF} {Post : Int32 → Prop} (h : v_X3_priceToday a0 p1 p2 p3 T F Post) : z_Mt l D cA N0 zE yX3_priceToday cX3_priceToday 6 (some .int) ({ frames := 1, cells := 0, slots := 0, locals := 21 } : Room) [.ref a0, .int p1, .int p2, .int p3] T F (fun v T' F' => ∃ r : Int32, v = some (.int r) ∧ T = T' ∧ F = F' ∧ Post r) := by
  unfold v_X3_priceToday at h
  refine z_bodyT (by decide) (Nat.le_of_ble_eq_true rfl) ?_
  intro p e s m args below meth c C hnm
  have C : z_C p l s m args meth c RX3 cX3_priceToday 6 (some .int) D cA N0 zE := C
  show z_w p l e ({ frames := 1, cells := 0, slots := 0, locals := 21 } : Room) s m args below meth c D cA N0 6 0 0 (MQ below (z_Qc D cA N0 (fun v T' F' => ∃ r : Int32, v = some (.int r) ∧ T = T' ∧ F = F' ∧ Post r)) args s 0 0 (fun q => N0 ≤ q)) 0 [(0, .ref a0), (1, .int p1), (2, .int p2), (3, .int p3)] [] T F
  refine zr_iload_n C 3 dX3_priceToday_0 rfl rfl ?_
  refine zr_iload_n C 2 dX3_priceToday_1 rfl rfl ?_
  refine zr_iload_n C 1 dX3_priceToday_2 rfl rfl ?_
  refine zr_isub C dX3_priceToday_3 ?_
  refine zr_iconst C 1 dX3_priceToday_4 (by decide) ?_
  refine zr_iadd C dX3_priceToday_5 ?_
  refine zr_imul C dX3_priceToday_6 ?_
  refine zr_istore C [(4, .int (p3 * ((p2 - p1) + 1))), (0, .ref a0), (1, .int p1), (2, .int p2), (3, .int p3)] dX3_priceToday_7 (by decide) rfl ?_
  refine zr_iconst C 0 dX3_priceToday_9 (by decide) ?_
  refine zr_aload_n C 1 dX3_priceToday_10 rfl rfl ?_
  obtain ⟨hT1, x3, hv2, h⟩ := h
  refine zr_get C fl_X3_21 hT1 hv2 dX3_priceToday_11 ?_
  refine zr_iload_n C 2 dX3_priceToday_14 rfl rfl ?_
  refine zr_bipush C 10 dX3_priceToday_15 (by decide) ?_
  refine zr_isub C dX3_priceToday_17 ?_
  refine zr_isub C dX3_priceToday_18 ?_
  refine zr_max C zq_729 zq_229 zq_29 zq_230 (by decide) (Nat.le_of_ble_eq_true rfl) (Nat.le_of_ble_eq_true rfl) (Nat.le_of_ble_eq_true rfl) dX3_priceToday_19 ?_
  refine zr_topi (fun y4 hy5 => ?_)
  have h := h y4 hy5
  refine zr_istore C [(5, .int y4), (4, .int (p3 * ((p2 - p1) + 1))), (0, .ref a0), (1, .int p1), (2, .int p2), (3, .int p3)] dX3_priceToday_22 (by decide) rfl ?_
  refine zr_iload C 1 dX3_priceToday_24 rfl ?_
  refine zr_iload C 0 dX3_priceToday_26 rfl ?_
  refine zr_iload C 1 dX3_priceToday_28 rfl ?_
  refine zr_bipush C 10 dX3_priceToday_30 (by decide) ?_
  refine zr_idiv C dX3_priceToday_32 (by decide) ?_
  refine zr_imul C dX3_priceToday_33 ?_
  refine zr_iadd C dX3_priceToday_34 ?_
  exact zr_iret C rfl ⟨_, rfl, rfl, rfl, h⟩ (Nat.le_of_ble_eq_true rfl) (Nat.le_of_ble_eq_true rfl) dX3_priceToday_35
theorem dX3_isUsedIn_0 : decode cX3_isUsedIn 0 = .ok (.iconst 0, 1) := by decide +kernel
theorem dX3_isUsedIn_1 : decode cX3_isUsedIn 1 = .ok (.istore_n 3, 1) := by decide +kernel
theorem dX3_isUsedIn_2 : decode cX3_isUsedIn 2 = .ok (.iload_n 3, 1) := by decide +kernel
theorem dX3_isUsedIn_3 : decode cX3_isUsedIn 3 = .ok (.aload_n 0, 1) := by decide +kernel
theorem dX3_isUsedIn_4 : decode cX3_isUsedIn 4 = .ok (.getfield 12, 3) := by decide +kernel
theorem dX3_isUsedIn_10 : decode cX3_isUsedIn 10 = .ok (.if_icmp .ge 50, 3) := by decide +kernel
theorem dX3_isUsedIn_60 : decode cX3_isUsedIn 60 = .ok (.iconst 0, 1) := by decide +kernel
theorem dX3_isUsedIn_61 : decode cX3_isUsedIn 61 = .ok (.ireturn, 1) := by decide +kernel
theorem dX3_isUsedIn_13 : decode cX3_isUsedIn 13 = .ok (.aload_n 0, 1) := by decide +kernel
theorem dX3_isUsedIn_14 : decode cX3_isUsedIn 14 = .ok (.getfield 12, 3) := by decide +kernel
theorem dX3_isUsedIn_17 : decode cX3_isUsedIn 17 = .ok (.iload_n 3, 1) := by decide +kernel
theorem dX3_isUsedIn_21 : decode cX3_isUsedIn 21 = .ok (.checkcast 33, 3) := by decide +kernel
theorem dX3_isUsedIn_24 : decode cX3_isUsedIn 24 = .ok (.astore 4, 2) := by decide +kernel
theorem dX3_isUsedIn_26 : decode cX3_isUsedIn 26 = .ok (.aload 4, 2) := by decide +kernel
theorem dX3_isUsedIn_31 : decode cX3_isUsedIn 31 = .ok (.ifCond .eq 23, 3) := by decide +kernel
theorem dX3_isUsedIn_54 : decode cX3_isUsedIn 54 = .ok (.iinc 3 1, 3) := by decide +kernel
theorem dX3_isUsedIn_57 : decode cX3_isUsedIn 57 = .ok (.goto (-55), 3) := by decide +kernel
theorem dX3_isUsedIn_34 : decode cX3_isUsedIn 34 = .ok (.aload 4, 2) := by decide +kernel
theorem dX3_isUsedIn_36 : decode cX3_isUsedIn 36 = .ok (.getfield 75, 3) := by decide +kernel
theorem dX3_isUsedIn_39 : decode cX3_isUsedIn 39 = .ok (.iload_n 1, 1) := by decide +kernel
theorem dX3_isUsedIn_40 : decode cX3_isUsedIn 40 = .ok (.if_icmp .ne 14, 3) := by decide +kernel
theorem dX3_isUsedIn_43 : decode cX3_isUsedIn 43 = .ok (.aload 4, 2) := by decide +kernel
theorem dX3_isUsedIn_45 : decode cX3_isUsedIn 45 = .ok (.getfield 113, 3) := by decide +kernel
theorem dX3_isUsedIn_48 : decode cX3_isUsedIn 48 = .ok (.aload_n 2, 1) := by decide +kernel
theorem dX3_isUsedIn_49 : decode cX3_isUsedIn 49 = .ok (.if_acmp .ne 5, 3) := by decide +kernel
theorem dX3_isUsedIn_52 : decode cX3_isUsedIn 52 = .ok (.iconst 1, 1) := by decide +kernel
theorem dX3_isUsedIn_53 : decode cX3_isUsedIn 53 = .ok (.ireturn, 1) := by decide +kernel
theorem dX3_isUsedIn_28 : decode cX3_isUsedIn 28 = .ok (.invokevirtual 97, 3) := by decide +kernel
theorem dX3_isUsedIn_18 : decode cX3_isUsedIn 18 = .ok (.invokevirtual 29, 3) := by decide +kernel
theorem dX3_isUsedIn_7 : decode cX3_isUsedIn 7 = .ok (.invokevirtual 25, 3) := by decide +kernel
def v_X3_isUsedIn (a0 : Nat) (p1 : Int32) (a2 : Nat) (T : zT) (F : zF) (Post : Int32 → Prop) : Prop :=
  (∃ I1 : Nat → Int32 → Prop, (∃ n3 : Nat, I1 n3 0) ∧ (∀ (n2 : Nat) (y4 : Int32), I1 n2 y4 → (T a0 = some (4, 3) ∧ ∃ x9 : Nat, F a0 0 = .ref x9 ∧ T x9 = some (0, 3) ∧ (v_Jx4a65c_size_8abf5 x9 T F (fun (r11 : Int32) => ((r11 ≤ y4 → Post 0) ∧ (¬ r11 ≤ y4 → (v_Jx4a65c_get_915e3 x9 y4 T F (fun (r12 : Nat) => (T r12 = some (2, 12) ∧ (v_X1_isOpen r12 T F (fun (r14 : Int32) => ((r14 = 0 → (∃ n15 : Nat, n15 < n2 ∧ I1 n15 (y4 + 1))) ∧ (¬ r14 = 0 → (∃ x17 : Int32, F r12 1 = .int x17 ∧ ((¬ x17 = p1 → (∃ n18 : Nat, n18 < n2 ∧ I1 n18 (y4 + 1))) ∧ (x17 = p1 → (∃ x20 : Nat, F r12 0 = .ref x20 ∧ ((¬ (some x20 : Option Nat) = some a2 → (∃ n21 : Nat, n21 < n2 ∧ I1 n21 (y4 + 1))) ∧ ((some x20 : Option Nat) = some a2 → Post 1))))))))))))))))))))
set_option maxRecDepth 100000 in
set_option maxHeartbeats 4000000 in
theorem k_X3_isUsedIn {l : Launch} {D : va_G} {cA : Nat → ClassId} {N0 zE : Nat} {a0 : Nat} {p1 : Int32} {a2 : Nat} {T : zT} {F : zF} {Post : Int32 → Prop} (h : v_X3_isUsedIn a0 p1 a2 T F Post) : z_Mt l D cA N0 zE yX3_isUsedIn cX3_isUsedIn 5 (some .boolean) ({ frames := 3, cells := 0, slots := 0, locals := 64 } : Room) [.ref a0, .int p1, .ref a2] T F (fun v T' F' => ∃ r : Int32, v = some (.int r) ∧ T = T' ∧ F = F' ∧ Post r) := by
  unfold v_X3_isUsedIn at h
  refine z_bodyT (by decide) (Nat.le_of_ble_eq_true rfl) ?_
  intro p e s m args below meth c C hnm
  have C : z_C p l s m args meth c RX3 cX3_isUsedIn 5 (some .boolean) D cA N0 zE := C
  show z_w p l e ({ frames := 3, cells := 0, slots := 0, locals := 64 } : Room) s m args below meth c D cA N0 5 0 0 (MQ below (z_Qc D cA N0 (fun v T' F' => ∃ r : Int32, v = some (.int r) ∧ T = T' ∧ F = F' ∧ Post r)) args s 0 0 (fun q => N0 ≤ q)) 0 [(0, .ref a0), (1, .int p1), (2, .ref a2)] [] T F
  refine zr_iconst C 0 dX3_isUsedIn_0 (by decide) ?_
  refine zr_istore_n C [(3, .int 0), (0, .ref a0), (1, .int p1), (2, .ref a2)] dX3_isUsedIn_1 rfl (by decide) rfl ?_
  obtain ⟨I1, ⟨n3, h032⟩, hI31⟩ := h
  have ky33 : ∀ (n2 : Nat) (y4 : Int32), I1 n2 y4 → z_w p l e ({ frames := 3, cells := 0, slots := 0, locals := 64 } : Room) s m args below meth c D cA N0 5 0 0 (MQ below (z_Qc D cA N0 (fun v T' F' => ∃ r : Int32, v = some (.int r) ∧ T = T' ∧ F = F' ∧ Post r)) args s 0 0 (fun q => N0 ≤ q)) 2 [(0, .ref a0), (1, .int p1), (2, .ref a2), (3, .int y4)] [] T F := by
    intro n2
    induction n2 using Nat.strongRecOn with
    | _ n2 ih5 =>
      intro y4 hin
      have h := hI31 n2 y4 hin
      refine zr_iload_n C 3 dX3_isUsedIn_2 rfl rfl ?_
      refine zr_aload_n C 0 dX3_isUsedIn_3 rfl rfl ?_
      obtain ⟨hT7, x9, hv8, h⟩ := h
      refine zr_get C fl_X3_12 hT7 hv8 dX3_isUsedIn_4 ?_
      obtain ⟨hT10, h⟩ := h
      refine zr_callV (As := []) (r := (RJx4a65c, TJx4a65c, 3)) C (k_Jx4a65c_size_8abf5 h) ok_X3_25 zq_112 zq_113 hT10 (by decide) rfl rfl ⟨by decide, (Nat.le_of_ble_eq_true rfl)⟩ ⟨(Nat.le_of_ble_eq_true rfl), (Nat.le_of_ble_eq_true rfl)⟩ (Nat.le_of_ble_eq_true rfl) dX3_isUsedIn_7 (fun v28 U29 G30 hq => ?_)
      clear h
      · obtain ⟨r11, rfl, rfl, rfl, h⟩ := hq
        obtain ⟨h1, h2⟩ := h
        refine zr_icmp_ge C 60 dX3_isUsedIn_10 (by decide) (fun hc => ?_) (fun hc => ?_)
        · have h := h1 hc
          clear h1 h2
          refine zr_iconst C 0 dX3_isUsedIn_60 (by decide) ?_
          exact zr_zret C rfl (Or.inl rfl) ⟨_, rfl, rfl, rfl, h⟩ (Nat.le_of_ble_eq_true rfl) (Nat.le_of_ble_eq_true rfl) dX3_isUsedIn_61
        · have h := h2 hc
          clear h1 h2
          refine zr_aload_n C 0 dX3_isUsedIn_13 rfl rfl ?_
          refine zr_get C fl_X3_12 hT7 hv8 dX3_isUsedIn_14 ?_
          refine zr_iload_n C 3 dX3_isUsedIn_17 rfl rfl ?_
          refine zr_callV (As := [.int y4]) (r := (RJx4a65c, TJx4a65c, 3)) C (k_Jx4a65c_get_915e3 h) ok_X3_29 zq_290 zq_291 hT10 (by decide) rfl rfl ⟨by decide, (Nat.le_of_ble_eq_true rfl)⟩ ⟨(Nat.le_of_ble_eq_true rfl), (Nat.le_of_ble_eq_true rfl)⟩ (Nat.le_of_ble_eq_true rfl) dX3_isUsedIn_18 (fun v25 U26 G27 hq => ?_)
          clear h
          · obtain ⟨r12, rfl, rfl, rfl, h⟩ := hq
            obtain ⟨hT13, h⟩ := h
            refine zr_castS (r := (RX1, TX1, 12)) C hT13 (by decide) rfl zq_402 dX3_isUsedIn_21 ?_
            refine zr_astore C [(4, .ref r12), (0, .ref a0), (1, .int p1), (2, .ref a2), (3, .int y4)] dX3_isUsedIn_24 (by decide) rfl ?_
            refine zr_aload C 0 dX3_isUsedIn_26 rfl ?_
            refine zr_callV (As := []) (r := (RX1, TX1, 12)) C (k_X1_isOpen h) ok_X3_97 zq_458 zq_459 hT13 (by decide) rfl rfl ⟨by decide, (Nat.le_of_ble_eq_true rfl)⟩ ⟨(Nat.le_of_ble_eq_true rfl), (Nat.le_of_ble_eq_true rfl)⟩ (Nat.le_of_ble_eq_true rfl) dX3_isUsedIn_28 (fun v22 U23 G24 hq => ?_)
            clear h
            · obtain ⟨r14, rfl, rfl, rfl, h⟩ := hq
              obtain ⟨h1, h2⟩ := h
              refine zr_if_eq C 54 dX3_isUsedIn_31 (by decide) (fun hc => ?_) (fun hc => ?_)
              · have h := h1 hc
                clear h1 h2
                refine zr_iinc C [(3, .int (y4 + 1)), (4, .ref r12), (0, .ref a0), (1, .int p1), (2, .ref a2)] 4 dX3_isUsedIn_54 rfl rfl (by decide) rfl ?_
                refine zr_goto C 2 dX3_isUsedIn_57 (by decide) ?_
                obtain ⟨n15, hlt, h⟩ := h
                exact zr_sub [2, 3, 4, 0] rfl (ih5 n15 hlt (y4 + 1) h)
              · have h := h2 hc
                clear h1 h2
                refine zr_aload C 0 dX3_isUsedIn_34 rfl ?_
                obtain ⟨x17, hv16, h⟩ := h
                refine zr_get C fl_X3_75 hT13 hv16 dX3_isUsedIn_36 ?_
                refine zr_iload_n C 2 dX3_isUsedIn_39 rfl rfl ?_
                obtain ⟨h1, h2⟩ := h
                refine zr_icmp_ne C 54 dX3_isUsedIn_40 (by decide) (fun hc => ?_) (fun hc => ?_)
                · have h := h1 hc
                  clear h1 h2
                  refine zr_iinc C [(3, .int (y4 + 1)), (4, .ref r12), (0, .ref a0), (1, .int p1), (2, .ref a2)] 4 dX3_isUsedIn_54 rfl rfl (by decide) rfl ?_
                  refine zr_goto C 2 dX3_isUsedIn_57 (by decide) ?_
                  obtain ⟨n18, hlt, h⟩ := h
                  exact zr_sub [2, 3, 4, 0] rfl (ih5 n18 hlt (y4 + 1) h)
                · have h := h2 hc
                  clear h1 h2
                  refine zr_aload C 0 dX3_isUsedIn_43 rfl ?_
                  obtain ⟨x20, hv19, h⟩ := h
                  refine zr_get C fl_X3_113 hT13 hv19 dX3_isUsedIn_45 ?_
                  refine zr_aload_n C 3 dX3_isUsedIn_48 rfl rfl ?_
                  obtain ⟨h1, h2⟩ := h
                  refine zr_acmp_ne (rx := some x20) (ry := some a2) C 54 dX3_isUsedIn_49 (by decide) (fun hc => ?_) (fun hc => ?_)
                  · have h := h1 hc
                    clear h1 h2
                    refine zr_iinc C [(3, .int (y4 + 1)), (4, .ref r12), (0, .ref a0), (1, .int p1), (2, .ref a2)] 4 dX3_isUsedIn_54 rfl rfl (by decide) rfl ?_
                    refine zr_goto C 2 dX3_isUsedIn_57 (by decide) ?_
                    obtain ⟨n21, hlt, h⟩ := h
                    exact zr_sub [2, 3, 4, 0] rfl (ih5 n21 hlt (y4 + 1) h)
                  · have h := h2 hc
                    clear h1 h2
                    refine zr_iconst C 1 dX3_isUsedIn_52 (by decide) ?_
                    exact zr_zret C rfl (Or.inr rfl) ⟨_, rfl, rfl, rfl, h⟩ (Nat.le_of_ble_eq_true rfl) (Nat.le_of_ble_eq_true rfl) dX3_isUsedIn_53
  exact zr_sub [1, 2, 3, 0] rfl (ky33 n3 0 h032)
theorem dX3_canSwap_0 : decode cX3_canSwap 0 = .ok (.aload_n 2, 1) := by decide +kernel
theorem dX3_canSwap_1 : decode cX3_canSwap 1 = .ok (.aload_n 1, 1) := by decide +kernel
theorem dX3_canSwap_2 : decode cX3_canSwap 2 = .ok (.getfield 113, 3) := by decide +kernel
theorem dX3_canSwap_5 : decode cX3_canSwap 5 = .ok (.if_acmp .eq 67, 3) := by decide +kernel
theorem dX3_canSwap_72 : decode cX3_canSwap 72 = .ok (.iconst 0, 1) := by decide +kernel
theorem dX3_canSwap_73 : decode cX3_canSwap 73 = .ok (.ireturn, 1) := by decide +kernel
theorem dX3_canSwap_8 : decode cX3_canSwap 8 = .ok (.aload_n 2, 1) := by decide +kernel
theorem dX3_canSwap_9 : decode cX3_canSwap 9 = .ok (.getfield 117, 3) := by decide +kernel
theorem dX3_canSwap_12 : decode cX3_canSwap 12 = .ok (.aload_n 1, 1) := by decide +kernel
theorem dX3_canSwap_13 : decode cX3_canSwap 13 = .ok (.getfield 113, 3) := by decide +kernel
theorem dX3_canSwap_16 : decode cX3_canSwap 16 = .ok (.getfield 117, 3) := by decide +kernel
theorem dX3_canSwap_19 : decode cX3_canSwap 19 = .ok (.if_icmp .ne 53, 3) := by decide +kernel
theorem dX3_canSwap_22 : decode cX3_canSwap 22 = .ok (.aload_n 2, 1) := by decide +kernel
theorem dX3_canSwap_23 : decode cX3_canSwap 23 = .ok (.aload_n 1, 1) := by decide +kernel
theorem dX3_canSwap_24 : decode cX3_canSwap 24 = .ok (.getfield 75, 3) := by decide +kernel
theorem dX3_canSwap_27 : decode cX3_canSwap 27 = .ok (.aload_n 0, 1) := by decide +kernel
theorem dX3_canSwap_28 : decode cX3_canSwap 28 = .ok (.getfield 21, 3) := by decide +kernel
theorem dX3_canSwap_34 : decode cX3_canSwap 34 = .ok (.ifCond .eq 38, 3) := by decide +kernel
theorem dX3_canSwap_37 : decode cX3_canSwap 37 = .ok (.aload_n 2, 1) := by decide +kernel
theorem dX3_canSwap_38 : decode cX3_canSwap 38 = .ok (.aload_n 1, 1) := by decide +kernel
theorem dX3_canSwap_39 : decode cX3_canSwap 39 = .ok (.getfield 75, 3) := by decide +kernel
theorem dX3_canSwap_42 : decode cX3_canSwap 42 = .ok (.aload_n 1, 1) := by decide +kernel
theorem dX3_canSwap_43 : decode cX3_canSwap 43 = .ok (.getfield 81, 3) := by decide +kernel
theorem dX3_canSwap_46 : decode cX3_canSwap 46 = .ok (.aload_n 1, 1) := by decide +kernel
theorem dX3_canSwap_47 : decode cX3_canSwap 47 = .ok (.getfield 84, 3) := by decide +kernel
theorem dX3_canSwap_53 : decode cX3_canSwap 53 = .ok (.ifCond .eq 19, 3) := by decide +kernel
theorem dX3_canSwap_56 : decode cX3_canSwap 56 = .ok (.aload_n 0, 1) := by decide +kernel
theorem dX3_canSwap_57 : decode cX3_canSwap 57 = .ok (.aload_n 1, 1) := by decide +kernel
theorem dX3_canSwap_58 : decode cX3_canSwap 58 = .ok (.getfield 75, 3) := by decide +kernel
theorem dX3_canSwap_61 : decode cX3_canSwap 61 = .ok (.aload_n 2, 1) := by decide +kernel
theorem dX3_canSwap_65 : decode cX3_canSwap 65 = .ok (.ifCond .ne 7, 3) := by decide +kernel
theorem dX3_canSwap_68 : decode cX3_canSwap 68 = .ok (.iconst 1, 1) := by decide +kernel
theorem dX3_canSwap_69 : decode cX3_canSwap 69 = .ok (.goto 4, 3) := by decide +kernel
theorem dX3_canSwap_62 : decode cX3_canSwap 62 = .ok (.invokevirtual 127, 3) := by decide +kernel
theorem dX3_canSwap_50 : decode cX3_canSwap 50 = .ok (.invokevirtual 123, 3) := by decide +kernel
theorem dX3_canSwap_31 : decode cX3_canSwap 31 = .ok (.invokevirtual 120, 3) := by decide +kernel
def v_X3_canSwap (a0 : Nat) (a1 : Nat) (a2 : Nat) (T : zT) (F : zF) (Post : Int32 → Prop) : Prop :=
  (T a1 = some (2, 12) ∧ ∃ x3 : Nat, F a1 0 = .ref x3 ∧ (((some a2 : Option Nat) = some x3 → Post 0) ∧ (¬ (some a2 : Option Nat) = some x3 → (T a2 = some (3, 5) ∧ ∃ x6 : Int32, F a2 1 = .int x6 ∧ T x3 = some (3, 5) ∧ ∃ x9 : Int32, F x3 1 = .int x9 ∧ ((¬ x6 = x9 → Post 0) ∧ (x6 = x9 → (∃ x11 : Int32, F a1 1 = .int x11 ∧ T a0 = some (4, 3) ∧ ∃ x14 : Int32, F a0 2 = .int x14 ∧ (v_X2_isFitOn a2 x11 x14 T F (fun (r15 : Int32) => ((r15 = 0 → Post 0) ∧ (¬ r15 = 0 → (∃ x17 : Int32, F a1 3 = .int x17 ∧ ∃ x19 : Int32, F a1 4 = .int x19 ∧ (v_X2_isGrantedOn a2 x11 x17 x19 T F (fun (r20 : Int32) => ((r20 = 0 → Post 0) ∧ (¬ r20 = 0 → (v_X3_isUsedIn a0 x11 a2 T F (fun (r21 : Int32) => ((¬ r21 = 0 → Post 0) ∧ (r21 = 0 → Post 1))))))))))))))))))))
set_option maxRecDepth 100000 in
set_option maxHeartbeats 4000000 in
theorem k_X3_canSwap {l : Launch} {D : va_G} {cA : Nat → ClassId} {N0 zE : Nat} {a0 : Nat} {a1 : Nat} {a2 : Nat} {T : zT} {F : zF} {Post : Int32 → Prop} (h : v_X3_canSwap a0 a1 a2 T F Post) : z_Mt l D cA N0 zE yX3_canSwap cX3_canSwap 3 (some .boolean) ({ frames := 4, cells := 0, slots := 0, locals := 89 } : Room) [.ref a0, .ref a1, .ref a2] T F (fun v T' F' => ∃ r : Int32, v = some (.int r) ∧ T = T' ∧ F = F' ∧ Post r) := by
  unfold v_X3_canSwap at h
  refine z_bodyT (by decide) (Nat.le_of_ble_eq_true rfl) ?_
  intro p e s m args below meth c C hnm
  have C : z_C p l s m args meth c RX3 cX3_canSwap 3 (some .boolean) D cA N0 zE := C
  show z_w p l e ({ frames := 4, cells := 0, slots := 0, locals := 89 } : Room) s m args below meth c D cA N0 3 0 0 (MQ below (z_Qc D cA N0 (fun v T' F' => ∃ r : Int32, v = some (.int r) ∧ T = T' ∧ F = F' ∧ Post r)) args s 0 0 (fun q => N0 ≤ q)) 0 [(0, .ref a0), (1, .ref a1), (2, .ref a2)] [] T F
  refine zr_aload_n C 2 dX3_canSwap_0 rfl rfl ?_
  refine zr_aload_n C 1 dX3_canSwap_1 rfl rfl ?_
  obtain ⟨hT1, x3, hv2, h⟩ := h
  refine zr_get C fl_X3_113 hT1 hv2 dX3_canSwap_2 ?_
  obtain ⟨h1, h2⟩ := h
  refine zr_acmp_eq (rx := some a2) (ry := some x3) C 72 dX3_canSwap_5 (by decide) (fun hc => ?_) (fun hc => ?_)
  · have h := h1 hc
    clear h1 h2
    refine zr_iconst C 0 dX3_canSwap_72 (by decide) ?_
    exact zr_zret C rfl (Or.inl rfl) ⟨_, rfl, rfl, rfl, h⟩ (Nat.le_of_ble_eq_true rfl) (Nat.le_of_ble_eq_true rfl) dX3_canSwap_73
  · have h := h2 hc
    clear h1 h2
    refine zr_aload_n C 2 dX3_canSwap_8 rfl rfl ?_
    obtain ⟨hT4, x6, hv5, h⟩ := h
    refine zr_get C fl_X3_117 hT4 hv5 dX3_canSwap_9 ?_
    refine zr_aload_n C 1 dX3_canSwap_12 rfl rfl ?_
    refine zr_get C fl_X3_113 hT1 hv2 dX3_canSwap_13 ?_
    obtain ⟨hT7, x9, hv8, h⟩ := h
    refine zr_get C fl_X3_117 hT7 hv8 dX3_canSwap_16 ?_
    obtain ⟨h1, h2⟩ := h
    refine zr_icmp_ne C 72 dX3_canSwap_19 (by decide) (fun hc => ?_) (fun hc => ?_)
    · have h := h1 hc
      clear h1 h2
      refine zr_iconst C 0 dX3_canSwap_72 (by decide) ?_
      exact zr_zret C rfl (Or.inl rfl) ⟨_, rfl, rfl, rfl, h⟩ (Nat.le_of_ble_eq_true rfl) (Nat.le_of_ble_eq_true rfl) dX3_canSwap_73
    · have h := h2 hc
      clear h1 h2
      refine zr_aload_n C 2 dX3_canSwap_22 rfl rfl ?_
      refine zr_aload_n C 1 dX3_canSwap_23 rfl rfl ?_
      obtain ⟨x11, hv10, h⟩ := h
      refine zr_get C fl_X3_75 hT1 hv10 dX3_canSwap_24 ?_
      refine zr_aload_n C 0 dX3_canSwap_27 rfl rfl ?_
      obtain ⟨hT12, x14, hv13, h⟩ := h
      refine zr_get C fl_X3_21 hT12 hv13 dX3_canSwap_28 ?_
      refine zr_callV (As := [.int x11, .int x14]) (r := (RX2, TX2, 5)) C (k_X2_isFitOn h) ok_X3_120 zq_446 zq_447 hT4 (by decide) rfl rfl ⟨by decide, (Nat.le_of_ble_eq_true rfl)⟩ ⟨(Nat.le_of_ble_eq_true rfl), (Nat.le_of_ble_eq_true rfl)⟩ (Nat.le_of_ble_eq_true rfl) dX3_canSwap_31 (fun v28 U29 G30 hq => ?_)
      clear h
      · obtain ⟨r15, rfl, rfl, rfl, h⟩ := hq
        obtain ⟨h1, h2⟩ := h
        refine zr_if_eq C 72 dX3_canSwap_34 (by decide) (fun hc => ?_) (fun hc => ?_)
        · have h := h1 hc
          clear h1 h2
          refine zr_iconst C 0 dX3_canSwap_72 (by decide) ?_
          exact zr_zret C rfl (Or.inl rfl) ⟨_, rfl, rfl, rfl, h⟩ (Nat.le_of_ble_eq_true rfl) (Nat.le_of_ble_eq_true rfl) dX3_canSwap_73
        · have h := h2 hc
          clear h1 h2
          refine zr_aload_n C 2 dX3_canSwap_37 rfl rfl ?_
          refine zr_aload_n C 1 dX3_canSwap_38 rfl rfl ?_
          refine zr_get C fl_X3_75 hT1 hv10 dX3_canSwap_39 ?_
          refine zr_aload_n C 1 dX3_canSwap_42 rfl rfl ?_
          obtain ⟨x17, hv16, h⟩ := h
          refine zr_get C fl_X3_81 hT1 hv16 dX3_canSwap_43 ?_
          refine zr_aload_n C 1 dX3_canSwap_46 rfl rfl ?_
          obtain ⟨x19, hv18, h⟩ := h
          refine zr_get C fl_X3_84 hT1 hv18 dX3_canSwap_47 ?_
          refine zr_callV (As := [.int x11, .int x17, .int x19]) (r := (RX2, TX2, 5)) C (k_X2_isGrantedOn h) ok_X3_123 zq_492 zq_493 hT4 (by decide) rfl rfl ⟨by decide, (Nat.le_of_ble_eq_true rfl)⟩ ⟨(Nat.le_of_ble_eq_true rfl), (Nat.le_of_ble_eq_true rfl)⟩ (Nat.le_of_ble_eq_true rfl) dX3_canSwap_50 (fun v25 U26 G27 hq => ?_)
          clear h
          · obtain ⟨r20, rfl, rfl, rfl, h⟩ := hq
            obtain ⟨h1, h2⟩ := h
            refine zr_if_eq C 72 dX3_canSwap_53 (by decide) (fun hc => ?_) (fun hc => ?_)
            · have h := h1 hc
              clear h1 h2
              refine zr_iconst C 0 dX3_canSwap_72 (by decide) ?_
              exact zr_zret C rfl (Or.inl rfl) ⟨_, rfl, rfl, rfl, h⟩ (Nat.le_of_ble_eq_true rfl) (Nat.le_of_ble_eq_true rfl) dX3_canSwap_73
            · have h := h2 hc
              clear h1 h2
              refine zr_aload_n C 0 dX3_canSwap_56 rfl rfl ?_
              refine zr_aload_n C 1 dX3_canSwap_57 rfl rfl ?_
              refine zr_get C fl_X3_75 hT1 hv10 dX3_canSwap_58 ?_
              refine zr_aload_n C 2 dX3_canSwap_61 rfl rfl ?_
              refine zr_callV (As := [.int x11, .ref a2]) (r := (RX3, TX3, 3)) C (k_X3_isUsedIn h) ok_X3_127 zq_521 zq_9 hT12 (by decide) rfl rfl ⟨by decide, (Nat.le_of_ble_eq_true rfl)⟩ ⟨(Nat.le_of_ble_eq_true rfl), (Nat.le_of_ble_eq_true rfl)⟩ (Nat.le_of_ble_eq_true rfl) dX3_canSwap_62 (fun v22 U23 G24 hq => ?_)
              clear h
              · obtain ⟨r21, rfl, rfl, rfl, h⟩ := hq
                obtain ⟨h1, h2⟩ := h
                refine zr_if_ne C 72 dX3_canSwap_65 (by decide) (fun hc => ?_) (fun hc => ?_)
                · have h := h1 hc
                  clear h1 h2
                  refine zr_iconst C 0 dX3_canSwap_72 (by decide) ?_
                  exact zr_zret C rfl (Or.inl rfl) ⟨_, rfl, rfl, rfl, h⟩ (Nat.le_of_ble_eq_true rfl) (Nat.le_of_ble_eq_true rfl) dX3_canSwap_73
                · have h := h2 hc
                  clear h1 h2
                  refine zr_iconst C 1 dX3_canSwap_68 (by decide) ?_
                  refine zr_goto C 73 dX3_canSwap_69 (by decide) ?_
                  exact zr_zret C rfl (Or.inr rfl) ⟨_, rfl, rfl, rfl, h⟩ (Nat.le_of_ble_eq_true rfl) (Nat.le_of_ble_eq_true rfl) dX3_canSwap_73
theorem dX3_firstSwap_0 : decode cX3_firstSwap 0 = .ok (.iconst 0, 1) := by decide +kernel
theorem dX3_firstSwap_1 : decode cX3_firstSwap 1 = .ok (.istore_n 2, 1) := by decide +kernel
theorem dX3_firstSwap_2 : decode cX3_firstSwap 2 = .ok (.iload_n 2, 1) := by decide +kernel
theorem dX3_firstSwap_3 : decode cX3_firstSwap 3 = .ok (.aload_n 0, 1) := by decide +kernel
theorem dX3_firstSwap_4 : decode cX3_firstSwap 4 = .ok (.getfield 18, 3) := by decide +kernel
theorem dX3_firstSwap_10 : decode cX3_firstSwap 10 = .ok (.if_icmp .ge 40, 3) := by decide +kernel
theorem dX3_firstSwap_50 : decode cX3_firstSwap 50 = .ok (.aconst_null, 1) := by decide +kernel
theorem dX3_firstSwap_51 : decode cX3_firstSwap 51 = .ok (.areturn, 1) := by decide +kernel
theorem dX3_firstSwap_13 : decode cX3_firstSwap 13 = .ok (.aload_n 0, 1) := by decide +kernel
theorem dX3_firstSwap_14 : decode cX3_firstSwap 14 = .ok (.aload_n 1, 1) := by decide +kernel
theorem dX3_firstSwap_15 : decode cX3_firstSwap 15 = .ok (.aload_n 0, 1) := by decide +kernel
theorem dX3_firstSwap_16 : decode cX3_firstSwap 16 = .ok (.getfield 18, 3) := by decide +kernel
theorem dX3_firstSwap_19 : decode cX3_firstSwap 19 = .ok (.iload_n 2, 1) := by decide +kernel
theorem dX3_firstSwap_23 : decode cX3_firstSwap 23 = .ok (.checkcast 107, 3) := by decide +kernel
theorem dX3_firstSwap_29 : decode cX3_firstSwap 29 = .ok (.ifCond .eq 15, 3) := by decide +kernel
theorem dX3_firstSwap_44 : decode cX3_firstSwap 44 = .ok (.iinc 2 1, 3) := by decide +kernel
theorem dX3_firstSwap_47 : decode cX3_firstSwap 47 = .ok (.goto (-45), 3) := by decide +kernel
theorem dX3_firstSwap_32 : decode cX3_firstSwap 32 = .ok (.aload_n 0, 1) := by decide +kernel
theorem dX3_firstSwap_33 : decode cX3_firstSwap 33 = .ok (.getfield 18, 3) := by decide +kernel
theorem dX3_firstSwap_36 : decode cX3_firstSwap 36 = .ok (.iload_n 2, 1) := by decide +kernel
theorem dX3_firstSwap_40 : decode cX3_firstSwap 40 = .ok (.checkcast 107, 3) := by decide +kernel
theorem dX3_firstSwap_43 : decode cX3_firstSwap 43 = .ok (.areturn, 1) := by decide +kernel
theorem dX3_firstSwap_37 : decode cX3_firstSwap 37 = .ok (.invokevirtual 29, 3) := by decide +kernel
theorem dX3_firstSwap_26 : decode cX3_firstSwap 26 = .ok (.invokevirtual 109, 3) := by decide +kernel
theorem dX3_firstSwap_20 : decode cX3_firstSwap 20 = .ok (.invokevirtual 29, 3) := by decide +kernel
theorem dX3_firstSwap_7 : decode cX3_firstSwap 7 = .ok (.invokevirtual 25, 3) := by decide +kernel
def v_X3_firstSwap (a0 : Nat) (a1 : Nat) (T : zT) (F : zF) (Post : Option Nat → Prop) : Prop :=
  (∃ I1 : Nat → Int32 → Prop, (∃ n3 : Nat, I1 n3 0) ∧ (∀ (n2 : Nat) (y4 : Int32), I1 n2 y4 → (T a0 = some (4, 3) ∧ ∃ x9 : Nat, F a0 1 = .ref x9 ∧ T x9 = some (0, 3) ∧ (v_Jx4a65c_size_8abf5 x9 T F (fun (r11 : Int32) => ((r11 ≤ y4 → Post none) ∧ (¬ r11 ≤ y4 → (v_Jx4a65c_get_915e3 x9 y4 T F (fun (r12 : Nat) => (T r12 = some (3, 5) ∧ (v_X3_canSwap a0 a1 r12 T F (fun (r14 : Int32) => ((r14 = 0 → (∃ n15 : Nat, n15 < n2 ∧ I1 n15 (y4 + 1))) ∧ (¬ r14 = 0 → (v_Jx4a65c_get_915e3 x9 y4 T F (fun (r16 : Nat) => (T r16 = some (3, 5) ∧ Post (some r16))))))))))))))))))
set_option maxRecDepth 100000 in
set_option maxHeartbeats 4000000 in
theorem k_X3_firstSwap {l : Launch} {D : va_G} {cA : Nat → ClassId} {N0 zE : Nat} {a0 : Nat} {a1 : Nat} {T : zT} {F : zF} {Post : Option Nat → Prop} (h : v_X3_firstSwap a0 a1 T F Post) : z_Mt l D cA N0 zE yX3_firstSwap cX3_firstSwap 3 (some (.object "BrandRoom$Piece")) ({ frames := 5, cells := 0, slots := 0, locals := 111 } : Room) [.ref a0, .ref a1] T F (fun v T' F' => ∃ r : Option Nat, v = some (va_rf r) ∧ T = T' ∧ F = F' ∧ Post r) := by
  unfold v_X3_firstSwap at h
  refine z_bodyT (by decide) (Nat.le_of_ble_eq_true rfl) ?_
  intro p e s m args below meth c C hnm
  have C : z_C p l s m args meth c RX3 cX3_firstSwap 3 (some (.object "BrandRoom$Piece")) D cA N0 zE := C
  show z_w p l e ({ frames := 5, cells := 0, slots := 0, locals := 111 } : Room) s m args below meth c D cA N0 3 0 0 (MQ below (z_Qc D cA N0 (fun v T' F' => ∃ r : Option Nat, v = some (va_rf r) ∧ T = T' ∧ F = F' ∧ Post r)) args s 0 0 (fun q => N0 ≤ q)) 0 [(0, .ref a0), (1, .ref a1)] [] T F
  refine zr_iconst C 0 dX3_firstSwap_0 (by decide) ?_
  refine zr_istore_n C [(2, .int 0), (0, .ref a0), (1, .ref a1)] dX3_firstSwap_1 rfl (by decide) rfl ?_
  obtain ⟨I1, ⟨n3, h031⟩, hI30⟩ := h
  have ky32 : ∀ (n2 : Nat) (y4 : Int32), I1 n2 y4 → z_w p l e ({ frames := 5, cells := 0, slots := 0, locals := 111 } : Room) s m args below meth c D cA N0 3 0 0 (MQ below (z_Qc D cA N0 (fun v T' F' => ∃ r : Option Nat, v = some (va_rf r) ∧ T = T' ∧ F = F' ∧ Post r)) args s 0 0 (fun q => N0 ≤ q)) 2 [(0, .ref a0), (1, .ref a1), (2, .int y4)] [] T F := by
    intro n2
    induction n2 using Nat.strongRecOn with
    | _ n2 ih5 =>
      intro y4 hin
      have h := hI30 n2 y4 hin
      refine zr_iload_n C 2 dX3_firstSwap_2 rfl rfl ?_
      refine zr_aload_n C 0 dX3_firstSwap_3 rfl rfl ?_
      obtain ⟨hT7, x9, hv8, h⟩ := h
      refine zr_get C fl_X3_18 hT7 hv8 dX3_firstSwap_4 ?_
      obtain ⟨hT10, h⟩ := h
      refine zr_callV (As := []) (r := (RJx4a65c, TJx4a65c, 3)) C (k_Jx4a65c_size_8abf5 h) ok_X3_25 zq_112 zq_113 hT10 (by decide) rfl rfl ⟨by decide, (Nat.le_of_ble_eq_true rfl)⟩ ⟨(Nat.le_of_ble_eq_true rfl), (Nat.le_of_ble_eq_true rfl)⟩ (Nat.le_of_ble_eq_true rfl) dX3_firstSwap_7 (fun v27 U28 G29 hq => ?_)
      clear h
      · obtain ⟨r11, rfl, rfl, rfl, h⟩ := hq
        obtain ⟨h1, h2⟩ := h
        refine zr_icmp_ge C 50 dX3_firstSwap_10 (by decide) (fun hc => ?_) (fun hc => ?_)
        · have h := h1 hc
          clear h1 h2
          refine zr_null C dX3_firstSwap_50 ?_
          exact zr_aret C rfl (Or.inl ⟨_, rfl⟩) (Or.inl rfl) ⟨_, rfl, rfl, rfl, h⟩ (Nat.le_of_ble_eq_true rfl) (Nat.le_of_ble_eq_true rfl) dX3_firstSwap_51
        · have h := h2 hc
          clear h1 h2
          refine zr_aload_n C 0 dX3_firstSwap_13 rfl rfl ?_
          refine zr_aload_n C 1 dX3_firstSwap_14 rfl rfl ?_
          refine zr_aload_n C 0 dX3_firstSwap_15 rfl rfl ?_
          refine zr_get C fl_X3_18 hT7 hv8 dX3_firstSwap_16 ?_
          refine zr_iload_n C 2 dX3_firstSwap_19 rfl rfl ?_
          refine zr_callV (As := [.int y4]) (r := (RJx4a65c, TJx4a65c, 3)) C (k_Jx4a65c_get_915e3 h) ok_X3_29 zq_290 zq_291 hT10 (by decide) rfl rfl ⟨by decide, (Nat.le_of_ble_eq_true rfl)⟩ ⟨(Nat.le_of_ble_eq_true rfl), (Nat.le_of_ble_eq_true rfl)⟩ (Nat.le_of_ble_eq_true rfl) dX3_firstSwap_20 (fun v24 U25 G26 hq => ?_)
          clear h
          · obtain ⟨r12, rfl, rfl, rfl, h⟩ := hq
            obtain ⟨hT13, h⟩ := h
            refine zr_castS (r := (RX2, TX2, 5)) C hT13 (by decide) rfl zq_512 dX3_firstSwap_23 ?_
            refine zr_callV (As := [.ref a1, .ref r12]) (r := (RX3, TX3, 3)) C (k_X3_canSwap h) ok_X3_109 zq_514 zq_515 hT7 (by decide) rfl rfl ⟨by decide, (Nat.le_of_ble_eq_true rfl)⟩ ⟨(Nat.le_of_ble_eq_true rfl), (Nat.le_of_ble_eq_true rfl)⟩ (Nat.le_of_ble_eq_true rfl) dX3_firstSwap_26 (fun v21 U22 G23 hq => ?_)
            clear h
            · obtain ⟨r14, rfl, rfl, rfl, h⟩ := hq
              obtain ⟨h1, h2⟩ := h
              refine zr_if_eq C 44 dX3_firstSwap_29 (by decide) (fun hc => ?_) (fun hc => ?_)
              · have h := h1 hc
                clear h1 h2
                refine zr_iinc C [(2, .int (y4 + 1)), (0, .ref a0), (1, .ref a1)] 2 dX3_firstSwap_44 rfl rfl (by decide) rfl ?_
                refine zr_goto C 2 dX3_firstSwap_47 (by decide) ?_
                obtain ⟨n15, hlt, h⟩ := h
                exact zr_sub [1, 2, 0] rfl (ih5 n15 hlt (y4 + 1) h)
              · have h := h2 hc
                clear h1 h2
                refine zr_aload_n C 0 dX3_firstSwap_32 rfl rfl ?_
                refine zr_get C fl_X3_18 hT7 hv8 dX3_firstSwap_33 ?_
                refine zr_iload_n C 2 dX3_firstSwap_36 rfl rfl ?_
                refine zr_callV (As := [.int y4]) (r := (RJx4a65c, TJx4a65c, 3)) C (k_Jx4a65c_get_915e3 h) ok_X3_29 zq_290 zq_291 hT10 (by decide) rfl rfl ⟨by decide, (Nat.le_of_ble_eq_true rfl)⟩ ⟨(Nat.le_of_ble_eq_true rfl), (Nat.le_of_ble_eq_true rfl)⟩ (Nat.le_of_ble_eq_true rfl) dX3_firstSwap_37 (fun v18 U19 G20 hq => ?_)
                clear h
                · obtain ⟨r16, rfl, rfl, rfl, h⟩ := hq
                  obtain ⟨hT17, h⟩ := h
                  refine zr_castS (r := (RX2, TX2, 5)) C hT17 (by decide) rfl zq_512 dX3_firstSwap_40 ?_
                  exact zr_aret C rfl (Or.inl ⟨_, rfl⟩) (Or.inr ⟨_, rfl⟩) ⟨_, rfl, rfl, rfl, h⟩ (Nat.le_of_ble_eq_true rfl) (Nat.le_of_ble_eq_true rfl) dX3_firstSwap_43
  exact zr_sub [1, 2, 0] rfl (ky32 n3 0 h031)
theorem dX3_settle_0 : decode cX3_settle 0 = .ok (.aload_n 2, 1) := by decide +kernel
theorem dX3_settle_1 : decode cX3_settle 1 = .ok (.ifnull 11, 3) := by decide +kernel
theorem dX3_settle_12 : decode cX3_settle 12 = .ok (.aload_n 1, 1) := by decide +kernel
theorem dX3_settle_16 : decode cX3_settle 16 = .ok (.ifCond .eq 38, 3) := by decide +kernel
theorem dX3_settle_54 : decode cX3_settle 54 = .ok (.aload_n 1, 1) := by decide +kernel
theorem dX3_settle_55 : decode cX3_settle 55 = .ok (.iconst 4, 1) := by decide +kernel
theorem dX3_settle_56 : decode cX3_settle 56 = .ok (.putfield 94, 3) := by decide +kernel
theorem dX3_settle_59 : decode cX3_settle 59 = .ok (.return_, 1) := by decide +kernel
theorem dX3_settle_19 : decode cX3_settle 19 = .ok (.aload_n 0, 1) := by decide +kernel
theorem dX3_settle_20 : decode cX3_settle 20 = .ok (.aload_n 1, 1) := by decide +kernel
theorem dX3_settle_21 : decode cX3_settle 21 = .ok (.getfield 75, 3) := by decide +kernel
theorem dX3_settle_24 : decode cX3_settle 24 = .ok (.aload_n 1, 1) := by decide +kernel
theorem dX3_settle_25 : decode cX3_settle 25 = .ok (.getfield 78, 3) := by decide +kernel
theorem dX3_settle_28 : decode cX3_settle 28 = .ok (.aload_n 1, 1) := by decide +kernel
theorem dX3_settle_29 : decode cX3_settle 29 = .ok (.getfield 81, 3) := by decide +kernel
theorem dX3_settle_32 : decode cX3_settle 32 = .ok (.iconst 2, 1) := by decide +kernel
theorem dX3_settle_33 : decode cX3_settle 33 = .ok (.iadd, 1) := by decide +kernel
theorem dX3_settle_34 : decode cX3_settle 34 = .ok (.aload_n 1, 1) := by decide +kernel
theorem dX3_settle_35 : decode cX3_settle 35 = .ok (.getfield 84, 3) := by decide +kernel
theorem dX3_settle_38 : decode cX3_settle 38 = .ok (.iconst 2, 1) := by decide +kernel
theorem dX3_settle_39 : decode cX3_settle 39 = .ok (.iadd, 1) := by decide +kernel
theorem dX3_settle_40 : decode cX3_settle 40 = .ok (.aload_n 1, 1) := by decide +kernel
theorem dX3_settle_44 : decode cX3_settle 44 = .ok (.ifCond .ne 10, 3) := by decide +kernel
theorem dX3_settle_47 : decode cX3_settle 47 = .ok (.aload_n 1, 1) := by decide +kernel
theorem dX3_settle_51 : decode cX3_settle 51 = .ok (.goto 8, 3) := by decide +kernel
theorem dX3_settle_48 : decode cX3_settle 48 = .ok (.invokevirtual 91, 3) := by decide +kernel
theorem dX3_settle_41 : decode cX3_settle 41 = .ok (.invokevirtual 87, 3) := by decide +kernel
theorem dX3_settle_13 : decode cX3_settle 13 = .ok (.invokevirtual 71, 3) := by decide +kernel
theorem dX3_settle_4 : decode cX3_settle 4 = .ok (.aload_n 1, 1) := by decide +kernel
theorem dX3_settle_5 : decode cX3_settle 5 = .ok (.aload_n 2, 1) := by decide +kernel
theorem dX3_settle_9 : decode cX3_settle 9 = .ok (.goto 50, 3) := by decide +kernel
theorem dX3_settle_6 : decode cX3_settle 6 = .ok (.invokevirtual 67, 3) := by decide +kernel
def v_X3_settle (a0 : Nat) (a1 : Nat) (o2 : Option Nat) (T : zT) (F : zF) (Post : zF → Prop) : Prop :=
  ((o2 = none → (T a1 = some (2, 12) ∧ (v_X1_mayMove a1 T F (fun (r2 : Int32) => ((r2 = 0 → Post (zu F a1 6 (.int 4))) ∧ (¬ r2 = 0 → (∃ x4 : Int32, F a1 1 = .int x4 ∧ ∃ x6 : Int32, F a1 2 = .int x6 ∧ ∃ x8 : Int32, F a1 3 = .int x8 ∧ ∃ x10 : Int32, F a1 4 = .int x10 ∧ T a0 = some (4, 3) ∧ (v_X3_isTaken a0 x4 x6 (x8 + 2) (x10 + 2) ((some a1)) T F (fun (r12 : Int32) => ((¬ r12 = 0 → Post (zu F a1 6 (.int 4))) ∧ (r12 = 0 → (v_X1_moveOn a1 T F (fun (F17 : zF) => Post F17))))))))))))) ∧ (∀ y27 : Nat, o2 = some y27 → (T a1 = some (2, 12) ∧ (v_X1_takePiece a1 y27 T F (fun (F29 : zF) => Post F29)))))
set_option maxRecDepth 100000 in
set_option maxHeartbeats 4000000 in
theorem k_X3_settle {l : Launch} {D : va_G} {cA : Nat → ClassId} {N0 zE : Nat} {a0 : Nat} {a1 : Nat} {o2 : Option Nat} {T : zT} {F : zF} {Post : zF → Prop} (h : v_X3_settle a0 a1 o2 T F Post) : z_Mt l D cA N0 zE yX3_settle cX3_settle 3 none ({ frames := 4, cells := 0, slots := 0, locals := 91 } : Room) [.ref a0, .ref a1, va_rf o2] T F (fun v T' F' => v = none ∧ T = T' ∧ Post F') := by
  unfold v_X3_settle at h
  obtain ⟨ha, hb⟩ := h
  cases o2 with
  | none =>
    have h := ha rfl
    refine z_bodyT (by decide) (Nat.le_of_ble_eq_true rfl) ?_
    intro p e s m args below meth c C hnm
    have C : z_C p l s m args meth c RX3 cX3_settle 3 none D cA N0 zE := C
    show z_w p l e ({ frames := 4, cells := 0, slots := 0, locals := 91 } : Room) s m args below meth c D cA N0 3 0 0 (MQ below (z_Qc D cA N0 (fun v T' F' => v = none ∧ T = T' ∧ Post F')) args s 0 0 (fun q => N0 ≤ q)) 0 [(0, .ref a0), (1, .ref a1), (2, .null)] [] T F
    refine zr_aload_nN C 2 dX3_settle_0 rfl rfl ?_
    refine zr_ifnullN C 12 dX3_settle_1 (by decide) ?_
    refine zr_aload_n C 1 dX3_settle_12 rfl rfl ?_
    obtain ⟨hT1, h⟩ := h
    refine zr_callV (As := []) (r := (RX1, TX1, 12)) C (k_X1_mayMove h) ok_X3_71 zq_648 zq_649 hT1 (by decide) rfl rfl ⟨by decide, (Nat.le_of_ble_eq_true rfl)⟩ ⟨(Nat.le_of_ble_eq_true rfl), (Nat.le_of_ble_eq_true rfl)⟩ (Nat.le_of_ble_eq_true rfl) dX3_settle_13 (fun v24 U25 G26 hq => ?_)
    clear h
    · obtain ⟨r2, rfl, rfl, rfl, h⟩ := hq
      obtain ⟨h1, h2⟩ := h
      refine zr_if_eq C 54 dX3_settle_16 (by decide) (fun hc => ?_) (fun hc => ?_)
      · have h := h1 hc
        clear h1 h2
        refine zr_aload_n C 1 dX3_settle_54 rfl rfl ?_
        refine zr_iconst C 4 dX3_settle_55 (by decide) ?_
        refine zr_put C fl_X3_94 hT1 rfl rfl dX3_settle_56 ?_
        exact zr_vret C rfl ⟨rfl, rfl, h⟩ (Nat.le_of_ble_eq_true rfl) (Nat.le_of_ble_eq_true rfl) dX3_settle_59
      · have h := h2 hc
        clear h1 h2
        refine zr_aload_n C 0 dX3_settle_19 rfl rfl ?_
        refine zr_aload_n C 1 dX3_settle_20 rfl rfl ?_
        obtain ⟨x4, hv3, h⟩ := h
        refine zr_get C fl_X3_75 hT1 hv3 dX3_settle_21 ?_
        refine zr_aload_n C 1 dX3_settle_24 rfl rfl ?_
        obtain ⟨x6, hv5, h⟩ := h
        refine zr_get C fl_X3_78 hT1 hv5 dX3_settle_25 ?_
        refine zr_aload_n C 1 dX3_settle_28 rfl rfl ?_
        obtain ⟨x8, hv7, h⟩ := h
        refine zr_get C fl_X3_81 hT1 hv7 dX3_settle_29 ?_
        refine zr_iconst C 2 dX3_settle_32 (by decide) ?_
        refine zr_iadd C dX3_settle_33 ?_
        refine zr_aload_n C 1 dX3_settle_34 rfl rfl ?_
        obtain ⟨x10, hv9, h⟩ := h
        refine zr_get C fl_X3_84 hT1 hv9 dX3_settle_35 ?_
        refine zr_iconst C 2 dX3_settle_38 (by decide) ?_
        refine zr_iadd C dX3_settle_39 ?_
        refine zr_aload_n C 1 dX3_settle_40 rfl rfl ?_
        obtain ⟨hT11, h⟩ := h
        refine zr_callV (As := [.int x4, .int x6, .int (x8 + 2), .int (x10 + 2), .ref a1]) (r := (RX3, TX3, 3)) C (k_X3_isTaken h) ok_X3_87 zq_652 zq_653 hT11 (by decide) rfl rfl ⟨by decide, (Nat.le_of_ble_eq_true rfl)⟩ ⟨(Nat.le_of_ble_eq_true rfl), (Nat.le_of_ble_eq_true rfl)⟩ (Nat.le_of_ble_eq_true rfl) dX3_settle_41 (fun v21 U22 G23 hq => ?_)
        clear h
        · obtain ⟨r12, rfl, rfl, rfl, h⟩ := hq
          obtain ⟨h1, h2⟩ := h
          refine zr_if_ne C 54 dX3_settle_44 (by decide) (fun hc => ?_) (fun hc => ?_)
          · have h := h1 hc
            clear h1 h2
            refine zr_aload_n C 1 dX3_settle_54 rfl rfl ?_
            refine zr_iconst C 4 dX3_settle_55 (by decide) ?_
            refine zr_put C fl_X3_94 hT1 rfl rfl dX3_settle_56 ?_
            exact zr_vret C rfl ⟨rfl, rfl, h⟩ (Nat.le_of_ble_eq_true rfl) (Nat.le_of_ble_eq_true rfl) dX3_settle_59
          · have h := h2 hc
            clear h1 h2
            refine zr_aload_n C 1 dX3_settle_47 rfl rfl ?_
            refine zr_callV (As := []) (r := (RX1, TX1, 12)) C (k_X1_moveOn h) ok_X3_91 zq_664 zq_665 hT1 (by decide) rfl rfl ⟨by decide, (Nat.le_of_ble_eq_true rfl)⟩ ⟨(Nat.le_of_ble_eq_true rfl), (Nat.le_of_ble_eq_true rfl)⟩ (Nat.le_of_ble_eq_true rfl) dX3_settle_48 (fun v18 U19 G20 hq => ?_)
            clear h
            · obtain ⟨rfl, rfl, h⟩ := hq
              refine zr_goto C 59 dX3_settle_51 (by decide) ?_
              exact zr_vret C rfl ⟨rfl, rfl, h⟩ (Nat.le_of_ble_eq_true rfl) (Nat.le_of_ble_eq_true rfl) dX3_settle_59
  | some y27 =>
    have h := hb y27 rfl
    refine z_bodyT (by decide) (Nat.le_of_ble_eq_true rfl) ?_
    intro p e s m args below meth c C hnm
    have C : z_C p l s m args meth c RX3 cX3_settle 3 none D cA N0 zE := C
    show z_w p l e ({ frames := 4, cells := 0, slots := 0, locals := 91 } : Room) s m args below meth c D cA N0 3 0 0 (MQ below (z_Qc D cA N0 (fun v T' F' => v = none ∧ T = T' ∧ Post F')) args s 0 0 (fun q => N0 ≤ q)) 0 [(0, .ref a0), (1, .ref a1), (2, .ref y27)] [] T F
    refine zr_aload_n C 2 dX3_settle_0 rfl rfl ?_
    refine zr_ifnull C dX3_settle_1 ?_
    refine zr_aload_n C 1 dX3_settle_4 rfl rfl ?_
    refine zr_aload_n C 2 dX3_settle_5 rfl rfl ?_
    obtain ⟨hT28, h⟩ := h
    refine zr_callV (As := [.ref y27]) (r := (RX1, TX1, 12)) C (k_X1_takePiece h) ok_X3_67 zq_644 zq_645 hT28 (by decide) rfl rfl ⟨by decide, (Nat.le_of_ble_eq_true rfl)⟩ ⟨(Nat.le_of_ble_eq_true rfl), (Nat.le_of_ble_eq_true rfl)⟩ (Nat.le_of_ble_eq_true rfl) dX3_settle_6 (fun v30 U31 G32 hq => ?_)
    clear h
    · obtain ⟨rfl, rfl, h⟩ := hq
      refine zr_goto C 59 dX3_settle_9 (by decide) ?_
      exact zr_vret C rfl ⟨rfl, rfl, h⟩ (Nat.le_of_ble_eq_true rfl) (Nat.le_of_ble_eq_true rfl) dX3_settle_59
theorem dX3_beginDay_0 : decode cX3_beginDay 0 = .ok (.aload_n 0, 1) := by decide +kernel
theorem dX3_beginDay_1 : decode cX3_beginDay 1 = .ok (.dup, 1) := by decide +kernel
theorem dX3_beginDay_2 : decode cX3_beginDay 2 = .ok (.getfield 21, 3) := by decide +kernel
theorem dX3_beginDay_5 : decode cX3_beginDay 5 = .ok (.iconst 1, 1) := by decide +kernel
theorem dX3_beginDay_6 : decode cX3_beginDay 6 = .ok (.iadd, 1) := by decide +kernel
theorem dX3_beginDay_7 : decode cX3_beginDay 7 = .ok (.putfield 21, 3) := by decide +kernel
theorem dX3_beginDay_10 : decode cX3_beginDay 10 = .ok (.iconst 0, 1) := by decide +kernel
theorem dX3_beginDay_11 : decode cX3_beginDay 11 = .ok (.istore_n 1, 1) := by decide +kernel
theorem dX3_beginDay_12 : decode cX3_beginDay 12 = .ok (.iload_n 1, 1) := by decide +kernel
theorem dX3_beginDay_13 : decode cX3_beginDay 13 = .ok (.aload_n 0, 1) := by decide +kernel
theorem dX3_beginDay_14 : decode cX3_beginDay 14 = .ok (.getfield 12, 3) := by decide +kernel
theorem dX3_beginDay_20 : decode cX3_beginDay 20 = .ok (.if_icmp .ge 27, 3) := by decide +kernel
theorem dX3_beginDay_47 : decode cX3_beginDay 47 = .ok (.iconst 0, 1) := by decide +kernel
theorem dX3_beginDay_48 : decode cX3_beginDay 48 = .ok (.istore_n 1, 1) := by decide +kernel
theorem dX3_beginDay_49 : decode cX3_beginDay 49 = .ok (.iconst 0, 1) := by decide +kernel
theorem dX3_beginDay_50 : decode cX3_beginDay 50 = .ok (.istore_n 2, 1) := by decide +kernel
theorem dX3_beginDay_51 : decode cX3_beginDay 51 = .ok (.iload_n 2, 1) := by decide +kernel
theorem dX3_beginDay_52 : decode cX3_beginDay 52 = .ok (.aload_n 0, 1) := by decide +kernel
theorem dX3_beginDay_53 : decode cX3_beginDay 53 = .ok (.getfield 12, 3) := by decide +kernel
theorem dX3_beginDay_59 : decode cX3_beginDay 59 = .ok (.if_icmp .ge 53, 3) := by decide +kernel
theorem dX3_beginDay_112 : decode cX3_beginDay 112 = .ok (.iconst 0, 1) := by decide +kernel
theorem dX3_beginDay_113 : decode cX3_beginDay 113 = .ok (.istore_n 2, 1) := by decide +kernel
theorem dX3_beginDay_114 : decode cX3_beginDay 114 = .ok (.iload_n 2, 1) := by decide +kernel
theorem dX3_beginDay_115 : decode cX3_beginDay 115 = .ok (.aload_n 0, 1) := by decide +kernel
theorem dX3_beginDay_116 : decode cX3_beginDay 116 = .ok (.getfield 12, 3) := by decide +kernel
theorem dX3_beginDay_122 : decode cX3_beginDay 122 = .ok (.if_icmp .ge 27, 3) := by decide +kernel
theorem dX3_beginDay_149 : decode cX3_beginDay 149 = .ok (.iload_n 1, 1) := by decide +kernel
theorem dX3_beginDay_150 : decode cX3_beginDay 150 = .ok (.ireturn, 1) := by decide +kernel
theorem dX3_beginDay_125 : decode cX3_beginDay 125 = .ok (.aload_n 0, 1) := by decide +kernel
theorem dX3_beginDay_126 : decode cX3_beginDay 126 = .ok (.getfield 12, 3) := by decide +kernel
theorem dX3_beginDay_129 : decode cX3_beginDay 129 = .ok (.iload_n 2, 1) := by decide +kernel
theorem dX3_beginDay_133 : decode cX3_beginDay 133 = .ok (.checkcast 33, 3) := by decide +kernel
theorem dX3_beginDay_136 : decode cX3_beginDay 136 = .ok (.aload_n 0, 1) := by decide +kernel
theorem dX3_beginDay_137 : decode cX3_beginDay 137 = .ok (.getfield 21, 3) := by decide +kernel
theorem dX3_beginDay_143 : decode cX3_beginDay 143 = .ok (.iinc 2 1, 3) := by decide +kernel
theorem dX3_beginDay_146 : decode cX3_beginDay 146 = .ok (.goto (-32), 3) := by decide +kernel
theorem dX3_beginDay_140 : decode cX3_beginDay 140 = .ok (.invokevirtual 64, 3) := by decide +kernel
theorem dX3_beginDay_130 : decode cX3_beginDay 130 = .ok (.invokevirtual 29, 3) := by decide +kernel
theorem dX3_beginDay_119 : decode cX3_beginDay 119 = .ok (.invokevirtual 25, 3) := by decide +kernel
theorem dX3_beginDay_62 : decode cX3_beginDay 62 = .ok (.aload_n 0, 1) := by decide +kernel
theorem dX3_beginDay_63 : decode cX3_beginDay 63 = .ok (.getfield 12, 3) := by decide +kernel
theorem dX3_beginDay_66 : decode cX3_beginDay 66 = .ok (.iload_n 2, 1) := by decide +kernel
theorem dX3_beginDay_70 : decode cX3_beginDay 70 = .ok (.checkcast 33, 3) := by decide +kernel
theorem dX3_beginDay_73 : decode cX3_beginDay 73 = .ok (.astore_n 3, 1) := by decide +kernel
theorem dX3_beginDay_74 : decode cX3_beginDay 74 = .ok (.aload_n 3, 1) := by decide +kernel
theorem dX3_beginDay_75 : decode cX3_beginDay 75 = .ok (.aload_n 0, 1) := by decide +kernel
theorem dX3_beginDay_76 : decode cX3_beginDay 76 = .ok (.getfield 21, 3) := by decide +kernel
theorem dX3_beginDay_82 : decode cX3_beginDay 82 = .ok (.ifCond .eq 16, 3) := by decide +kernel
theorem dX3_beginDay_98 : decode cX3_beginDay 98 = .ok (.aload_n 3, 1) := by decide +kernel
theorem dX3_beginDay_99 : decode cX3_beginDay 99 = .ok (.aload_n 0, 1) := by decide +kernel
theorem dX3_beginDay_100 : decode cX3_beginDay 100 = .ok (.getfield 21, 3) := by decide +kernel
theorem dX3_beginDay_106 : decode cX3_beginDay 106 = .ok (.iinc 2 1, 3) := by decide +kernel
theorem dX3_beginDay_109 : decode cX3_beginDay 109 = .ok (.goto (-58), 3) := by decide +kernel
theorem dX3_beginDay_103 : decode cX3_beginDay 103 = .ok (.invokevirtual 61, 3) := by decide +kernel
theorem dX3_beginDay_85 : decode cX3_beginDay 85 = .ok (.aload_n 0, 1) := by decide +kernel
theorem dX3_beginDay_86 : decode cX3_beginDay 86 = .ok (.aload_n 3, 1) := by decide +kernel
theorem dX3_beginDay_87 : decode cX3_beginDay 87 = .ok (.aload_n 0, 1) := by decide +kernel
theorem dX3_beginDay_88 : decode cX3_beginDay 88 = .ok (.aload_n 3, 1) := by decide +kernel
theorem dX3_beginDay_95 : decode cX3_beginDay 95 = .ok (.iinc 1 1, 3) := by decide +kernel
theorem dX3_beginDay_92 : decode cX3_beginDay 92 = .ok (.invokevirtual 57, 3) := by decide +kernel
theorem dX3_beginDay_89 : decode cX3_beginDay 89 = .ok (.invokevirtual 53, 3) := by decide +kernel
theorem dX3_beginDay_79 : decode cX3_beginDay 79 = .ok (.invokevirtual 49, 3) := by decide +kernel
theorem dX3_beginDay_67 : decode cX3_beginDay 67 = .ok (.invokevirtual 29, 3) := by decide +kernel
theorem dX3_beginDay_56 : decode cX3_beginDay 56 = .ok (.invokevirtual 25, 3) := by decide +kernel
theorem dX3_beginDay_23 : decode cX3_beginDay 23 = .ok (.aload_n 0, 1) := by decide +kernel
theorem dX3_beginDay_24 : decode cX3_beginDay 24 = .ok (.getfield 12, 3) := by decide +kernel
theorem dX3_beginDay_27 : decode cX3_beginDay 27 = .ok (.iload_n 1, 1) := by decide +kernel
theorem dX3_beginDay_31 : decode cX3_beginDay 31 = .ok (.checkcast 33, 3) := by decide +kernel
theorem dX3_beginDay_34 : decode cX3_beginDay 34 = .ok (.aload_n 0, 1) := by decide +kernel
theorem dX3_beginDay_35 : decode cX3_beginDay 35 = .ok (.getfield 21, 3) := by decide +kernel
theorem dX3_beginDay_41 : decode cX3_beginDay 41 = .ok (.iinc 1 1, 3) := by decide +kernel
theorem dX3_beginDay_44 : decode cX3_beginDay 44 = .ok (.goto (-32), 3) := by decide +kernel
theorem dX3_beginDay_38 : decode cX3_beginDay 38 = .ok (.invokevirtual 45, 3) := by decide +kernel
theorem dX3_beginDay_28 : decode cX3_beginDay 28 = .ok (.invokevirtual 29, 3) := by decide +kernel
theorem dX3_beginDay_17 : decode cX3_beginDay 17 = .ok (.invokevirtual 25, 3) := by decide +kernel
def v_X3_beginDay (a0 : Nat) (T : zT) (F : zF) (Post : Int32 → zF → Prop) : Prop :=
  (T a0 = some (4, 3) ∧ ∃ x3 : Int32, F a0 2 = .int x3 ∧ (∃ I4 : Nat → Int32 → zF → Prop, (∃ n6 : Nat, I4 n6 0 (zu F a0 2 (.int (x3 + 1)))) ∧ (∀ (n5 : Nat) (y7 : Int32) (F8 : zF), I4 n5 y7 F8 → (∃ x12 : Nat, F8 a0 0 = .ref x12 ∧ T x12 = some (0, 3) ∧ (v_Jx4a65c_size_8abf5 x12 T F8 (fun (r14 : Int32) => ((r14 ≤ y7 → (∃ I15 : Nat → Int32 → Int32 → zF → Prop, (∃ n17 : Nat, I15 n17 0 0 F8) ∧ (∀ (n16 : Nat) (y18 : Int32) (y19 : Int32) (F20 : zF), I15 n16 y18 y19 F20 → (∃ x24 : Nat, F20 a0 0 = .ref x24 ∧ T x24 = some (0, 3) ∧ (v_Jx4a65c_size_8abf5 x24 T F20 (fun (r26 : Int32) => ((r26 ≤ y19 → (∃ I27 : Nat → Int32 → zF → Prop, (∃ n29 : Nat, I27 n29 0 F20) ∧ (∀ (n28 : Nat) (y30 : Int32) (F31 : zF), I27 n28 y30 F31 → (∃ x35 : Nat, F31 a0 0 = .ref x35 ∧ T x35 = some (0, 3) ∧ (v_Jx4a65c_size_8abf5 x35 T F31 (fun (r37 : Int32) => ((r37 ≤ y30 → Post y18 F31) ∧ (¬ r37 ≤ y30 → (v_Jx4a65c_get_915e3 x35 y30 T F31 (fun (r38 : Nat) => (T r38 = some (2, 12) ∧ ∃ x41 : Int32, F31 a0 2 = .int x41 ∧ (v_X1_showOrPull r38 x41 T F31 (fun (F42 : zF) => (∃ n43 : Nat, n43 < n28 ∧ I27 n43 (y30 + 1) F42)))))))))))))) ∧ (¬ r26 ≤ y19 → (v_Jx4a65c_get_915e3 x24 y19 T F20 (fun (r56 : Nat) => (T r56 = some (2, 12) ∧ ∃ x59 : Int32, F20 a0 2 = .int x59 ∧ (v_X1_missesDeadline r56 x59 T F20 (fun (r60 : Int32) => ((r60 = 0 → (v_X1_startIfDue r56 x59 T F20 (fun (F61 : zF) => (∃ n62 : Nat, n62 < n16 ∧ I15 n62 y18 (y19 + 1) F61)))) ∧ (¬ r60 = 0 → (v_X3_firstSwap a0 r56 T F20 (fun (r66 : Option Nat) => ((r66 = none → (v_X3_settle a0 r56 none T F20 (fun (F67 : zF) => (∃ x69 : Int32, F67 a0 2 = .int x69 ∧ (v_X1_startIfDue r56 x69 T F67 (fun (F70 : zF) => (∃ n71 : Nat, n71 < n16 ∧ I15 n71 (y18 + 1) (y19 + 1) F70))))))) ∧ (∀ y78 : Nat, r66 = some y78 → (v_X3_settle a0 r56 ((some y78)) T F20 (fun (F79 : zF) => (∃ x81 : Int32, F79 a0 2 = .int x81 ∧ (v_X1_startIfDue r56 x81 T F79 (fun (F82 : zF) => (∃ n83 : Nat, n83 < n16 ∧ I15 n83 (y18 + 1) (y19 + 1) F82))))))))))))))))))))))))) ∧ (¬ r14 ≤ y7 → (v_Jx4a65c_get_915e3 x12 y7 T F8 (fun (r105 : Nat) => (T r105 = some (2, 12) ∧ ∃ x108 : Int32, F8 a0 2 = .int x108 ∧ (v_X1_endIfPast r105 x108 T F8 (fun (F109 : zF) => (∃ n110 : Nat, n110 < n5 ∧ I4 n110 (y7 + 1) F109))))))))))))))
set_option maxRecDepth 100000 in
set_option maxHeartbeats 4000000 in
theorem k_X3_beginDay {l : Launch} {D : va_G} {cA : Nat → ClassId} {N0 zE : Nat} {a0 : Nat} {T : zT} {F : zF} {Post : Int32 → zF → Prop} (h : v_X3_beginDay a0 T F Post) : z_Mt l D cA N0 zE yX3_beginDay cX3_beginDay 4 (some .int) ({ frames := 6, cells := 0, slots := 0, locals := 133 } : Room) [.ref a0] T F (fun v T' F' => ∃ r : Int32, v = some (.int r) ∧ T = T' ∧ Post r F') := by
  unfold v_X3_beginDay at h
  refine z_bodyT (by decide) (Nat.le_of_ble_eq_true rfl) ?_
  intro p e s m args below meth c C hnm
  have C : z_C p l s m args meth c RX3 cX3_beginDay 4 (some .int) D cA N0 zE := C
  show z_w p l e ({ frames := 6, cells := 0, slots := 0, locals := 133 } : Room) s m args below meth c D cA N0 4 0 0 (MQ below (z_Qc D cA N0 (fun v T' F' => ∃ r : Int32, v = some (.int r) ∧ T = T' ∧ Post r F')) args s 0 0 (fun q => N0 ≤ q)) 0 [(0, .ref a0)] [] T F
  refine zr_aload_n C 0 dX3_beginDay_0 rfl rfl ?_
  refine zr_dup C dX3_beginDay_1 rfl ?_
  obtain ⟨hT1, x3, hv2, h⟩ := h
  refine zr_get C fl_X3_21 hT1 hv2 dX3_beginDay_2 ?_
  refine zr_iconst C 1 dX3_beginDay_5 (by decide) ?_
  refine zr_iadd C dX3_beginDay_6 ?_
  refine zr_put C fl_X3_21 hT1 rfl rfl dX3_beginDay_7 ?_
  refine zr_iconst C 0 dX3_beginDay_10 (by decide) ?_
  refine zr_istore_n C [(1, .int 0), (0, .ref a0)] dX3_beginDay_11 rfl (by decide) rfl ?_
  obtain ⟨I4, ⟨n6, h0121⟩, hI120⟩ := h
  have ky122 : ∀ (n5 : Nat) (y7 : Int32) (F8 : zF), I4 n5 y7 F8 → z_w p l e ({ frames := 6, cells := 0, slots := 0, locals := 133 } : Room) s m args below meth c D cA N0 4 0 0 (MQ below (z_Qc D cA N0 (fun v T' F' => ∃ r : Int32, v = some (.int r) ∧ T = T' ∧ Post r F')) args s 0 0 (fun q => N0 ≤ q)) 12 [(0, .ref a0), (1, .int y7)] [] T F8 := by
    intro n5
    induction n5 using Nat.strongRecOn with
    | _ n5 ih9 =>
      intro y7 F8 hin
      have h := hI120 n5 y7 F8 hin
      refine zr_iload_n C 1 dX3_beginDay_12 rfl rfl ?_
      refine zr_aload_n C 0 dX3_beginDay_13 rfl rfl ?_
      obtain ⟨x12, hv11, h⟩ := h
      refine zr_get C fl_X3_12 hT1 hv11 dX3_beginDay_14 ?_
      obtain ⟨hT13, h⟩ := h
      refine zr_callV (As := []) (r := (RJx4a65c, TJx4a65c, 3)) C (k_Jx4a65c_size_8abf5 h) ok_X3_25 zq_112 zq_113 hT13 (by decide) rfl rfl ⟨by decide, (Nat.le_of_ble_eq_true rfl)⟩ ⟨(Nat.le_of_ble_eq_true rfl), (Nat.le_of_ble_eq_true rfl)⟩ (Nat.le_of_ble_eq_true rfl) dX3_beginDay_17 (fun v117 U118 G119 hq => ?_)
      clear h
      · obtain ⟨r14, rfl, rfl, rfl, h⟩ := hq
        obtain ⟨h1, h2⟩ := h
        refine zr_icmp_ge C 47 dX3_beginDay_20 (by decide) (fun hc => ?_) (fun hc => ?_)
        · have h := h1 hc
          clear h1 h2
          refine zr_iconst C 0 dX3_beginDay_47 (by decide) ?_
          refine zr_istore_n C [(1, .int 0), (0, .ref a0)] dX3_beginDay_48 rfl (by decide) rfl ?_
          refine zr_iconst C 0 dX3_beginDay_49 (by decide) ?_
          refine zr_istore_n C [(2, .int 0), (1, .int 0), (0, .ref a0)] dX3_beginDay_50 rfl (by decide) rfl ?_
          obtain ⟨I15, ⟨n17, h0103⟩, hI102⟩ := h
          have ky104 : ∀ (n16 : Nat) (y18 : Int32) (y19 : Int32) (F20 : zF), I15 n16 y18 y19 F20 → z_w p l e ({ frames := 6, cells := 0, slots := 0, locals := 133 } : Room) s m args below meth c D cA N0 4 0 0 (MQ below (z_Qc D cA N0 (fun v T' F' => ∃ r : Int32, v = some (.int r) ∧ T = T' ∧ Post r F')) args s 0 0 (fun q => N0 ≤ q)) 51 [(0, .ref a0), (1, .int y18), (2, .int y19)] [] T F20 := by
            intro n16
            induction n16 using Nat.strongRecOn with
            | _ n16 ih21 =>
              intro y18 y19 F20 hin
              have h := hI102 n16 y18 y19 F20 hin
              refine zr_iload_n C 2 dX3_beginDay_51 rfl rfl ?_
              refine zr_aload_n C 0 dX3_beginDay_52 rfl rfl ?_
              obtain ⟨x24, hv23, h⟩ := h
              refine zr_get C fl_X3_12 hT1 hv23 dX3_beginDay_53 ?_
              obtain ⟨hT25, h⟩ := h
              refine zr_callV (As := []) (r := (RJx4a65c, TJx4a65c, 3)) C (k_Jx4a65c_size_8abf5 h) ok_X3_25 zq_112 zq_113 hT25 (by decide) rfl rfl ⟨by decide, (Nat.le_of_ble_eq_true rfl)⟩ ⟨(Nat.le_of_ble_eq_true rfl), (Nat.le_of_ble_eq_true rfl)⟩ (Nat.le_of_ble_eq_true rfl) dX3_beginDay_56 (fun v99 U100 G101 hq => ?_)
              clear h
              · obtain ⟨r26, rfl, rfl, rfl, h⟩ := hq
                obtain ⟨h1, h2⟩ := h
                refine zr_icmp_ge C 112 dX3_beginDay_59 (by decide) (fun hc => ?_) (fun hc => ?_)
                · have h := h1 hc
                  clear h1 h2
                  refine zr_iconst C 0 dX3_beginDay_112 (by decide) ?_
                  refine zr_istore_n C [(2, .int 0), (0, .ref a0), (1, .int y18)] dX3_beginDay_113 rfl (by decide) rfl ?_
                  obtain ⟨I27, ⟨n29, h054⟩, hI53⟩ := h
                  have ky55 : ∀ (n28 : Nat) (y30 : Int32) (F31 : zF), I27 n28 y30 F31 → z_w p l e ({ frames := 6, cells := 0, slots := 0, locals := 133 } : Room) s m args below meth c D cA N0 4 0 0 (MQ below (z_Qc D cA N0 (fun v T' F' => ∃ r : Int32, v = some (.int r) ∧ T = T' ∧ Post r F')) args s 0 0 (fun q => N0 ≤ q)) 114 [(0, .ref a0), (1, .int y18), (2, .int y30)] [] T F31 := by
                    intro n28
                    induction n28 using Nat.strongRecOn with
                    | _ n28 ih32 =>
                      intro y30 F31 hin
                      have h := hI53 n28 y30 F31 hin
                      refine zr_iload_n C 2 dX3_beginDay_114 rfl rfl ?_
                      refine zr_aload_n C 0 dX3_beginDay_115 rfl rfl ?_
                      obtain ⟨x35, hv34, h⟩ := h
                      refine zr_get C fl_X3_12 hT1 hv34 dX3_beginDay_116 ?_
                      obtain ⟨hT36, h⟩ := h
                      refine zr_callV (As := []) (r := (RJx4a65c, TJx4a65c, 3)) C (k_Jx4a65c_size_8abf5 h) ok_X3_25 zq_112 zq_113 hT36 (by decide) rfl rfl ⟨by decide, (Nat.le_of_ble_eq_true rfl)⟩ ⟨(Nat.le_of_ble_eq_true rfl), (Nat.le_of_ble_eq_true rfl)⟩ (Nat.le_of_ble_eq_true rfl) dX3_beginDay_119 (fun v50 U51 G52 hq => ?_)
                      clear h
                      · obtain ⟨r37, rfl, rfl, rfl, h⟩ := hq
                        obtain ⟨h1, h2⟩ := h
                        refine zr_icmp_ge C 149 dX3_beginDay_122 (by decide) (fun hc => ?_) (fun hc => ?_)
                        · have h := h1 hc
                          clear h1 h2
                          refine zr_iload_n C 1 dX3_beginDay_149 rfl rfl ?_
                          exact zr_iret C rfl ⟨_, rfl, rfl, h⟩ (Nat.le_of_ble_eq_true rfl) (Nat.le_of_ble_eq_true rfl) dX3_beginDay_150
                        · have h := h2 hc
                          clear h1 h2
                          refine zr_aload_n C 0 dX3_beginDay_125 rfl rfl ?_
                          refine zr_get C fl_X3_12 hT1 hv34 dX3_beginDay_126 ?_
                          refine zr_iload_n C 2 dX3_beginDay_129 rfl rfl ?_
                          refine zr_callV (As := [.int y30]) (r := (RJx4a65c, TJx4a65c, 3)) C (k_Jx4a65c_get_915e3 h) ok_X3_29 zq_290 zq_291 hT36 (by decide) rfl rfl ⟨by decide, (Nat.le_of_ble_eq_true rfl)⟩ ⟨(Nat.le_of_ble_eq_true rfl), (Nat.le_of_ble_eq_true rfl)⟩ (Nat.le_of_ble_eq_true rfl) dX3_beginDay_130 (fun v47 U48 G49 hq => ?_)
                          clear h
                          · obtain ⟨r38, rfl, rfl, rfl, h⟩ := hq
                            obtain ⟨hT39, h⟩ := h
                            refine zr_castS (r := (RX1, TX1, 12)) C hT39 (by decide) rfl zq_402 dX3_beginDay_133 ?_
                            refine zr_aload_n C 0 dX3_beginDay_136 rfl rfl ?_
                            obtain ⟨x41, hv40, h⟩ := h
                            refine zr_get C fl_X3_21 hT1 hv40 dX3_beginDay_137 ?_
                            refine zr_callV (As := [.int x41]) (r := (RX1, TX1, 12)) C (k_X1_showOrPull h) ok_X3_64 zq_672 zq_673 hT39 (by decide) rfl rfl ⟨by decide, (Nat.le_of_ble_eq_true rfl)⟩ ⟨(Nat.le_of_ble_eq_true rfl), (Nat.le_of_ble_eq_true rfl)⟩ (Nat.le_of_ble_eq_true rfl) dX3_beginDay_140 (fun v44 U45 G46 hq => ?_)
                            clear h
                            · obtain ⟨rfl, rfl, h⟩ := hq
                              refine zr_iinc C [(2, .int (y30 + 1)), (0, .ref a0), (1, .int y18)] 2 dX3_beginDay_143 rfl rfl (by decide) rfl ?_
                              refine zr_goto C 114 dX3_beginDay_146 (by decide) ?_
                              obtain ⟨n43, hlt, h⟩ := h
                              exact zr_sub [1, 2, 0] rfl (ih32 n43 hlt (y30 + 1) G46 h)
                  exact zr_sub [1, 2, 0] rfl (ky55 n29 0 F20 h054)
                · have h := h2 hc
                  clear h1 h2
                  refine zr_aload_n C 0 dX3_beginDay_62 rfl rfl ?_
                  refine zr_get C fl_X3_12 hT1 hv23 dX3_beginDay_63 ?_
                  refine zr_iload_n C 2 dX3_beginDay_66 rfl rfl ?_
                  refine zr_callV (As := [.int y19]) (r := (RJx4a65c, TJx4a65c, 3)) C (k_Jx4a65c_get_915e3 h) ok_X3_29 zq_290 zq_291 hT25 (by decide) rfl rfl ⟨by decide, (Nat.le_of_ble_eq_true rfl)⟩ ⟨(Nat.le_of_ble_eq_true rfl), (Nat.le_of_ble_eq_true rfl)⟩ (Nat.le_of_ble_eq_true rfl) dX3_beginDay_67 (fun v96 U97 G98 hq => ?_)
                  clear h
                  · obtain ⟨r56, rfl, rfl, rfl, h⟩ := hq
                    obtain ⟨hT57, h⟩ := h
                    refine zr_castS (r := (RX1, TX1, 12)) C hT57 (by decide) rfl zq_402 dX3_beginDay_70 ?_
                    refine zr_astore_n C [(3, .ref r56), (0, .ref a0), (1, .int y18), (2, .int y19)] dX3_beginDay_73 rfl (by decide) rfl ?_
                    refine zr_aload_n C 0 dX3_beginDay_74 rfl rfl ?_
                    refine zr_aload_n C 1 dX3_beginDay_75 rfl rfl ?_
                    obtain ⟨x59, hv58, h⟩ := h
                    refine zr_get C fl_X3_21 hT1 hv58 dX3_beginDay_76 ?_
                    refine zr_callV (As := [.int x59]) (r := (RX1, TX1, 12)) C (k_X1_missesDeadline h) ok_X3_49 zq_634 zq_635 hT57 (by decide) rfl rfl ⟨by decide, (Nat.le_of_ble_eq_true rfl)⟩ ⟨(Nat.le_of_ble_eq_true rfl), (Nat.le_of_ble_eq_true rfl)⟩ (Nat.le_of_ble_eq_true rfl) dX3_beginDay_79 (fun v93 U94 G95 hq => ?_)
                    clear h
                    · obtain ⟨r60, rfl, rfl, rfl, h⟩ := hq
                      obtain ⟨h1, h2⟩ := h
                      refine zr_if_eq C 98 dX3_beginDay_82 (by decide) (fun hc => ?_) (fun hc => ?_)
                      · have h := h1 hc
                        clear h1 h2
                        refine zr_aload_n C 0 dX3_beginDay_98 rfl rfl ?_
                        refine zr_aload_n C 1 dX3_beginDay_99 rfl rfl ?_
                        refine zr_get C fl_X3_21 hT1 hv58 dX3_beginDay_100 ?_
                        refine zr_callV (As := [.int x59]) (r := (RX1, TX1, 12)) C (k_X1_startIfDue h) ok_X3_61 zq_668 zq_669 hT57 (by decide) rfl rfl ⟨by decide, (Nat.le_of_ble_eq_true rfl)⟩ ⟨(Nat.le_of_ble_eq_true rfl), (Nat.le_of_ble_eq_true rfl)⟩ (Nat.le_of_ble_eq_true rfl) dX3_beginDay_103 (fun v63 U64 G65 hq => ?_)
                        clear h
                        · obtain ⟨rfl, rfl, h⟩ := hq
                          refine zr_iinc C [(2, .int (y19 + 1)), (3, .ref r56), (0, .ref a0), (1, .int y18)] 3 dX3_beginDay_106 rfl rfl (by decide) rfl ?_
                          refine zr_goto C 51 dX3_beginDay_109 (by decide) ?_
                          obtain ⟨n62, hlt, h⟩ := h
                          exact zr_sub [2, 3, 0] rfl (ih21 n62 hlt y18 (y19 + 1) G65 h)
                      · have h := h2 hc
                        clear h1 h2
                        refine zr_aload_n C 1 dX3_beginDay_85 rfl rfl ?_
                        refine zr_aload_n C 0 dX3_beginDay_86 rfl rfl ?_
                        refine zr_aload_n C 1 dX3_beginDay_87 rfl rfl ?_
                        refine zr_aload_n C 0 dX3_beginDay_88 rfl rfl ?_
                        refine zr_callV (As := [.ref r56]) (r := (RX3, TX3, 3)) C (k_X3_firstSwap h) ok_X3_53 zq_509 zq_510 hT1 (by decide) rfl rfl ⟨by decide, (Nat.le_of_ble_eq_true rfl)⟩ ⟨(Nat.le_of_ble_eq_true rfl), (Nat.le_of_ble_eq_true rfl)⟩ (Nat.le_of_ble_eq_true rfl) dX3_beginDay_89 (fun v90 U91 G92 hq => ?_)
                        clear h
                        · obtain ⟨r66, rfl, rfl, rfl, h⟩ := hq
                          obtain ⟨ha, hb⟩ := h
                          cases r66 with
                          | none =>
                            have h := ha rfl
                            refine zr_callV (As := [.ref r56, .null]) (r := (RX3, TX3, 3)) C (k_X3_settle h) ok_X3_57 zq_641 zq_13 hT1 (by decide) rfl rfl ⟨by decide, (Nat.le_of_ble_eq_true rfl)⟩ ⟨(Nat.le_of_ble_eq_true rfl), (Nat.le_of_ble_eq_true rfl)⟩ (Nat.le_of_ble_eq_true rfl) dX3_beginDay_92 (fun v75 U76 G77 hq => ?_)
                            clear h
                            · obtain ⟨rfl, rfl, h⟩ := hq
                              refine zr_iinc C [(1, .int (y18 + 1)), (3, .ref r56), (0, .ref a0), (2, .int y19)] 2 dX3_beginDay_95 rfl rfl (by decide) rfl ?_
                              refine zr_aload_n C 1 dX3_beginDay_98 rfl rfl ?_
                              refine zr_aload_n C 2 dX3_beginDay_99 rfl rfl ?_
                              obtain ⟨x69, hv68, h⟩ := h
                              refine zr_get C fl_X3_21 hT1 hv68 dX3_beginDay_100 ?_
                              refine zr_callV (As := [.int x69]) (r := (RX1, TX1, 12)) C (k_X1_startIfDue h) ok_X3_61 zq_668 zq_669 hT57 (by decide) rfl rfl ⟨by decide, (Nat.le_of_ble_eq_true rfl)⟩ ⟨(Nat.le_of_ble_eq_true rfl), (Nat.le_of_ble_eq_true rfl)⟩ (Nat.le_of_ble_eq_true rfl) dX3_beginDay_103 (fun v72 U73 G74 hq => ?_)
                              clear h
                              · obtain ⟨rfl, rfl, h⟩ := hq
                                refine zr_iinc C [(2, .int (y19 + 1)), (1, .int (y18 + 1)), (3, .ref r56), (0, .ref a0)] 3 dX3_beginDay_106 rfl rfl (by decide) rfl ?_
                                refine zr_goto C 51 dX3_beginDay_109 (by decide) ?_
                                obtain ⟨n71, hlt, h⟩ := h
                                exact zr_sub [3, 1, 0] rfl (ih21 n71 hlt (y18 + 1) (y19 + 1) G74 h)
                          | some y78 =>
                            have h := hb y78 rfl
                            refine zr_callV (As := [.ref r56, .ref y78]) (r := (RX3, TX3, 3)) C (k_X3_settle h) ok_X3_57 zq_641 zq_13 hT1 (by decide) rfl rfl ⟨by decide, (Nat.le_of_ble_eq_true rfl)⟩ ⟨(Nat.le_of_ble_eq_true rfl), (Nat.le_of_ble_eq_true rfl)⟩ (Nat.le_of_ble_eq_true rfl) dX3_beginDay_92 (fun v87 U88 G89 hq => ?_)
                            clear h
                            · obtain ⟨rfl, rfl, h⟩ := hq
                              refine zr_iinc C [(1, .int (y18 + 1)), (3, .ref r56), (0, .ref a0), (2, .int y19)] 2 dX3_beginDay_95 rfl rfl (by decide) rfl ?_
                              refine zr_aload_n C 1 dX3_beginDay_98 rfl rfl ?_
                              refine zr_aload_n C 2 dX3_beginDay_99 rfl rfl ?_
                              obtain ⟨x81, hv80, h⟩ := h
                              refine zr_get C fl_X3_21 hT1 hv80 dX3_beginDay_100 ?_
                              refine zr_callV (As := [.int x81]) (r := (RX1, TX1, 12)) C (k_X1_startIfDue h) ok_X3_61 zq_668 zq_669 hT57 (by decide) rfl rfl ⟨by decide, (Nat.le_of_ble_eq_true rfl)⟩ ⟨(Nat.le_of_ble_eq_true rfl), (Nat.le_of_ble_eq_true rfl)⟩ (Nat.le_of_ble_eq_true rfl) dX3_beginDay_103 (fun v84 U85 G86 hq => ?_)
                              clear h
                              · obtain ⟨rfl, rfl, h⟩ := hq
                                refine zr_iinc C [(2, .int (y19 + 1)), (1, .int (y18 + 1)), (3, .ref r56), (0, .ref a0)] 3 dX3_beginDay_106 rfl rfl (by decide) rfl ?_
                                refine zr_goto C 51 dX3_beginDay_109 (by decide) ?_
                                obtain ⟨n83, hlt, h⟩ := h
                                exact zr_sub [3, 1, 0] rfl (ih21 n83 hlt (y18 + 1) (y19 + 1) G86 h)
          exact zr_sub [2, 1, 0] rfl (ky104 n17 0 0 F8 h0103)
        · have h := h2 hc
          clear h1 h2
          refine zr_aload_n C 0 dX3_beginDay_23 rfl rfl ?_
          refine zr_get C fl_X3_12 hT1 hv11 dX3_beginDay_24 ?_
          refine zr_iload_n C 1 dX3_beginDay_27 rfl rfl ?_
          refine zr_callV (As := [.int y7]) (r := (RJx4a65c, TJx4a65c, 3)) C (k_Jx4a65c_get_915e3 h) ok_X3_29 zq_290 zq_291 hT13 (by decide) rfl rfl ⟨by decide, (Nat.le_of_ble_eq_true rfl)⟩ ⟨(Nat.le_of_ble_eq_true rfl), (Nat.le_of_ble_eq_true rfl)⟩ (Nat.le_of_ble_eq_true rfl) dX3_beginDay_28 (fun v114 U115 G116 hq => ?_)
          clear h
          · obtain ⟨r105, rfl, rfl, rfl, h⟩ := hq
            obtain ⟨hT106, h⟩ := h
            refine zr_castS (r := (RX1, TX1, 12)) C hT106 (by decide) rfl zq_402 dX3_beginDay_31 ?_
            refine zr_aload_n C 0 dX3_beginDay_34 rfl rfl ?_
            obtain ⟨x108, hv107, h⟩ := h
            refine zr_get C fl_X3_21 hT1 hv107 dX3_beginDay_35 ?_
            refine zr_callV (As := [.int x108]) (r := (RX1, TX1, 12)) C (k_X1_endIfPast h) ok_X3_45 zq_630 zq_631 hT106 (by decide) rfl rfl ⟨by decide, (Nat.le_of_ble_eq_true rfl)⟩ ⟨(Nat.le_of_ble_eq_true rfl), (Nat.le_of_ble_eq_true rfl)⟩ (Nat.le_of_ble_eq_true rfl) dX3_beginDay_38 (fun v111 U112 G113 hq => ?_)
            clear h
            · obtain ⟨rfl, rfl, h⟩ := hq
              refine zr_iinc C [(1, .int (y7 + 1)), (0, .ref a0)] 1 dX3_beginDay_41 rfl rfl (by decide) rfl ?_
              refine zr_goto C 12 dX3_beginDay_44 (by decide) ?_
              obtain ⟨n110, hlt, h⟩ := h
              exact zr_sub [1, 0] rfl (ih9 n110 hlt (y7 + 1) G113 h)
  exact zr_sub [1, 0] rfl (ky122 n6 0 (zu F a0 2 (.int (x3 + 1))) h0121)
theorem dX3_bookingShownAt_0 : decode cX3_bookingShownAt 0 = .ok (.iconst 0, 1) := by decide +kernel
theorem dX3_bookingShownAt_1 : decode cX3_bookingShownAt 1 = .ok (.istore 4, 2) := by decide +kernel
theorem dX3_bookingShownAt_3 : decode cX3_bookingShownAt 3 = .ok (.iload 4, 2) := by decide +kernel
theorem dX3_bookingShownAt_5 : decode cX3_bookingShownAt 5 = .ok (.aload_n 0, 1) := by decide +kernel
theorem dX3_bookingShownAt_6 : decode cX3_bookingShownAt 6 = .ok (.getfield 12, 3) := by decide +kernel
theorem dX3_bookingShownAt_12 : decode cX3_bookingShownAt 12 = .ok (.if_icmp .ge 63, 3) := by decide +kernel
theorem dX3_bookingShownAt_75 : decode cX3_bookingShownAt 75 = .ok (.iconst (-1), 1) := by decide +kernel
theorem dX3_bookingShownAt_76 : decode cX3_bookingShownAt 76 = .ok (.ireturn, 1) := by decide +kernel
theorem dX3_bookingShownAt_15 : decode cX3_bookingShownAt 15 = .ok (.aload_n 0, 1) := by decide +kernel
theorem dX3_bookingShownAt_16 : decode cX3_bookingShownAt 16 = .ok (.getfield 12, 3) := by decide +kernel
theorem dX3_bookingShownAt_19 : decode cX3_bookingShownAt 19 = .ok (.iload 4, 2) := by decide +kernel
theorem dX3_bookingShownAt_24 : decode cX3_bookingShownAt 24 = .ok (.checkcast 33, 3) := by decide +kernel
theorem dX3_bookingShownAt_27 : decode cX3_bookingShownAt 27 = .ok (.astore 5, 2) := by decide +kernel
theorem dX3_bookingShownAt_29 : decode cX3_bookingShownAt 29 = .ok (.aload 5, 2) := by decide +kernel
theorem dX3_bookingShownAt_34 : decode cX3_bookingShownAt 34 = .ok (.ifCond .ne 12, 3) := by decide +kernel
theorem dX3_bookingShownAt_46 : decode cX3_bookingShownAt 46 = .ok (.aload 5, 2) := by decide +kernel
theorem dX3_bookingShownAt_48 : decode cX3_bookingShownAt 48 = .ok (.iload_n 1, 1) := by decide +kernel
theorem dX3_bookingShownAt_49 : decode cX3_bookingShownAt 49 = .ok (.iload_n 2, 1) := by decide +kernel
theorem dX3_bookingShownAt_53 : decode cX3_bookingShownAt 53 = .ok (.ifCond .eq 16, 3) := by decide +kernel
theorem dX3_bookingShownAt_69 : decode cX3_bookingShownAt 69 = .ok (.iinc 4 1, 3) := by decide +kernel
theorem dX3_bookingShownAt_72 : decode cX3_bookingShownAt 72 = .ok (.goto (-69), 3) := by decide +kernel
theorem dX3_bookingShownAt_56 : decode cX3_bookingShownAt 56 = .ok (.aload 5, 2) := by decide +kernel
theorem dX3_bookingShownAt_58 : decode cX3_bookingShownAt 58 = .ok (.iload_n 3, 1) := by decide +kernel
theorem dX3_bookingShownAt_59 : decode cX3_bookingShownAt 59 = .ok (.iload_n 3, 1) := by decide +kernel
theorem dX3_bookingShownAt_63 : decode cX3_bookingShownAt 63 = .ok (.ifCond .eq 6, 3) := by decide +kernel
theorem dX3_bookingShownAt_66 : decode cX3_bookingShownAt 66 = .ok (.iload 4, 2) := by decide +kernel
theorem dX3_bookingShownAt_68 : decode cX3_bookingShownAt 68 = .ok (.ireturn, 1) := by decide +kernel
theorem dX3_bookingShownAt_60 : decode cX3_bookingShownAt 60 = .ok (.invokevirtual 104, 3) := by decide +kernel
theorem dX3_bookingShownAt_50 : decode cX3_bookingShownAt 50 = .ok (.invokevirtual 100, 3) := by decide +kernel
theorem dX3_bookingShownAt_37 : decode cX3_bookingShownAt 37 = .ok (.aload 5, 2) := by decide +kernel
theorem dX3_bookingShownAt_39 : decode cX3_bookingShownAt 39 = .ok (.getfield 94, 3) := by decide +kernel
theorem dX3_bookingShownAt_42 : decode cX3_bookingShownAt 42 = .ok (.iconst 2, 1) := by decide +kernel
theorem dX3_bookingShownAt_43 : decode cX3_bookingShownAt 43 = .ok (.if_icmp .ne 26, 3) := by decide +kernel
theorem dX3_bookingShownAt_31 : decode cX3_bookingShownAt 31 = .ok (.invokevirtual 97, 3) := by decide +kernel
theorem dX3_bookingShownAt_21 : decode cX3_bookingShownAt 21 = .ok (.invokevirtual 29, 3) := by decide +kernel
theorem dX3_bookingShownAt_9 : decode cX3_bookingShownAt 9 = .ok (.invokevirtual 25, 3) := by decide +kernel
def v_X3_bookingShownAt (a0 : Nat) (p1 : Int32) (p2 : Int32) (p3 : Int32) (T : zT) (F : zF) (Post : Int32 → Prop) : Prop :=
  (∃ I1 : Nat → Int32 → Prop, (∃ n3 : Nat, I1 n3 0) ∧ (∀ (n2 : Nat) (y4 : Int32), I1 n2 y4 → (T a0 = some (4, 3) ∧ ∃ x9 : Nat, F a0 0 = .ref x9 ∧ T x9 = some (0, 3) ∧ (v_Jx4a65c_size_8abf5 x9 T F (fun (r11 : Int32) => ((r11 ≤ y4 → Post ((-1))) ∧ (¬ r11 ≤ y4 → (v_Jx4a65c_get_915e3 x9 y4 T F (fun (r12 : Nat) => (T r12 = some (2, 12) ∧ (v_X1_isOpen r12 T F (fun (r14 : Int32) => ((¬ r14 = 0 → (v_X1_isIn r12 p1 p2 T F (fun (r15 : Int32) => ((r15 = 0 → (∃ n16 : Nat, n16 < n2 ∧ I1 n16 (y4 + 1))) ∧ (¬ r15 = 0 → (v_X1_hasDayIn r12 p3 p3 T F (fun (r17 : Int32) => ((r17 = 0 → (∃ n18 : Nat, n18 < n2 ∧ I1 n18 (y4 + 1))) ∧ (¬ r17 = 0 → Post y4))))))))) ∧ (r14 = 0 → (∃ x26 : Int32, F r12 6 = .int x26 ∧ ((¬ x26 = 2 → (∃ n27 : Nat, n27 < n2 ∧ I1 n27 (y4 + 1))) ∧ (x26 = 2 → (v_X1_isIn r12 p1 p2 T F (fun (r28 : Int32) => ((r28 = 0 → (∃ n29 : Nat, n29 < n2 ∧ I1 n29 (y4 + 1))) ∧ (¬ r28 = 0 → (v_X1_hasDayIn r12 p3 p3 T F (fun (r30 : Int32) => ((r30 = 0 → (∃ n31 : Nat, n31 < n2 ∧ I1 n31 (y4 + 1))) ∧ (¬ r30 = 0 → Post y4)))))))))))))))))))))))))
set_option maxRecDepth 100000 in
set_option maxHeartbeats 4000000 in
theorem k_X3_bookingShownAt {l : Launch} {D : va_G} {cA : Nat → ClassId} {N0 zE : Nat} {a0 : Nat} {p1 : Int32} {p2 : Int32} {p3 : Int32} {T : zT} {F : zF} {Post : Int32 → Prop} (h : v_X3_bookingShownAt a0 p1 p2 p3 T F Post) : z_Mt l D cA N0 zE yX3_bookingShownAt cX3_bookingShownAt 6 (some .int) ({ frames := 3, cells := 0, slots := 0, locals := 64 } : Room) [.ref a0, .int p1, .int p2, .int p3] T F (fun v T' F' => ∃ r : Int32, v = some (.int r) ∧ T = T' ∧ F = F' ∧ Post r) := by
  unfold v_X3_bookingShownAt at h
  refine z_bodyT (by decide) (Nat.le_of_ble_eq_true rfl) ?_
  intro p e s m args below meth c C hnm
  have C : z_C p l s m args meth c RX3 cX3_bookingShownAt 6 (some .int) D cA N0 zE := C
  show z_w p l e ({ frames := 3, cells := 0, slots := 0, locals := 64 } : Room) s m args below meth c D cA N0 6 0 0 (MQ below (z_Qc D cA N0 (fun v T' F' => ∃ r : Int32, v = some (.int r) ∧ T = T' ∧ F = F' ∧ Post r)) args s 0 0 (fun q => N0 ≤ q)) 0 [(0, .ref a0), (1, .int p1), (2, .int p2), (3, .int p3)] [] T F
  refine zr_iconst C 0 dX3_bookingShownAt_0 (by decide) ?_
  refine zr_istore C [(4, .int 0), (0, .ref a0), (1, .int p1), (2, .int p2), (3, .int p3)] dX3_bookingShownAt_1 (by decide) rfl ?_
  obtain ⟨I1, ⟨n3, h048⟩, hI47⟩ := h
  have ky49 : ∀ (n2 : Nat) (y4 : Int32), I1 n2 y4 → z_w p l e ({ frames := 3, cells := 0, slots := 0, locals := 64 } : Room) s m args below meth c D cA N0 6 0 0 (MQ below (z_Qc D cA N0 (fun v T' F' => ∃ r : Int32, v = some (.int r) ∧ T = T' ∧ F = F' ∧ Post r)) args s 0 0 (fun q => N0 ≤ q)) 3 [(0, .ref a0), (1, .int p1), (2, .int p2), (3, .int p3), (4, .int y4)] [] T F := by
    intro n2
    induction n2 using Nat.strongRecOn with
    | _ n2 ih5 =>
      intro y4 hin
      have h := hI47 n2 y4 hin
      refine zr_iload C 4 dX3_bookingShownAt_3 rfl ?_
      refine zr_aload_n C 0 dX3_bookingShownAt_5 rfl rfl ?_
      obtain ⟨hT7, x9, hv8, h⟩ := h
      refine zr_get C fl_X3_12 hT7 hv8 dX3_bookingShownAt_6 ?_
      obtain ⟨hT10, h⟩ := h
      refine zr_callV (As := []) (r := (RJx4a65c, TJx4a65c, 3)) C (k_Jx4a65c_size_8abf5 h) ok_X3_25 zq_112 zq_113 hT10 (by decide) rfl rfl ⟨by decide, (Nat.le_of_ble_eq_true rfl)⟩ ⟨(Nat.le_of_ble_eq_true rfl), (Nat.le_of_ble_eq_true rfl)⟩ (Nat.le_of_ble_eq_true rfl) dX3_bookingShownAt_9 (fun v44 U45 G46 hq => ?_)
      clear h
      · obtain ⟨r11, rfl, rfl, rfl, h⟩ := hq
        obtain ⟨h1, h2⟩ := h
        refine zr_icmp_ge C 75 dX3_bookingShownAt_12 (by decide) (fun hc => ?_) (fun hc => ?_)
        · have h := h1 hc
          clear h1 h2
          refine zr_iconst C (-1) dX3_bookingShownAt_75 (by decide) ?_
          exact zr_iret C rfl ⟨_, rfl, rfl, rfl, h⟩ (Nat.le_of_ble_eq_true rfl) (Nat.le_of_ble_eq_true rfl) dX3_bookingShownAt_76
        · have h := h2 hc
          clear h1 h2
          refine zr_aload_n C 0 dX3_bookingShownAt_15 rfl rfl ?_
          refine zr_get C fl_X3_12 hT7 hv8 dX3_bookingShownAt_16 ?_
          refine zr_iload C 4 dX3_bookingShownAt_19 rfl ?_
          refine zr_callV (As := [.int y4]) (r := (RJx4a65c, TJx4a65c, 3)) C (k_Jx4a65c_get_915e3 h) ok_X3_29 zq_290 zq_291 hT10 (by decide) rfl rfl ⟨by decide, (Nat.le_of_ble_eq_true rfl)⟩ ⟨(Nat.le_of_ble_eq_true rfl), (Nat.le_of_ble_eq_true rfl)⟩ (Nat.le_of_ble_eq_true rfl) dX3_bookingShownAt_21 (fun v41 U42 G43 hq => ?_)
          clear h
          · obtain ⟨r12, rfl, rfl, rfl, h⟩ := hq
            obtain ⟨hT13, h⟩ := h
            refine zr_castS (r := (RX1, TX1, 12)) C hT13 (by decide) rfl zq_402 dX3_bookingShownAt_24 ?_
            refine zr_astore C [(5, .ref r12), (0, .ref a0), (1, .int p1), (2, .int p2), (3, .int p3), (4, .int y4)] dX3_bookingShownAt_27 (by decide) rfl ?_
            refine zr_aload C 0 dX3_bookingShownAt_29 rfl ?_
            refine zr_callV (As := []) (r := (RX1, TX1, 12)) C (k_X1_isOpen h) ok_X3_97 zq_458 zq_459 hT13 (by decide) rfl rfl ⟨by decide, (Nat.le_of_ble_eq_true rfl)⟩ ⟨(Nat.le_of_ble_eq_true rfl), (Nat.le_of_ble_eq_true rfl)⟩ (Nat.le_of_ble_eq_true rfl) dX3_bookingShownAt_31 (fun v38 U39 G40 hq => ?_)
            clear h
            · obtain ⟨r14, rfl, rfl, rfl, h⟩ := hq
              obtain ⟨h1, h2⟩ := h
              refine zr_if_ne C 46 dX3_bookingShownAt_34 (by decide) (fun hc => ?_) (fun hc => ?_)
              · have h := h1 hc
                clear h1 h2
                refine zr_aload C 0 dX3_bookingShownAt_46 rfl ?_
                refine zr_iload_n C 2 dX3_bookingShownAt_48 rfl rfl ?_
                refine zr_iload_n C 3 dX3_bookingShownAt_49 rfl rfl ?_
                refine zr_callV (As := [.int p1, .int p2]) (r := (RX1, TX1, 12)) C (k_X1_isIn h) ok_X3_100 zq_656 zq_657 hT13 (by decide) rfl rfl ⟨by decide, (Nat.le_of_ble_eq_true rfl)⟩ ⟨(Nat.le_of_ble_eq_true rfl), (Nat.le_of_ble_eq_true rfl)⟩ (Nat.le_of_ble_eq_true rfl) dX3_bookingShownAt_50 (fun v22 U23 G24 hq => ?_)
                clear h
                · obtain ⟨r15, rfl, rfl, rfl, h⟩ := hq
                  obtain ⟨h1, h2⟩ := h
                  refine zr_if_eq C 69 dX3_bookingShownAt_53 (by decide) (fun hc => ?_) (fun hc => ?_)
                  · have h := h1 hc
                    clear h1 h2
                    refine zr_iinc C [(4, .int (y4 + 1)), (5, .ref r12), (0, .ref a0), (1, .int p1), (2, .int p2), (3, .int p3)] 5 dX3_bookingShownAt_69 rfl rfl (by decide) rfl ?_
                    refine zr_goto C 3 dX3_bookingShownAt_72 (by decide) ?_
                    obtain ⟨n16, hlt, h⟩ := h
                    exact zr_sub [2, 3, 4, 5, 0] rfl (ih5 n16 hlt (y4 + 1) h)
                  · have h := h2 hc
                    clear h1 h2
                    refine zr_aload C 0 dX3_bookingShownAt_56 rfl ?_
                    refine zr_iload_n C 4 dX3_bookingShownAt_58 rfl rfl ?_
                    refine zr_iload_n C 4 dX3_bookingShownAt_59 rfl rfl ?_
                    refine zr_callV (As := [.int p3, .int p3]) (r := (RX1, TX1, 12)) C (k_X1_hasDayIn h) ok_X3_104 zq_660 zq_661 hT13 (by decide) rfl rfl ⟨by decide, (Nat.le_of_ble_eq_true rfl)⟩ ⟨(Nat.le_of_ble_eq_true rfl), (Nat.le_of_ble_eq_true rfl)⟩ (Nat.le_of_ble_eq_true rfl) dX3_bookingShownAt_60 (fun v19 U20 G21 hq => ?_)
                    clear h
                    · obtain ⟨r17, rfl, rfl, rfl, h⟩ := hq
                      obtain ⟨h1, h2⟩ := h
                      refine zr_if_eq C 69 dX3_bookingShownAt_63 (by decide) (fun hc => ?_) (fun hc => ?_)
                      · have h := h1 hc
                        clear h1 h2
                        refine zr_iinc C [(4, .int (y4 + 1)), (5, .ref r12), (0, .ref a0), (1, .int p1), (2, .int p2), (3, .int p3)] 5 dX3_bookingShownAt_69 rfl rfl (by decide) rfl ?_
                        refine zr_goto C 3 dX3_bookingShownAt_72 (by decide) ?_
                        obtain ⟨n18, hlt, h⟩ := h
                        exact zr_sub [2, 3, 4, 5, 0] rfl (ih5 n18 hlt (y4 + 1) h)
                      · have h := h2 hc
                        clear h1 h2
                        refine zr_iload C 5 dX3_bookingShownAt_66 rfl ?_
                        exact zr_iret C rfl ⟨_, rfl, rfl, rfl, h⟩ (Nat.le_of_ble_eq_true rfl) (Nat.le_of_ble_eq_true rfl) dX3_bookingShownAt_68
              · have h := h2 hc
                clear h1 h2
                refine zr_aload C 0 dX3_bookingShownAt_37 rfl ?_
                obtain ⟨x26, hv25, h⟩ := h
                refine zr_get C fl_X3_94 hT13 hv25 dX3_bookingShownAt_39 ?_
                refine zr_iconst C 2 dX3_bookingShownAt_42 (by decide) ?_
                obtain ⟨h1, h2⟩ := h
                refine zr_icmp_ne C 69 dX3_bookingShownAt_43 (by decide) (fun hc => ?_) (fun hc => ?_)
                · have h := h1 hc
                  clear h1 h2
                  refine zr_iinc C [(4, .int (y4 + 1)), (5, .ref r12), (0, .ref a0), (1, .int p1), (2, .int p2), (3, .int p3)] 5 dX3_bookingShownAt_69 rfl rfl (by decide) rfl ?_
                  refine zr_goto C 3 dX3_bookingShownAt_72 (by decide) ?_
                  obtain ⟨n27, hlt, h⟩ := h
                  exact zr_sub [2, 3, 4, 5, 0] rfl (ih5 n27 hlt (y4 + 1) h)
                · have h := h2 hc
                  clear h1 h2
                  refine zr_aload C 0 dX3_bookingShownAt_46 rfl ?_
                  refine zr_iload_n C 2 dX3_bookingShownAt_48 rfl rfl ?_
                  refine zr_iload_n C 3 dX3_bookingShownAt_49 rfl rfl ?_
                  refine zr_callV (As := [.int p1, .int p2]) (r := (RX1, TX1, 12)) C (k_X1_isIn h) ok_X3_100 zq_656 zq_657 hT13 (by decide) rfl rfl ⟨by decide, (Nat.le_of_ble_eq_true rfl)⟩ ⟨(Nat.le_of_ble_eq_true rfl), (Nat.le_of_ble_eq_true rfl)⟩ (Nat.le_of_ble_eq_true rfl) dX3_bookingShownAt_50 (fun v35 U36 G37 hq => ?_)
                  clear h
                  · obtain ⟨r28, rfl, rfl, rfl, h⟩ := hq
                    obtain ⟨h1, h2⟩ := h
                    refine zr_if_eq C 69 dX3_bookingShownAt_53 (by decide) (fun hc => ?_) (fun hc => ?_)
                    · have h := h1 hc
                      clear h1 h2
                      refine zr_iinc C [(4, .int (y4 + 1)), (5, .ref r12), (0, .ref a0), (1, .int p1), (2, .int p2), (3, .int p3)] 5 dX3_bookingShownAt_69 rfl rfl (by decide) rfl ?_
                      refine zr_goto C 3 dX3_bookingShownAt_72 (by decide) ?_
                      obtain ⟨n29, hlt, h⟩ := h
                      exact zr_sub [2, 3, 4, 5, 0] rfl (ih5 n29 hlt (y4 + 1) h)
                    · have h := h2 hc
                      clear h1 h2
                      refine zr_aload C 0 dX3_bookingShownAt_56 rfl ?_
                      refine zr_iload_n C 4 dX3_bookingShownAt_58 rfl rfl ?_
                      refine zr_iload_n C 4 dX3_bookingShownAt_59 rfl rfl ?_
                      refine zr_callV (As := [.int p3, .int p3]) (r := (RX1, TX1, 12)) C (k_X1_hasDayIn h) ok_X3_104 zq_660 zq_661 hT13 (by decide) rfl rfl ⟨by decide, (Nat.le_of_ble_eq_true rfl)⟩ ⟨(Nat.le_of_ble_eq_true rfl), (Nat.le_of_ble_eq_true rfl)⟩ (Nat.le_of_ble_eq_true rfl) dX3_bookingShownAt_60 (fun v32 U33 G34 hq => ?_)
                      clear h
                      · obtain ⟨r30, rfl, rfl, rfl, h⟩ := hq
                        obtain ⟨h1, h2⟩ := h
                        refine zr_if_eq C 69 dX3_bookingShownAt_63 (by decide) (fun hc => ?_) (fun hc => ?_)
                        · have h := h1 hc
                          clear h1 h2
                          refine zr_iinc C [(4, .int (y4 + 1)), (5, .ref r12), (0, .ref a0), (1, .int p1), (2, .int p2), (3, .int p3)] 5 dX3_bookingShownAt_69 rfl rfl (by decide) rfl ?_
                          refine zr_goto C 3 dX3_bookingShownAt_72 (by decide) ?_
                          obtain ⟨n31, hlt, h⟩ := h
                          exact zr_sub [2, 3, 4, 5, 0] rfl (ih5 n31 hlt (y4 + 1) h)
                        · have h := h2 hc
                          clear h1 h2
                          refine zr_iload C 5 dX3_bookingShownAt_66 rfl ?_
                          exact zr_iret C rfl ⟨_, rfl, rfl, rfl, h⟩ (Nat.le_of_ble_eq_true rfl) (Nat.le_of_ble_eq_true rfl) dX3_bookingShownAt_68
  exact zr_sub [1, 2, 3, 4, 0] rfl (ky49 n3 0 h048)
theorem dX3_countInState_0 : decode cX3_countInState 0 = .ok (.iconst 0, 1) := by decide +kernel
theorem dX3_countInState_1 : decode cX3_countInState 1 = .ok (.istore_n 2, 1) := by decide +kernel
theorem dX3_countInState_2 : decode cX3_countInState 2 = .ok (.iconst 0, 1) := by decide +kernel
theorem dX3_countInState_3 : decode cX3_countInState 3 = .ok (.istore_n 3, 1) := by decide +kernel
theorem dX3_countInState_4 : decode cX3_countInState 4 = .ok (.iload_n 3, 1) := by decide +kernel
theorem dX3_countInState_5 : decode cX3_countInState 5 = .ok (.aload_n 0, 1) := by decide +kernel
theorem dX3_countInState_6 : decode cX3_countInState 6 = .ok (.getfield 12, 3) := by decide +kernel
theorem dX3_countInState_12 : decode cX3_countInState 12 = .ok (.if_icmp .ge 30, 3) := by decide +kernel
theorem dX3_countInState_42 : decode cX3_countInState 42 = .ok (.iload_n 2, 1) := by decide +kernel
theorem dX3_countInState_43 : decode cX3_countInState 43 = .ok (.ireturn, 1) := by decide +kernel
theorem dX3_countInState_15 : decode cX3_countInState 15 = .ok (.aload_n 0, 1) := by decide +kernel
theorem dX3_countInState_16 : decode cX3_countInState 16 = .ok (.getfield 12, 3) := by decide +kernel
theorem dX3_countInState_19 : decode cX3_countInState 19 = .ok (.iload_n 3, 1) := by decide +kernel
theorem dX3_countInState_23 : decode cX3_countInState 23 = .ok (.checkcast 33, 3) := by decide +kernel
theorem dX3_countInState_26 : decode cX3_countInState 26 = .ok (.getfield 94, 3) := by decide +kernel
theorem dX3_countInState_29 : decode cX3_countInState 29 = .ok (.iload_n 1, 1) := by decide +kernel
theorem dX3_countInState_30 : decode cX3_countInState 30 = .ok (.if_icmp .ne 6, 3) := by decide +kernel
theorem dX3_countInState_36 : decode cX3_countInState 36 = .ok (.iinc 3 1, 3) := by decide +kernel
theorem dX3_countInState_39 : decode cX3_countInState 39 = .ok (.goto (-35), 3) := by decide +kernel
theorem dX3_countInState_33 : decode cX3_countInState 33 = .ok (.iinc 2 1, 3) := by decide +kernel
theorem dX3_countInState_20 : decode cX3_countInState 20 = .ok (.invokevirtual 29, 3) := by decide +kernel
theorem dX3_countInState_9 : decode cX3_countInState 9 = .ok (.invokevirtual 25, 3) := by decide +kernel
def v_X3_countInState (a0 : Nat) (p1 : Int32) (T : zT) (F : zF) (Post : Int32 → Prop) : Prop :=
  (∃ I1 : Nat → Int32 → Int32 → Prop, (∃ n3 : Nat, I1 n3 0 0) ∧ (∀ (n2 : Nat) (y4 : Int32) (y5 : Int32), I1 n2 y4 y5 → (T a0 = some (4, 3) ∧ ∃ x10 : Nat, F a0 0 = .ref x10 ∧ T x10 = some (0, 3) ∧ (v_Jx4a65c_size_8abf5 x10 T F (fun (r12 : Int32) => ((r12 ≤ y5 → Post y4) ∧ (¬ r12 ≤ y5 → (v_Jx4a65c_get_915e3 x10 y5 T F (fun (r13 : Nat) => (T r13 = some (2, 12) ∧ ∃ x16 : Int32, F r13 6 = .int x16 ∧ ((¬ x16 = p1 → (∃ n17 : Nat, n17 < n2 ∧ I1 n17 y4 (y5 + 1))) ∧ (x16 = p1 → (∃ n18 : Nat, n18 < n2 ∧ I1 n18 (y4 + 1) (y5 + 1))))))))))))))
set_option maxRecDepth 100000 in
set_option maxHeartbeats 4000000 in
theorem k_X3_countInState {l : Launch} {D : va_G} {cA : Nat → ClassId} {N0 zE : Nat} {a0 : Nat} {p1 : Int32} {T : zT} {F : zF} {Post : Int32 → Prop} (h : v_X3_countInState a0 p1 T F Post) : z_Mt l D cA N0 zE yX3_countInState cX3_countInState 4 (some .int) ({ frames := 3, cells := 0, slots := 0, locals := 64 } : Room) [.ref a0, .int p1] T F (fun v T' F' => ∃ r : Int32, v = some (.int r) ∧ T = T' ∧ F = F' ∧ Post r) := by
  unfold v_X3_countInState at h
  refine z_bodyT (by decide) (Nat.le_of_ble_eq_true rfl) ?_
  intro p e s m args below meth c C hnm
  have C : z_C p l s m args meth c RX3 cX3_countInState 4 (some .int) D cA N0 zE := C
  show z_w p l e ({ frames := 3, cells := 0, slots := 0, locals := 64 } : Room) s m args below meth c D cA N0 4 0 0 (MQ below (z_Qc D cA N0 (fun v T' F' => ∃ r : Int32, v = some (.int r) ∧ T = T' ∧ F = F' ∧ Post r)) args s 0 0 (fun q => N0 ≤ q)) 0 [(0, .ref a0), (1, .int p1)] [] T F
  refine zr_iconst C 0 dX3_countInState_0 (by decide) ?_
  refine zr_istore_n C [(2, .int 0), (0, .ref a0), (1, .int p1)] dX3_countInState_1 rfl (by decide) rfl ?_
  refine zr_iconst C 0 dX3_countInState_2 (by decide) ?_
  refine zr_istore_n C [(3, .int 0), (2, .int 0), (0, .ref a0), (1, .int p1)] dX3_countInState_3 rfl (by decide) rfl ?_
  obtain ⟨I1, ⟨n3, h026⟩, hI25⟩ := h
  have ky27 : ∀ (n2 : Nat) (y4 : Int32) (y5 : Int32), I1 n2 y4 y5 → z_w p l e ({ frames := 3, cells := 0, slots := 0, locals := 64 } : Room) s m args below meth c D cA N0 4 0 0 (MQ below (z_Qc D cA N0 (fun v T' F' => ∃ r : Int32, v = some (.int r) ∧ T = T' ∧ F = F' ∧ Post r)) args s 0 0 (fun q => N0 ≤ q)) 4 [(0, .ref a0), (1, .int p1), (2, .int y4), (3, .int y5)] [] T F := by
    intro n2
    induction n2 using Nat.strongRecOn with
    | _ n2 ih6 =>
      intro y4 y5 hin
      have h := hI25 n2 y4 y5 hin
      refine zr_iload_n C 3 dX3_countInState_4 rfl rfl ?_
      refine zr_aload_n C 0 dX3_countInState_5 rfl rfl ?_
      obtain ⟨hT8, x10, hv9, h⟩ := h
      refine zr_get C fl_X3_12 hT8 hv9 dX3_countInState_6 ?_
      obtain ⟨hT11, h⟩ := h
      refine zr_callV (As := []) (r := (RJx4a65c, TJx4a65c, 3)) C (k_Jx4a65c_size_8abf5 h) ok_X3_25 zq_112 zq_113 hT11 (by decide) rfl rfl ⟨by decide, (Nat.le_of_ble_eq_true rfl)⟩ ⟨(Nat.le_of_ble_eq_true rfl), (Nat.le_of_ble_eq_true rfl)⟩ (Nat.le_of_ble_eq_true rfl) dX3_countInState_9 (fun v22 U23 G24 hq => ?_)
      clear h
      · obtain ⟨r12, rfl, rfl, rfl, h⟩ := hq
        obtain ⟨h1, h2⟩ := h
        refine zr_icmp_ge C 42 dX3_countInState_12 (by decide) (fun hc => ?_) (fun hc => ?_)
        · have h := h1 hc
          clear h1 h2
          refine zr_iload_n C 2 dX3_countInState_42 rfl rfl ?_
          exact zr_iret C rfl ⟨_, rfl, rfl, rfl, h⟩ (Nat.le_of_ble_eq_true rfl) (Nat.le_of_ble_eq_true rfl) dX3_countInState_43
        · have h := h2 hc
          clear h1 h2
          refine zr_aload_n C 0 dX3_countInState_15 rfl rfl ?_
          refine zr_get C fl_X3_12 hT8 hv9 dX3_countInState_16 ?_
          refine zr_iload_n C 3 dX3_countInState_19 rfl rfl ?_
          refine zr_callV (As := [.int y5]) (r := (RJx4a65c, TJx4a65c, 3)) C (k_Jx4a65c_get_915e3 h) ok_X3_29 zq_290 zq_291 hT11 (by decide) rfl rfl ⟨by decide, (Nat.le_of_ble_eq_true rfl)⟩ ⟨(Nat.le_of_ble_eq_true rfl), (Nat.le_of_ble_eq_true rfl)⟩ (Nat.le_of_ble_eq_true rfl) dX3_countInState_20 (fun v19 U20 G21 hq => ?_)
          clear h
          · obtain ⟨r13, rfl, rfl, rfl, h⟩ := hq
            obtain ⟨hT14, h⟩ := h
            refine zr_castS (r := (RX1, TX1, 12)) C hT14 (by decide) rfl zq_402 dX3_countInState_23 ?_
            obtain ⟨x16, hv15, h⟩ := h
            refine zr_get C fl_X3_94 hT14 hv15 dX3_countInState_26 ?_
            refine zr_iload_n C 1 dX3_countInState_29 rfl rfl ?_
            obtain ⟨h1, h2⟩ := h
            refine zr_icmp_ne C 36 dX3_countInState_30 (by decide) (fun hc => ?_) (fun hc => ?_)
            · have h := h1 hc
              clear h1 h2
              refine zr_iinc C [(3, .int (y5 + 1)), (0, .ref a0), (1, .int p1), (2, .int y4)] 3 dX3_countInState_36 rfl rfl (by decide) rfl ?_
              refine zr_goto C 4 dX3_countInState_39 (by decide) ?_
              obtain ⟨n17, hlt, h⟩ := h
              exact zr_sub [1, 2, 3, 0] rfl (ih6 n17 hlt y4 (y5 + 1) h)
            · have h := h2 hc
              clear h1 h2
              refine zr_iinc C [(2, .int (y4 + 1)), (0, .ref a0), (1, .int p1), (3, .int y5)] 2 dX3_countInState_33 rfl rfl (by decide) rfl ?_
              refine zr_iinc C [(3, .int (y5 + 1)), (2, .int (y4 + 1)), (0, .ref a0), (1, .int p1)] 3 dX3_countInState_36 rfl rfl (by decide) rfl ?_
              refine zr_goto C 4 dX3_countInState_39 (by decide) ?_
              obtain ⟨n18, hlt, h⟩ := h
              exact zr_sub [2, 3, 1, 0] rfl (ih6 n18 hlt (y4 + 1) (y5 + 1) h)
  exact zr_sub [2, 3, 1, 0] rfl (ky27 n3 0 0 h026)
theorem dX3_countOn_0 : decode cX3_countOn 0 = .ok (.iconst 0, 1) := by decide +kernel
theorem dX3_countOn_1 : decode cX3_countOn 1 = .ok (.istore_n 1, 1) := by decide +kernel
theorem dX3_countOn_2 : decode cX3_countOn 2 = .ok (.iconst 0, 1) := by decide +kernel
theorem dX3_countOn_3 : decode cX3_countOn 3 = .ok (.istore_n 2, 1) := by decide +kernel
theorem dX3_countOn_4 : decode cX3_countOn 4 = .ok (.iload_n 2, 1) := by decide +kernel
theorem dX3_countOn_5 : decode cX3_countOn 5 = .ok (.aload_n 0, 1) := by decide +kernel
theorem dX3_countOn_6 : decode cX3_countOn 6 = .ok (.getfield 12, 3) := by decide +kernel
theorem dX3_countOn_12 : decode cX3_countOn 12 = .ok (.if_icmp .ge 29, 3) := by decide +kernel
theorem dX3_countOn_41 : decode cX3_countOn 41 = .ok (.iload_n 1, 1) := by decide +kernel
theorem dX3_countOn_42 : decode cX3_countOn 42 = .ok (.ireturn, 1) := by decide +kernel
theorem dX3_countOn_15 : decode cX3_countOn 15 = .ok (.aload_n 0, 1) := by decide +kernel
theorem dX3_countOn_16 : decode cX3_countOn 16 = .ok (.getfield 12, 3) := by decide +kernel
theorem dX3_countOn_19 : decode cX3_countOn 19 = .ok (.iload_n 2, 1) := by decide +kernel
theorem dX3_countOn_23 : decode cX3_countOn 23 = .ok (.checkcast 33, 3) := by decide +kernel
theorem dX3_countOn_26 : decode cX3_countOn 26 = .ok (.getfield 137, 3) := by decide +kernel
theorem dX3_countOn_29 : decode cX3_countOn 29 = .ok (.ifCond .eq 6, 3) := by decide +kernel
theorem dX3_countOn_35 : decode cX3_countOn 35 = .ok (.iinc 2 1, 3) := by decide +kernel
theorem dX3_countOn_38 : decode cX3_countOn 38 = .ok (.goto (-34), 3) := by decide +kernel
theorem dX3_countOn_32 : decode cX3_countOn 32 = .ok (.iinc 1 1, 3) := by decide +kernel
theorem dX3_countOn_20 : decode cX3_countOn 20 = .ok (.invokevirtual 29, 3) := by decide +kernel
theorem dX3_countOn_9 : decode cX3_countOn 9 = .ok (.invokevirtual 25, 3) := by decide +kernel
def v_X3_countOn (a0 : Nat) (T : zT) (F : zF) (Post : Int32 → Prop) : Prop :=
  (∃ I1 : Nat → Int32 → Int32 → Prop, (∃ n3 : Nat, I1 n3 0 0) ∧ (∀ (n2 : Nat) (y4 : Int32) (y5 : Int32), I1 n2 y4 y5 → (T a0 = some (4, 3) ∧ ∃ x10 : Nat, F a0 0 = .ref x10 ∧ T x10 = some (0, 3) ∧ (v_Jx4a65c_size_8abf5 x10 T F (fun (r12 : Int32) => ((r12 ≤ y5 → Post y4) ∧ (¬ r12 ≤ y5 → (v_Jx4a65c_get_915e3 x10 y5 T F (fun (r13 : Nat) => (T r13 = some (2, 12) ∧ ∃ x16 : Int32, F r13 10 = .int x16 ∧ ((x16 = 0 → (∃ n17 : Nat, n17 < n2 ∧ I1 n17 y4 (y5 + 1))) ∧ (¬ x16 = 0 → (∃ n18 : Nat, n18 < n2 ∧ I1 n18 (y4 + 1) (y5 + 1))))))))))))))
set_option maxRecDepth 100000 in
set_option maxHeartbeats 4000000 in
theorem k_X3_countOn {l : Launch} {D : va_G} {cA : Nat → ClassId} {N0 zE : Nat} {a0 : Nat} {T : zT} {F : zF} {Post : Int32 → Prop} (h : v_X3_countOn a0 T F Post) : z_Mt l D cA N0 zE yX3_countOn cX3_countOn 3 (some .int) ({ frames := 3, cells := 0, slots := 0, locals := 64 } : Room) [.ref a0] T F (fun v T' F' => ∃ r : Int32, v = some (.int r) ∧ T = T' ∧ F = F' ∧ Post r) := by
  unfold v_X3_countOn at h
  refine z_bodyT (by decide) (Nat.le_of_ble_eq_true rfl) ?_
  intro p e s m args below meth c C hnm
  have C : z_C p l s m args meth c RX3 cX3_countOn 3 (some .int) D cA N0 zE := C
  show z_w p l e ({ frames := 3, cells := 0, slots := 0, locals := 64 } : Room) s m args below meth c D cA N0 3 0 0 (MQ below (z_Qc D cA N0 (fun v T' F' => ∃ r : Int32, v = some (.int r) ∧ T = T' ∧ F = F' ∧ Post r)) args s 0 0 (fun q => N0 ≤ q)) 0 [(0, .ref a0)] [] T F
  refine zr_iconst C 0 dX3_countOn_0 (by decide) ?_
  refine zr_istore_n C [(1, .int 0), (0, .ref a0)] dX3_countOn_1 rfl (by decide) rfl ?_
  refine zr_iconst C 0 dX3_countOn_2 (by decide) ?_
  refine zr_istore_n C [(2, .int 0), (1, .int 0), (0, .ref a0)] dX3_countOn_3 rfl (by decide) rfl ?_
  obtain ⟨I1, ⟨n3, h026⟩, hI25⟩ := h
  have ky27 : ∀ (n2 : Nat) (y4 : Int32) (y5 : Int32), I1 n2 y4 y5 → z_w p l e ({ frames := 3, cells := 0, slots := 0, locals := 64 } : Room) s m args below meth c D cA N0 3 0 0 (MQ below (z_Qc D cA N0 (fun v T' F' => ∃ r : Int32, v = some (.int r) ∧ T = T' ∧ F = F' ∧ Post r)) args s 0 0 (fun q => N0 ≤ q)) 4 [(0, .ref a0), (1, .int y4), (2, .int y5)] [] T F := by
    intro n2
    induction n2 using Nat.strongRecOn with
    | _ n2 ih6 =>
      intro y4 y5 hin
      have h := hI25 n2 y4 y5 hin
      refine zr_iload_n C 2 dX3_countOn_4 rfl rfl ?_
      refine zr_aload_n C 0 dX3_countOn_5 rfl rfl ?_
      obtain ⟨hT8, x10, hv9, h⟩ := h
      refine zr_get C fl_X3_12 hT8 hv9 dX3_countOn_6 ?_
      obtain ⟨hT11, h⟩ := h
      refine zr_callV (As := []) (r := (RJx4a65c, TJx4a65c, 3)) C (k_Jx4a65c_size_8abf5 h) ok_X3_25 zq_112 zq_113 hT11 (by decide) rfl rfl ⟨by decide, (Nat.le_of_ble_eq_true rfl)⟩ ⟨(Nat.le_of_ble_eq_true rfl), (Nat.le_of_ble_eq_true rfl)⟩ (Nat.le_of_ble_eq_true rfl) dX3_countOn_9 (fun v22 U23 G24 hq => ?_)
      clear h
      · obtain ⟨r12, rfl, rfl, rfl, h⟩ := hq
        obtain ⟨h1, h2⟩ := h
        refine zr_icmp_ge C 41 dX3_countOn_12 (by decide) (fun hc => ?_) (fun hc => ?_)
        · have h := h1 hc
          clear h1 h2
          refine zr_iload_n C 1 dX3_countOn_41 rfl rfl ?_
          exact zr_iret C rfl ⟨_, rfl, rfl, rfl, h⟩ (Nat.le_of_ble_eq_true rfl) (Nat.le_of_ble_eq_true rfl) dX3_countOn_42
        · have h := h2 hc
          clear h1 h2
          refine zr_aload_n C 0 dX3_countOn_15 rfl rfl ?_
          refine zr_get C fl_X3_12 hT8 hv9 dX3_countOn_16 ?_
          refine zr_iload_n C 2 dX3_countOn_19 rfl rfl ?_
          refine zr_callV (As := [.int y5]) (r := (RJx4a65c, TJx4a65c, 3)) C (k_Jx4a65c_get_915e3 h) ok_X3_29 zq_290 zq_291 hT11 (by decide) rfl rfl ⟨by decide, (Nat.le_of_ble_eq_true rfl)⟩ ⟨(Nat.le_of_ble_eq_true rfl), (Nat.le_of_ble_eq_true rfl)⟩ (Nat.le_of_ble_eq_true rfl) dX3_countOn_20 (fun v19 U20 G21 hq => ?_)
          clear h
          · obtain ⟨r13, rfl, rfl, rfl, h⟩ := hq
            obtain ⟨hT14, h⟩ := h
            refine zr_castS (r := (RX1, TX1, 12)) C hT14 (by decide) rfl zq_402 dX3_countOn_23 ?_
            obtain ⟨x16, hv15, h⟩ := h
            refine zr_get C fl_X3_137 hT14 hv15 dX3_countOn_26 ?_
            obtain ⟨h1, h2⟩ := h
            refine zr_if_eq C 35 dX3_countOn_29 (by decide) (fun hc => ?_) (fun hc => ?_)
            · have h := h1 hc
              clear h1 h2
              refine zr_iinc C [(2, .int (y5 + 1)), (0, .ref a0), (1, .int y4)] 2 dX3_countOn_35 rfl rfl (by decide) rfl ?_
              refine zr_goto C 4 dX3_countOn_38 (by decide) ?_
              obtain ⟨n17, hlt, h⟩ := h
              exact zr_sub [1, 2, 0] rfl (ih6 n17 hlt y4 (y5 + 1) h)
            · have h := h2 hc
              clear h1 h2
              refine zr_iinc C [(1, .int (y4 + 1)), (0, .ref a0), (2, .int y5)] 1 dX3_countOn_32 rfl rfl (by decide) rfl ?_
              refine zr_iinc C [(2, .int (y5 + 1)), (1, .int (y4 + 1)), (0, .ref a0)] 2 dX3_countOn_35 rfl rfl (by decide) rfl ?_
              refine zr_goto C 4 dX3_countOn_38 (by decide) ?_
              obtain ⟨n18, hlt, h⟩ := h
              exact zr_sub [2, 1, 0] rfl (ih6 n18 hlt (y4 + 1) (y5 + 1) h)
  exact zr_sub [2, 1, 0] rfl (ky27 n3 0 0 h026)
theorem dX3_costOfAll_0 : decode cX3_costOfAll 0 = .ok (.iconst 0, 1) := by decide +kernel
theorem dX3_costOfAll_1 : decode cX3_costOfAll 1 = .ok (.istore_n 1, 1) := by decide +kernel
theorem dX3_costOfAll_2 : decode cX3_costOfAll 2 = .ok (.iconst 0, 1) := by decide +kernel
theorem dX3_costOfAll_3 : decode cX3_costOfAll 3 = .ok (.istore_n 2, 1) := by decide +kernel
theorem dX3_costOfAll_4 : decode cX3_costOfAll 4 = .ok (.iload_n 2, 1) := by decide +kernel
theorem dX3_costOfAll_5 : decode cX3_costOfAll 5 = .ok (.aload_n 0, 1) := by decide +kernel
theorem dX3_costOfAll_6 : decode cX3_costOfAll 6 = .ok (.getfield 12, 3) := by decide +kernel
theorem dX3_costOfAll_12 : decode cX3_costOfAll 12 = .ok (.if_icmp .ge 26, 3) := by decide +kernel
theorem dX3_costOfAll_38 : decode cX3_costOfAll 38 = .ok (.iload_n 1, 1) := by decide +kernel
theorem dX3_costOfAll_39 : decode cX3_costOfAll 39 = .ok (.ireturn, 1) := by decide +kernel
theorem dX3_costOfAll_15 : decode cX3_costOfAll 15 = .ok (.iload_n 1, 1) := by decide +kernel
theorem dX3_costOfAll_16 : decode cX3_costOfAll 16 = .ok (.aload_n 0, 1) := by decide +kernel
theorem dX3_costOfAll_17 : decode cX3_costOfAll 17 = .ok (.getfield 12, 3) := by decide +kernel
theorem dX3_costOfAll_20 : decode cX3_costOfAll 20 = .ok (.iload_n 2, 1) := by decide +kernel
theorem dX3_costOfAll_24 : decode cX3_costOfAll 24 = .ok (.checkcast 33, 3) := by decide +kernel
theorem dX3_costOfAll_30 : decode cX3_costOfAll 30 = .ok (.iadd, 1) := by decide +kernel
theorem dX3_costOfAll_31 : decode cX3_costOfAll 31 = .ok (.istore_n 1, 1) := by decide +kernel
theorem dX3_costOfAll_32 : decode cX3_costOfAll 32 = .ok (.iinc 2 1, 3) := by decide +kernel
theorem dX3_costOfAll_35 : decode cX3_costOfAll 35 = .ok (.goto (-31), 3) := by decide +kernel
theorem dX3_costOfAll_27 : decode cX3_costOfAll 27 = .ok (.invokevirtual 141, 3) := by decide +kernel
theorem dX3_costOfAll_21 : decode cX3_costOfAll 21 = .ok (.invokevirtual 29, 3) := by decide +kernel
theorem dX3_costOfAll_9 : decode cX3_costOfAll 9 = .ok (.invokevirtual 25, 3) := by decide +kernel
def v_X3_costOfAll (a0 : Nat) (T : zT) (F : zF) (Post : Int32 → Prop) : Prop :=
  (∃ I1 : Nat → Int32 → Int32 → Prop, (∃ n3 : Nat, I1 n3 0 0) ∧ (∀ (n2 : Nat) (y4 : Int32) (y5 : Int32), I1 n2 y4 y5 → (T a0 = some (4, 3) ∧ ∃ x10 : Nat, F a0 0 = .ref x10 ∧ T x10 = some (0, 3) ∧ (v_Jx4a65c_size_8abf5 x10 T F (fun (r12 : Int32) => ((r12 ≤ y5 → Post y4) ∧ (¬ r12 ≤ y5 → (v_Jx4a65c_get_915e3 x10 y5 T F (fun (r13 : Nat) => (T r13 = some (2, 12) ∧ (v_X1_costNow r13 T F (fun (r15 : Int32) => (∃ n16 : Nat, n16 < n2 ∧ I1 n16 (y4 + r15) (y5 + 1))))))))))))))
set_option maxRecDepth 100000 in
set_option maxHeartbeats 4000000 in
theorem k_X3_costOfAll {l : Launch} {D : va_G} {cA : Nat → ClassId} {N0 zE : Nat} {a0 : Nat} {T : zT} {F : zF} {Post : Int32 → Prop} (h : v_X3_costOfAll a0 T F Post) : z_Mt l D cA N0 zE yX3_costOfAll cX3_costOfAll 3 (some .int) ({ frames := 3, cells := 0, slots := 0, locals := 64 } : Room) [.ref a0] T F (fun v T' F' => ∃ r : Int32, v = some (.int r) ∧ T = T' ∧ F = F' ∧ Post r) := by
  unfold v_X3_costOfAll at h
  refine z_bodyT (by decide) (Nat.le_of_ble_eq_true rfl) ?_
  intro p e s m args below meth c C hnm
  have C : z_C p l s m args meth c RX3 cX3_costOfAll 3 (some .int) D cA N0 zE := C
  show z_w p l e ({ frames := 3, cells := 0, slots := 0, locals := 64 } : Room) s m args below meth c D cA N0 3 0 0 (MQ below (z_Qc D cA N0 (fun v T' F' => ∃ r : Int32, v = some (.int r) ∧ T = T' ∧ F = F' ∧ Post r)) args s 0 0 (fun q => N0 ≤ q)) 0 [(0, .ref a0)] [] T F
  refine zr_iconst C 0 dX3_costOfAll_0 (by decide) ?_
  refine zr_istore_n C [(1, .int 0), (0, .ref a0)] dX3_costOfAll_1 rfl (by decide) rfl ?_
  refine zr_iconst C 0 dX3_costOfAll_2 (by decide) ?_
  refine zr_istore_n C [(2, .int 0), (1, .int 0), (0, .ref a0)] dX3_costOfAll_3 rfl (by decide) rfl ?_
  obtain ⟨I1, ⟨n3, h027⟩, hI26⟩ := h
  have ky28 : ∀ (n2 : Nat) (y4 : Int32) (y5 : Int32), I1 n2 y4 y5 → z_w p l e ({ frames := 3, cells := 0, slots := 0, locals := 64 } : Room) s m args below meth c D cA N0 3 0 0 (MQ below (z_Qc D cA N0 (fun v T' F' => ∃ r : Int32, v = some (.int r) ∧ T = T' ∧ F = F' ∧ Post r)) args s 0 0 (fun q => N0 ≤ q)) 4 [(0, .ref a0), (1, .int y4), (2, .int y5)] [] T F := by
    intro n2
    induction n2 using Nat.strongRecOn with
    | _ n2 ih6 =>
      intro y4 y5 hin
      have h := hI26 n2 y4 y5 hin
      refine zr_iload_n C 2 dX3_costOfAll_4 rfl rfl ?_
      refine zr_aload_n C 0 dX3_costOfAll_5 rfl rfl ?_
      obtain ⟨hT8, x10, hv9, h⟩ := h
      refine zr_get C fl_X3_12 hT8 hv9 dX3_costOfAll_6 ?_
      obtain ⟨hT11, h⟩ := h
      refine zr_callV (As := []) (r := (RJx4a65c, TJx4a65c, 3)) C (k_Jx4a65c_size_8abf5 h) ok_X3_25 zq_112 zq_113 hT11 (by decide) rfl rfl ⟨by decide, (Nat.le_of_ble_eq_true rfl)⟩ ⟨(Nat.le_of_ble_eq_true rfl), (Nat.le_of_ble_eq_true rfl)⟩ (Nat.le_of_ble_eq_true rfl) dX3_costOfAll_9 (fun v23 U24 G25 hq => ?_)
      clear h
      · obtain ⟨r12, rfl, rfl, rfl, h⟩ := hq
        obtain ⟨h1, h2⟩ := h
        refine zr_icmp_ge C 38 dX3_costOfAll_12 (by decide) (fun hc => ?_) (fun hc => ?_)
        · have h := h1 hc
          clear h1 h2
          refine zr_iload_n C 1 dX3_costOfAll_38 rfl rfl ?_
          exact zr_iret C rfl ⟨_, rfl, rfl, rfl, h⟩ (Nat.le_of_ble_eq_true rfl) (Nat.le_of_ble_eq_true rfl) dX3_costOfAll_39
        · have h := h2 hc
          clear h1 h2
          refine zr_iload_n C 1 dX3_costOfAll_15 rfl rfl ?_
          refine zr_aload_n C 0 dX3_costOfAll_16 rfl rfl ?_
          refine zr_get C fl_X3_12 hT8 hv9 dX3_costOfAll_17 ?_
          refine zr_iload_n C 2 dX3_costOfAll_20 rfl rfl ?_
          refine zr_callV (As := [.int y5]) (r := (RJx4a65c, TJx4a65c, 3)) C (k_Jx4a65c_get_915e3 h) ok_X3_29 zq_290 zq_291 hT11 (by decide) rfl rfl ⟨by decide, (Nat.le_of_ble_eq_true rfl)⟩ ⟨(Nat.le_of_ble_eq_true rfl), (Nat.le_of_ble_eq_true rfl)⟩ (Nat.le_of_ble_eq_true rfl) dX3_costOfAll_21 (fun v20 U21 G22 hq => ?_)
          clear h
          · obtain ⟨r13, rfl, rfl, rfl, h⟩ := hq
            obtain ⟨hT14, h⟩ := h
            refine zr_castS (r := (RX1, TX1, 12)) C hT14 (by decide) rfl zq_402 dX3_costOfAll_24 ?_
            refine zr_callV (As := []) (r := (RX1, TX1, 12)) C (k_X1_costNow h) ok_X3_141 zq_388 zq_389 hT14 (by decide) rfl rfl ⟨by decide, (Nat.le_of_ble_eq_true rfl)⟩ ⟨(Nat.le_of_ble_eq_true rfl), (Nat.le_of_ble_eq_true rfl)⟩ (Nat.le_of_ble_eq_true rfl) dX3_costOfAll_27 (fun v17 U18 G19 hq => ?_)
            clear h
            · obtain ⟨r15, rfl, rfl, rfl, h⟩ := hq
              refine zr_iadd C dX3_costOfAll_30 ?_
              refine zr_istore_n C [(1, .int (y4 + r15)), (0, .ref a0), (2, .int y5)] dX3_costOfAll_31 rfl (by decide) rfl ?_
              refine zr_iinc C [(2, .int (y5 + 1)), (1, .int (y4 + r15)), (0, .ref a0)] 2 dX3_costOfAll_32 rfl rfl (by decide) rfl ?_
              refine zr_goto C 4 dX3_costOfAll_35 (by decide) ?_
              obtain ⟨n16, hlt, h⟩ := h
              exact zr_sub [2, 1, 0] rfl (ih6 n16 hlt (y4 + r15) (y5 + 1) h)
  exact zr_sub [2, 1, 0] rfl (ky28 n3 0 0 h027)
theorem dX3_copyFrom_0 : decode cX3_copyFrom 0 = .ok (.aload_n 0, 1) := by decide +kernel
theorem dX3_copyFrom_1 : decode cX3_copyFrom 1 = .ok (.aload_n 1, 1) := by decide +kernel
theorem dX3_copyFrom_2 : decode cX3_copyFrom 2 = .ok (.getfield 21, 3) := by decide +kernel
theorem dX3_copyFrom_5 : decode cX3_copyFrom 5 = .ok (.putfield 21, 3) := by decide +kernel
theorem dX3_copyFrom_8 : decode cX3_copyFrom 8 = .ok (.aload_n 0, 1) := by decide +kernel
theorem dX3_copyFrom_9 : decode cX3_copyFrom 9 = .ok (.aload_n 1, 1) := by decide +kernel
theorem dX3_copyFrom_10 : decode cX3_copyFrom 10 = .ok (.getfield 18, 3) := by decide +kernel
theorem dX3_copyFrom_13 : decode cX3_copyFrom 13 = .ok (.putfield 18, 3) := by decide +kernel
theorem dX3_copyFrom_16 : decode cX3_copyFrom 16 = .ok (.iconst 0, 1) := by decide +kernel
theorem dX3_copyFrom_17 : decode cX3_copyFrom 17 = .ok (.istore_n 2, 1) := by decide +kernel
theorem dX3_copyFrom_18 : decode cX3_copyFrom 18 = .ok (.iload_n 2, 1) := by decide +kernel
theorem dX3_copyFrom_19 : decode cX3_copyFrom 19 = .ok (.aload_n 1, 1) := by decide +kernel
theorem dX3_copyFrom_20 : decode cX3_copyFrom 20 = .ok (.getfield 12, 3) := by decide +kernel
theorem dX3_copyFrom_26 : decode cX3_copyFrom 26 = .ok (.if_icmp .ge 66, 3) := by decide +kernel
theorem dX3_copyFrom_92 : decode cX3_copyFrom 92 = .ok (.return_, 1) := by decide +kernel
theorem dX3_copyFrom_29 : decode cX3_copyFrom 29 = .ok (.aload_n 1, 1) := by decide +kernel
theorem dX3_copyFrom_30 : decode cX3_copyFrom 30 = .ok (.getfield 12, 3) := by decide +kernel
theorem dX3_copyFrom_33 : decode cX3_copyFrom 33 = .ok (.iload_n 2, 1) := by decide +kernel
theorem dX3_copyFrom_37 : decode cX3_copyFrom 37 = .ok (.checkcast 33, 3) := by decide +kernel
theorem dX3_copyFrom_40 : decode cX3_copyFrom 40 = .ok (.astore_n 3, 1) := by decide +kernel
theorem dX3_copyFrom_41 : decode cX3_copyFrom 41 = .ok (.iload_n 2, 1) := by decide +kernel
theorem dX3_copyFrom_42 : decode cX3_copyFrom 42 = .ok (.aload_n 0, 1) := by decide +kernel
theorem dX3_copyFrom_43 : decode cX3_copyFrom 43 = .ok (.getfield 12, 3) := by decide +kernel
theorem dX3_copyFrom_49 : decode cX3_copyFrom 49 = .ok (.if_icmp .ge 21, 3) := by decide +kernel
theorem dX3_copyFrom_70 : decode cX3_copyFrom 70 = .ok (.aload_n 0, 1) := by decide +kernel
theorem dX3_copyFrom_71 : decode cX3_copyFrom 71 = .ok (.getfield 12, 3) := by decide +kernel
theorem dX3_copyFrom_74 : decode cX3_copyFrom 74 = .ok (.new 33, 3) := by decide +kernel
theorem dX3_copyFrom_77 : decode cX3_copyFrom 77 = .ok (.dup, 1) := by decide +kernel
theorem dX3_copyFrom_78 : decode cX3_copyFrom 78 = .ok (.aload_n 3, 1) := by decide +kernel
theorem dX3_copyFrom_85 : decode cX3_copyFrom 85 = .ok (.pop, 1) := by decide +kernel
theorem dX3_copyFrom_86 : decode cX3_copyFrom 86 = .ok (.iinc 2 1, 3) := by decide +kernel
theorem dX3_copyFrom_89 : decode cX3_copyFrom 89 = .ok (.goto (-71), 3) := by decide +kernel
theorem dX3_copyFrom_82 : decode cX3_copyFrom 82 = .ok (.invokevirtual 41, 3) := by decide +kernel
theorem dX3_copyFrom_79 : decode cX3_copyFrom 79 = .ok (.invokespecial 39, 3) := by decide +kernel
theorem dX3_copyFrom_52 : decode cX3_copyFrom 52 = .ok (.aload_n 0, 1) := by decide +kernel
theorem dX3_copyFrom_53 : decode cX3_copyFrom 53 = .ok (.getfield 12, 3) := by decide +kernel
theorem dX3_copyFrom_56 : decode cX3_copyFrom 56 = .ok (.iload_n 2, 1) := by decide +kernel
theorem dX3_copyFrom_60 : decode cX3_copyFrom 60 = .ok (.checkcast 33, 3) := by decide +kernel
theorem dX3_copyFrom_63 : decode cX3_copyFrom 63 = .ok (.aload_n 3, 1) := by decide +kernel
theorem dX3_copyFrom_67 : decode cX3_copyFrom 67 = .ok (.goto 19, 3) := by decide +kernel
theorem dX3_copyFrom_64 : decode cX3_copyFrom 64 = .ok (.invokevirtual 35, 3) := by decide +kernel
theorem dX3_copyFrom_57 : decode cX3_copyFrom 57 = .ok (.invokevirtual 29, 3) := by decide +kernel
theorem dX3_copyFrom_46 : decode cX3_copyFrom 46 = .ok (.invokevirtual 25, 3) := by decide +kernel
theorem dX3_copyFrom_34 : decode cX3_copyFrom 34 = .ok (.invokevirtual 29, 3) := by decide +kernel
theorem dX3_copyFrom_23 : decode cX3_copyFrom 23 = .ok (.invokevirtual 25, 3) := by decide +kernel
def v_X3_copyFrom (zE : Nat) (a0 : Nat) (a1 : Nat) (T : zT) (F : zF) (Post : zT → zF → Prop) : Prop :=
  (T a1 = some (4, 3) ∧ ∃ x3 : Int32, F a1 2 = .int x3 ∧ T a0 = some (4, 3) ∧ ∃ x6 : Nat, (zu F a0 2 (.int x3)) a1 1 = .ref x6 ∧ (∃ I8 : Nat → Int32 → zT → zF → Prop, (∃ n10 : Nat, n10 ≤ 16 ∧ I8 n10 0 T (zu (zu F a0 2 (.int x3)) a0 1 (.ref x6))) ∧ (∀ (n9 : Nat) (y11 : Int32) (T12 : zT) (F13 : zF), n9 ≤ 16 → I8 n9 y11 T12 F13 → (T12 a1 = some (4, 3) ∧ ∃ x18 : Nat, F13 a1 0 = .ref x18 ∧ T12 x18 = some (0, 3) ∧ (v_Jx4a65c_size_8abf5 x18 T12 F13 (fun (r20 : Int32) => ((r20 ≤ y11 → Post T12 F13) ∧ (¬ r20 ≤ y11 → (v_Jx4a65c_get_915e3 x18 y11 T12 F13 (fun (r21 : Nat) => (T12 r21 = some (2, 12) ∧ T12 a0 = some (4, 3) ∧ ∃ x25 : Nat, F13 a0 0 = .ref x25 ∧ T12 x25 = some (0, 3) ∧ (v_Jx4a65c_size_8abf5 x25 T12 F13 (fun (r27 : Int32) => ((r27 ≤ y11 → (∀ q28 : Nat, (∀ b, q28 ≤ b → T12 b = none) → (v_X1_init_ q28 r21 (zn T12 q28 (2, 12)) (zm F13 q28 (fun j => defaultValue (tyX1 j))) (fun (F30 : zF) => (zn T12 q28 (2, 12) x25 = some (0, 3) ∧ (v_Jx4a65c_add_9ea2d zE x25 q28 (zn T12 q28 (2, 12)) F30 (fun (r32 : Int32) (T33 : zT) (F34 : zF) => (∃ n35 : Nat, n35 < n9 ∧ I8 n35 (y11 + 1) T33 F34)))))))) ∧ (¬ r27 ≤ y11 → (v_Jx4a65c_get_915e3 x25 y11 T12 F13 (fun (r42 : Nat) => (T12 r42 = some (2, 12) ∧ (v_X1_setTo r42 r21 T12 F13 (fun (F44 : zF) => (∃ n45 : Nat, n45 < n9 ∧ I8 n45 (y11 + 1) T12 F44)))))))))))))))))))))
set_option maxRecDepth 100000 in
set_option maxHeartbeats 4000000 in
theorem k_X3_copyFrom {l : Launch} {D : va_G} {cA : Nat → ClassId} {N0 zE : Nat} {a0 : Nat} {a1 : Nat} {T : zT} {F : zF} {Post : zT → zF → Prop} (h : v_X3_copyFrom zE a0 a1 T F Post) : z_Mt l D cA N0 zE yX3_copyFrom cX3_copyFrom 4 none ({ frames := 7, cells := 51, slots := 1054, locals := 163 } : Room) [.ref a0, .ref a1] T F (fun v T' F' => v = none ∧ Post T' F') := by
  unfold v_X3_copyFrom at h
  refine z_bodyT (by decide) (Nat.le_of_ble_eq_true rfl) ?_
  intro p e s m args below meth c C hnm
  have C : z_C p l s m args meth c RX3 cX3_copyFrom 4 none D cA N0 zE := C
  show z_w p l e ({ frames := 7, cells := 51, slots := 1054, locals := 163 } : Room) s m args below meth c D cA N0 4 0 0 (MQ below (z_Qc D cA N0 (fun v T' F' => v = none ∧ Post T' F')) args s 51 1054 (fun q => N0 ≤ q)) 0 [(0, .ref a0), (1, .ref a1)] [] T F
  refine zr_aload_n C 0 dX3_copyFrom_0 rfl rfl ?_
  refine zr_aload_n C 1 dX3_copyFrom_1 rfl rfl ?_
  obtain ⟨hT1, x3, hv2, h⟩ := h
  refine zr_get C fl_X3_21 hT1 hv2 dX3_copyFrom_2 ?_
  obtain ⟨hT4, h⟩ := h
  refine zr_put C fl_X3_21 hT4 rfl rfl dX3_copyFrom_5 ?_
  refine zr_aload_n C 0 dX3_copyFrom_8 rfl rfl ?_
  refine zr_aload_n C 1 dX3_copyFrom_9 rfl rfl ?_
  obtain ⟨x6, hv5, h⟩ := h
  refine zr_get C fl_X3_18 hT1 hv5 dX3_copyFrom_10 ?_
  refine zr_put C fl_X3_18 hT4 rfl rfl dX3_copyFrom_13 ?_
  refine zr_iconst C 0 dX3_copyFrom_16 (by decide) ?_
  refine zr_istore_n C [(2, .int 0), (0, .ref a0), (1, .ref a1)] dX3_copyFrom_17 rfl (by decide) rfl ?_
  obtain ⟨I8, ⟨n10, hb15, h062⟩, hI61⟩ := h
  have ky63 : ∀ (n9 : Nat) (y11 : Int32) (T12 : zT) (F13 : zF), n9 ≤ 16 → I8 n9 y11 T12 F13 → z_w p l e ({ frames := 7, cells := 51, slots := 1054, locals := 163 } : Room) s m args below meth c D cA N0 4 (0 + (16 - n9) * 3) (0 + (16 - n9) * 62) (MQ below (z_Qc D cA N0 (fun v T' F' => v = none ∧ Post T' F')) args s 51 1054 (fun q => N0 ≤ q)) 18 [(0, .ref a0), (1, .ref a1), (2, .int y11)] [] T12 F13 := by
    intro n9
    induction n9 using Nat.strongRecOn with
    | _ n9 ih14 =>
      intro y11 T12 F13 hb15 hin
      have h := hI61 n9 y11 T12 F13 hb15 hin
      refine zr_iload_n C 2 dX3_copyFrom_18 rfl rfl ?_
      refine zr_aload_n C 1 dX3_copyFrom_19 rfl rfl ?_
      obtain ⟨hT16, x18, hv17, h⟩ := h
      refine zr_get C fl_X3_12 hT16 hv17 dX3_copyFrom_20 ?_
      obtain ⟨hT19, h⟩ := h
      refine zr_callV (As := []) (r := (RJx4a65c, TJx4a65c, 3)) C (k_Jx4a65c_size_8abf5 h) ok_X3_25 zq_112 zq_113 hT19 (by decide) rfl rfl ⟨by decide, (Nat.le_of_ble_eq_true rfl)⟩ ⟨(by show 0 + (16 - n9) * 3 + 0 ≤ 51; omega), (by show 0 + (16 - n9) * 62 + 0 ≤ 1054; omega)⟩ (Nat.le_of_ble_eq_true rfl) dX3_copyFrom_23 (fun v58 U59 G60 hq => ?_)
      clear h
      · obtain ⟨r20, rfl, rfl, rfl, h⟩ := hq
        obtain ⟨h1, h2⟩ := h
        refine zr_icmp_ge C 92 dX3_copyFrom_26 (by decide) (fun hc => ?_) (fun hc => ?_)
        · have h := h1 hc
          clear h1 h2
          exact zr_vret C rfl ⟨rfl, h⟩ (by show 0 + (16 - n9) * 3 + 0 ≤ 51; omega) (by show 0 + (16 - n9) * 62 + 0 ≤ 1054; omega) dX3_copyFrom_92
        · have h := h2 hc
          clear h1 h2
          refine zr_aload_n C 1 dX3_copyFrom_29 rfl rfl ?_
          refine zr_get C fl_X3_12 hT16 hv17 dX3_copyFrom_30 ?_
          refine zr_iload_n C 2 dX3_copyFrom_33 rfl rfl ?_
          refine zr_callV (As := [.int y11]) (r := (RJx4a65c, TJx4a65c, 3)) C (k_Jx4a65c_get_915e3 h) ok_X3_29 zq_290 zq_291 hT19 (by decide) rfl rfl ⟨by decide, (Nat.le_of_ble_eq_true rfl)⟩ ⟨(by show 0 + (16 - n9) * 3 + 0 + 0 ≤ 51; omega), (by show 0 + (16 - n9) * 62 + 0 + 0 ≤ 1054; omega)⟩ (Nat.le_of_ble_eq_true rfl) dX3_copyFrom_34 (fun v55 U56 G57 hq => ?_)
          clear h
          · obtain ⟨r21, rfl, rfl, rfl, h⟩ := hq
            obtain ⟨hT22, h⟩ := h
            refine zr_castS (r := (RX1, TX1, 12)) C hT22 (by decide) rfl zq_402 dX3_copyFrom_37 ?_
            refine zr_astore_n C [(3, .ref r21), (0, .ref a0), (1, .ref a1), (2, .int y11)] dX3_copyFrom_40 rfl (by decide) rfl ?_
            refine zr_iload_n C 3 dX3_copyFrom_41 rfl rfl ?_
            refine zr_aload_n C 1 dX3_copyFrom_42 rfl rfl ?_
            obtain ⟨hT23, x25, hv24, h⟩ := h
            refine zr_get C fl_X3_12 hT23 hv24 dX3_copyFrom_43 ?_
            obtain ⟨hT26, h⟩ := h
            refine zr_callV (As := []) (r := (RJx4a65c, TJx4a65c, 3)) C (k_Jx4a65c_size_8abf5 h) ok_X3_25 zq_112 zq_113 hT26 (by decide) rfl rfl ⟨by decide, (Nat.le_of_ble_eq_true rfl)⟩ ⟨(by show 0 + (16 - n9) * 3 + 0 + 0 + 0 ≤ 51; omega), (by show 0 + (16 - n9) * 62 + 0 + 0 + 0 ≤ 1054; omega)⟩ (Nat.le_of_ble_eq_true rfl) dX3_copyFrom_46 (fun v52 U53 G54 hq => ?_)
            clear h
            · obtain ⟨r27, rfl, rfl, rfl, h⟩ := hq
              obtain ⟨h1, h2⟩ := h
              refine zr_icmp_ge C 70 dX3_copyFrom_49 (by decide) (fun hc => ?_) (fun hc => ?_)
              · have h := h1 hc
                clear h1 h2
                refine zr_aload_n C 1 dX3_copyFrom_70 rfl rfl ?_
                refine zr_get C fl_X3_12 hT23 hv24 dX3_copyFrom_71 ?_
                refine zr_new C nw_X3_33 (by show 0 + (16 - n9) * 3 + 0 + 0 + 0 + 1 ≤ 51; omega) (by show 0 + (16 - n9) * 62 + 0 + 0 + 0 + 12 ≤ 1054; omega) dX3_copyFrom_74 (fun q28 hq29 => ?_)
                have h := h q28 hq29
                refine zr_dup C dX3_copyFrom_77 rfl ?_
                refine zr_aload_n C 0 dX3_copyFrom_78 rfl rfl ?_
                refine zr_callI (As := [.ref r21]) C (k_X1_init_ h) ok_X3_39 zq_564 rfl rfl ⟨by decide, (Nat.le_of_ble_eq_true rfl)⟩ ⟨(by show 0 + (16 - n9) * 3 + 0 + 0 + 0 + 1 + 0 ≤ 51; omega), (by show 0 + (16 - n9) * 62 + 0 + 0 + 0 + 12 + 0 ≤ 1054; omega)⟩ (Nat.le_of_ble_eq_true rfl) dX3_copyFrom_79 (fun v39 U40 G41 hq => ?_)
                clear h
                · obtain ⟨rfl, rfl, h⟩ := hq
                  obtain ⟨hT31, h⟩ := h
                  refine zr_callV (As := [.ref q28]) (r := (RJx4a65c, TJx4a65c, 3)) C (k_Jx4a65c_add_9ea2d h) ok_X3_41 zq_210 zq_211 hT31 (by decide) rfl rfl ⟨by decide, (Nat.le_of_ble_eq_true rfl)⟩ ⟨(by show 0 + (16 - n9) * 3 + 0 + 0 + 0 + 1 + 0 + 2 ≤ 51; omega), (by show 0 + (16 - n9) * 62 + 0 + 0 + 0 + 12 + 0 + 50 ≤ 1054; omega)⟩ (Nat.le_of_ble_eq_true rfl) dX3_copyFrom_82 (fun v36 U37 G38 hq => ?_)
                  clear h
                  · obtain ⟨r32, rfl, h⟩ := hq
                    skip
                    refine zr_pop C dX3_copyFrom_85 rfl ?_
                    refine zr_iinc C [(2, .int (y11 + 1)), (3, .ref r21), (0, .ref a0), (1, .ref a1)] 3 dX3_copyFrom_86 rfl rfl (by decide) rfl ?_
                    refine zr_goto C 18 dX3_copyFrom_89 (by decide) ?_
                    obtain ⟨n35, hlt, h⟩ := h
                    exact zr_widen (by show 0 + (16 - n9) * 3 + 0 + 0 + 0 + 1 + 0 + 2 ≤ 0 + (16 - n35) * 3; omega) (by show 0 + (16 - n9) * 62 + 0 + 0 + 0 + 12 + 0 + 50 ≤ 0 + (16 - n35) * 62; omega) (zr_sub [2, 3, 0] rfl (ih14 n35 hlt (y11 + 1) U37 G38 (by omega) h))
              · have h := h2 hc
                clear h1 h2
                refine zr_aload_n C 1 dX3_copyFrom_52 rfl rfl ?_
                refine zr_get C fl_X3_12 hT23 hv24 dX3_copyFrom_53 ?_
                refine zr_iload_n C 3 dX3_copyFrom_56 rfl rfl ?_
                refine zr_callV (As := [.int y11]) (r := (RJx4a65c, TJx4a65c, 3)) C (k_Jx4a65c_get_915e3 h) ok_X3_29 zq_290 zq_291 hT26 (by decide) rfl rfl ⟨by decide, (Nat.le_of_ble_eq_true rfl)⟩ ⟨(by show 0 + (16 - n9) * 3 + 0 + 0 + 0 + 0 ≤ 51; omega), (by show 0 + (16 - n9) * 62 + 0 + 0 + 0 + 0 ≤ 1054; omega)⟩ (Nat.le_of_ble_eq_true rfl) dX3_copyFrom_57 (fun v49 U50 G51 hq => ?_)
                clear h
                · obtain ⟨r42, rfl, rfl, rfl, h⟩ := hq
                  obtain ⟨hT43, h⟩ := h
                  refine zr_castS (r := (RX1, TX1, 12)) C hT43 (by decide) rfl zq_402 dX3_copyFrom_60 ?_
                  refine zr_aload_n C 0 dX3_copyFrom_63 rfl rfl ?_
                  refine zr_callVN (As := [.ref r21]) (r := (RX1, TX1, 12)) C (k_X1_setTo h) ok_X3_35 zq_560 zq_12 hT43 (by decide) rfl rfl ⟨by decide, (Nat.le_of_ble_eq_true rfl)⟩ ⟨(by show 0 + (16 - n9) * 3 + 0 + 0 + 0 + 0 + 0 ≤ 51; omega), (by show 0 + (16 - n9) * 62 + 0 + 0 + 0 + 0 + 0 ≤ 1054; omega)⟩ (Nat.le_of_ble_eq_true rfl) dX3_copyFrom_64 (fun v46 U47 G48 hq => ?_)
                  clear h
                  · obtain ⟨rfl, rfl, h⟩ := hq
                    refine zr_goto C 86 dX3_copyFrom_67 (by decide) ?_
                    refine zr_iinc C [(2, .int (y11 + 1)), (3, .ref r21), (0, .ref a0), (1, .ref a1)] 3 dX3_copyFrom_86 rfl rfl (by decide) rfl ?_
                    refine zr_goto C 18 dX3_copyFrom_89 (by decide) ?_
                    obtain ⟨n45, hlt, h⟩ := h
                    exact zr_widen (by show 0 + (16 - n9) * 3 + 0 + 0 + 0 + 0 + 0 ≤ 0 + (16 - n45) * 3; omega) (by show 0 + (16 - n9) * 62 + 0 + 0 + 0 + 0 + 0 ≤ 0 + (16 - n45) * 62; omega) (zr_sub [2, 3, 0] rfl (ih14 n45 hlt (y11 + 1) T12 G48 (by omega) h))
  exact zr_widen (by show 0 ≤ 0 + (16 - n10) * 3; omega) (by show 0 ≤ 0 + (16 - n10) * 62; omega) (zr_sub [1, 2, 0] rfl (ky63 n10 0 T (zu (zu F a0 2 (.int x3)) a0 1 (.ref x6)) hb15 h062))
