theorem dL_below_0 : decode cL_below 0 = .ok (.iload_n 0, 1) := by decide +kernel
theorem dL_below_1 : decode cL_below 1 = .ok (.ldc 7, 2) := by decide +kernel
theorem dL_below_3 : decode cL_below 3 = .ok (.iand, 1) := by decide +kernel
theorem dL_below_4 : decode cL_below 4 = .ok (.iload_n 1, 1) := by decide +kernel
theorem dL_below_5 : decode cL_below 5 = .ok (.irem, 1) := by decide +kernel
theorem dL_below_6 : decode cL_below 6 = .ok (.ireturn, 1) := by decide +kernel
def v_L_below (p0 : Int32) (p1 : Int32) (T : zT) (F : zF) (Post : Int32 → Prop) : Prop :=
  (¬ p1 = 0 ∧ Post ((p0 &&& 2147483647) - (p0 &&& 2147483647) / p1 * p1))
set_option maxRecDepth 100000 in
set_option maxHeartbeats 4000000 in
theorem k_L_below {l : Launch} {D : va_G} {cA : Nat → ClassId} {N0 zE : Nat} {p0 : Int32} {p1 : Int32} {T : zT} {F : zF} {Post : Int32 → Prop} (h : v_L_below p0 p1 T F Post) : z_Mt l D cA N0 zE yL_below cL_below 2 (some .int) ({ frames := 0, cells := 0, slots := 0, locals := 0 } : Room) [.int p0, .int p1] T F (fun v T' F' => ∃ r : Int32, v = some (.int r) ∧ T = T' ∧ F = F' ∧ Post r) := by
  unfold v_L_below at h
  refine z_bodyT (by decide) (Nat.le_of_ble_eq_true rfl) ?_
  intro p e s m args below meth c C hnm
  have C : z_C p l s m args meth c RL cL_below 2 (some .int) D cA N0 zE := C
  show z_w p l e ({ frames := 0, cells := 0, slots := 0, locals := 0 } : Room) s m args below meth c D cA N0 2 0 0 (MQ below (z_Qc D cA N0 (fun v T' F' => ∃ r : Int32, v = some (.int r) ∧ T = T' ∧ F = F' ∧ Post r)) args s 0 0 (fun q => N0 ≤ q)) 0 [(0, .int p0), (1, .int p1)] [] T F
  refine zr_iload_n C 0 dL_below_0 rfl rfl ?_
  refine zr_ldc C 2147483647 dL_below_1 zq_679 ?_
  refine zr_iand C dL_below_3 ?_
  refine zr_iload_n C 1 dL_below_4 rfl rfl ?_
  obtain ⟨hz1, h⟩ := h
  refine zr_irem C dL_below_5 hz1 ?_
  exact zr_iret C rfl ⟨_, rfl, rfl, rfl, h⟩ (Nat.le_of_ble_eq_true rfl) (Nat.le_of_ble_eq_true rfl) dL_below_6
theorem dL_cell_0 : decode cL_cell 0 = .ok (.iload_n 1, 1) := by decide +kernel
theorem dL_cell_1 : decode cL_cell 1 = .ok (.aload_n 0, 1) := by decide +kernel
theorem dL_cell_2 : decode cL_cell 2 = .ok (.arraylength, 1) := by decide +kernel
theorem dL_cell_3 : decode cL_cell 3 = .ok (.if_icmp .ge 9, 3) := by decide +kernel
theorem dL_cell_12 : decode cL_cell 12 = .ok (.ldc 8, 2) := by decide +kernel
theorem dL_cell_14 : decode cL_cell 14 = .ok (.iload_n 1, 1) := by decide +kernel
theorem dL_cell_15 : decode cL_cell 15 = .ok (.iconst 3, 1) := by decide +kernel
theorem dL_cell_16 : decode cL_cell 16 = .ok (.iadd, 1) := by decide +kernel
theorem dL_cell_17 : decode cL_cell 17 = .ok (.imul, 1) := by decide +kernel
theorem dL_cell_18 : decode cL_cell 18 = .ok (.ireturn, 1) := by decide +kernel
theorem dL_cell_6 : decode cL_cell 6 = .ok (.aload_n 0, 1) := by decide +kernel
theorem dL_cell_7 : decode cL_cell 7 = .ok (.iload_n 1, 1) := by decide +kernel
theorem dL_cell_8 : decode cL_cell 8 = .ok (.iaload, 1) := by decide +kernel
theorem dL_cell_9 : decode cL_cell 9 = .ok (.goto 9, 3) := by decide +kernel
def v_L_cell (a0 : Nat) (p1 : Int32) (T : zT) (F : zF) (Post : Int32 → Prop) : Prop :=
  (∃ n1 : Nat, T a0 = some (104, n1) ∧ (((nI n1) ≤ p1 → Post ((790386105 : Int32) * (p1 + 3))) ∧ (¬ (nI n1) ≤ p1 → (vp_in p1 n1 ∧ ∃ x4 : Int32, F a0 (p1).toNatClampNeg = .int x4 ∧ Post x4))))
set_option maxRecDepth 100000 in
set_option maxHeartbeats 4000000 in
theorem k_L_cell {l : Launch} {D : va_G} {cA : Nat → ClassId} {N0 zE : Nat} {a0 : Nat} {p1 : Int32} {T : zT} {F : zF} {Post : Int32 → Prop} (h : v_L_cell a0 p1 T F Post) : z_Mt l D cA N0 zE yL_cell cL_cell 2 (some .int) ({ frames := 0, cells := 0, slots := 0, locals := 0 } : Room) [.ref a0, .int p1] T F (fun v T' F' => ∃ r : Int32, v = some (.int r) ∧ T = T' ∧ F = F' ∧ Post r) := by
  unfold v_L_cell at h
  refine z_bodyT (by decide) (Nat.le_of_ble_eq_true rfl) ?_
  intro p e s m args below meth c C hnm
  have C : z_C p l s m args meth c RL cL_cell 2 (some .int) D cA N0 zE := C
  show z_w p l e ({ frames := 0, cells := 0, slots := 0, locals := 0 } : Room) s m args below meth c D cA N0 2 0 0 (MQ below (z_Qc D cA N0 (fun v T' F' => ∃ r : Int32, v = some (.int r) ∧ T = T' ∧ F = F' ∧ Post r)) args s 0 0 (fun q => N0 ≤ q)) 0 [(0, .ref a0), (1, .int p1)] [] T F
  refine zr_iload_n C 1 dL_cell_0 rfl rfl ?_
  refine zr_aload_n C 0 dL_cell_1 rfl rfl ?_
  obtain ⟨n1, hT2, h⟩ := h
  refine zr_alen C hT2 (by decide) rfl dL_cell_2 ?_
  obtain ⟨h1, h2⟩ := h
  refine zr_icmp_ge C 12 dL_cell_3 (by decide) (fun hc => ?_) (fun hc => ?_)
  · have h := h1 hc
    clear h1 h2
    refine zr_ldc C 790386105 dL_cell_12 zq_683 ?_
    refine zr_iload_n C 1 dL_cell_14 rfl rfl ?_
    refine zr_iconst C 3 dL_cell_15 (by decide) ?_
    refine zr_iadd C dL_cell_16 ?_
    refine zr_imul C dL_cell_17 ?_
    exact zr_iret C rfl ⟨_, rfl, rfl, rfl, h⟩ (Nat.le_of_ble_eq_true rfl) (Nat.le_of_ble_eq_true rfl) dL_cell_18
  · have h := h2 hc
    clear h1 h2
    refine zr_aload_n C 0 dL_cell_6 rfl rfl ?_
    refine zr_iload_n C 1 dL_cell_7 rfl rfl ?_
    obtain ⟨hi3, x4, hv5, h⟩ := h
    refine zr_iald4 C rfl hT2 hi3 hv5 dL_cell_8 ?_
    refine zr_goto C 18 dL_cell_9 (by decide) ?_
    exact zr_iret C rfl ⟨_, rfl, rfl, rfl, h⟩ (Nat.le_of_ble_eq_true rfl) (Nat.le_of_ble_eq_true rfl) dL_cell_18
theorem dL_act_0 : decode cL_act 0 = .ok (.iload_n 1, 1) := by decide +kernel
theorem dL_act_1 : decode cL_act 1 = .ok (.iconst 3, 1) := by decide +kernel
theorem dL_act_2 : decode cL_act 2 = .ok (.ishr, 1) := by decide +kernel
theorem dL_act_3 : decode cL_act 3 = .ok (.iconst 5, 1) := by decide +kernel
theorem dL_act_7 : decode cL_act 7 = .ok (.istore_n 2, 1) := by decide +kernel
theorem dL_act_8 : decode cL_act 8 = .ok (.iload_n 1, 1) := by decide +kernel
theorem dL_act_9 : decode cL_act 9 = .ok (.iconst 5, 1) := by decide +kernel
theorem dL_act_10 : decode cL_act 10 = .ok (.ishr, 1) := by decide +kernel
theorem dL_act_11 : decode cL_act 11 = .ok (.iconst 3, 1) := by decide +kernel
theorem dL_act_15 : decode cL_act 15 = .ok (.istore_n 3, 1) := by decide +kernel
theorem dL_act_16 : decode cL_act 16 = .ok (.aload_n 0, 1) := by decide +kernel
theorem dL_act_17 : decode cL_act 17 = .ok (.bipush 10, 2) := by decide +kernel
theorem dL_act_22 : decode cL_act 22 = .ok (.istore 4, 2) := by decide +kernel
theorem dL_act_24 : decode cL_act 24 = .ok (.iload_n 1, 1) := by decide +kernel
theorem dL_act_25 : decode cL_act 25 = .ok (.iconst 4, 1) := by decide +kernel
theorem dL_act_26 : decode cL_act 26 = .ok (.ishr, 1) := by decide +kernel
theorem dL_act_27 : decode cL_act 27 = .ok (.iconst 1, 1) := by decide +kernel
theorem dL_act_28 : decode cL_act 28 = .ok (.aload_n 0, 1) := by decide +kernel
theorem dL_act_29 : decode cL_act 29 = .ok (.iconst 2, 1) := by decide +kernel
theorem dL_act_33 : decode cL_act 33 = .ok (.invokestatic 61, 3) := by decide +kernel
theorem dL_act_39 : decode cL_act 39 = .ok (.istore 5, 2) := by decide +kernel
theorem dL_act_41 : decode cL_act 41 = .ok (.iload_n 1, 1) := by decide +kernel
theorem dL_act_42 : decode cL_act 42 = .ok (.bipush 13, 2) := by decide +kernel
theorem dL_act_497 : decode cL_act 497 = .ok (.aload_n 0, 1) := by decide +kernel
theorem dL_act_498 : decode cL_act 498 = .ok (.iconst 1, 1) := by decide +kernel
theorem dL_act_502 : decode cL_act 502 = .ok (.istore 12, 2) := by decide +kernel
theorem dL_act_504 : decode cL_act 504 = .ok (.aload_n 0, 1) := by decide +kernel
theorem dL_act_505 : decode cL_act 505 = .ok (.bipush 7, 2) := by decide +kernel
theorem dL_act_510 : decode cL_act 510 = .ok (.istore 13, 2) := by decide +kernel
theorem dL_act_512 : decode cL_act 512 = .ok (.aload_n 0, 1) := by decide +kernel
theorem dL_act_516 : decode cL_act 516 = .ok (.istore 14, 2) := by decide +kernel
theorem dL_act_518 : decode cL_act 518 = .ok (.aload_n 0, 1) := by decide +kernel
theorem dL_act_519 : decode cL_act 519 = .ok (.bipush 10, 2) := by decide +kernel
theorem dL_act_524 : decode cL_act 524 = .ok (.iload 4, 2) := by decide +kernel
theorem dL_act_526 : decode cL_act 526 = .ok (.iconst 1, 1) := by decide +kernel
theorem dL_act_527 : decode cL_act 527 = .ok (.iadd, 1) := by decide +kernel
theorem dL_act_528 : decode cL_act 528 = .ok (.if_icmp .ne 38, 3) := by decide +kernel
theorem dL_act_566 : decode cL_act 566 = .ok (.iconst 0, 1) := by decide +kernel
theorem dL_act_567 : decode cL_act 567 = .ok (.ireturn, 1) := by decide +kernel
theorem dL_act_531 : decode cL_act 531 = .ok (.aload_n 0, 1) := by decide +kernel
theorem dL_act_532 : decode cL_act 532 = .ok (.bipush 7, 2) := by decide +kernel
theorem dL_act_537 : decode cL_act 537 = .ok (.iload 13, 2) := by decide +kernel
theorem dL_act_539 : decode cL_act 539 = .ok (.iload 12, 2) := by decide +kernel
theorem dL_act_541 : decode cL_act 541 = .ok (.iadd, 1) := by decide +kernel
theorem dL_act_542 : decode cL_act 542 = .ok (.if_icmp .ne 24, 3) := by decide +kernel
theorem dL_act_545 : decode cL_act 545 = .ok (.iload 14, 2) := by decide +kernel
theorem dL_act_547 : decode cL_act 547 = .ok (.iload 12, 2) := by decide +kernel
theorem dL_act_549 : decode cL_act 549 = .ok (.if_icmp .lt 17, 3) := by decide +kernel
theorem dL_act_552 : decode cL_act 552 = .ok (.iload 14, 2) := by decide +kernel
theorem dL_act_554 : decode cL_act 554 = .ok (.aload_n 0, 1) := by decide +kernel
theorem dL_act_555 : decode cL_act 555 = .ok (.iconst 2, 1) := by decide +kernel
theorem dL_act_559 : decode cL_act 559 = .ok (.if_icmp .gt 7, 3) := by decide +kernel
theorem dL_act_562 : decode cL_act 562 = .ok (.iconst 1, 1) := by decide +kernel
theorem dL_act_563 : decode cL_act 563 = .ok (.goto 4, 3) := by decide +kernel
theorem dL_act_568 : decode cL_act 568 = .ok (.astore 6, 2) := by decide +kernel
theorem dL_act_570 : decode cL_act 570 = .ok (.aload_n 0, 1) := by decide +kernel
theorem dL_act_571 : decode cL_act 571 = .ok (.iconst 2, 1) := by decide +kernel
theorem dL_act_575 : decode cL_act 575 = .ok (.ifCond .ne 7, 3) := by decide +kernel
theorem dL_act_582 : decode cL_act 582 = .ok (.iconst 0, 1) := by decide +kernel
theorem dL_act_583 : decode cL_act 583 = .ok (.ireturn, 1) := by decide +kernel
theorem dL_act_578 : decode cL_act 578 = .ok (.iconst 1, 1) := by decide +kernel
theorem dL_act_579 : decode cL_act 579 = .ok (.goto 4, 3) := by decide +kernel
theorem dL_act_572 : decode cL_act 572 = .ok (.invokevirtual 36, 3) := by decide +kernel
theorem dL_act_584 : decode cL_act 584 = .ok (.astore 6, 2) := by decide +kernel
theorem dL_act_586 : decode cL_act 586 = .ok (.iload_n 1, 1) := by decide +kernel
theorem dL_act_587 : decode cL_act 587 = .ok (.bipush 13, 2) := by decide +kernel
theorem dL_act_592 : decode cL_act 592 = .ok (.iconst 2, 1) := by decide +kernel
theorem dL_act_593 : decode cL_act 593 = .ok (.if_icmp .eq 47, 3) := by decide +kernel
theorem dL_act_640 : decode cL_act 640 = .ok (.iconst 0, 1) := by decide +kernel
theorem dL_act_641 : decode cL_act 641 = .ok (.ireturn, 1) := by decide +kernel
theorem dL_act_596 : decode cL_act 596 = .ok (.iload_n 1, 1) := by decide +kernel
theorem dL_act_597 : decode cL_act 597 = .ok (.bipush 13, 2) := by decide +kernel
theorem dL_act_602 : decode cL_act 602 = .ok (.bipush 6, 2) := by decide +kernel
theorem dL_act_604 : decode cL_act 604 = .ok (.if_icmp .eq 36, 3) := by decide +kernel
theorem dL_act_607 : decode cL_act 607 = .ok (.iload_n 1, 1) := by decide +kernel
theorem dL_act_608 : decode cL_act 608 = .ok (.bipush 13, 2) := by decide +kernel
theorem dL_act_613 : decode cL_act 613 = .ok (.bipush 9, 2) := by decide +kernel
theorem dL_act_615 : decode cL_act 615 = .ok (.if_icmp .eq 25, 3) := by decide +kernel
theorem dL_act_618 : decode cL_act 618 = .ok (.iload_n 1, 1) := by decide +kernel
theorem dL_act_619 : decode cL_act 619 = .ok (.bipush 13, 2) := by decide +kernel
theorem dL_act_624 : decode cL_act 624 = .ok (.bipush 10, 2) := by decide +kernel
theorem dL_act_626 : decode cL_act 626 = .ok (.if_icmp .lt 10, 3) := by decide +kernel
theorem dL_act_636 : decode cL_act 636 = .ok (.iconst 1, 1) := by decide +kernel
theorem dL_act_637 : decode cL_act 637 = .ok (.goto 4, 3) := by decide +kernel
theorem dL_act_629 : decode cL_act 629 = .ok (.iload 4, 2) := by decide +kernel
theorem dL_act_631 : decode cL_act 631 = .ok (.bipush 99, 2) := by decide +kernel
theorem dL_act_633 : decode cL_act 633 = .ok (.if_icmp .ne 7, 3) := by decide +kernel
theorem dL_act_621 : decode cL_act 621 = .ok (.invokestatic 22, 3) := by decide +kernel
theorem dL_act_610 : decode cL_act 610 = .ok (.invokestatic 22, 3) := by decide +kernel
theorem dL_act_599 : decode cL_act 599 = .ok (.invokestatic 22, 3) := by decide +kernel
theorem dL_act_589 : decode cL_act 589 = .ok (.invokestatic 22, 3) := by decide +kernel
theorem dL_act_556 : decode cL_act 556 = .ok (.invokevirtual 36, 3) := by decide +kernel
theorem dL_act_534 : decode cL_act 534 = .ok (.invokevirtual 36, 3) := by decide +kernel
theorem dL_act_521 : decode cL_act 521 = .ok (.invokevirtual 36, 3) := by decide +kernel
theorem dL_act_513 : decode cL_act 513 = .ok (.invokevirtual 106, 3) := by decide +kernel
theorem dL_act_507 : decode cL_act 507 = .ok (.invokevirtual 36, 3) := by decide +kernel
theorem dL_act_499 : decode cL_act 499 = .ok (.invokevirtual 103, 3) := by decide +kernel
theorem dL_act_100 : decode cL_act 100 = .ok (.aload_n 0, 1) := by decide +kernel
theorem dL_act_101 : decode cL_act 101 = .ok (.iload_n 2, 1) := by decide +kernel
theorem dL_act_102 : decode cL_act 102 = .ok (.iload_n 3, 1) := by decide +kernel
theorem dL_act_106 : decode cL_act 106 = .ok (.ifCond .eq 14, 3) := by decide +kernel
theorem dL_act_120 : decode cL_act 120 = .ok (.iconst 1, 1) := by decide +kernel
theorem dL_act_121 : decode cL_act 121 = .ok (.goto 4, 3) := by decide +kernel
theorem dL_act_125 : decode cL_act 125 = .ok (.ireturn, 1) := by decide +kernel
theorem dL_act_109 : decode cL_act 109 = .ok (.aload_n 0, 1) := by decide +kernel
theorem dL_act_110 : decode cL_act 110 = .ok (.iload_n 2, 1) := by decide +kernel
theorem dL_act_111 : decode cL_act 111 = .ok (.iload_n 3, 1) := by decide +kernel
theorem dL_act_112 : decode cL_act 112 = .ok (.iload 4, 2) := by decide +kernel
theorem dL_act_117 : decode cL_act 117 = .ok (.ifCond .eq 7, 3) := by decide +kernel
theorem dL_act_124 : decode cL_act 124 = .ok (.iconst 0, 1) := by decide +kernel
theorem dL_act_114 : decode cL_act 114 = .ok (.invokevirtual 70, 3) := by decide +kernel
theorem dL_act_103 : decode cL_act 103 = .ok (.invokevirtual 66, 3) := by decide +kernel
theorem dL_act_126 : decode cL_act 126 = .ok (.aload_n 0, 1) := by decide +kernel
theorem dL_act_127 : decode cL_act 127 = .ok (.iload_n 2, 1) := by decide +kernel
theorem dL_act_128 : decode cL_act 128 = .ok (.iload_n 3, 1) := by decide +kernel
theorem dL_act_132 : decode cL_act 132 = .ok (.ifCond .eq 14, 3) := by decide +kernel
theorem dL_act_146 : decode cL_act 146 = .ok (.iconst 1, 1) := by decide +kernel
theorem dL_act_147 : decode cL_act 147 = .ok (.goto 4, 3) := by decide +kernel
theorem dL_act_151 : decode cL_act 151 = .ok (.ireturn, 1) := by decide +kernel
theorem dL_act_135 : decode cL_act 135 = .ok (.aload_n 0, 1) := by decide +kernel
theorem dL_act_136 : decode cL_act 136 = .ok (.iload_n 2, 1) := by decide +kernel
theorem dL_act_137 : decode cL_act 137 = .ok (.iload_n 3, 1) := by decide +kernel
theorem dL_act_138 : decode cL_act 138 = .ok (.iload 4, 2) := by decide +kernel
theorem dL_act_143 : decode cL_act 143 = .ok (.ifCond .ne 7, 3) := by decide +kernel
theorem dL_act_150 : decode cL_act 150 = .ok (.iconst 0, 1) := by decide +kernel
theorem dL_act_140 : decode cL_act 140 = .ok (.invokevirtual 70, 3) := by decide +kernel
theorem dL_act_129 : decode cL_act 129 = .ok (.invokevirtual 74, 3) := by decide +kernel
theorem dL_act_152 : decode cL_act 152 = .ok (.bipush 99, 2) := by decide +kernel
theorem dL_act_154 : decode cL_act 154 = .ok (.iload 4, 2) := by decide +kernel
theorem dL_act_156 : decode cL_act 156 = .ok (.iconst 1, 1) := by decide +kernel
theorem dL_act_157 : decode cL_act 157 = .ok (.iadd, 1) := by decide +kernel
theorem dL_act_158 : decode cL_act 158 = .ok (.iload_n 1, 1) := by decide +kernel
theorem dL_act_159 : decode cL_act 159 = .ok (.bipush 6, 2) := by decide +kernel
theorem dL_act_161 : decode cL_act 161 = .ok (.ishr, 1) := by decide +kernel
theorem dL_act_162 : decode cL_act 162 = .ok (.bipush 9, 2) := by decide +kernel
theorem dL_act_167 : decode cL_act 167 = .ok (.iadd, 1) := by decide +kernel
theorem dL_act_168 : decode cL_act 168 = .ok (.invokestatic 77, 3) := by decide +kernel
theorem dL_act_171 : decode cL_act 171 = .ok (.istore 6, 2) := by decide +kernel
theorem dL_act_173 : decode cL_act 173 = .ok (.bipush 99, 2) := by decide +kernel
theorem dL_act_175 : decode cL_act 175 = .ok (.iload 6, 2) := by decide +kernel
theorem dL_act_177 : decode cL_act 177 = .ok (.iload_n 1, 1) := by decide +kernel
theorem dL_act_178 : decode cL_act 178 = .ok (.bipush 7, 2) := by decide +kernel
theorem dL_act_180 : decode cL_act 180 = .ok (.ishr, 1) := by decide +kernel
theorem dL_act_181 : decode cL_act 181 = .ok (.iconst 5, 1) := by decide +kernel
theorem dL_act_185 : decode cL_act 185 = .ok (.iadd, 1) := by decide +kernel
theorem dL_act_186 : decode cL_act 186 = .ok (.invokestatic 77, 3) := by decide +kernel
theorem dL_act_189 : decode cL_act 189 = .ok (.istore 7, 2) := by decide +kernel
theorem dL_act_191 : decode cL_act 191 = .ok (.aload_n 0, 1) := by decide +kernel
theorem dL_act_192 : decode cL_act 192 = .ok (.iload 6, 2) := by decide +kernel
theorem dL_act_194 : decode cL_act 194 = .ok (.iload 7, 2) := by decide +kernel
theorem dL_act_196 : decode cL_act 196 = .ok (.bipush 10, 2) := by decide +kernel
theorem dL_act_198 : decode cL_act 198 = .ok (.iload_n 1, 1) := by decide +kernel
theorem dL_act_199 : decode cL_act 199 = .ok (.iconst 4, 1) := by decide +kernel
theorem dL_act_200 : decode cL_act 200 = .ok (.ishr, 1) := by decide +kernel
theorem dL_act_201 : decode cL_act 201 = .ok (.bipush 90, 2) := by decide +kernel
theorem dL_act_206 : decode cL_act 206 = .ok (.iadd, 1) := by decide +kernel
theorem dL_act_210 : decode cL_act 210 = .ok (.istore 8, 2) := by decide +kernel
theorem dL_act_212 : decode cL_act 212 = .ok (.aload_n 0, 1) := by decide +kernel
theorem dL_act_213 : decode cL_act 213 = .ok (.iconst 2, 1) := by decide +kernel
theorem dL_act_217 : decode cL_act 217 = .ok (.istore 9, 2) := by decide +kernel
theorem dL_act_219 : decode cL_act 219 = .ok (.aload_n 0, 1) := by decide +kernel
theorem dL_act_220 : decode cL_act 220 = .ok (.iload_n 2, 1) := by decide +kernel
theorem dL_act_221 : decode cL_act 221 = .ok (.iload_n 3, 1) := by decide +kernel
theorem dL_act_222 : decode cL_act 222 = .ok (.iload_n 1, 1) := by decide +kernel
theorem dL_act_223 : decode cL_act 223 = .ok (.iconst 4, 1) := by decide +kernel
theorem dL_act_224 : decode cL_act 224 = .ok (.ishr, 1) := by decide +kernel
theorem dL_act_225 : decode cL_act 225 = .ok (.iconst 2, 1) := by decide +kernel
theorem dL_act_229 : decode cL_act 229 = .ok (.iload 6, 2) := by decide +kernel
theorem dL_act_231 : decode cL_act 231 = .ok (.iload 7, 2) := by decide +kernel
theorem dL_act_233 : decode cL_act 233 = .ok (.bipush 10, 2) := by decide +kernel
theorem dL_act_235 : decode cL_act 235 = .ok (.iload_n 1, 1) := by decide +kernel
theorem dL_act_236 : decode cL_act 236 = .ok (.iconst 4, 1) := by decide +kernel
theorem dL_act_237 : decode cL_act 237 = .ok (.ishr, 1) := by decide +kernel
theorem dL_act_238 : decode cL_act 238 = .ok (.bipush 90, 2) := by decide +kernel
theorem dL_act_243 : decode cL_act 243 = .ok (.iadd, 1) := by decide +kernel
theorem dL_act_247 : decode cL_act 247 = .ok (.iload 9, 2) := by decide +kernel
theorem dL_act_249 : decode cL_act 249 = .ok (.if_icmp .ne 33, 3) := by decide +kernel
theorem dL_act_282 : decode cL_act 282 = .ok (.iconst 0, 1) := by decide +kernel
theorem dL_act_283 : decode cL_act 283 = .ok (.ireturn, 1) := by decide +kernel
theorem dL_act_252 : decode cL_act 252 = .ok (.aload_n 0, 1) := by decide +kernel
theorem dL_act_253 : decode cL_act 253 = .ok (.iload 9, 2) := by decide +kernel
theorem dL_act_255 : decode cL_act 255 = .ok (.bipush 6, 2) := by decide +kernel
theorem dL_act_260 : decode cL_act 260 = .ok (.iload 8, 2) := by decide +kernel
theorem dL_act_262 : decode cL_act 262 = .ok (.if_icmp .ne 20, 3) := by decide +kernel
theorem dL_act_265 : decode cL_act 265 = .ok (.aload_n 0, 1) := by decide +kernel
theorem dL_act_266 : decode cL_act 266 = .ok (.iload 9, 2) := by decide +kernel
theorem dL_act_268 : decode cL_act 268 = .ok (.bipush 7, 2) := by decide +kernel
theorem dL_act_273 : decode cL_act 273 = .ok (.iload 8, 2) := by decide +kernel
theorem dL_act_275 : decode cL_act 275 = .ok (.if_icmp .ne 7, 3) := by decide +kernel
theorem dL_act_278 : decode cL_act 278 = .ok (.iconst 1, 1) := by decide +kernel
theorem dL_act_279 : decode cL_act 279 = .ok (.goto 4, 3) := by decide +kernel
theorem dL_act_270 : decode cL_act 270 = .ok (.invokevirtual 40, 3) := by decide +kernel
theorem dL_act_257 : decode cL_act 257 = .ok (.invokevirtual 40, 3) := by decide +kernel
theorem dL_act_244 : decode cL_act 244 = .ok (.invokevirtual 84, 3) := by decide +kernel
theorem dL_act_240 : decode cL_act 240 = .ok (.invokestatic 22, 3) := by decide +kernel
theorem dL_act_226 : decode cL_act 226 = .ok (.invokestatic 22, 3) := by decide +kernel
theorem dL_act_214 : decode cL_act 214 = .ok (.invokevirtual 36, 3) := by decide +kernel
theorem dL_act_207 : decode cL_act 207 = .ok (.invokevirtual 80, 3) := by decide +kernel
theorem dL_act_203 : decode cL_act 203 = .ok (.invokestatic 22, 3) := by decide +kernel
theorem dL_act_182 : decode cL_act 182 = .ok (.invokestatic 22, 3) := by decide +kernel
theorem dL_act_164 : decode cL_act 164 = .ok (.invokestatic 22, 3) := by decide +kernel
theorem dL_act_284 : decode cL_act 284 = .ok (.aload_n 0, 1) := by decide +kernel
theorem dL_act_285 : decode cL_act 285 = .ok (.iload 5, 2) := by decide +kernel
theorem dL_act_290 : decode cL_act 290 = .ok (.aload_n 0, 1) := by decide +kernel
theorem dL_act_291 : decode cL_act 291 = .ok (.iload 5, 2) := by decide +kernel
theorem dL_act_293 : decode cL_act 293 = .ok (.bipush 7, 2) := by decide +kernel
theorem dL_act_298 : decode cL_act 298 = .ok (.if_icmp .ne 29, 3) := by decide +kernel
theorem dL_act_327 : decode cL_act 327 = .ok (.iconst 0, 1) := by decide +kernel
theorem dL_act_328 : decode cL_act 328 = .ok (.ireturn, 1) := by decide +kernel
theorem dL_act_301 : decode cL_act 301 = .ok (.aload_n 0, 1) := by decide +kernel
theorem dL_act_302 : decode cL_act 302 = .ok (.iload 5, 2) := by decide +kernel
theorem dL_act_304 : decode cL_act 304 = .ok (.iconst 5, 1) := by decide +kernel
theorem dL_act_308 : decode cL_act 308 = .ok (.iconst 3, 1) := by decide +kernel
theorem dL_act_309 : decode cL_act 309 = .ok (.if_icmp .ne 18, 3) := by decide +kernel
theorem dL_act_312 : decode cL_act 312 = .ok (.aload_n 0, 1) := by decide +kernel
theorem dL_act_313 : decode cL_act 313 = .ok (.iload 5, 2) := by decide +kernel
theorem dL_act_315 : decode cL_act 315 = .ok (.bipush 10, 2) := by decide +kernel
theorem dL_act_320 : decode cL_act 320 = .ok (.ifCond .ne 7, 3) := by decide +kernel
theorem dL_act_323 : decode cL_act 323 = .ok (.iconst 1, 1) := by decide +kernel
theorem dL_act_324 : decode cL_act 324 = .ok (.goto 4, 3) := by decide +kernel
theorem dL_act_317 : decode cL_act 317 = .ok (.invokevirtual 40, 3) := by decide +kernel
theorem dL_act_305 : decode cL_act 305 = .ok (.invokevirtual 40, 3) := by decide +kernel
theorem dL_act_295 : decode cL_act 295 = .ok (.invokevirtual 40, 3) := by decide +kernel
theorem dL_act_287 : decode cL_act 287 = .ok (.invokevirtual 88, 3) := by decide +kernel
theorem dL_act_329 : decode cL_act 329 = .ok (.aload_n 0, 1) := by decide +kernel
theorem dL_act_330 : decode cL_act 330 = .ok (.iload 5, 2) := by decide +kernel
theorem dL_act_335 : decode cL_act 335 = .ok (.istore 10, 2) := by decide +kernel
theorem dL_act_337 : decode cL_act 337 = .ok (.aload_n 0, 1) := by decide +kernel
theorem dL_act_338 : decode cL_act 338 = .ok (.iload 5, 2) := by decide +kernel
theorem dL_act_340 : decode cL_act 340 = .ok (.iconst 5, 1) := by decide +kernel
theorem dL_act_344 : decode cL_act 344 = .ok (.ifCond .ne 7, 3) := by decide +kernel
theorem dL_act_351 : decode cL_act 351 = .ok (.iconst 0, 1) := by decide +kernel
theorem dL_act_352 : decode cL_act 352 = .ok (.istore 11, 2) := by decide +kernel
theorem dL_act_354 : decode cL_act 354 = .ok (.iload 10, 2) := by decide +kernel
theorem dL_act_356 : decode cL_act 356 = .ok (.ifCond .lt 33, 3) := by decide +kernel
theorem dL_act_389 : decode cL_act 389 = .ok (.iconst 1, 1) := by decide +kernel
theorem dL_act_390 : decode cL_act 390 = .ok (.goto 4, 3) := by decide +kernel
theorem dL_act_394 : decode cL_act 394 = .ok (.ireturn, 1) := by decide +kernel
theorem dL_act_359 : decode cL_act 359 = .ok (.iload 11, 2) := by decide +kernel
theorem dL_act_361 : decode cL_act 361 = .ok (.ifCond .eq 28, 3) := by decide +kernel
theorem dL_act_347 : decode cL_act 347 = .ok (.iconst 1, 1) := by decide +kernel
theorem dL_act_348 : decode cL_act 348 = .ok (.goto 4, 3) := by decide +kernel
theorem dL_act_364 : decode cL_act 364 = .ok (.aload_n 0, 1) := by decide +kernel
theorem dL_act_365 : decode cL_act 365 = .ok (.iload 5, 2) := by decide +kernel
theorem dL_act_367 : decode cL_act 367 = .ok (.iload 10, 2) := by decide +kernel
theorem dL_act_372 : decode cL_act 372 = .ok (.iload 10, 2) := by decide +kernel
theorem dL_act_374 : decode cL_act 374 = .ok (.if_icmp .eq 19, 3) := by decide +kernel
theorem dL_act_393 : decode cL_act 393 = .ok (.iconst 0, 1) := by decide +kernel
theorem dL_act_377 : decode cL_act 377 = .ok (.aload_n 0, 1) := by decide +kernel
theorem dL_act_378 : decode cL_act 378 = .ok (.iload 5, 2) := by decide +kernel
theorem dL_act_380 : decode cL_act 380 = .ok (.iconst 0, 1) := by decide +kernel
theorem dL_act_384 : decode cL_act 384 = .ok (.iload 10, 2) := by decide +kernel
theorem dL_act_386 : decode cL_act 386 = .ok (.if_icmp .ne 7, 3) := by decide +kernel
theorem dL_act_381 : decode cL_act 381 = .ok (.invokevirtual 40, 3) := by decide +kernel
theorem dL_act_369 : decode cL_act 369 = .ok (.invokevirtual 94, 3) := by decide +kernel
theorem dL_act_341 : decode cL_act 341 = .ok (.invokevirtual 40, 3) := by decide +kernel
theorem dL_act_332 : decode cL_act 332 = .ok (.invokevirtual 91, 3) := by decide +kernel
theorem dL_act_395 : decode cL_act 395 = .ok (.aload_n 0, 1) := by decide +kernel
theorem dL_act_396 : decode cL_act 396 = .ok (.iload_n 1, 1) := by decide +kernel
theorem dL_act_397 : decode cL_act 397 = .ok (.iconst 4, 1) := by decide +kernel
theorem dL_act_398 : decode cL_act 398 = .ok (.ishr, 1) := by decide +kernel
theorem dL_act_399 : decode cL_act 399 = .ok (.iconst 3, 1) := by decide +kernel
theorem dL_act_403 : decode cL_act 403 = .ok (.bipush 99, 2) := by decide +kernel
theorem dL_act_405 : decode cL_act 405 = .ok (.iload 4, 2) := by decide +kernel
theorem dL_act_407 : decode cL_act 407 = .ok (.iload_n 1, 1) := by decide +kernel
theorem dL_act_408 : decode cL_act 408 = .ok (.bipush 6, 2) := by decide +kernel
theorem dL_act_410 : decode cL_act 410 = .ok (.ishr, 1) := by decide +kernel
theorem dL_act_411 : decode cL_act 411 = .ok (.iconst 5, 1) := by decide +kernel
theorem dL_act_415 : decode cL_act 415 = .ok (.iadd, 1) := by decide +kernel
theorem dL_act_416 : decode cL_act 416 = .ok (.invokestatic 77, 3) := by decide +kernel
theorem dL_act_422 : decode cL_act 422 = .ok (.iconst 5, 1) := by decide +kernel
theorem dL_act_423 : decode cL_act 423 = .ok (.if_icmp .ge 7, 3) := by decide +kernel
theorem dL_act_430 : decode cL_act 430 = .ok (.iconst 0, 1) := by decide +kernel
theorem dL_act_431 : decode cL_act 431 = .ok (.ireturn, 1) := by decide +kernel
theorem dL_act_426 : decode cL_act 426 = .ok (.iconst 1, 1) := by decide +kernel
theorem dL_act_427 : decode cL_act 427 = .ok (.goto 4, 3) := by decide +kernel
theorem dL_act_419 : decode cL_act 419 = .ok (.invokevirtual 26, 3) := by decide +kernel
theorem dL_act_412 : decode cL_act 412 = .ok (.invokestatic 22, 3) := by decide +kernel
theorem dL_act_400 : decode cL_act 400 = .ok (.invokestatic 22, 3) := by decide +kernel
theorem dL_act_432 : decode cL_act 432 = .ok (.aload_n 0, 1) := by decide +kernel
theorem dL_act_433 : decode cL_act 433 = .ok (.iload_n 1, 1) := by decide +kernel
theorem dL_act_434 : decode cL_act 434 = .ok (.iconst 4, 1) := by decide +kernel
theorem dL_act_435 : decode cL_act 435 = .ok (.ishr, 1) := by decide +kernel
theorem dL_act_436 : decode cL_act 436 = .ok (.iconst 3, 1) := by decide +kernel
theorem dL_act_440 : decode cL_act 440 = .ok (.iconst 1, 1) := by decide +kernel
theorem dL_act_441 : decode cL_act 441 = .ok (.iload_n 1, 1) := by decide +kernel
theorem dL_act_442 : decode cL_act 442 = .ok (.bipush 6, 2) := by decide +kernel
theorem dL_act_444 : decode cL_act 444 = .ok (.ishr, 1) := by decide +kernel
theorem dL_act_445 : decode cL_act 445 = .ok (.iconst 5, 1) := by decide +kernel
theorem dL_act_449 : decode cL_act 449 = .ok (.iadd, 1) := by decide +kernel
theorem dL_act_453 : decode cL_act 453 = .ok (.iload 4, 2) := by decide +kernel
theorem dL_act_455 : decode cL_act 455 = .ok (.if_icmp .le 7, 3) := by decide +kernel
theorem dL_act_462 : decode cL_act 462 = .ok (.iconst 0, 1) := by decide +kernel
theorem dL_act_463 : decode cL_act 463 = .ok (.ireturn, 1) := by decide +kernel
theorem dL_act_458 : decode cL_act 458 = .ok (.iconst 1, 1) := by decide +kernel
theorem dL_act_459 : decode cL_act 459 = .ok (.goto 4, 3) := by decide +kernel
theorem dL_act_450 : decode cL_act 450 = .ok (.invokevirtual 97, 3) := by decide +kernel
theorem dL_act_446 : decode cL_act 446 = .ok (.invokestatic 22, 3) := by decide +kernel
theorem dL_act_437 : decode cL_act 437 = .ok (.invokestatic 22, 3) := by decide +kernel
theorem dL_act_464 : decode cL_act 464 = .ok (.aload_n 0, 1) := by decide +kernel
theorem dL_act_465 : decode cL_act 465 = .ok (.iload_n 1, 1) := by decide +kernel
theorem dL_act_466 : decode cL_act 466 = .ok (.iconst 4, 1) := by decide +kernel
theorem dL_act_467 : decode cL_act 467 = .ok (.ishr, 1) := by decide +kernel
theorem dL_act_468 : decode cL_act 468 = .ok (.iconst 2, 1) := by decide +kernel
theorem dL_act_472 : decode cL_act 472 = .ok (.iload_n 3, 1) := by decide +kernel
theorem dL_act_473 : decode cL_act 473 = .ok (.iload_n 1, 1) := by decide +kernel
theorem dL_act_474 : decode cL_act 474 = .ok (.iconst 2, 1) := by decide +kernel
theorem dL_act_475 : decode cL_act 475 = .ok (.ishr, 1) := by decide +kernel
theorem dL_act_476 : decode cL_act 476 = .ok (.sipush 1024, 3) := by decide +kernel
theorem dL_act_485 : decode cL_act 485 = .ok (.sipush 1024, 3) := by decide +kernel
theorem dL_act_488 : decode cL_act 488 = .ok (.if_icmp .ge 7, 3) := by decide +kernel
theorem dL_act_495 : decode cL_act 495 = .ok (.iconst 0, 1) := by decide +kernel
theorem dL_act_496 : decode cL_act 496 = .ok (.ireturn, 1) := by decide +kernel
theorem dL_act_491 : decode cL_act 491 = .ok (.iconst 1, 1) := by decide +kernel
theorem dL_act_492 : decode cL_act 492 = .ok (.goto 4, 3) := by decide +kernel
theorem dL_act_482 : decode cL_act 482 = .ok (.invokevirtual 100, 3) := by decide +kernel
theorem dL_act_479 : decode cL_act 479 = .ok (.invokestatic 22, 3) := by decide +kernel
theorem dL_act_469 : decode cL_act 469 = .ok (.invokestatic 22, 3) := by decide +kernel
theorem dL_act_47 : decode cL_act 47 = .ok (.tableswitch 450 0 9 #[53, 53, 79, 105, 105, 237, 282, 348, 385, 417], 53) := by decide +kernel
theorem dL_act_44 : decode cL_act 44 = .ok (.invokestatic 22, 3) := by decide +kernel
theorem dL_act_36 : decode cL_act 36 = .ok (.invokestatic 22, 3) := by decide +kernel
theorem dL_act_30 : decode cL_act 30 = .ok (.invokevirtual 36, 3) := by decide +kernel
theorem dL_act_19 : decode cL_act 19 = .ok (.invokevirtual 36, 3) := by decide +kernel
theorem dL_act_12 : decode cL_act 12 = .ok (.invokestatic 22, 3) := by decide +kernel
theorem dL_act_4 : decode cL_act 4 = .ok (.invokestatic 22, 3) := by decide +kernel
def v_L_act (zE : Nat) (a0 : Nat) (p1 : Int32) (T : zT) (F : zF) (Post : Int32 → zT → zF → Prop) : Prop :=
  (v_L_below (p1 >>> (3 &&& 31)) 5 T F (fun (r1 : Int32) => (v_L_below (p1 >>> (5 &&& 31)) 3 T F (fun (r2 : Int32) => (T a0 = some (5, 4) ∧ (v_X4_many a0 10 T F (fun (r4 : Int32) => (v_X4_many a0 2 T F (fun (r5 : Int32) => (v_L_below (p1 >>> (4 &&& 31)) (if (1 : Int32) < r5 then r5 else (1 : Int32)) T F (fun (r6 : Int32) => (v_L_below p1 13 T F (fun (r7 : Int32) => (((r7.toInt < 0 ∨ 9 < r7.toInt) → (v_X4_lostIn zE a0 1 T F (fun (r8 : Int32) (T9 : zT) (F10 : zF) => (T9 a0 = some (5, 4) ∧ (v_X4_many a0 7 T9 F10 (fun (r12 : Int32) => (v_X4_day a0 T9 F10 (fun (r13 : Int32) (F14 : zF) => (v_X4_many a0 10 T9 F14 (fun (r15 : Int32) => ((¬ r15 = (r4 + 1) → Post 0 T9 F14) ∧ (r15 = (r4 + 1) → (v_X4_many a0 7 T9 F14 (fun (r16 : Int32) => ((¬ r16 = (r12 + r8) → Post 0 T9 F14) ∧ (r16 = (r12 + r8) → ((r13 < r8 → Post 0 T9 F14) ∧ (¬ r13 < r8 → (v_X4_many a0 2 T9 F14 (fun (r17 : Int32) => ((r17 < r13 → Post 0 T9 F14) ∧ (¬ r17 < r13 → Post 1 T9 F14))) (fun (E9 : String) => (E9 = "java/lang/IndexOutOfBoundsException" ∧ (v_X4_many a0 2 T9 F14 (fun (r18 : Int32) => ((¬ r18 = 0 → Post 0 T9 F14) ∧ (r18 = 0 → Post 1 T9 F14))) (fun _ => False))) ∨ (E9 = "java/lang/IllegalStateException" ∧ (v_L_below p1 13 T9 F14 (fun (r22 : Int32) => ((r22 = 2 → Post 0 T9 F14) ∧ (¬ r22 = 2 → (v_L_below p1 13 T9 F14 (fun (r23 : Int32) => ((r23 = 6 → Post 0 T9 F14) ∧ (¬ r23 = 6 → (v_L_below p1 13 T9 F14 (fun (r24 : Int32) => ((r24 = 9 → Post 0 T9 F14) ∧ (¬ r24 = 9 → (v_L_below p1 13 T9 F14 (fun (r25 : Int32) => ((r25 < 10 → Post 1 T9 F14) ∧ (¬ r25 < 10 → ((¬ r4 = 99 → Post 0 T9 F14) ∧ (r4 = 99 → Post 1 T9 F14)))))))))))))))))))))))))) (fun (E9 : String) => (E9 = "java/lang/IndexOutOfBoundsException" ∧ (v_X4_many a0 2 T9 F14 (fun (r41 : Int32) => ((¬ r41 = 0 → Post 0 T9 F14) ∧ (r41 = 0 → Post 1 T9 F14))) (fun _ => False))) ∨ (E9 = "java/lang/IllegalStateException" ∧ (v_L_below p1 13 T9 F14 (fun (r45 : Int32) => ((r45 = 2 → Post 0 T9 F14) ∧ (¬ r45 = 2 → (v_L_below p1 13 T9 F14 (fun (r46 : Int32) => ((r46 = 6 → Post 0 T9 F14) ∧ (¬ r46 = 6 → (v_L_below p1 13 T9 F14 (fun (r47 : Int32) => ((r47 = 9 → Post 0 T9 F14) ∧ (¬ r47 = 9 → (v_L_below p1 13 T9 F14 (fun (r48 : Int32) => ((r48 < 10 → Post 1 T9 F14) ∧ (¬ r48 < 10 → ((¬ r4 = 99 → Post 0 T9 F14) ∧ (r4 = 99 → Post 1 T9 F14)))))))))))))))))))))))) (fun (E9 : String) => (E9 = "java/lang/IndexOutOfBoundsException" ∧ (v_X4_many a0 2 T9 F14 (fun (r64 : Int32) => ((¬ r64 = 0 → Post 0 T9 F14) ∧ (r64 = 0 → Post 1 T9 F14))) (fun _ => False))) ∨ (E9 = "java/lang/IllegalStateException" ∧ (v_L_below p1 13 T9 F14 (fun (r68 : Int32) => ((r68 = 2 → Post 0 T9 F14) ∧ (¬ r68 = 2 → (v_L_below p1 13 T9 F14 (fun (r69 : Int32) => ((r69 = 6 → Post 0 T9 F14) ∧ (¬ r69 = 6 → (v_L_below p1 13 T9 F14 (fun (r70 : Int32) => ((r70 = 9 → Post 0 T9 F14) ∧ (¬ r70 = 9 → (v_L_below p1 13 T9 F14 (fun (r71 : Int32) => ((r71 < 10 → Post 1 T9 F14) ∧ (¬ r71 < 10 → ((¬ r4 = 99 → Post 0 T9 F14) ∧ (r4 = 99 → Post 1 T9 F14)))))))))))))))))))))) (fun (E9 : String) (F9 : zF) => (E9 = "java/lang/IndexOutOfBoundsException" ∧ (v_X4_many a0 2 T9 F9 (fun (r87 : Int32) => ((¬ r87 = 0 → Post 0 T9 F9) ∧ (r87 = 0 → Post 1 T9 F9))) (fun _ => False))) ∨ (E9 = "java/lang/IllegalStateException" ∧ (v_L_below p1 13 T9 F9 (fun (r91 : Int32) => ((r91 = 2 → Post 0 T9 F9) ∧ (¬ r91 = 2 → (v_L_below p1 13 T9 F9 (fun (r92 : Int32) => ((r92 = 6 → Post 0 T9 F9) ∧ (¬ r92 = 6 → (v_L_below p1 13 T9 F9 (fun (r93 : Int32) => ((r93 = 9 → Post 0 T9 F9) ∧ (¬ r93 = 9 → (v_L_below p1 13 T9 F9 (fun (r94 : Int32) => ((r94 < 10 → Post 1 T9 F9) ∧ (¬ r94 < 10 → ((¬ r4 = 99 → Post 0 T9 F9) ∧ (r4 = 99 → Post 1 T9 F9)))))))))))))))))))))) (fun (E9 : String) => (E9 = "java/lang/IndexOutOfBoundsException" ∧ (v_X4_many a0 2 T9 F10 (fun (r110 : Int32) => ((¬ r110 = 0 → Post 0 T9 F10) ∧ (r110 = 0 → Post 1 T9 F10))) (fun _ => False))) ∨ (E9 = "java/lang/IllegalStateException" ∧ (v_L_below p1 13 T9 F10 (fun (r114 : Int32) => ((r114 = 2 → Post 0 T9 F10) ∧ (¬ r114 = 2 → (v_L_below p1 13 T9 F10 (fun (r115 : Int32) => ((r115 = 6 → Post 0 T9 F10) ∧ (¬ r115 = 6 → (v_L_below p1 13 T9 F10 (fun (r116 : Int32) => ((r116 = 9 → Post 0 T9 F10) ∧ (¬ r116 = 9 → (v_L_below p1 13 T9 F10 (fun (r117 : Int32) => ((r117 < 10 → Post 1 T9 F10) ∧ (¬ r117 < 10 → ((¬ r4 = 99 → Post 0 T9 F10) ∧ (r4 = 99 → Post 1 T9 F10))))))))))))))))))))))) (fun (E9 : String) (T9 : zT) (F9 : zF) => (E9 = "java/lang/IndexOutOfBoundsException" ∧ (T9 a0 = some (5, 4) ∧ (v_X4_many a0 2 T9 F9 (fun (r134 : Int32) => ((¬ r134 = 0 → Post 0 T9 F9) ∧ (r134 = 0 → Post 1 T9 F9))) (fun _ => False)))) ∨ (E9 = "java/lang/IllegalStateException" ∧ (v_L_below p1 13 T9 F9 (fun (r138 : Int32) => ((r138 = 2 → Post 0 T9 F9) ∧ (¬ r138 = 2 → (v_L_below p1 13 T9 F9 (fun (r139 : Int32) => ((r139 = 6 → Post 0 T9 F9) ∧ (¬ r139 = 6 → (v_L_below p1 13 T9 F9 (fun (r140 : Int32) => ((r140 = 9 → Post 0 T9 F9) ∧ (¬ r140 = 9 → (v_L_below p1 13 T9 F9 (fun (r141 : Int32) => ((r141 < 10 → Post 1 T9 F9) ∧ (¬ r141 < 10 → ((¬ r4 = 99 → Post 0 T9 F9) ∧ (r4 = 99 → Post 1 T9 F9)))))))))))))))))))))) ∧ (r7 = 0 → (v_X4_approve a0 r1 r2 T F (fun (r158 : Int32) (F159 : zF) => ((r158 = 0 → Post 1 T F159) ∧ (¬ r158 = 0 → (v_X4_isFit a0 r1 r2 r4 T F159 (fun (r160 : Int32) => ((r160 = 0 → Post 0 T F159) ∧ (¬ r160 = 0 → Post 1 T F159))) (fun (E9 : String) => (E9 = "java/lang/IndexOutOfBoundsException" ∧ (v_X4_many a0 2 T F159 (fun (r161 : Int32) => ((¬ r161 = 0 → Post 0 T F159) ∧ (r161 = 0 → Post 1 T F159))) (fun _ => False))) ∨ (E9 = "java/lang/IllegalStateException" ∧ (v_L_below p1 13 T F159 (fun (r165 : Int32) => ((r165 = 2 → Post 0 T F159) ∧ (¬ r165 = 2 → (v_L_below p1 13 T F159 (fun (r166 : Int32) => ((r166 = 6 → Post 0 T F159) ∧ (¬ r166 = 6 → (v_L_below p1 13 T F159 (fun (r167 : Int32) => ((r167 = 9 → Post 0 T F159) ∧ (¬ r167 = 9 → (v_L_below p1 13 T F159 (fun (r168 : Int32) => ((r168 < 10 → Post 1 T F159) ∧ (¬ r168 < 10 → ((¬ r4 = 99 → Post 0 T F159) ∧ (r4 = 99 → Post 1 T F159)))))))))))))))))))))))) (fun (E9 : String) (F9 : zF) => (E9 = "java/lang/IndexOutOfBoundsException" ∧ (v_X4_many a0 2 T F9 (fun (r184 : Int32) => ((¬ r184 = 0 → Post 0 T F9) ∧ (r184 = 0 → Post 1 T F9))) (fun _ => False))) ∨ (E9 = "java/lang/IllegalStateException" ∧ (v_L_below p1 13 T F9 (fun (r188 : Int32) => ((r188 = 2 → Post 0 T F9) ∧ (¬ r188 = 2 → (v_L_below p1 13 T F9 (fun (r189 : Int32) => ((r189 = 6 → Post 0 T F9) ∧ (¬ r189 = 6 → (v_L_below p1 13 T F9 (fun (r190 : Int32) => ((r190 = 9 → Post 0 T F9) ∧ (¬ r190 = 9 → (v_L_below p1 13 T F9 (fun (r191 : Int32) => ((r191 < 10 → Post 1 T F9) ∧ (¬ r191 < 10 → ((¬ r4 = 99 → Post 0 T F9) ∧ (r4 = 99 → Post 1 T F9)))))))))))))))))))))) ∧ (r7 = 1 → (v_X4_approve a0 r1 r2 T F (fun (r208 : Int32) (F209 : zF) => ((r208 = 0 → Post 1 T F209) ∧ (¬ r208 = 0 → (v_X4_isFit a0 r1 r2 r4 T F209 (fun (r210 : Int32) => ((r210 = 0 → Post 0 T F209) ∧ (¬ r210 = 0 → Post 1 T F209))) (fun (E9 : String) => (E9 = "java/lang/IndexOutOfBoundsException" ∧ (v_X4_many a0 2 T F209 (fun (r211 : Int32) => ((¬ r211 = 0 → Post 0 T F209) ∧ (r211 = 0 → Post 1 T F209))) (fun _ => False))) ∨ (E9 = "java/lang/IllegalStateException" ∧ (v_L_below p1 13 T F209 (fun (r215 : Int32) => ((r215 = 2 → Post 0 T F209) ∧ (¬ r215 = 2 → (v_L_below p1 13 T F209 (fun (r216 : Int32) => ((r216 = 6 → Post 0 T F209) ∧ (¬ r216 = 6 → (v_L_below p1 13 T F209 (fun (r217 : Int32) => ((r217 = 9 → Post 0 T F209) ∧ (¬ r217 = 9 → (v_L_below p1 13 T F209 (fun (r218 : Int32) => ((r218 < 10 → Post 1 T F209) ∧ (¬ r218 < 10 → ((¬ r4 = 99 → Post 0 T F209) ∧ (r4 = 99 → Post 1 T F209)))))))))))))))))))))))) (fun (E9 : String) (F9 : zF) => (E9 = "java/lang/IndexOutOfBoundsException" ∧ (v_X4_many a0 2 T F9 (fun (r234 : Int32) => ((¬ r234 = 0 → Post 0 T F9) ∧ (r234 = 0 → Post 1 T F9))) (fun _ => False))) ∨ (E9 = "java/lang/IllegalStateException" ∧ (v_L_below p1 13 T F9 (fun (r238 : Int32) => ((r238 = 2 → Post 0 T F9) ∧ (¬ r238 = 2 → (v_L_below p1 13 T F9 (fun (r239 : Int32) => ((r239 = 6 → Post 0 T F9) ∧ (¬ r239 = 6 → (v_L_below p1 13 T F9 (fun (r240 : Int32) => ((r240 = 9 → Post 0 T F9) ∧ (¬ r240 = 9 → (v_L_below p1 13 T F9 (fun (r241 : Int32) => ((r241 < 10 → Post 1 T F9) ∧ (¬ r241 < 10 → ((¬ r4 = 99 → Post 0 T F9) ∧ (r4 = 99 → Post 1 T F9)))))))))))))))))))))) ∧ (r7 = 2 → (v_X4_hold a0 r1 r2 T F (fun (r258 : Int32) (F259 : zF) => ((r258 = 0 → Post 1 T F259) ∧ (¬ r258 = 0 → (v_X4_isFit a0 r1 r2 r4 T F259 (fun (r260 : Int32) => ((¬ r260 = 0 → Post 0 T F259) ∧ (r260 = 0 → Post 1 T F259))) (fun (E9 : String) => (E9 = "java/lang/IndexOutOfBoundsException" ∧ (v_X4_many a0 2 T F259 (fun (r261 : Int32) => ((¬ r261 = 0 → Post 0 T F259) ∧ (r261 = 0 → Post 1 T F259))) (fun _ => False))) ∨ (E9 = "java/lang/IllegalStateException" ∧ (v_L_below p1 13 T F259 (fun (r265 : Int32) => ((r265 = 2 → Post 0 T F259) ∧ (¬ r265 = 2 → (v_L_below p1 13 T F259 (fun (r266 : Int32) => ((r266 = 6 → Post 0 T F259) ∧ (¬ r266 = 6 → (v_L_below p1 13 T F259 (fun (r267 : Int32) => ((r267 = 9 → Post 0 T F259) ∧ (¬ r267 = 9 → (v_L_below p1 13 T F259 (fun (r268 : Int32) => ((r268 < 10 → Post 1 T F259) ∧ (¬ r268 < 10 → ((¬ r4 = 99 → Post 0 T F259) ∧ (r4 = 99 → Post 1 T F259)))))))))))))))))))))))) (fun (E9 : String) (F9 : zF) => (E9 = "java/lang/IndexOutOfBoundsException" ∧ (v_X4_many a0 2 T F9 (fun (r284 : Int32) => ((¬ r284 = 0 → Post 0 T F9) ∧ (r284 = 0 → Post 1 T F9))) (fun _ => False))) ∨ (E9 = "java/lang/IllegalStateException" ∧ (v_L_below p1 13 T F9 (fun (r288 : Int32) => ((r288 = 2 → Post 0 T F9) ∧ (¬ r288 = 2 → (v_L_below p1 13 T F9 (fun (r289 : Int32) => ((r289 = 6 → Post 0 T F9) ∧ (¬ r289 = 6 → (v_L_below p1 13 T F9 (fun (r290 : Int32) => ((r290 = 9 → Post 0 T F9) ∧ (¬ r290 = 9 → (v_L_below p1 13 T F9 (fun (r291 : Int32) => ((r291 < 10 → Post 1 T F9) ∧ (¬ r291 < 10 → ((¬ r4 = 99 → Post 0 T F9) ∧ (r4 = 99 → Post 1 T F9)))))))))))))))))))))) ∧ (r7 = 3 → (v_L_below (p1 >>> (6 &&& 31)) 9 T F (fun (r308 : Int32) => ((∀ (y309 : Int32), y309 = (if ((r4 + 1) + r308) < (99 : Int32) then ((r4 + 1) + r308) else (99 : Int32)) → (v_L_below (p1 >>> (7 &&& 31)) 5 T F (fun (r311 : Int32) => ((∀ (y312 : Int32), y312 = (if (y309 + r311) < (99 : Int32) then (y309 + r311) else (99 : Int32)) → (v_L_below (p1 >>> (4 &&& 31)) 90 T F (fun (r314 : Int32) => (v_X4_price a0 y309 y312 ((10 : Int32) + r314) T F (fun (r315 : Int32) => (v_X4_many a0 2 T F (fun (r316 : Int32) => (v_L_below (p1 >>> (4 &&& 31)) 2 T F (fun (r317 : Int32) => (v_L_below (p1 >>> (4 &&& 31)) 90 T F (fun (r318 : Int32) => (v_X4_book zE a0 r1 r2 r317 y309 y312 ((10 : Int32) + r318) T F (fun (r319 : Int32) (T320 : zT) (F321 : zF) => ((¬ r319 = r316 → Post 0 T320 F321) ∧ (r319 = r316 → (T320 a0 = some (5, 4) ∧ (v_X4_ofBooking a0 r316 6 T320 F321 (fun (r323 : Int32) => ((¬ r323 = r315 → Post 0 T320 F321) ∧ (r323 = r315 → (v_X4_ofBooking a0 r316 7 T320 F321 (fun (r324 : Int32) => ((¬ r324 = r315 → Post 0 T320 F321) ∧ (r324 = r315 → Post 1 T320 F321))) (fun (E9 : String) => (E9 = "java/lang/IndexOutOfBoundsException" ∧ (v_X4_many a0 2 T320 F321 (fun (r325 : Int32) => ((¬ r325 = 0 → Post 0 T320 F321) ∧ (r325 = 0 → Post 1 T320 F321))) (fun _ => False))) ∨ (E9 = "java/lang/IllegalStateException" ∧ (v_L_below p1 13 T320 F321 (fun (r329 : Int32) => ((r329 = 2 → Post 0 T320 F321) ∧ (¬ r329 = 2 → (v_L_below p1 13 T320 F321 (fun (r330 : Int32) => ((r330 = 6 → Post 0 T320 F321) ∧ (¬ r330 = 6 → (v_L_below p1 13 T320 F321 (fun (r331 : Int32) => ((r331 = 9 → Post 0 T320 F321) ∧ (¬ r331 = 9 → (v_L_below p1 13 T320 F321 (fun (r332 : Int32) => ((r332 < 10 → Post 1 T320 F321) ∧ (¬ r332 < 10 → ((¬ r4 = 99 → Post 0 T320 F321) ∧ (r4 = 99 → Post 1 T320 F321)))))))))))))))))))))))) (fun (E9 : String) => (E9 = "java/lang/IndexOutOfBoundsException" ∧ (v_X4_many a0 2 T320 F321 (fun (r348 : Int32) => ((¬ r348 = 0 → Post 0 T320 F321) ∧ (r348 = 0 → Post 1 T320 F321))) (fun _ => False))) ∨ (E9 = "java/lang/IllegalStateException" ∧ (v_L_below p1 13 T320 F321 (fun (r352 : Int32) => ((r352 = 2 → Post 0 T320 F321) ∧ (¬ r352 = 2 → (v_L_below p1 13 T320 F321 (fun (r353 : Int32) => ((r353 = 6 → Post 0 T320 F321) ∧ (¬ r353 = 6 → (v_L_below p1 13 T320 F321 (fun (r354 : Int32) => ((r354 = 9 → Post 0 T320 F321) ∧ (¬ r354 = 9 → (v_L_below p1 13 T320 F321 (fun (r355 : Int32) => ((r355 < 10 → Post 1 T320 F321) ∧ (¬ r355 < 10 → ((¬ r4 = 99 → Post 0 T320 F321) ∧ (r4 = 99 → Post 1 T320 F321))))))))))))))))))))))))) (fun (E9 : String) (T9 : zT) (F9 : zF) => (E9 = "java/lang/IndexOutOfBoundsException" ∧ (T9 a0 = some (5, 4) ∧ (v_X4_many a0 2 T9 F9 (fun (r372 : Int32) => ((¬ r372 = 0 → Post 0 T9 F9) ∧ (r372 = 0 → Post 1 T9 F9))) (fun _ => False)))) ∨ (E9 = "java/lang/IllegalStateException" ∧ (v_L_below p1 13 T9 F9 (fun (r376 : Int32) => ((r376 = 2 → Post 0 T9 F9) ∧ (¬ r376 = 2 → (v_L_below p1 13 T9 F9 (fun (r377 : Int32) => ((r377 = 6 → Post 0 T9 F9) ∧ (¬ r377 = 6 → (v_L_below p1 13 T9 F9 (fun (r378 : Int32) => ((r378 = 9 → Post 0 T9 F9) ∧ (¬ r378 = 9 → (v_L_below p1 13 T9 F9 (fun (r379 : Int32) => ((r379 < 10 → Post 1 T9 F9) ∧ (¬ r379 < 10 → ((¬ r4 = 99 → Post 0 T9 F9) ∧ (r4 = 99 → Post 1 T9 F9)))))))))))))))))))))))))) (fun (E9 : String) => (E9 = "java/lang/IndexOutOfBoundsException" ∧ (v_X4_many a0 2 T F (fun (r401 : Int32) => ((¬ r401 = 0 → Post 0 T F) ∧ (r401 = 0 → Post 1 T F))) (fun _ => False))) ∨ (E9 = "java/lang/IllegalStateException" ∧ (v_L_below p1 13 T F (fun (r405 : Int32) => ((r405 = 2 → Post 0 T F) ∧ (¬ r405 = 2 → (v_L_below p1 13 T F (fun (r406 : Int32) => ((r406 = 6 → Post 0 T F) ∧ (¬ r406 = 6 → (v_L_below p1 13 T F (fun (r407 : Int32) => ((r407 = 9 → Post 0 T F) ∧ (¬ r407 = 9 → (v_L_below p1 13 T F (fun (r408 : Int32) => ((r408 < 10 → Post 1 T F) ∧ (¬ r408 < 10 → ((¬ r4 = 99 → Post 0 T F) ∧ (r4 = 99 → Post 1 T F)))))))))))))))))))))) (fun (E9 : String) => (E9 = "java/lang/IndexOutOfBoundsException" ∧ (v_X4_many a0 2 T F (fun (r424 : Int32) => ((¬ r424 = 0 → Post 0 T F) ∧ (r424 = 0 → Post 1 T F))) (fun _ => False))) ∨ (E9 = "java/lang/IllegalStateException" ∧ (v_L_below p1 13 T F (fun (r428 : Int32) => ((r428 = 2 → Post 0 T F) ∧ (¬ r428 = 2 → (v_L_below p1 13 T F (fun (r429 : Int32) => ((r429 = 6 → Post 0 T F) ∧ (¬ r429 = 6 → (v_L_below p1 13 T F (fun (r430 : Int32) => ((r430 = 9 → Post 0 T F) ∧ (¬ r430 = 9 → (v_L_below p1 13 T F (fun (r431 : Int32) => ((r431 < 10 → Post 1 T F) ∧ (¬ r431 < 10 → ((¬ r4 = 99 → Post 0 T F) ∧ (r4 = 99 → Post 1 T F)))))))))))))))))))))))))))))))) ∧ (r7 = 4 → (v_L_below (p1 >>> (6 &&& 31)) 9 T F (fun (r457 : Int32) => ((∀ (y458 : Int32), y458 = (if ((r4 + 1) + r457) < (99 : Int32) then ((r4 + 1) + r457) else (99 : Int32)) → (v_L_below (p1 >>> (7 &&& 31)) 5 T F (fun (r460 : Int32) => ((∀ (y461 : Int32), y461 = (if (y458 + r460) < (99 : Int32) then (y458 + r460) else (99 : Int32)) → (v_L_below (p1 >>> (4 &&& 31)) 90 T F (fun (r463 : Int32) => (v_X4_price a0 y458 y461 ((10 : Int32) + r463) T F (fun (r464 : Int32) => (v_X4_many a0 2 T F (fun (r465 : Int32) => (v_L_below (p1 >>> (4 &&& 31)) 2 T F (fun (r466 : Int32) => (v_L_below (p1 >>> (4 &&& 31)) 90 T F (fun (r467 : Int32) => (v_X4_book zE a0 r1 r2 r466 y458 y461 ((10 : Int32) + r467) T F (fun (r468 : Int32) (T469 : zT) (F470 : zF) => ((¬ r468 = r465 → Post 0 T469 F470) ∧ (r468 = r465 → (T469 a0 = some (5, 4) ∧ (v_X4_ofBooking a0 r465 6 T469 F470 (fun (r472 : Int32) => ((¬ r472 = r464 → Post 0 T469 F470) ∧ (r472 = r464 → (v_X4_ofBooking a0 r465 7 T469 F470 (fun (r473 : Int32) => ((¬ r473 = r464 → Post 0 T469 F470) ∧ (r473 = r464 → Post 1 T469 F470))) (fun (E9 : String) => (E9 = "java/lang/IndexOutOfBoundsException" ∧ (v_X4_many a0 2 T469 F470 (fun (r474 : Int32) => ((¬ r474 = 0 → Post 0 T469 F470) ∧ (r474 = 0 → Post 1 T469 F470))) (fun _ => False))) ∨ (E9 = "java/lang/IllegalStateException" ∧ (v_L_below p1 13 T469 F470 (fun (r478 : Int32) => ((r478 = 2 → Post 0 T469 F470) ∧ (¬ r478 = 2 → (v_L_below p1 13 T469 F470 (fun (r479 : Int32) => ((r479 = 6 → Post 0 T469 F470) ∧ (¬ r479 = 6 → (v_L_below p1 13 T469 F470 (fun (r480 : Int32) => ((r480 = 9 → Post 0 T469 F470) ∧ (¬ r480 = 9 → (v_L_below p1 13 T469 F470 (fun (r481 : Int32) => ((r481 < 10 → Post 1 T469 F470) ∧ (¬ r481 < 10 → ((¬ r4 = 99 → Post 0 T469 F470) ∧ (r4 = 99 → Post 1 T469 F470)))))))))))))))))))))))) (fun (E9 : String) => (E9 = "java/lang/IndexOutOfBoundsException" ∧ (v_X4_many a0 2 T469 F470 (fun (r497 : Int32) => ((¬ r497 = 0 → Post 0 T469 F470) ∧ (r497 = 0 → Post 1 T469 F470))) (fun _ => False))) ∨ (E9 = "java/lang/IllegalStateException" ∧ (v_L_below p1 13 T469 F470 (fun (r501 : Int32) => ((r501 = 2 → Post 0 T469 F470) ∧ (¬ r501 = 2 → (v_L_below p1 13 T469 F470 (fun (r502 : Int32) => ((r502 = 6 → Post 0 T469 F470) ∧ (¬ r502 = 6 → (v_L_below p1 13 T469 F470 (fun (r503 : Int32) => ((r503 = 9 → Post 0 T469 F470) ∧ (¬ r503 = 9 → (v_L_below p1 13 T469 F470 (fun (r504 : Int32) => ((r504 < 10 → Post 1 T469 F470) ∧ (¬ r504 < 10 → ((¬ r4 = 99 → Post 0 T469 F470) ∧ (r4 = 99 → Post 1 T469 F470))))))))))))))))))))))))) (fun (E9 : String) (T9 : zT) (F9 : zF) => (E9 = "java/lang/IndexOutOfBoundsException" ∧ (T9 a0 = some (5, 4) ∧ (v_X4_many a0 2 T9 F9 (fun (r521 : Int32) => ((¬ r521 = 0 → Post 0 T9 F9) ∧ (r521 = 0 → Post 1 T9 F9))) (fun _ => False)))) ∨ (E9 = "java/lang/IllegalStateException" ∧ (v_L_below p1 13 T9 F9 (fun (r525 : Int32) => ((r525 = 2 → Post 0 T9 F9) ∧ (¬ r525 = 2 → (v_L_below p1 13 T9 F9 (fun (r526 : Int32) => ((r526 = 6 → Post 0 T9 F9) ∧ (¬ r526 = 6 → (v_L_below p1 13 T9 F9 (fun (r527 : Int32) => ((r527 = 9 → Post 0 T9 F9) ∧ (¬ r527 = 9 → (v_L_below p1 13 T9 F9 (fun (r528 : Int32) => ((r528 < 10 → Post 1 T9 F9) ∧ (¬ r528 < 10 → ((¬ r4 = 99 → Post 0 T9 F9) ∧ (r4 = 99 → Post 1 T9 F9)))))))))))))))))))))))))) (fun (E9 : String) => (E9 = "java/lang/IndexOutOfBoundsException" ∧ (v_X4_many a0 2 T F (fun (r550 : Int32) => ((¬ r550 = 0 → Post 0 T F) ∧ (r550 = 0 → Post 1 T F))) (fun _ => False))) ∨ (E9 = "java/lang/IllegalStateException" ∧ (v_L_below p1 13 T F (fun (r554 : Int32) => ((r554 = 2 → Post 0 T F) ∧ (¬ r554 = 2 → (v_L_below p1 13 T F (fun (r555 : Int32) => ((r555 = 6 → Post 0 T F) ∧ (¬ r555 = 6 → (v_L_below p1 13 T F (fun (r556 : Int32) => ((r556 = 9 → Post 0 T F) ∧ (¬ r556 = 9 → (v_L_below p1 13 T F (fun (r557 : Int32) => ((r557 < 10 → Post 1 T F) ∧ (¬ r557 < 10 → ((¬ r4 = 99 → Post 0 T F) ∧ (r4 = 99 → Post 1 T F)))))))))))))))))))))) (fun (E9 : String) => (E9 = "java/lang/IndexOutOfBoundsException" ∧ (v_X4_many a0 2 T F (fun (r573 : Int32) => ((¬ r573 = 0 → Post 0 T F) ∧ (r573 = 0 → Post 1 T F))) (fun _ => False))) ∨ (E9 = "java/lang/IllegalStateException" ∧ (v_L_below p1 13 T F (fun (r577 : Int32) => ((r577 = 2 → Post 0 T F) ∧ (¬ r577 = 2 → (v_L_below p1 13 T F (fun (r578 : Int32) => ((r578 = 6 → Post 0 T F) ∧ (¬ r578 = 6 → (v_L_below p1 13 T F (fun (r579 : Int32) => ((r579 = 9 → Post 0 T F) ∧ (¬ r579 = 9 → (v_L_below p1 13 T F (fun (r580 : Int32) => ((r580 < 10 → Post 1 T F) ∧ (¬ r580 < 10 → ((¬ r4 = 99 → Post 0 T F) ∧ (r4 = 99 → Post 1 T F)))))))))))))))))))))))))))))))) ∧ (r7 = 5 → (v_X4_cancel a0 r6 T F (fun (r606 : Int32) (F607 : zF) => (v_X4_ofBooking a0 r6 7 T F607 (fun (r608 : Int32) => ((¬ r606 = r608 → Post 0 T F607) ∧ (r606 = r608 → (v_X4_ofBooking a0 r6 5 T F607 (fun (r609 : Int32) => ((¬ r609 = 3 → Post 0 T F607) ∧ (r609 = 3 → (v_X4_ofBooking a0 r6 10 T F607 (fun (r610 : Int32) => ((¬ r610 = 0 → Post 0 T F607) ∧ (r610 = 0 → Post 1 T F607))) (fun (E9 : String) => (E9 = "java/lang/IndexOutOfBoundsException" ∧ (v_X4_many a0 2 T F607 (fun (r611 : Int32) => ((¬ r611 = 0 → Post 0 T F607) ∧ (r611 = 0 → Post 1 T F607))) (fun _ => False))) ∨ (E9 = "java/lang/IllegalStateException" ∧ (v_L_below p1 13 T F607 (fun (r615 : Int32) => ((r615 = 2 → Post 0 T F607) ∧ (¬ r615 = 2 → (v_L_below p1 13 T F607 (fun (r616 : Int32) => ((r616 = 6 → Post 0 T F607) ∧ (¬ r616 = 6 → (v_L_below p1 13 T F607 (fun (r617 : Int32) => ((r617 = 9 → Post 0 T F607) ∧ (¬ r617 = 9 → (v_L_below p1 13 T F607 (fun (r618 : Int32) => ((r618 < 10 → Post 1 T F607) ∧ (¬ r618 < 10 → ((¬ r4 = 99 → Post 0 T F607) ∧ (r4 = 99 → Post 1 T F607)))))))))))))))))))))))) (fun (E9 : String) => (E9 = "java/lang/IndexOutOfBoundsException" ∧ (v_X4_many a0 2 T F607 (fun (r634 : Int32) => ((¬ r634 = 0 → Post 0 T F607) ∧ (r634 = 0 → Post 1 T F607))) (fun _ => False))) ∨ (E9 = "java/lang/IllegalStateException" ∧ (v_L_below p1 13 T F607 (fun (r638 : Int32) => ((r638 = 2 → Post 0 T F607) ∧ (¬ r638 = 2 → (v_L_below p1 13 T F607 (fun (r639 : Int32) => ((r639 = 6 → Post 0 T F607) ∧ (¬ r639 = 6 → (v_L_below p1 13 T F607 (fun (r640 : Int32) => ((r640 = 9 → Post 0 T F607) ∧ (¬ r640 = 9 → (v_L_below p1 13 T F607 (fun (r641 : Int32) => ((r641 < 10 → Post 1 T F607) ∧ (¬ r641 < 10 → ((¬ r4 = 99 → Post 0 T F607) ∧ (r4 = 99 → Post 1 T F607)))))))))))))))))))))))) (fun (E9 : String) => (E9 = "java/lang/IndexOutOfBoundsException" ∧ (v_X4_many a0 2 T F607 (fun (r657 : Int32) => ((¬ r657 = 0 → Post 0 T F607) ∧ (r657 = 0 → Post 1 T F607))) (fun _ => False))) ∨ (E9 = "java/lang/IllegalStateException" ∧ (v_L_below p1 13 T F607 (fun (r661 : Int32) => ((r661 = 2 → Post 0 T F607) ∧ (¬ r661 = 2 → (v_L_below p1 13 T F607 (fun (r662 : Int32) => ((r662 = 6 → Post 0 T F607) ∧ (¬ r662 = 6 → (v_L_below p1 13 T F607 (fun (r663 : Int32) => ((r663 = 9 → Post 0 T F607) ∧ (¬ r663 = 9 → (v_L_below p1 13 T F607 (fun (r664 : Int32) => ((r664 < 10 → Post 1 T F607) ∧ (¬ r664 < 10 → ((¬ r4 = 99 → Post 0 T F607) ∧ (r4 = 99 → Post 1 T F607)))))))))))))))))))))) (fun (E9 : String) (F9 : zF) => (E9 = "java/lang/IndexOutOfBoundsException" ∧ (v_X4_many a0 2 T F9 (fun (r680 : Int32) => ((¬ r680 = 0 → Post 0 T F9) ∧ (r680 = 0 → Post 1 T F9))) (fun _ => False))) ∨ (E9 = "java/lang/IllegalStateException" ∧ (v_L_below p1 13 T F9 (fun (r684 : Int32) => ((r684 = 2 → Post 0 T F9) ∧ (¬ r684 = 2 → (v_L_below p1 13 T F9 (fun (r685 : Int32) => ((r685 = 6 → Post 0 T F9) ∧ (¬ r685 = 6 → (v_L_below p1 13 T F9 (fun (r686 : Int32) => ((r686 = 9 → Post 0 T F9) ∧ (¬ r686 = 9 → (v_L_below p1 13 T F9 (fun (r687 : Int32) => ((r687 < 10 → Post 1 T F9) ∧ (¬ r687 < 10 → ((¬ r4 = 99 → Post 0 T F9) ∧ (r4 = 99 → Post 1 T F9)))))))))))))))))))))) ∧ (r7 = 6 → (v_X4_swapFor a0 r6 T F (fun (r704 : Int32) => (v_X4_ofBooking a0 r6 5 T F (fun (r705 : Int32) => ((¬ r705 = 0 → ((r704 < 0 → Post 1 T F) ∧ (¬ r704 < 0 → Post 1 T F))) ∧ (r705 = 0 → ((r704 < 0 → Post 1 T F) ∧ (¬ r704 < 0 → (v_X4_swap a0 r6 r704 T F (fun (r706 : Int32) (F707 : zF) => ((r706 = r704 → Post 0 T F707) ∧ (¬ r706 = r704 → (v_X4_ofBooking a0 r6 0 T F707 (fun (r708 : Int32) => ((¬ r708 = r704 → Post 0 T F707) ∧ (r708 = r704 → Post 1 T F707))) (fun (E9 : String) => (E9 = "java/lang/IndexOutOfBoundsException" ∧ (v_X4_many a0 2 T F707 (fun (r709 : Int32) => ((¬ r709 = 0 → Post 0 T F707) ∧ (r709 = 0 → Post 1 T F707))) (fun _ => False))) ∨ (E9 = "java/lang/IllegalStateException" ∧ (v_L_below p1 13 T F707 (fun (r713 : Int32) => ((r713 = 2 → Post 0 T F707) ∧ (¬ r713 = 2 → (v_L_below p1 13 T F707 (fun (r714 : Int32) => ((r714 = 6 → Post 0 T F707) ∧ (¬ r714 = 6 → (v_L_below p1 13 T F707 (fun (r715 : Int32) => ((r715 = 9 → Post 0 T F707) ∧ (¬ r715 = 9 → (v_L_below p1 13 T F707 (fun (r716 : Int32) => ((r716 < 10 → Post 1 T F707) ∧ (¬ r716 < 10 → ((¬ r4 = 99 → Post 0 T F707) ∧ (r4 = 99 → Post 1 T F707)))))))))))))))))))))))) (fun (E9 : String) (F9 : zF) => (E9 = "java/lang/IndexOutOfBoundsException" ∧ (v_X4_many a0 2 T F9 (fun (r732 : Int32) => ((¬ r732 = 0 → Post 0 T F9) ∧ (r732 = 0 → Post 1 T F9))) (fun _ => False))) ∨ (E9 = "java/lang/IllegalStateException" ∧ (v_L_below p1 13 T F9 (fun (r736 : Int32) => ((r736 = 2 → Post 0 T F9) ∧ (¬ r736 = 2 → (v_L_below p1 13 T F9 (fun (r737 : Int32) => ((r737 = 6 → Post 0 T F9) ∧ (¬ r737 = 6 → (v_L_below p1 13 T F9 (fun (r738 : Int32) => ((r738 = 9 → Post 0 T F9) ∧ (¬ r738 = 9 → (v_L_below p1 13 T F9 (fun (r739 : Int32) => ((r739 < 10 → Post 1 T F9) ∧ (¬ r739 < 10 → ((¬ r4 = 99 → Post 0 T F9) ∧ (r4 = 99 → Post 1 T F9)))))))))))))))))))))))))) (fun (E9 : String) => (E9 = "java/lang/IndexOutOfBoundsException" ∧ (v_X4_many a0 2 T F (fun (r755 : Int32) => ((¬ r755 = 0 → Post 0 T F) ∧ (r755 = 0 → Post 1 T F))) (fun _ => False))) ∨ (E9 = "java/lang/IllegalStateException" ∧ (v_L_below p1 13 T F (fun (r759 : Int32) => ((r759 = 2 → Post 0 T F) ∧ (¬ r759 = 2 → (v_L_below p1 13 T F (fun (r760 : Int32) => ((r760 = 6 → Post 0 T F) ∧ (¬ r760 = 6 → (v_L_below p1 13 T F (fun (r761 : Int32) => ((r761 = 9 → Post 0 T F) ∧ (¬ r761 = 9 → (v_L_below p1 13 T F (fun (r762 : Int32) => ((r762 < 10 → Post 1 T F) ∧ (¬ r762 < 10 → ((¬ r4 = 99 → Post 0 T F) ∧ (r4 = 99 → Post 1 T F)))))))))))))))))))))) (fun (E9 : String) => (E9 = "java/lang/IndexOutOfBoundsException" ∧ (v_X4_many a0 2 T F (fun (r778 : Int32) => ((¬ r778 = 0 → Post 0 T F) ∧ (r778 = 0 → Post 1 T F))) (fun _ => False))) ∨ (E9 = "java/lang/IllegalStateException" ∧ (v_L_below p1 13 T F (fun (r782 : Int32) => ((r782 = 2 → Post 0 T F) ∧ (¬ r782 = 2 → (v_L_below p1 13 T F (fun (r783 : Int32) => ((r783 = 6 → Post 0 T F) ∧ (¬ r783 = 6 → (v_L_below p1 13 T F (fun (r784 : Int32) => ((r784 = 9 → Post 0 T F) ∧ (¬ r784 = 9 → (v_L_below p1 13 T F (fun (r785 : Int32) => ((r785 < 10 → Post 1 T F) ∧ (¬ r785 < 10 → ((¬ r4 = 99 → Post 0 T F) ∧ (r4 = 99 → Post 1 T F)))))))))))))))))))))) ∧ (r7 = 7 → (v_L_below (p1 >>> (4 &&& 31)) 3 T F (fun (r802 : Int32) => (v_L_below (p1 >>> (6 &&& 31)) 5 T F (fun (r803 : Int32) => (v_X4_version a0 r802 (if (r4 + r803) < (99 : Int32) then (r4 + r803) else (99 : Int32)) T F (fun (r804 : Int32) (F805 : zF) => ((5 ≤ r804 → Post 0 T F805) ∧ (¬ 5 ≤ r804 → Post 1 T F805))) (fun (E9 : String) (F9 : zF) => (E9 = "java/lang/IndexOutOfBoundsException" ∧ (v_X4_many a0 2 T F9 (fun (r806 : Int32) => ((¬ r806 = 0 → Post 0 T F9) ∧ (r806 = 0 → Post 1 T F9))) (fun _ => False))) ∨ (E9 = "java/lang/IllegalStateException" ∧ (v_L_below p1 13 T F9 (fun (r810 : Int32) => ((r810 = 2 → Post 0 T F9) ∧ (¬ r810 = 2 → (v_L_below p1 13 T F9 (fun (r811 : Int32) => ((r811 = 6 → Post 0 T F9) ∧ (¬ r811 = 6 → (v_L_below p1 13 T F9 (fun (r812 : Int32) => ((r812 = 9 → Post 0 T F9) ∧ (¬ r812 = 9 → (v_L_below p1 13 T F9 (fun (r813 : Int32) => ((r813 < 10 → Post 1 T F9) ∧ (¬ r813 < 10 → ((¬ r4 = 99 → Post 0 T F9) ∧ (r4 = 99 → Post 1 T F9)))))))))))))))))))))))))) ∧ (r7 = 8 → (v_L_below (p1 >>> (4 &&& 31)) 3 T F (fun (r836 : Int32) => (v_L_below (p1 >>> (6 &&& 31)) 5 T F (fun (r837 : Int32) => (v_X4_late a0 r836 ((1 : Int32) + r837) T F (fun (r838 : Int32) (F839 : zF) => ((r838 ≤ r4 → Post 0 T F839) ∧ (¬ r838 ≤ r4 → Post 1 T F839))) (fun (E9 : String) (F9 : zF) => (E9 = "java/lang/IndexOutOfBoundsException" ∧ (v_X4_many a0 2 T F9 (fun (r840 : Int32) => ((¬ r840 = 0 → Post 0 T F9) ∧ (r840 = 0 → Post 1 T F9))) (fun _ => False))) ∨ (E9 = "java/lang/IllegalStateException" ∧ (v_L_below p1 13 T F9 (fun (r844 : Int32) => ((r844 = 2 → Post 0 T F9) ∧ (¬ r844 = 2 → (v_L_below p1 13 T F9 (fun (r845 : Int32) => ((r845 = 6 → Post 0 T F9) ∧ (¬ r845 = 6 → (v_L_below p1 13 T F9 (fun (r846 : Int32) => ((r846 = 9 → Post 0 T F9) ∧ (¬ r846 = 9 → (v_L_below p1 13 T F9 (fun (r847 : Int32) => ((r847 < 10 → Post 1 T F9) ∧ (¬ r847 < 10 → ((¬ r4 = 99 → Post 0 T F9) ∧ (r4 = 99 → Post 1 T F9)))))))))))))))))))))))))) ∧ (r7 = 9 → (v_L_below (p1 >>> (4 &&& 31)) 2 T F (fun (r870 : Int32) => (v_L_below (p1 >>> (2 &&& 31)) 1024 T F (fun (r871 : Int32) => (v_X4_groups a0 r870 r2 r871 T F (fun (r872 : Int32) (F873 : zF) => ((1024 ≤ r872 → Post 0 T F873) ∧ (¬ 1024 ≤ r872 → Post 1 T F873))) (fun (E9 : String) (F9 : zF) => (E9 = "java/lang/IndexOutOfBoundsException" ∧ (v_X4_many a0 2 T F9 (fun (r874 : Int32) => ((¬ r874 = 0 → Post 0 T F9) ∧ (r874 = 0 → Post 1 T F9))) (fun _ => False))) ∨ (E9 = "java/lang/IllegalStateException" ∧ (v_L_below p1 13 T F9 (fun (r878 : Int32) => ((r878 = 2 → Post 0 T F9) ∧ (¬ r878 = 2 → (v_L_below p1 13 T F9 (fun (r879 : Int32) => ((r879 = 6 → Post 0 T F9) ∧ (¬ r879 = 6 → (v_L_below p1 13 T F9 (fun (r880 : Int32) => ((r880 = 9 → Post 0 T F9) ∧ (¬ r880 = 9 → (v_L_below p1 13 T F9 (fun (r881 : Int32) => ((r881 < 10 → Post 1 T F9) ∧ (¬ r881 < 10 → ((¬ r4 = 99 → Post 0 T F9) ∧ (r4 = 99 → Post 1 T F9)))))))))))))))))))))))))))))))) (fun _ => False))) (fun _ => False)))))))
set_option maxRecDepth 100000 in
set_option maxHeartbeats 4000000 in
theorem k_L_act {l : Launch} {D : va_G} {cA : Nat → ClassId} {N0 zE : Nat} {a0 : Nat} {p1 : Int32} {T : zT} {F : zF} {Post : Int32 → zT → zF → Prop} (h : v_L_act zE a0 p1 T F Post) : z_MH l D cA N0 zE yL_act cL_act 15 (some .boolean) [(41, 125, 568, 109), (126, 151, 568, 109), (152, 283, 568, 109), (284, 328, 568, 109), (329, 394, 568, 109), (395, 431, 568, 109), (432, 463, 568, 109), (464, 496, 568, 109), (497, 567, 568, 109), (41, 125, 584, 111), (126, 151, 584, 111), (152, 283, 584, 111), (284, 328, 584, 111), (329, 394, 584, 111), (395, 431, 584, 111), (432, 463, 584, 111), (464, 496, 584, 111), (497, 567, 584, 111)] ({ frames := 9, cells := 105, slots := 1422, locals := 209 } : Room) [.ref a0, .int p1] T F (fun v T' F' => ∃ r : Int32, v = some (.int r) ∧ Post r T' F') (fun E T' F' => False) := by
  unfold v_L_act at h
  refine z_bodyH (by decide) (Nat.le_of_ble_eq_true rfl) ?_
  intro p e s m args below meth c C hxt hnm
  have C : z_C p l s m args meth c RL cL_act 15 (some .boolean) D cA N0 zE := C
  show z_w p l e ({ frames := 9, cells := 105, slots := 1422, locals := 209 } : Room) s m args below meth c D cA N0 15 0 0 (vx_MQ below (z_Qc D cA N0 (fun v T' F' => ∃ r : Int32, v = some (.int r) ∧ Post r T' F')) (z_XC D cA N0 (fun E T' F' => False)) args s 105 1422 (fun q => N0 ≤ q)) 0 [(0, .ref a0), (1, .int p1)] [] T F
  refine zr_iload_n C 1 dL_act_0 rfl rfl ?_
  refine zr_iconst C 3 dL_act_1 (by decide) ?_
  refine zr_ishr C dL_act_2 ?_
  refine zr_iconst C 5 dL_act_3 (by decide) ?_
  refine zr_callS (As := [.int (p1 >>> (3 &&& 31)), .int 5]) C (k_L_below h) ok_L_22 zq_677 rfl ⟨by decide, (Nat.le_of_ble_eq_true rfl)⟩ ⟨(Nat.le_of_ble_eq_true rfl), (Nat.le_of_ble_eq_true rfl)⟩ (Nat.le_of_ble_eq_true rfl) dL_act_4 (fun v919 U920 G921 hq => ?_)
  clear h
  · obtain ⟨r1, rfl, rfl, rfl, h⟩ := hq
    refine zr_istore_n C [(2, .int r1), (0, .ref a0), (1, .int p1)] dL_act_7 rfl (by decide) rfl ?_
    refine zr_iload_n C 2 dL_act_8 rfl rfl ?_
    refine zr_iconst C 5 dL_act_9 (by decide) ?_
    refine zr_ishr C dL_act_10 ?_
    refine zr_iconst C 3 dL_act_11 (by decide) ?_
    refine zr_callS (As := [.int (p1 >>> (5 &&& 31)), .int 3]) C (k_L_below h) ok_L_22 zq_677 rfl ⟨by decide, (Nat.le_of_ble_eq_true rfl)⟩ ⟨(Nat.le_of_ble_eq_true rfl), (Nat.le_of_ble_eq_true rfl)⟩ (Nat.le_of_ble_eq_true rfl) dL_act_12 (fun v916 U917 G918 hq => ?_)
    clear h
    · obtain ⟨r2, rfl, rfl, rfl, h⟩ := hq
      refine zr_istore_n C [(3, .int r2), (2, .int r1), (0, .ref a0), (1, .int p1)] dL_act_15 rfl (by decide) rfl ?_
      refine zr_aload_n C 2 dL_act_16 rfl rfl ?_
      refine zr_bipush C 10 dL_act_17 (by decide) ?_
      obtain ⟨hT3, h⟩ := h
      refine zr_callV (As := [.int 10]) (r := (RX4, TX4, 4)) C (k_X4_many0 h) ok_L_36 zq_393 zq_394 hT3 (by decide) rfl rfl ⟨by decide, (Nat.le_of_ble_eq_true rfl)⟩ ⟨(Nat.le_of_ble_eq_true rfl), (Nat.le_of_ble_eq_true rfl)⟩ (Nat.le_of_ble_eq_true rfl) dL_act_19 (fun v913 U914 G915 hq => ?_)
      clear h
      · obtain ⟨r4, rfl, rfl, rfl, h⟩ := hq
        refine zr_istore C [(4, .int r4), (3, .int r2), (2, .int r1), (0, .ref a0), (1, .int p1)] dL_act_22 (by decide) rfl ?_
        refine zr_iload_n C 4 dL_act_24 rfl rfl ?_
        refine zr_iconst C 4 dL_act_25 (by decide) ?_
        refine zr_ishr C dL_act_26 ?_
        refine zr_iconst C 1 dL_act_27 (by decide) ?_
        refine zr_aload_n C 3 dL_act_28 rfl rfl ?_
        refine zr_iconst C 2 dL_act_29 (by decide) ?_
        refine zr_callV (As := [.int 2]) (r := (RX4, TX4, 4)) C (k_X4_many0 h) ok_L_36 zq_393 zq_394 hT3 (by decide) rfl rfl ⟨by decide, (Nat.le_of_ble_eq_true rfl)⟩ ⟨(Nat.le_of_ble_eq_true rfl), (Nat.le_of_ble_eq_true rfl)⟩ (Nat.le_of_ble_eq_true rfl) dL_act_30 (fun v910 U911 G912 hq => ?_)
        clear h
        · obtain ⟨r5, rfl, rfl, rfl, h⟩ := hq
          refine zr_max C zq_689 zq_229 zq_29 zq_230 (by decide) (Nat.le_of_ble_eq_true rfl) (Nat.le_of_ble_eq_true rfl) (Nat.le_of_ble_eq_true rfl) dL_act_33 ?_
          refine zr_callS (As := [.int (p1 >>> (4 &&& 31)), .int (if (1 : Int32) < r5 then r5 else (1 : Int32))]) C (k_L_below h) ok_L_22 zq_677 rfl ⟨by decide, (Nat.le_of_ble_eq_true rfl)⟩ ⟨(Nat.le_of_ble_eq_true rfl), (Nat.le_of_ble_eq_true rfl)⟩ (Nat.le_of_ble_eq_true rfl) dL_act_36 (fun v907 U908 G909 hq => ?_)
          clear h
          · obtain ⟨r6, rfl, rfl, rfl, h⟩ := hq
            refine zr_istore C [(5, .int r6), (4, .int r4), (3, .int r2), (2, .int r1), (0, .ref a0), (1, .int p1)] dL_act_39 (by decide) rfl ?_
            refine zr_iload_n C 5 dL_act_41 rfl rfl ?_
            refine zr_bipush C 13 dL_act_42 (by decide) ?_
            refine zr_callS (As := [.int p1, .int 13]) C (k_L_below h) ok_L_22 zq_677 rfl ⟨by decide, (Nat.le_of_ble_eq_true rfl)⟩ ⟨(Nat.le_of_ble_eq_true rfl), (Nat.le_of_ble_eq_true rfl)⟩ (Nat.le_of_ble_eq_true rfl) dL_act_44 (fun v904 U905 G906 hq => ?_)
            clear h
            · obtain ⟨r7, rfl, rfl, rfl, h⟩ := hq
              obtain ⟨hs157, hs207, hs257, hs307, hs456, hs605, hs703, hs801, hs835, hs869, hs903⟩ := h
              by_cases hw : (r7).toInt < 0 ∨ 9 < (r7).toInt
              · have h := hs157 hw
                refine zr_tableOut C 497 dL_act_47 hw (by decide) ?_
                refine zr_aload_n C 4 dL_act_497 rfl rfl ?_
                refine zr_iconst C 1 dL_act_498 (by decide) ?_
                refine zr_callVX (As := [.int 1]) (r := (RX4, TX4, 4)) C (k_X4_lostIn h) ok_L_103 zq_550 zq_551 hT3 (by decide) rfl rfl ⟨by decide, (Nat.le_of_ble_eq_true rfl)⟩ ⟨(Nat.le_of_ble_eq_true rfl), (Nat.le_of_ble_eq_true rfl)⟩ (Nat.le_of_ble_eq_true rfl) dL_act_499 ?_ (fun v154 U155 G156 hq => ?_)
                · clear h
                  intro E9 T9 F9 hq
                  rcases hq with hq | hq
                  · obtain ⟨rfl, h⟩ := hq
                    refine zr_catch C "java/lang/IndexOutOfBoundsException" _ [⟨41, 125, 568, 109⟩, ⟨126, 151, 568, 109⟩, ⟨152, 283, 568, 109⟩, ⟨284, 328, 568, 109⟩, ⟨329, 394, 568, 109⟩, ⟨395, 431, 568, 109⟩, ⟨432, 463, 568, 109⟩, ⟨464, 496, 568, 109⟩] ⟨497, 567, 568, 109⟩ [⟨41, 125, 584, 111⟩, ⟨126, 151, 584, 111⟩, ⟨152, 283, 584, 111⟩, ⟨284, 328, 584, 111⟩, ⟨329, 394, 584, 111⟩, ⟨395, 431, 584, 111⟩, ⟨432, 463, 584, 111⟩, ⟨464, 496, 584, 111⟩, ⟨497, 567, 584, 111⟩] 568 hxt rfl (List.forall_mem_cons.mpr ⟨Or.inl (by decide), (List.forall_mem_cons.mpr ⟨Or.inl (by decide), (List.forall_mem_cons.mpr ⟨Or.inl (by decide), (List.forall_mem_cons.mpr ⟨Or.inl (by decide), (List.forall_mem_cons.mpr ⟨Or.inl (by decide), (List.forall_mem_cons.mpr ⟨Or.inl (by decide), (List.forall_mem_cons.mpr ⟨Or.inl (by decide), (List.forall_mem_cons.mpr ⟨Or.inl (by decide), (fun _ h9 => nomatch h9)⟩)⟩)⟩)⟩)⟩)⟩)⟩)⟩) (by decide) (by decide) zq_687 zq_275 rfl (fun q9 => ?_)
                    refine zr_astore C [(6, .ref q9), (5, .int r6), (4, .int r4), (3, .int r2), (2, .int r1), (0, .ref a0), (1, .int p1)] dL_act_568 (by decide) rfl ?_
                    refine zr_aload_n C 5 dL_act_570 rfl rfl ?_
                    refine zr_iconst C 2 dL_act_571 (by decide) ?_
                    obtain ⟨hT133, h⟩ := h
                    refine zr_callV (As := [.int 2]) (r := (RX4, TX4, 4)) C (k_X4_many0 h) ok_L_36 zq_393 zq_394 hT133 (by decide) rfl rfl ⟨by decide, (Nat.le_of_ble_eq_true rfl)⟩ ⟨(Nat.le_of_ble_eq_true rfl), (Nat.le_of_ble_eq_true rfl)⟩ (Nat.le_of_ble_eq_true rfl) dL_act_572 (fun v135 U136 G137 hq => ?_)
                    clear h
                    · obtain ⟨r134, rfl, rfl, rfl, h⟩ := hq
                      obtain ⟨h1, h2⟩ := h
                      refine zr_if_ne C 582 dL_act_575 (by decide) (fun hc => ?_) (fun hc => ?_)
                      · have h := h1 hc
                        clear h1 h2
                        refine zr_iconst C 0 dL_act_582 (by decide) ?_
                        exact zr_X (zr_zret C rfl (Or.inl rfl) ⟨_, rfl, h⟩ (Nat.le_of_ble_eq_true rfl) (Nat.le_of_ble_eq_true rfl) dL_act_583)
                      · have h := h2 hc
                        clear h1 h2
                        refine zr_iconst C 1 dL_act_578 (by decide) ?_
                        refine zr_goto C 583 dL_act_579 (by decide) ?_
                        exact zr_X (zr_zret C rfl (Or.inr rfl) ⟨_, rfl, h⟩ (Nat.le_of_ble_eq_true rfl) (Nat.le_of_ble_eq_true rfl) dL_act_583)
                  · obtain ⟨rfl, h⟩ := hq
                    refine zr_catch C "java/lang/IllegalStateException" _ [⟨41, 125, 568, 109⟩, ⟨126, 151, 568, 109⟩, ⟨152, 283, 568, 109⟩, ⟨284, 328, 568, 109⟩, ⟨329, 394, 568, 109⟩, ⟨395, 431, 568, 109⟩, ⟨432, 463, 568, 109⟩, ⟨464, 496, 568, 109⟩, ⟨497, 567, 568, 109⟩, ⟨41, 125, 584, 111⟩, ⟨126, 151, 584, 111⟩, ⟨152, 283, 584, 111⟩, ⟨284, 328, 584, 111⟩, ⟨329, 394, 584, 111⟩, ⟨395, 431, 584, 111⟩, ⟨432, 463, 584, 111⟩, ⟨464, 496, 584, 111⟩] ⟨497, 567, 584, 111⟩ [] 584 hxt rfl (List.forall_mem_cons.mpr ⟨Or.inl (by decide), (List.forall_mem_cons.mpr ⟨Or.inl (by decide), (List.forall_mem_cons.mpr ⟨Or.inl (by decide), (List.forall_mem_cons.mpr ⟨Or.inl (by decide), (List.forall_mem_cons.mpr ⟨Or.inl (by decide), (List.forall_mem_cons.mpr ⟨Or.inl (by decide), (List.forall_mem_cons.mpr ⟨Or.inl (by decide), (List.forall_mem_cons.mpr ⟨Or.inl (by decide), (List.forall_mem_cons.mpr ⟨Or.inr ⟨by decide, "java/lang/IndexOutOfBoundsException", zq_687, by decide +kernel⟩, (List.forall_mem_cons.mpr ⟨Or.inl (by decide), (List.forall_mem_cons.mpr ⟨Or.inl (by decide), (List.forall_mem_cons.mpr ⟨Or.inl (by decide), (List.forall_mem_cons.mpr ⟨Or.inl (by decide), (List.forall_mem_cons.mpr ⟨Or.inl (by decide), (List.forall_mem_cons.mpr ⟨Or.inl (by decide), (List.forall_mem_cons.mpr ⟨Or.inl (by decide), (List.forall_mem_cons.mpr ⟨Or.inl (by decide), (fun _ h9 => nomatch h9)⟩)⟩)⟩)⟩)⟩)⟩)⟩)⟩)⟩)⟩)⟩)⟩)⟩)⟩)⟩)⟩)⟩) (by decide) (by decide) zq_688 zq_117 rfl (fun q9 => ?_)
                    refine zr_astore C [(6, .ref q9), (5, .int r6), (4, .int r4), (3, .int r2), (2, .int r1), (0, .ref a0), (1, .int p1)] dL_act_584 (by decide) rfl ?_
                    refine zr_iload_n C 6 dL_act_586 rfl rfl ?_
                    refine zr_bipush C 13 dL_act_587 (by decide) ?_
                    refine zr_callS (As := [.int p1, .int 13]) C (k_L_below h) ok_L_22 zq_677 rfl ⟨by decide, (Nat.le_of_ble_eq_true rfl)⟩ ⟨(Nat.le_of_ble_eq_true rfl), (Nat.le_of_ble_eq_true rfl)⟩ (Nat.le_of_ble_eq_true rfl) dL_act_589 (fun v151 U152 G153 hq => ?_)
                    clear h
                    · obtain ⟨r138, rfl, rfl, rfl, h⟩ := hq
                      refine zr_iconst C 2 dL_act_592 (by decide) ?_
                      obtain ⟨h1, h2⟩ := h
                      refine zr_icmp_eq C 640 dL_act_593 (by decide) (fun hc => ?_) (fun hc => ?_)
                      · have h := h1 hc
                        clear h1 h2
                        refine zr_iconst C 0 dL_act_640 (by decide) ?_
                        exact zr_X (zr_zret C rfl (Or.inl rfl) ⟨_, rfl, h⟩ (Nat.le_of_ble_eq_true rfl) (Nat.le_of_ble_eq_true rfl) dL_act_641)
                      · have h := h2 hc
                        clear h1 h2
                        refine zr_iload_n C 6 dL_act_596 rfl rfl ?_
                        refine zr_bipush C 13 dL_act_597 (by decide) ?_
                        refine zr_callS (As := [.int p1, .int 13]) C (k_L_below h) ok_L_22 zq_677 rfl ⟨by decide, (Nat.le_of_ble_eq_true rfl)⟩ ⟨(Nat.le_of_ble_eq_true rfl), (Nat.le_of_ble_eq_true rfl)⟩ (Nat.le_of_ble_eq_true rfl) dL_act_599 (fun v148 U149 G150 hq => ?_)
                        clear h
                        · obtain ⟨r139, rfl, rfl, rfl, h⟩ := hq
                          refine zr_bipush C 6 dL_act_602 (by decide) ?_
                          obtain ⟨h1, h2⟩ := h
                          refine zr_icmp_eq C 640 dL_act_604 (by decide) (fun hc => ?_) (fun hc => ?_)
                          · have h := h1 hc
                            clear h1 h2
                            refine zr_iconst C 0 dL_act_640 (by decide) ?_
                            exact zr_X (zr_zret C rfl (Or.inl rfl) ⟨_, rfl, h⟩ (Nat.le_of_ble_eq_true rfl) (Nat.le_of_ble_eq_true rfl) dL_act_641)
                          · have h := h2 hc
                            clear h1 h2
                            refine zr_iload_n C 6 dL_act_607 rfl rfl ?_
                            refine zr_bipush C 13 dL_act_608 (by decide) ?_
                            refine zr_callS (As := [.int p1, .int 13]) C (k_L_below h) ok_L_22 zq_677 rfl ⟨by decide, (Nat.le_of_ble_eq_true rfl)⟩ ⟨(Nat.le_of_ble_eq_true rfl), (Nat.le_of_ble_eq_true rfl)⟩ (Nat.le_of_ble_eq_true rfl) dL_act_610 (fun v145 U146 G147 hq => ?_)
                            clear h
                            · obtain ⟨r140, rfl, rfl, rfl, h⟩ := hq
                              refine zr_bipush C 9 dL_act_613 (by decide) ?_
                              obtain ⟨h1, h2⟩ := h
                              refine zr_icmp_eq C 640 dL_act_615 (by decide) (fun hc => ?_) (fun hc => ?_)
                              · have h := h1 hc
                                clear h1 h2
                                refine zr_iconst C 0 dL_act_640 (by decide) ?_
                                exact zr_X (zr_zret C rfl (Or.inl rfl) ⟨_, rfl, h⟩ (Nat.le_of_ble_eq_true rfl) (Nat.le_of_ble_eq_true rfl) dL_act_641)
                              · have h := h2 hc
                                clear h1 h2
                                refine zr_iload_n C 6 dL_act_618 rfl rfl ?_
                                refine zr_bipush C 13 dL_act_619 (by decide) ?_
                                refine zr_callS (As := [.int p1, .int 13]) C (k_L_below h) ok_L_22 zq_677 rfl ⟨by decide, (Nat.le_of_ble_eq_true rfl)⟩ ⟨(Nat.le_of_ble_eq_true rfl), (Nat.le_of_ble_eq_true rfl)⟩ (Nat.le_of_ble_eq_true rfl) dL_act_621 (fun v142 U143 G144 hq => ?_)
                                clear h
                                · obtain ⟨r141, rfl, rfl, rfl, h⟩ := hq
                                  refine zr_bipush C 10 dL_act_624 (by decide) ?_
                                  obtain ⟨h1, h2⟩ := h
                                  refine zr_icmp_lt C 636 dL_act_626 (by decide) (fun hc => ?_) (fun hc => ?_)
                                  · have h := h1 hc
                                    clear h1 h2
                                    refine zr_iconst C 1 dL_act_636 (by decide) ?_
                                    refine zr_goto C 641 dL_act_637 (by decide) ?_
                                    exact zr_X (zr_zret C rfl (Or.inr rfl) ⟨_, rfl, h⟩ (Nat.le_of_ble_eq_true rfl) (Nat.le_of_ble_eq_true rfl) dL_act_641)
                                  · have h := h2 hc
                                    clear h1 h2
                                    refine zr_iload C 2 dL_act_629 rfl ?_
                                    refine zr_bipush C 99 dL_act_631 (by decide) ?_
                                    obtain ⟨h1, h2⟩ := h
                                    refine zr_icmp_ne C 640 dL_act_633 (by decide) (fun hc => ?_) (fun hc => ?_)
                                    · have h := h1 hc
                                      clear h1 h2
                                      refine zr_iconst C 0 dL_act_640 (by decide) ?_
                                      exact zr_X (zr_zret C rfl (Or.inl rfl) ⟨_, rfl, h⟩ (Nat.le_of_ble_eq_true rfl) (Nat.le_of_ble_eq_true rfl) dL_act_641)
                                    · have h := h2 hc
                                      clear h1 h2
                                      refine zr_iconst C 1 dL_act_636 (by decide) ?_
                                      refine zr_goto C 641 dL_act_637 (by decide) ?_
                                      exact zr_X (zr_zret C rfl (Or.inr rfl) ⟨_, rfl, h⟩ (Nat.le_of_ble_eq_true rfl) (Nat.le_of_ble_eq_true rfl) dL_act_641)
                · obtain ⟨r8, rfl, h⟩ := hq
                  skip
                  refine zr_istore C [(12, .int r8), (5, .int r6), (4, .int r4), (3, .int r2), (2, .int r1), (0, .ref a0), (1, .int p1)] dL_act_502 (by decide) rfl ?_
                  refine zr_aload_n C 5 dL_act_504 rfl rfl ?_
                  refine zr_bipush C 7 dL_act_505 (by decide) ?_
                  obtain ⟨hT11, h⟩ := h
                  refine zr_callVX (As := [.int 7]) (r := (RX4, TX4, 4)) C (k_X4_many h) ok_L_36 zq_393 zq_394 hT11 (by decide) rfl rfl ⟨by decide, (Nat.le_of_ble_eq_true rfl)⟩ ⟨(Nat.le_of_ble_eq_true rfl), (Nat.le_of_ble_eq_true rfl)⟩ (Nat.le_of_ble_eq_true rfl) dL_act_507 ?_ (fun v130 U131 G132 hq => ?_)
                  · clear h
                    intro E9 U155 F9 hq
                    obtain ⟨rfl, rfl, hq⟩ := hq
                    rcases hq with hq | hq
                    · obtain ⟨rfl, h⟩ := hq
                      refine zr_catch C "java/lang/IndexOutOfBoundsException" _ [⟨41, 125, 568, 109⟩, ⟨126, 151, 568, 109⟩, ⟨152, 283, 568, 109⟩, ⟨284, 328, 568, 109⟩, ⟨329, 394, 568, 109⟩, ⟨395, 431, 568, 109⟩, ⟨432, 463, 568, 109⟩, ⟨464, 496, 568, 109⟩] ⟨497, 567, 568, 109⟩ [⟨41, 125, 584, 111⟩, ⟨126, 151, 584, 111⟩, ⟨152, 283, 584, 111⟩, ⟨284, 328, 584, 111⟩, ⟨329, 394, 584, 111⟩, ⟨395, 431, 584, 111⟩, ⟨432, 463, 584, 111⟩, ⟨464, 496, 584, 111⟩, ⟨497, 567, 584, 111⟩] 568 hxt rfl (List.forall_mem_cons.mpr ⟨Or.inl (by decide), (List.forall_mem_cons.mpr ⟨Or.inl (by decide), (List.forall_mem_cons.mpr ⟨Or.inl (by decide), (List.forall_mem_cons.mpr ⟨Or.inl (by decide), (List.forall_mem_cons.mpr ⟨Or.inl (by decide), (List.forall_mem_cons.mpr ⟨Or.inl (by decide), (List.forall_mem_cons.mpr ⟨Or.inl (by decide), (List.forall_mem_cons.mpr ⟨Or.inl (by decide), (fun _ h9 => nomatch h9)⟩)⟩)⟩)⟩)⟩)⟩)⟩)⟩) (by decide) (by decide) zq_687 zq_275 rfl (fun q9 => ?_)
                      refine zr_astore C [(6, .ref q9), (12, .int r8), (5, .int r6), (4, .int r4), (3, .int r2), (2, .int r1), (0, .ref a0), (1, .int p1)] dL_act_568 (by decide) rfl ?_
                      refine zr_aload_n C 6 dL_act_570 rfl rfl ?_
                      refine zr_iconst C 2 dL_act_571 (by decide) ?_
                      refine zr_callV (As := [.int 2]) (r := (RX4, TX4, 4)) C (k_X4_many0 h) ok_L_36 zq_393 zq_394 hT11 (by decide) rfl rfl ⟨by decide, (Nat.le_of_ble_eq_true rfl)⟩ ⟨(Nat.le_of_ble_eq_true rfl), (Nat.le_of_ble_eq_true rfl)⟩ (Nat.le_of_ble_eq_true rfl) dL_act_572 (fun v111 U112 G113 hq => ?_)
                      clear h
                      · obtain ⟨r110, rfl, rfl, rfl, h⟩ := hq
                        obtain ⟨h1, h2⟩ := h
                        refine zr_if_ne C 582 dL_act_575 (by decide) (fun hc => ?_) (fun hc => ?_)
                        · have h := h1 hc
                          clear h1 h2
                          refine zr_iconst C 0 dL_act_582 (by decide) ?_
                          exact zr_X (zr_zret C rfl (Or.inl rfl) ⟨_, rfl, h⟩ (Nat.le_of_ble_eq_true rfl) (Nat.le_of_ble_eq_true rfl) dL_act_583)
                        · have h := h2 hc
                          clear h1 h2
                          refine zr_iconst C 1 dL_act_578 (by decide) ?_
                          refine zr_goto C 583 dL_act_579 (by decide) ?_
                          exact zr_X (zr_zret C rfl (Or.inr rfl) ⟨_, rfl, h⟩ (Nat.le_of_ble_eq_true rfl) (Nat.le_of_ble_eq_true rfl) dL_act_583)
                    · obtain ⟨rfl, h⟩ := hq
                      refine zr_catch C "java/lang/IllegalStateException" _ [⟨41, 125, 568, 109⟩, ⟨126, 151, 568, 109⟩, ⟨152, 283, 568, 109⟩, ⟨284, 328, 568, 109⟩, ⟨329, 394, 568, 109⟩, ⟨395, 431, 568, 109⟩, ⟨432, 463, 568, 109⟩, ⟨464, 496, 568, 109⟩, ⟨497, 567, 568, 109⟩, ⟨41, 125, 584, 111⟩, ⟨126, 151, 584, 111⟩, ⟨152, 283, 584, 111⟩, ⟨284, 328, 584, 111⟩, ⟨329, 394, 584, 111⟩, ⟨395, 431, 584, 111⟩, ⟨432, 463, 584, 111⟩, ⟨464, 496, 584, 111⟩] ⟨497, 567, 584, 111⟩ [] 584 hxt rfl (List.forall_mem_cons.mpr ⟨Or.inl (by decide), (List.forall_mem_cons.mpr ⟨Or.inl (by decide), (List.forall_mem_cons.mpr ⟨Or.inl (by decide), (List.forall_mem_cons.mpr ⟨Or.inl (by decide), (List.forall_mem_cons.mpr ⟨Or.inl (by decide), (List.forall_mem_cons.mpr ⟨Or.inl (by decide), (List.forall_mem_cons.mpr ⟨Or.inl (by decide), (List.forall_mem_cons.mpr ⟨Or.inl (by decide), (List.forall_mem_cons.mpr ⟨Or.inr ⟨by decide, "java/lang/IndexOutOfBoundsException", zq_687, by decide +kernel⟩, (List.forall_mem_cons.mpr ⟨Or.inl (by decide), (List.forall_mem_cons.mpr ⟨Or.inl (by decide), (List.forall_mem_cons.mpr ⟨Or.inl (by decide), (List.forall_mem_cons.mpr ⟨Or.inl (by decide), (List.forall_mem_cons.mpr ⟨Or.inl (by decide), (List.forall_mem_cons.mpr ⟨Or.inl (by decide), (List.forall_mem_cons.mpr ⟨Or.inl (by decide), (List.forall_mem_cons.mpr ⟨Or.inl (by decide), (fun _ h9 => nomatch h9)⟩)⟩)⟩)⟩)⟩)⟩)⟩)⟩)⟩)⟩)⟩)⟩)⟩)⟩)⟩)⟩)⟩) (by decide) (by decide) zq_688 zq_117 rfl (fun q9 => ?_)
                      refine zr_astore C [(6, .ref q9), (12, .int r8), (5, .int r6), (4, .int r4), (3, .int r2), (2, .int r1), (0, .ref a0), (1, .int p1)] dL_act_584 (by decide) rfl ?_
                      refine zr_iload_n C 7 dL_act_586 rfl rfl ?_
                      refine zr_bipush C 13 dL_act_587 (by decide) ?_
                      refine zr_callS (As := [.int p1, .int 13]) C (k_L_below h) ok_L_22 zq_677 rfl ⟨by decide, (Nat.le_of_ble_eq_true rfl)⟩ ⟨(Nat.le_of_ble_eq_true rfl), (Nat.le_of_ble_eq_true rfl)⟩ (Nat.le_of_ble_eq_true rfl) dL_act_589 (fun v127 U128 G129 hq => ?_)
                      clear h
                      · obtain ⟨r114, rfl, rfl, rfl, h⟩ := hq
                        refine zr_iconst C 2 dL_act_592 (by decide) ?_
                        obtain ⟨h1, h2⟩ := h
                        refine zr_icmp_eq C 640 dL_act_593 (by decide) (fun hc => ?_) (fun hc => ?_)
                        · have h := h1 hc
                          clear h1 h2
                          refine zr_iconst C 0 dL_act_640 (by decide) ?_
                          exact zr_X (zr_zret C rfl (Or.inl rfl) ⟨_, rfl, h⟩ (Nat.le_of_ble_eq_true rfl) (Nat.le_of_ble_eq_true rfl) dL_act_641)
                        · have h := h2 hc
                          clear h1 h2
                          refine zr_iload_n C 7 dL_act_596 rfl rfl ?_
                          refine zr_bipush C 13 dL_act_597 (by decide) ?_
                          refine zr_callS (As := [.int p1, .int 13]) C (k_L_below h) ok_L_22 zq_677 rfl ⟨by decide, (Nat.le_of_ble_eq_true rfl)⟩ ⟨(Nat.le_of_ble_eq_true rfl), (Nat.le_of_ble_eq_true rfl)⟩ (Nat.le_of_ble_eq_true rfl) dL_act_599 (fun v124 U125 G126 hq => ?_)
                          clear h
                          · obtain ⟨r115, rfl, rfl, rfl, h⟩ := hq
                            refine zr_bipush C 6 dL_act_602 (by decide) ?_
                            obtain ⟨h1, h2⟩ := h
                            refine zr_icmp_eq C 640 dL_act_604 (by decide) (fun hc => ?_) (fun hc => ?_)
                            · have h := h1 hc
                              clear h1 h2
                              refine zr_iconst C 0 dL_act_640 (by decide) ?_
                              exact zr_X (zr_zret C rfl (Or.inl rfl) ⟨_, rfl, h⟩ (Nat.le_of_ble_eq_true rfl) (Nat.le_of_ble_eq_true rfl) dL_act_641)
                            · have h := h2 hc
                              clear h1 h2
                              refine zr_iload_n C 7 dL_act_607 rfl rfl ?_
                              refine zr_bipush C 13 dL_act_608 (by decide) ?_
                              refine zr_callS (As := [.int p1, .int 13]) C (k_L_below h) ok_L_22 zq_677 rfl ⟨by decide, (Nat.le_of_ble_eq_true rfl)⟩ ⟨(Nat.le_of_ble_eq_true rfl), (Nat.le_of_ble_eq_true rfl)⟩ (Nat.le_of_ble_eq_true rfl) dL_act_610 (fun v121 U122 G123 hq => ?_)
                              clear h
                              · obtain ⟨r116, rfl, rfl, rfl, h⟩ := hq
                                refine zr_bipush C 9 dL_act_613 (by decide) ?_
                                obtain ⟨h1, h2⟩ := h
                                refine zr_icmp_eq C 640 dL_act_615 (by decide) (fun hc => ?_) (fun hc => ?_)
                                · have h := h1 hc
                                  clear h1 h2
                                  refine zr_iconst C 0 dL_act_640 (by decide) ?_
                                  exact zr_X (zr_zret C rfl (Or.inl rfl) ⟨_, rfl, h⟩ (Nat.le_of_ble_eq_true rfl) (Nat.le_of_ble_eq_true rfl) dL_act_641)
                                · have h := h2 hc
                                  clear h1 h2
                                  refine zr_iload_n C 7 dL_act_618 rfl rfl ?_
                                  refine zr_bipush C 13 dL_act_619 (by decide) ?_
                                  refine zr_callS (As := [.int p1, .int 13]) C (k_L_below h) ok_L_22 zq_677 rfl ⟨by decide, (Nat.le_of_ble_eq_true rfl)⟩ ⟨(Nat.le_of_ble_eq_true rfl), (Nat.le_of_ble_eq_true rfl)⟩ (Nat.le_of_ble_eq_true rfl) dL_act_621 (fun v118 U119 G120 hq => ?_)
                                  clear h
                                  · obtain ⟨r117, rfl, rfl, rfl, h⟩ := hq
                                    refine zr_bipush C 10 dL_act_624 (by decide) ?_
                                    obtain ⟨h1, h2⟩ := h
                                    refine zr_icmp_lt C 636 dL_act_626 (by decide) (fun hc => ?_) (fun hc => ?_)
                                    · have h := h1 hc
                                      clear h1 h2
                                      refine zr_iconst C 1 dL_act_636 (by decide) ?_
                                      refine zr_goto C 641 dL_act_637 (by decide) ?_
                                      exact zr_X (zr_zret C rfl (Or.inr rfl) ⟨_, rfl, h⟩ (Nat.le_of_ble_eq_true rfl) (Nat.le_of_ble_eq_true rfl) dL_act_641)
                                    · have h := h2 hc
                                      clear h1 h2
                                      refine zr_iload C 3 dL_act_629 rfl ?_
                                      refine zr_bipush C 99 dL_act_631 (by decide) ?_
                                      obtain ⟨h1, h2⟩ := h
                                      refine zr_icmp_ne C 640 dL_act_633 (by decide) (fun hc => ?_) (fun hc => ?_)
                                      · have h := h1 hc
                                        clear h1 h2
                                        refine zr_iconst C 0 dL_act_640 (by decide) ?_
                                        exact zr_X (zr_zret C rfl (Or.inl rfl) ⟨_, rfl, h⟩ (Nat.le_of_ble_eq_true rfl) (Nat.le_of_ble_eq_true rfl) dL_act_641)
                                      · have h := h2 hc
                                        clear h1 h2
                                        refine zr_iconst C 1 dL_act_636 (by decide) ?_
                                        refine zr_goto C 641 dL_act_637 (by decide) ?_
                                        exact zr_X (zr_zret C rfl (Or.inr rfl) ⟨_, rfl, h⟩ (Nat.le_of_ble_eq_true rfl) (Nat.le_of_ble_eq_true rfl) dL_act_641)
                  · obtain ⟨r12, rfl, rfl, rfl, h⟩ := hq
                    refine zr_istore C [(13, .int r12), (12, .int r8), (5, .int r6), (4, .int r4), (3, .int r2), (2, .int r1), (0, .ref a0), (1, .int p1)] dL_act_510 (by decide) rfl ?_
                    refine zr_aload_n C 6 dL_act_512 rfl rfl ?_
                    refine zr_callVX (As := []) (r := (RX4, TX4, 4)) C (k_X4_day h) ok_L_106 zq_787 zq_788 hT11 (by decide) rfl rfl ⟨by decide, (Nat.le_of_ble_eq_true rfl)⟩ ⟨(Nat.le_of_ble_eq_true rfl), (Nat.le_of_ble_eq_true rfl)⟩ (Nat.le_of_ble_eq_true rfl) dL_act_513 ?_ (fun v107 U108 G109 hq => ?_)
                    · clear h
                      intro E9 U155 F9 hq
                      obtain ⟨rfl, hq⟩ := hq
                      rcases hq with hq | hq
                      · obtain ⟨rfl, h⟩ := hq
                        refine zr_catch C "java/lang/IndexOutOfBoundsException" _ [⟨41, 125, 568, 109⟩, ⟨126, 151, 568, 109⟩, ⟨152, 283, 568, 109⟩, ⟨284, 328, 568, 109⟩, ⟨329, 394, 568, 109⟩, ⟨395, 431, 568, 109⟩, ⟨432, 463, 568, 109⟩, ⟨464, 496, 568, 109⟩] ⟨497, 567, 568, 109⟩ [⟨41, 125, 584, 111⟩, ⟨126, 151, 584, 111⟩, ⟨152, 283, 584, 111⟩, ⟨284, 328, 584, 111⟩, ⟨329, 394, 584, 111⟩, ⟨395, 431, 584, 111⟩, ⟨432, 463, 584, 111⟩, ⟨464, 496, 584, 111⟩, ⟨497, 567, 584, 111⟩] 568 hxt rfl (List.forall_mem_cons.mpr ⟨Or.inl (by decide), (List.forall_mem_cons.mpr ⟨Or.inl (by decide), (List.forall_mem_cons.mpr ⟨Or.inl (by decide), (List.forall_mem_cons.mpr ⟨Or.inl (by decide), (List.forall_mem_cons.mpr ⟨Or.inl (by decide), (List.forall_mem_cons.mpr ⟨Or.inl (by decide), (List.forall_mem_cons.mpr ⟨Or.inl (by decide), (List.forall_mem_cons.mpr ⟨Or.inl (by decide), (fun _ h9 => nomatch h9)⟩)⟩)⟩)⟩)⟩)⟩)⟩)⟩) (by decide) (by decide) zq_687 zq_275 rfl (fun q9 => ?_)
                        refine zr_astore C [(6, .ref q9), (13, .int r12), (12, .int r8), (5, .int r6), (4, .int r4), (3, .int r2), (2, .int r1), (0, .ref a0), (1, .int p1)] dL_act_568 (by decide) rfl ?_
                        refine zr_aload_n C 7 dL_act_570 rfl rfl ?_
                        refine zr_iconst C 2 dL_act_571 (by decide) ?_
                        refine zr_callV (As := [.int 2]) (r := (RX4, TX4, 4)) C (k_X4_many0 h) ok_L_36 zq_393 zq_394 hT11 (by decide) rfl rfl ⟨by decide, (Nat.le_of_ble_eq_true rfl)⟩ ⟨(Nat.le_of_ble_eq_true rfl), (Nat.le_of_ble_eq_true rfl)⟩ (Nat.le_of_ble_eq_true rfl) dL_act_572 (fun v88 U89 G90 hq => ?_)
                        clear h
                        · obtain ⟨r87, rfl, rfl, rfl, h⟩ := hq
                          obtain ⟨h1, h2⟩ := h
                          refine zr_if_ne C 582 dL_act_575 (by decide) (fun hc => ?_) (fun hc => ?_)
                          · have h := h1 hc
                            clear h1 h2
                            refine zr_iconst C 0 dL_act_582 (by decide) ?_
                            exact zr_X (zr_zret C rfl (Or.inl rfl) ⟨_, rfl, h⟩ (Nat.le_of_ble_eq_true rfl) (Nat.le_of_ble_eq_true rfl) dL_act_583)
                          · have h := h2 hc
                            clear h1 h2
                            refine zr_iconst C 1 dL_act_578 (by decide) ?_
                            refine zr_goto C 583 dL_act_579 (by decide) ?_
                            exact zr_X (zr_zret C rfl (Or.inr rfl) ⟨_, rfl, h⟩ (Nat.le_of_ble_eq_true rfl) (Nat.le_of_ble_eq_true rfl) dL_act_583)
                      · obtain ⟨rfl, h⟩ := hq
                        refine zr_catch C "java/lang/IllegalStateException" _ [⟨41, 125, 568, 109⟩, ⟨126, 151, 568, 109⟩, ⟨152, 283, 568, 109⟩, ⟨284, 328, 568, 109⟩, ⟨329, 394, 568, 109⟩, ⟨395, 431, 568, 109⟩, ⟨432, 463, 568, 109⟩, ⟨464, 496, 568, 109⟩, ⟨497, 567, 568, 109⟩, ⟨41, 125, 584, 111⟩, ⟨126, 151, 584, 111⟩, ⟨152, 283, 584, 111⟩, ⟨284, 328, 584, 111⟩, ⟨329, 394, 584, 111⟩, ⟨395, 431, 584, 111⟩, ⟨432, 463, 584, 111⟩, ⟨464, 496, 584, 111⟩] ⟨497, 567, 584, 111⟩ [] 584 hxt rfl (List.forall_mem_cons.mpr ⟨Or.inl (by decide), (List.forall_mem_cons.mpr ⟨Or.inl (by decide), (List.forall_mem_cons.mpr ⟨Or.inl (by decide), (List.forall_mem_cons.mpr ⟨Or.inl (by decide), (List.forall_mem_cons.mpr ⟨Or.inl (by decide), (List.forall_mem_cons.mpr ⟨Or.inl (by decide), (List.forall_mem_cons.mpr ⟨Or.inl (by decide), (List.forall_mem_cons.mpr ⟨Or.inl (by decide), (List.forall_mem_cons.mpr ⟨Or.inr ⟨by decide, "java/lang/IndexOutOfBoundsException", zq_687, by decide +kernel⟩, (List.forall_mem_cons.mpr ⟨Or.inl (by decide), (List.forall_mem_cons.mpr ⟨Or.inl (by decide), (List.forall_mem_cons.mpr ⟨Or.inl (by decide), (List.forall_mem_cons.mpr ⟨Or.inl (by decide), (List.forall_mem_cons.mpr ⟨Or.inl (by decide), (List.forall_mem_cons.mpr ⟨Or.inl (by decide), (List.forall_mem_cons.mpr ⟨Or.inl (by decide), (List.forall_mem_cons.mpr ⟨Or.inl (by decide), (fun _ h9 => nomatch h9)⟩)⟩)⟩)⟩)⟩)⟩)⟩)⟩)⟩)⟩)⟩)⟩)⟩)⟩)⟩)⟩)⟩) (by decide) (by decide) zq_688 zq_117 rfl (fun q9 => ?_)
                        refine zr_astore C [(6, .ref q9), (13, .int r12), (12, .int r8), (5, .int r6), (4, .int r4), (3, .int r2), (2, .int r1), (0, .ref a0), (1, .int p1)] dL_act_584 (by decide) rfl ?_
                        refine zr_iload_n C 8 dL_act_586 rfl rfl ?_
                        refine zr_bipush C 13 dL_act_587 (by decide) ?_
                        refine zr_callS (As := [.int p1, .int 13]) C (k_L_below h) ok_L_22 zq_677 rfl ⟨by decide, (Nat.le_of_ble_eq_true rfl)⟩ ⟨(Nat.le_of_ble_eq_true rfl), (Nat.le_of_ble_eq_true rfl)⟩ (Nat.le_of_ble_eq_true rfl) dL_act_589 (fun v104 U105 G106 hq => ?_)
                        clear h
                        · obtain ⟨r91, rfl, rfl, rfl, h⟩ := hq
                          refine zr_iconst C 2 dL_act_592 (by decide) ?_
                          obtain ⟨h1, h2⟩ := h
                          refine zr_icmp_eq C 640 dL_act_593 (by decide) (fun hc => ?_) (fun hc => ?_)
                          · have h := h1 hc
                            clear h1 h2
                            refine zr_iconst C 0 dL_act_640 (by decide) ?_
                            exact zr_X (zr_zret C rfl (Or.inl rfl) ⟨_, rfl, h⟩ (Nat.le_of_ble_eq_true rfl) (Nat.le_of_ble_eq_true rfl) dL_act_641)
                          · have h := h2 hc
                            clear h1 h2
                            refine zr_iload_n C 8 dL_act_596 rfl rfl ?_
                            refine zr_bipush C 13 dL_act_597 (by decide) ?_
                            refine zr_callS (As := [.int p1, .int 13]) C (k_L_below h) ok_L_22 zq_677 rfl ⟨by decide, (Nat.le_of_ble_eq_true rfl)⟩ ⟨(Nat.le_of_ble_eq_true rfl), (Nat.le_of_ble_eq_true rfl)⟩ (Nat.le_of_ble_eq_true rfl) dL_act_599 (fun v101 U102 G103 hq => ?_)
                            clear h
                            · obtain ⟨r92, rfl, rfl, rfl, h⟩ := hq
                              refine zr_bipush C 6 dL_act_602 (by decide) ?_
                              obtain ⟨h1, h2⟩ := h
                              refine zr_icmp_eq C 640 dL_act_604 (by decide) (fun hc => ?_) (fun hc => ?_)
                              · have h := h1 hc
                                clear h1 h2
                                refine zr_iconst C 0 dL_act_640 (by decide) ?_
                                exact zr_X (zr_zret C rfl (Or.inl rfl) ⟨_, rfl, h⟩ (Nat.le_of_ble_eq_true rfl) (Nat.le_of_ble_eq_true rfl) dL_act_641)
                              · have h := h2 hc
                                clear h1 h2
                                refine zr_iload_n C 8 dL_act_607 rfl rfl ?_
                                refine zr_bipush C 13 dL_act_608 (by decide) ?_
                                refine zr_callS (As := [.int p1, .int 13]) C (k_L_below h) ok_L_22 zq_677 rfl ⟨by decide, (Nat.le_of_ble_eq_true rfl)⟩ ⟨(Nat.le_of_ble_eq_true rfl), (Nat.le_of_ble_eq_true rfl)⟩ (Nat.le_of_ble_eq_true rfl) dL_act_610 (fun v98 U99 G100 hq => ?_)
                                clear h
                                · obtain ⟨r93, rfl, rfl, rfl, h⟩ := hq
                                  refine zr_bipush C 9 dL_act_613 (by decide) ?_
                                  obtain ⟨h1, h2⟩ := h
                                  refine zr_icmp_eq C 640 dL_act_615 (by decide) (fun hc => ?_) (fun hc => ?_)
                                  · have h := h1 hc
                                    clear h1 h2
                                    refine zr_iconst C 0 dL_act_640 (by decide) ?_
                                    exact zr_X (zr_zret C rfl (Or.inl rfl) ⟨_, rfl, h⟩ (Nat.le_of_ble_eq_true rfl) (Nat.le_of_ble_eq_true rfl) dL_act_641)
                                  · have h := h2 hc
                                    clear h1 h2
                                    refine zr_iload_n C 8 dL_act_618 rfl rfl ?_
                                    refine zr_bipush C 13 dL_act_619 (by decide) ?_
                                    refine zr_callS (As := [.int p1, .int 13]) C (k_L_below h) ok_L_22 zq_677 rfl ⟨by decide, (Nat.le_of_ble_eq_true rfl)⟩ ⟨(Nat.le_of_ble_eq_true rfl), (Nat.le_of_ble_eq_true rfl)⟩ (Nat.le_of_ble_eq_true rfl) dL_act_621 (fun v95 U96 G97 hq => ?_)
                                    clear h
                                    · obtain ⟨r94, rfl, rfl, rfl, h⟩ := hq
                                      refine zr_bipush C 10 dL_act_624 (by decide) ?_
                                      obtain ⟨h1, h2⟩ := h
                                      refine zr_icmp_lt C 636 dL_act_626 (by decide) (fun hc => ?_) (fun hc => ?_)
                                      · have h := h1 hc
                                        clear h1 h2
                                        refine zr_iconst C 1 dL_act_636 (by decide) ?_
                                        refine zr_goto C 641 dL_act_637 (by decide) ?_
                                        exact zr_X (zr_zret C rfl (Or.inr rfl) ⟨_, rfl, h⟩ (Nat.le_of_ble_eq_true rfl) (Nat.le_of_ble_eq_true rfl) dL_act_641)
                                      · have h := h2 hc
                                        clear h1 h2
                                        refine zr_iload C 4 dL_act_629 rfl ?_
                                        refine zr_bipush C 99 dL_act_631 (by decide) ?_
                                        obtain ⟨h1, h2⟩ := h
                                        refine zr_icmp_ne C 640 dL_act_633 (by decide) (fun hc => ?_) (fun hc => ?_)
                                        · have h := h1 hc
                                          clear h1 h2
                                          refine zr_iconst C 0 dL_act_640 (by decide) ?_
                                          exact zr_X (zr_zret C rfl (Or.inl rfl) ⟨_, rfl, h⟩ (Nat.le_of_ble_eq_true rfl) (Nat.le_of_ble_eq_true rfl) dL_act_641)
                                        · have h := h2 hc
                                          clear h1 h2
                                          refine zr_iconst C 1 dL_act_636 (by decide) ?_
                                          refine zr_goto C 641 dL_act_637 (by decide) ?_
                                          exact zr_X (zr_zret C rfl (Or.inr rfl) ⟨_, rfl, h⟩ (Nat.le_of_ble_eq_true rfl) (Nat.le_of_ble_eq_true rfl) dL_act_641)
                    · obtain ⟨r13, rfl, rfl, h⟩ := hq
                      refine zr_istore C [(14, .int r13), (13, .int r12), (12, .int r8), (5, .int r6), (4, .int r4), (3, .int r2), (2, .int r1), (0, .ref a0), (1, .int p1)] dL_act_516 (by decide) rfl ?_
                      refine zr_aload_n C 7 dL_act_518 rfl rfl ?_
                      refine zr_bipush C 10 dL_act_519 (by decide) ?_
                      refine zr_callVX (As := [.int 10]) (r := (RX4, TX4, 4)) C (k_X4_many h) ok_L_36 zq_393 zq_394 hT11 (by decide) rfl rfl ⟨by decide, (Nat.le_of_ble_eq_true rfl)⟩ ⟨(Nat.le_of_ble_eq_true rfl), (Nat.le_of_ble_eq_true rfl)⟩ (Nat.le_of_ble_eq_true rfl) dL_act_521 ?_ (fun v84 U85 G86 hq => ?_)
                      · clear h
                        intro E9 U155 F9 hq
                        obtain ⟨rfl, rfl, hq⟩ := hq
                        rcases hq with hq | hq
                        · obtain ⟨rfl, h⟩ := hq
                          refine zr_catch C "java/lang/IndexOutOfBoundsException" _ [⟨41, 125, 568, 109⟩, ⟨126, 151, 568, 109⟩, ⟨152, 283, 568, 109⟩, ⟨284, 328, 568, 109⟩, ⟨329, 394, 568, 109⟩, ⟨395, 431, 568, 109⟩, ⟨432, 463, 568, 109⟩, ⟨464, 496, 568, 109⟩] ⟨497, 567, 568, 109⟩ [⟨41, 125, 584, 111⟩, ⟨126, 151, 584, 111⟩, ⟨152, 283, 584, 111⟩, ⟨284, 328, 584, 111⟩, ⟨329, 394, 584, 111⟩, ⟨395, 431, 584, 111⟩, ⟨432, 463, 584, 111⟩, ⟨464, 496, 584, 111⟩, ⟨497, 567, 584, 111⟩] 568 hxt rfl (List.forall_mem_cons.mpr ⟨Or.inl (by decide), (List.forall_mem_cons.mpr ⟨Or.inl (by decide), (List.forall_mem_cons.mpr ⟨Or.inl (by decide), (List.forall_mem_cons.mpr ⟨Or.inl (by decide), (List.forall_mem_cons.mpr ⟨Or.inl (by decide), (List.forall_mem_cons.mpr ⟨Or.inl (by decide), (List.forall_mem_cons.mpr ⟨Or.inl (by decide), (List.forall_mem_cons.mpr ⟨Or.inl (by decide), (fun _ h9 => nomatch h9)⟩)⟩)⟩)⟩)⟩)⟩)⟩)⟩) (by decide) (by decide) zq_687 zq_275 rfl (fun q9 => ?_)
                          refine zr_astore C [(6, .ref q9), (14, .int r13), (13, .int r12), (12, .int r8), (5, .int r6), (4, .int r4), (3, .int r2), (2, .int r1), (0, .ref a0), (1, .int p1)] dL_act_568 (by decide) rfl ?_
                          refine zr_aload_n C 8 dL_act_570 rfl rfl ?_
                          refine zr_iconst C 2 dL_act_571 (by decide) ?_
                          refine zr_callV (As := [.int 2]) (r := (RX4, TX4, 4)) C (k_X4_many0 h) ok_L_36 zq_393 zq_394 hT11 (by decide) rfl rfl ⟨by decide, (Nat.le_of_ble_eq_true rfl)⟩ ⟨(Nat.le_of_ble_eq_true rfl), (Nat.le_of_ble_eq_true rfl)⟩ (Nat.le_of_ble_eq_true rfl) dL_act_572 (fun v65 U66 G67 hq => ?_)
                          clear h
                          · obtain ⟨r64, rfl, rfl, rfl, h⟩ := hq
                            obtain ⟨h1, h2⟩ := h
                            refine zr_if_ne C 582 dL_act_575 (by decide) (fun hc => ?_) (fun hc => ?_)
                            · have h := h1 hc
                              clear h1 h2
                              refine zr_iconst C 0 dL_act_582 (by decide) ?_
                              exact zr_X (zr_zret C rfl (Or.inl rfl) ⟨_, rfl, h⟩ (Nat.le_of_ble_eq_true rfl) (Nat.le_of_ble_eq_true rfl) dL_act_583)
                            · have h := h2 hc
                              clear h1 h2
                              refine zr_iconst C 1 dL_act_578 (by decide) ?_
                              refine zr_goto C 583 dL_act_579 (by decide) ?_
                              exact zr_X (zr_zret C rfl (Or.inr rfl) ⟨_, rfl, h⟩ (Nat.le_of_ble_eq_true rfl) (Nat.le_of_ble_eq_true rfl) dL_act_583)
                        · obtain ⟨rfl, h⟩ := hq
                          refine zr_catch C "java/lang/IllegalStateException" _ [⟨41, 125, 568, 109⟩, ⟨126, 151, 568, 109⟩, ⟨152, 283, 568, 109⟩, ⟨284, 328, 568, 109⟩, ⟨329, 394, 568, 109⟩, ⟨395, 431, 568, 109⟩, ⟨432, 463, 568, 109⟩, ⟨464, 496, 568, 109⟩, ⟨497, 567, 568, 109⟩, ⟨41, 125, 584, 111⟩, ⟨126, 151, 584, 111⟩, ⟨152, 283, 584, 111⟩, ⟨284, 328, 584, 111⟩, ⟨329, 394, 584, 111⟩, ⟨395, 431, 584, 111⟩, ⟨432, 463, 584, 111⟩, ⟨464, 496, 584, 111⟩] ⟨497, 567, 584, 111⟩ [] 584 hxt rfl (List.forall_mem_cons.mpr ⟨Or.inl (by decide), (List.forall_mem_cons.mpr ⟨Or.inl (by decide), (List.forall_mem_cons.mpr ⟨Or.inl (by decide), (List.forall_mem_cons.mpr ⟨Or.inl (by decide), (List.forall_mem_cons.mpr ⟨Or.inl (by decide), (List.forall_mem_cons.mpr ⟨Or.inl (by decide), (List.forall_mem_cons.mpr ⟨Or.inl (by decide), (List.forall_mem_cons.mpr ⟨Or.inl (by decide), (List.forall_mem_cons.mpr ⟨Or.inr ⟨by decide, "java/lang/IndexOutOfBoundsException", zq_687, by decide +kernel⟩, (List.forall_mem_cons.mpr ⟨Or.inl (by decide), (List.forall_mem_cons.mpr ⟨Or.inl (by decide), (List.forall_mem_cons.mpr ⟨Or.inl (by decide), (List.forall_mem_cons.mpr ⟨Or.inl (by decide), (List.forall_mem_cons.mpr ⟨Or.inl (by decide), (List.forall_mem_cons.mpr ⟨Or.inl (by decide), (List.forall_mem_cons.mpr ⟨Or.inl (by decide), (List.forall_mem_cons.mpr ⟨Or.inl (by decide), (fun _ h9 => nomatch h9)⟩)⟩)⟩)⟩)⟩)⟩)⟩)⟩)⟩)⟩)⟩)⟩)⟩)⟩)⟩)⟩)⟩) (by decide) (by decide) zq_688 zq_117 rfl (fun q9 => ?_)
                          refine zr_astore C [(6, .ref q9), (14, .int r13), (13, .int r12), (12, .int r8), (5, .int r6), (4, .int r4), (3, .int r2), (2, .int r1), (0, .ref a0), (1, .int p1)] dL_act_584 (by decide) rfl ?_
                          refine zr_iload_n C 9 dL_act_586 rfl rfl ?_
                          refine zr_bipush C 13 dL_act_587 (by decide) ?_
                          refine zr_callS (As := [.int p1, .int 13]) C (k_L_below h) ok_L_22 zq_677 rfl ⟨by decide, (Nat.le_of_ble_eq_true rfl)⟩ ⟨(Nat.le_of_ble_eq_true rfl), (Nat.le_of_ble_eq_true rfl)⟩ (Nat.le_of_ble_eq_true rfl) dL_act_589 (fun v81 U82 G83 hq => ?_)
                          clear h
                          · obtain ⟨r68, rfl, rfl, rfl, h⟩ := hq
                            refine zr_iconst C 2 dL_act_592 (by decide) ?_
                            obtain ⟨h1, h2⟩ := h
                            refine zr_icmp_eq C 640 dL_act_593 (by decide) (fun hc => ?_) (fun hc => ?_)
                            · have h := h1 hc
                              clear h1 h2
                              refine zr_iconst C 0 dL_act_640 (by decide) ?_
                              exact zr_X (zr_zret C rfl (Or.inl rfl) ⟨_, rfl, h⟩ (Nat.le_of_ble_eq_true rfl) (Nat.le_of_ble_eq_true rfl) dL_act_641)
                            · have h := h2 hc
                              clear h1 h2
                              refine zr_iload_n C 9 dL_act_596 rfl rfl ?_
                              refine zr_bipush C 13 dL_act_597 (by decide) ?_
                              refine zr_callS (As := [.int p1, .int 13]) C (k_L_below h) ok_L_22 zq_677 rfl ⟨by decide, (Nat.le_of_ble_eq_true rfl)⟩ ⟨(Nat.le_of_ble_eq_true rfl), (Nat.le_of_ble_eq_true rfl)⟩ (Nat.le_of_ble_eq_true rfl) dL_act_599 (fun v78 U79 G80 hq => ?_)
                              clear h
                              · obtain ⟨r69, rfl, rfl, rfl, h⟩ := hq
                                refine zr_bipush C 6 dL_act_602 (by decide) ?_
                                obtain ⟨h1, h2⟩ := h
                                refine zr_icmp_eq C 640 dL_act_604 (by decide) (fun hc => ?_) (fun hc => ?_)
                                · have h := h1 hc
                                  clear h1 h2
                                  refine zr_iconst C 0 dL_act_640 (by decide) ?_
                                  exact zr_X (zr_zret C rfl (Or.inl rfl) ⟨_, rfl, h⟩ (Nat.le_of_ble_eq_true rfl) (Nat.le_of_ble_eq_true rfl) dL_act_641)
                                · have h := h2 hc
                                  clear h1 h2
                                  refine zr_iload_n C 9 dL_act_607 rfl rfl ?_
                                  refine zr_bipush C 13 dL_act_608 (by decide) ?_
                                  refine zr_callS (As := [.int p1, .int 13]) C (k_L_below h) ok_L_22 zq_677 rfl ⟨by decide, (Nat.le_of_ble_eq_true rfl)⟩ ⟨(Nat.le_of_ble_eq_true rfl), (Nat.le_of_ble_eq_true rfl)⟩ (Nat.le_of_ble_eq_true rfl) dL_act_610 (fun v75 U76 G77 hq => ?_)
                                  clear h
                                  · obtain ⟨r70, rfl, rfl, rfl, h⟩ := hq
                                    refine zr_bipush C 9 dL_act_613 (by decide) ?_
                                    obtain ⟨h1, h2⟩ := h
                                    refine zr_icmp_eq C 640 dL_act_615 (by decide) (fun hc => ?_) (fun hc => ?_)
                                    · have h := h1 hc
                                      clear h1 h2
                                      refine zr_iconst C 0 dL_act_640 (by decide) ?_
                                      exact zr_X (zr_zret C rfl (Or.inl rfl) ⟨_, rfl, h⟩ (Nat.le_of_ble_eq_true rfl) (Nat.le_of_ble_eq_true rfl) dL_act_641)
                                    · have h := h2 hc
                                      clear h1 h2
                                      refine zr_iload_n C 9 dL_act_618 rfl rfl ?_
                                      refine zr_bipush C 13 dL_act_619 (by decide) ?_
                                      refine zr_callS (As := [.int p1, .int 13]) C (k_L_below h) ok_L_22 zq_677 rfl ⟨by decide, (Nat.le_of_ble_eq_true rfl)⟩ ⟨(Nat.le_of_ble_eq_true rfl), (Nat.le_of_ble_eq_true rfl)⟩ (Nat.le_of_ble_eq_true rfl) dL_act_621 (fun v72 U73 G74 hq => ?_)
                                      clear h
                                      · obtain ⟨r71, rfl, rfl, rfl, h⟩ := hq
                                        refine zr_bipush C 10 dL_act_624 (by decide) ?_
                                        obtain ⟨h1, h2⟩ := h
                                        refine zr_icmp_lt C 636 dL_act_626 (by decide) (fun hc => ?_) (fun hc => ?_)
                                        · have h := h1 hc
                                          clear h1 h2
                                          refine zr_iconst C 1 dL_act_636 (by decide) ?_
                                          refine zr_goto C 641 dL_act_637 (by decide) ?_
                                          exact zr_X (zr_zret C rfl (Or.inr rfl) ⟨_, rfl, h⟩ (Nat.le_of_ble_eq_true rfl) (Nat.le_of_ble_eq_true rfl) dL_act_641)
                                        · have h := h2 hc
                                          clear h1 h2
                                          refine zr_iload C 5 dL_act_629 rfl ?_
                                          refine zr_bipush C 99 dL_act_631 (by decide) ?_
                                          obtain ⟨h1, h2⟩ := h
                                          refine zr_icmp_ne C 640 dL_act_633 (by decide) (fun hc => ?_) (fun hc => ?_)
                                          · have h := h1 hc
                                            clear h1 h2
                                            refine zr_iconst C 0 dL_act_640 (by decide) ?_
                                            exact zr_X (zr_zret C rfl (Or.inl rfl) ⟨_, rfl, h⟩ (Nat.le_of_ble_eq_true rfl) (Nat.le_of_ble_eq_true rfl) dL_act_641)
                                          · have h := h2 hc
                                            clear h1 h2
                                            refine zr_iconst C 1 dL_act_636 (by decide) ?_
                                            refine zr_goto C 641 dL_act_637 (by decide) ?_
                                            exact zr_X (zr_zret C rfl (Or.inr rfl) ⟨_, rfl, h⟩ (Nat.le_of_ble_eq_true rfl) (Nat.le_of_ble_eq_true rfl) dL_act_641)
                      · obtain ⟨r15, rfl, rfl, rfl, h⟩ := hq
                        refine zr_iload C 4 dL_act_524 rfl ?_
                        refine zr_iconst C 1 dL_act_526 (by decide) ?_
                        refine zr_iadd C dL_act_527 ?_
                        obtain ⟨h1, h2⟩ := h
                        refine zr_icmp_ne C 566 dL_act_528 (by decide) (fun hc => ?_) (fun hc => ?_)
                        · have h := h1 hc
                          clear h1 h2
                          refine zr_iconst C 0 dL_act_566 (by decide) ?_
                          exact zr_X (zr_zret C rfl (Or.inl rfl) ⟨_, rfl, h⟩ (Nat.le_of_ble_eq_true rfl) (Nat.le_of_ble_eq_true rfl) dL_act_567)
                        · have h := h2 hc
                          clear h1 h2
                          refine zr_aload_n C 7 dL_act_531 rfl rfl ?_
                          refine zr_bipush C 7 dL_act_532 (by decide) ?_
                          refine zr_callVX (As := [.int 7]) (r := (RX4, TX4, 4)) C (k_X4_many h) ok_L_36 zq_393 zq_394 hT11 (by decide) rfl rfl ⟨by decide, (Nat.le_of_ble_eq_true rfl)⟩ ⟨(Nat.le_of_ble_eq_true rfl), (Nat.le_of_ble_eq_true rfl)⟩ (Nat.le_of_ble_eq_true rfl) dL_act_534 ?_ (fun v61 U62 G63 hq => ?_)
                          · clear h
                            intro E9 U155 F9 hq
                            obtain ⟨rfl, rfl, hq⟩ := hq
                            rcases hq with hq | hq
                            · obtain ⟨rfl, h⟩ := hq
                              refine zr_catch C "java/lang/IndexOutOfBoundsException" _ [⟨41, 125, 568, 109⟩, ⟨126, 151, 568, 109⟩, ⟨152, 283, 568, 109⟩, ⟨284, 328, 568, 109⟩, ⟨329, 394, 568, 109⟩, ⟨395, 431, 568, 109⟩, ⟨432, 463, 568, 109⟩, ⟨464, 496, 568, 109⟩] ⟨497, 567, 568, 109⟩ [⟨41, 125, 584, 111⟩, ⟨126, 151, 584, 111⟩, ⟨152, 283, 584, 111⟩, ⟨284, 328, 584, 111⟩, ⟨329, 394, 584, 111⟩, ⟨395, 431, 584, 111⟩, ⟨432, 463, 584, 111⟩, ⟨464, 496, 584, 111⟩, ⟨497, 567, 584, 111⟩] 568 hxt rfl (List.forall_mem_cons.mpr ⟨Or.inl (by decide), (List.forall_mem_cons.mpr ⟨Or.inl (by decide), (List.forall_mem_cons.mpr ⟨Or.inl (by decide), (List.forall_mem_cons.mpr ⟨Or.inl (by decide), (List.forall_mem_cons.mpr ⟨Or.inl (by decide), (List.forall_mem_cons.mpr ⟨Or.inl (by decide), (List.forall_mem_cons.mpr ⟨Or.inl (by decide), (List.forall_mem_cons.mpr ⟨Or.inl (by decide), (fun _ h9 => nomatch h9)⟩)⟩)⟩)⟩)⟩)⟩)⟩)⟩) (by decide) (by decide) zq_687 zq_275 rfl (fun q9 => ?_)
                              refine zr_astore C [(6, .ref q9), (14, .int r13), (13, .int r12), (12, .int r8), (5, .int r6), (4, .int r4), (3, .int r2), (2, .int r1), (0, .ref a0), (1, .int p1)] dL_act_568 (by decide) rfl ?_
                              refine zr_aload_n C 8 dL_act_570 rfl rfl ?_
                              refine zr_iconst C 2 dL_act_571 (by decide) ?_
                              refine zr_callV (As := [.int 2]) (r := (RX4, TX4, 4)) C (k_X4_many0 h) ok_L_36 zq_393 zq_394 hT11 (by decide) rfl rfl ⟨by decide, (Nat.le_of_ble_eq_true rfl)⟩ ⟨(Nat.le_of_ble_eq_true rfl), (Nat.le_of_ble_eq_true rfl)⟩ (Nat.le_of_ble_eq_true rfl) dL_act_572 (fun v42 U43 G44 hq => ?_)
                              clear h
                              · obtain ⟨r41, rfl, rfl, rfl, h⟩ := hq
                                obtain ⟨h1, h2⟩ := h
                                refine zr_if_ne C 582 dL_act_575 (by decide) (fun hc => ?_) (fun hc => ?_)
                                · have h := h1 hc
                                  clear h1 h2
                                  refine zr_iconst C 0 dL_act_582 (by decide) ?_
                                  exact zr_X (zr_zret C rfl (Or.inl rfl) ⟨_, rfl, h⟩ (Nat.le_of_ble_eq_true rfl) (Nat.le_of_ble_eq_true rfl) dL_act_583)
                                · have h := h2 hc
                                  clear h1 h2
                                  refine zr_iconst C 1 dL_act_578 (by decide) ?_
                                  refine zr_goto C 583 dL_act_579 (by decide) ?_
                                  exact zr_X (zr_zret C rfl (Or.inr rfl) ⟨_, rfl, h⟩ (Nat.le_of_ble_eq_true rfl) (Nat.le_of_ble_eq_true rfl) dL_act_583)
                            · obtain ⟨rfl, h⟩ := hq
                              refine zr_catch C "java/lang/IllegalStateException" _ [⟨41, 125, 568, 109⟩, ⟨126, 151, 568, 109⟩, ⟨152, 283, 568, 109⟩, ⟨284, 328, 568, 109⟩, ⟨329, 394, 568, 109⟩, ⟨395, 431, 568, 109⟩, ⟨432, 463, 568, 109⟩, ⟨464, 496, 568, 109⟩, ⟨497, 567, 568, 109⟩, ⟨41, 125, 584, 111⟩, ⟨126, 151, 584, 111⟩, ⟨152, 283, 584, 111⟩, ⟨284, 328, 584, 111⟩, ⟨329, 394, 584, 111⟩, ⟨395, 431, 584, 111⟩, ⟨432, 463, 584, 111⟩, ⟨464, 496, 584, 111⟩] ⟨497, 567, 584, 111⟩ [] 584 hxt rfl (List.forall_mem_cons.mpr ⟨Or.inl (by decide), (List.forall_mem_cons.mpr ⟨Or.inl (by decide), (List.forall_mem_cons.mpr ⟨Or.inl (by decide), (List.forall_mem_cons.mpr ⟨Or.inl (by decide), (List.forall_mem_cons.mpr ⟨Or.inl (by decide), (List.forall_mem_cons.mpr ⟨Or.inl (by decide), (List.forall_mem_cons.mpr ⟨Or.inl (by decide), (List.forall_mem_cons.mpr ⟨Or.inl (by decide), (List.forall_mem_cons.mpr ⟨Or.inr ⟨by decide, "java/lang/IndexOutOfBoundsException", zq_687, by decide +kernel⟩, (List.forall_mem_cons.mpr ⟨Or.inl (by decide), (List.forall_mem_cons.mpr ⟨Or.inl (by decide), (List.forall_mem_cons.mpr ⟨Or.inl (by decide), (List.forall_mem_cons.mpr ⟨Or.inl (by decide), (List.forall_mem_cons.mpr ⟨Or.inl (by decide), (List.forall_mem_cons.mpr ⟨Or.inl (by decide), (List.forall_mem_cons.mpr ⟨Or.inl (by decide), (List.forall_mem_cons.mpr ⟨Or.inl (by decide), (fun _ h9 => nomatch h9)⟩)⟩)⟩)⟩)⟩)⟩)⟩)⟩)⟩)⟩)⟩)⟩)⟩)⟩)⟩)⟩)⟩) (by decide) (by decide) zq_688 zq_117 rfl (fun q9 => ?_)
                              refine zr_astore C [(6, .ref q9), (14, .int r13), (13, .int r12), (12, .int r8), (5, .int r6), (4, .int r4), (3, .int r2), (2, .int r1), (0, .ref a0), (1, .int p1)] dL_act_584 (by decide) rfl ?_
                              refine zr_iload_n C 9 dL_act_586 rfl rfl ?_
                              refine zr_bipush C 13 dL_act_587 (by decide) ?_
                              refine zr_callS (As := [.int p1, .int 13]) C (k_L_below h) ok_L_22 zq_677 rfl ⟨by decide, (Nat.le_of_ble_eq_true rfl)⟩ ⟨(Nat.le_of_ble_eq_true rfl), (Nat.le_of_ble_eq_true rfl)⟩ (Nat.le_of_ble_eq_true rfl) dL_act_589 (fun v58 U59 G60 hq => ?_)
                              clear h
                              · obtain ⟨r45, rfl, rfl, rfl, h⟩ := hq
                                refine zr_iconst C 2 dL_act_592 (by decide) ?_
                                obtain ⟨h1, h2⟩ := h
                                refine zr_icmp_eq C 640 dL_act_593 (by decide) (fun hc => ?_) (fun hc => ?_)
                                · have h := h1 hc
                                  clear h1 h2
                                  refine zr_iconst C 0 dL_act_640 (by decide) ?_
                                  exact zr_X (zr_zret C rfl (Or.inl rfl) ⟨_, rfl, h⟩ (Nat.le_of_ble_eq_true rfl) (Nat.le_of_ble_eq_true rfl) dL_act_641)
                                · have h := h2 hc
                                  clear h1 h2
                                  refine zr_iload_n C 9 dL_act_596 rfl rfl ?_
                                  refine zr_bipush C 13 dL_act_597 (by decide) ?_
                                  refine zr_callS (As := [.int p1, .int 13]) C (k_L_below h) ok_L_22 zq_677 rfl ⟨by decide, (Nat.le_of_ble_eq_true rfl)⟩ ⟨(Nat.le_of_ble_eq_true rfl), (Nat.le_of_ble_eq_true rfl)⟩ (Nat.le_of_ble_eq_true rfl) dL_act_599 (fun v55 U56 G57 hq => ?_)
                                  clear h
                                  · obtain ⟨r46, rfl, rfl, rfl, h⟩ := hq
                                    refine zr_bipush C 6 dL_act_602 (by decide) ?_
                                    obtain ⟨h1, h2⟩ := h
                                    refine zr_icmp_eq C 640 dL_act_604 (by decide) (fun hc => ?_) (fun hc => ?_)
                                    · have h := h1 hc
                                      clear h1 h2
                                      refine zr_iconst C 0 dL_act_640 (by decide) ?_
                                      exact zr_X (zr_zret C rfl (Or.inl rfl) ⟨_, rfl, h⟩ (Nat.le_of_ble_eq_true rfl) (Nat.le_of_ble_eq_true rfl) dL_act_641)
                                    · have h := h2 hc
                                      clear h1 h2
                                      refine zr_iload_n C 9 dL_act_607 rfl rfl ?_
                                      refine zr_bipush C 13 dL_act_608 (by decide) ?_
                                      refine zr_callS (As := [.int p1, .int 13]) C (k_L_below h) ok_L_22 zq_677 rfl ⟨by decide, (Nat.le_of_ble_eq_true rfl)⟩ ⟨(Nat.le_of_ble_eq_true rfl), (Nat.le_of_ble_eq_true rfl)⟩ (Nat.le_of_ble_eq_true rfl) dL_act_610 (fun v52 U53 G54 hq => ?_)
                                      clear h
                                      · obtain ⟨r47, rfl, rfl, rfl, h⟩ := hq
                                        refine zr_bipush C 9 dL_act_613 (by decide) ?_
                                        obtain ⟨h1, h2⟩ := h
                                        refine zr_icmp_eq C 640 dL_act_615 (by decide) (fun hc => ?_) (fun hc => ?_)
                                        · have h := h1 hc
                                          clear h1 h2
                                          refine zr_iconst C 0 dL_act_640 (by decide) ?_
                                          exact zr_X (zr_zret C rfl (Or.inl rfl) ⟨_, rfl, h⟩ (Nat.le_of_ble_eq_true rfl) (Nat.le_of_ble_eq_true rfl) dL_act_641)
                                        · have h := h2 hc
                                          clear h1 h2
                                          refine zr_iload_n C 9 dL_act_618 rfl rfl ?_
                                          refine zr_bipush C 13 dL_act_619 (by decide) ?_
                                          refine zr_callS (As := [.int p1, .int 13]) C (k_L_below h) ok_L_22 zq_677 rfl ⟨by decide, (Nat.le_of_ble_eq_true rfl)⟩ ⟨(Nat.le_of_ble_eq_true rfl), (Nat.le_of_ble_eq_true rfl)⟩ (Nat.le_of_ble_eq_true rfl) dL_act_621 (fun v49 U50 G51 hq => ?_)
                                          clear h
                                          · obtain ⟨r48, rfl, rfl, rfl, h⟩ := hq
                                            refine zr_bipush C 10 dL_act_624 (by decide) ?_
                                            obtain ⟨h1, h2⟩ := h
                                            refine zr_icmp_lt C 636 dL_act_626 (by decide) (fun hc => ?_) (fun hc => ?_)
                                            · have h := h1 hc
                                              clear h1 h2
                                              refine zr_iconst C 1 dL_act_636 (by decide) ?_
                                              refine zr_goto C 641 dL_act_637 (by decide) ?_
                                              exact zr_X (zr_zret C rfl (Or.inr rfl) ⟨_, rfl, h⟩ (Nat.le_of_ble_eq_true rfl) (Nat.le_of_ble_eq_true rfl) dL_act_641)
                                            · have h := h2 hc
                                              clear h1 h2
                                              refine zr_iload C 5 dL_act_629 rfl ?_
                                              refine zr_bipush C 99 dL_act_631 (by decide) ?_
                                              obtain ⟨h1, h2⟩ := h
                                              refine zr_icmp_ne C 640 dL_act_633 (by decide) (fun hc => ?_) (fun hc => ?_)
                                              · have h := h1 hc
                                                clear h1 h2
                                                refine zr_iconst C 0 dL_act_640 (by decide) ?_
                                                exact zr_X (zr_zret C rfl (Or.inl rfl) ⟨_, rfl, h⟩ (Nat.le_of_ble_eq_true rfl) (Nat.le_of_ble_eq_true rfl) dL_act_641)
                                              · have h := h2 hc
                                                clear h1 h2
                                                refine zr_iconst C 1 dL_act_636 (by decide) ?_
                                                refine zr_goto C 641 dL_act_637 (by decide) ?_
                                                exact zr_X (zr_zret C rfl (Or.inr rfl) ⟨_, rfl, h⟩ (Nat.le_of_ble_eq_true rfl) (Nat.le_of_ble_eq_true rfl) dL_act_641)
                          · obtain ⟨r16, rfl, rfl, rfl, h⟩ := hq
                            refine zr_iload C 1 dL_act_537 rfl ?_
                            refine zr_iload C 2 dL_act_539 rfl ?_
                            refine zr_iadd C dL_act_541 ?_
                            obtain ⟨h1, h2⟩ := h
                            refine zr_icmp_ne C 566 dL_act_542 (by decide) (fun hc => ?_) (fun hc => ?_)
                            · have h := h1 hc
                              clear h1 h2
                              refine zr_iconst C 0 dL_act_566 (by decide) ?_
                              exact zr_X (zr_zret C rfl (Or.inl rfl) ⟨_, rfl, h⟩ (Nat.le_of_ble_eq_true rfl) (Nat.le_of_ble_eq_true rfl) dL_act_567)
                            · have h := h2 hc
                              clear h1 h2
                              refine zr_iload C 0 dL_act_545 rfl ?_
                              refine zr_iload C 2 dL_act_547 rfl ?_
                              obtain ⟨h1, h2⟩ := h
                              refine zr_icmp_lt C 566 dL_act_549 (by decide) (fun hc => ?_) (fun hc => ?_)
                              · have h := h1 hc
                                clear h1 h2
                                refine zr_iconst C 0 dL_act_566 (by decide) ?_
                                exact zr_X (zr_zret C rfl (Or.inl rfl) ⟨_, rfl, h⟩ (Nat.le_of_ble_eq_true rfl) (Nat.le_of_ble_eq_true rfl) dL_act_567)
                              · have h := h2 hc
                                clear h1 h2
                                refine zr_iload C 0 dL_act_552 rfl ?_
                                refine zr_aload_n C 7 dL_act_554 rfl rfl ?_
                                refine zr_iconst C 2 dL_act_555 (by decide) ?_
                                refine zr_callVX (As := [.int 2]) (r := (RX4, TX4, 4)) C (k_X4_many h) ok_L_36 zq_393 zq_394 hT11 (by decide) rfl rfl ⟨by decide, (Nat.le_of_ble_eq_true rfl)⟩ ⟨(Nat.le_of_ble_eq_true rfl), (Nat.le_of_ble_eq_true rfl)⟩ (Nat.le_of_ble_eq_true rfl) dL_act_556 ?_ (fun v38 U39 G40 hq => ?_)
                                · clear h
                                  intro E9 U155 F9 hq
                                  obtain ⟨rfl, rfl, hq⟩ := hq
                                  rcases hq with hq | hq
                                  · obtain ⟨rfl, h⟩ := hq
                                    refine zr_catch C "java/lang/IndexOutOfBoundsException" _ [⟨41, 125, 568, 109⟩, ⟨126, 151, 568, 109⟩, ⟨152, 283, 568, 109⟩, ⟨284, 328, 568, 109⟩, ⟨329, 394, 568, 109⟩, ⟨395, 431, 568, 109⟩, ⟨432, 463, 568, 109⟩, ⟨464, 496, 568, 109⟩] ⟨497, 567, 568, 109⟩ [⟨41, 125, 584, 111⟩, ⟨126, 151, 584, 111⟩, ⟨152, 283, 584, 111⟩, ⟨284, 328, 584, 111⟩, ⟨329, 394, 584, 111⟩, ⟨395, 431, 584, 111⟩, ⟨432, 463, 584, 111⟩, ⟨464, 496, 584, 111⟩, ⟨497, 567, 584, 111⟩] 568 hxt rfl (List.forall_mem_cons.mpr ⟨Or.inl (by decide), (List.forall_mem_cons.mpr ⟨Or.inl (by decide), (List.forall_mem_cons.mpr ⟨Or.inl (by decide), (List.forall_mem_cons.mpr ⟨Or.inl (by decide), (List.forall_mem_cons.mpr ⟨Or.inl (by decide), (List.forall_mem_cons.mpr ⟨Or.inl (by decide), (List.forall_mem_cons.mpr ⟨Or.inl (by decide), (List.forall_mem_cons.mpr ⟨Or.inl (by decide), (fun _ h9 => nomatch h9)⟩)⟩)⟩)⟩)⟩)⟩)⟩)⟩) (by decide) (by decide) zq_687 zq_275 rfl (fun q9 => ?_)
                                    refine zr_astore C [(6, .ref q9), (14, .int r13), (13, .int r12), (12, .int r8), (5, .int r6), (4, .int r4), (3, .int r2), (2, .int r1), (0, .ref a0), (1, .int p1)] dL_act_568 (by decide) rfl ?_
                                    refine zr_aload_n C 8 dL_act_570 rfl rfl ?_
                                    refine zr_iconst C 2 dL_act_571 (by decide) ?_
                                    refine zr_callV (As := [.int 2]) (r := (RX4, TX4, 4)) C (k_X4_many0 h) ok_L_36 zq_393 zq_394 hT11 (by decide) rfl rfl ⟨by decide, (Nat.le_of_ble_eq_true rfl)⟩ ⟨(Nat.le_of_ble_eq_true rfl), (Nat.le_of_ble_eq_true rfl)⟩ (Nat.le_of_ble_eq_true rfl) dL_act_572 (fun v19 U20 G21 hq => ?_)
                                    clear h
                                    · obtain ⟨r18, rfl, rfl, rfl, h⟩ := hq
                                      obtain ⟨h1, h2⟩ := h
                                      refine zr_if_ne C 582 dL_act_575 (by decide) (fun hc => ?_) (fun hc => ?_)
                                      · have h := h1 hc
                                        clear h1 h2
                                        refine zr_iconst C 0 dL_act_582 (by decide) ?_
                                        exact zr_X (zr_zret C rfl (Or.inl rfl) ⟨_, rfl, h⟩ (Nat.le_of_ble_eq_true rfl) (Nat.le_of_ble_eq_true rfl) dL_act_583)
                                      · have h := h2 hc
                                        clear h1 h2
                                        refine zr_iconst C 1 dL_act_578 (by decide) ?_
                                        refine zr_goto C 583 dL_act_579 (by decide) ?_
                                        exact zr_X (zr_zret C rfl (Or.inr rfl) ⟨_, rfl, h⟩ (Nat.le_of_ble_eq_true rfl) (Nat.le_of_ble_eq_true rfl) dL_act_583)
                                  · obtain ⟨rfl, h⟩ := hq
                                    refine zr_catch C "java/lang/IllegalStateException" _ [⟨41, 125, 568, 109⟩, ⟨126, 151, 568, 109⟩, ⟨152, 283, 568, 109⟩, ⟨284, 328, 568, 109⟩, ⟨329, 394, 568, 109⟩, ⟨395, 431, 568, 109⟩, ⟨432, 463, 568, 109⟩, ⟨464, 496, 568, 109⟩, ⟨497, 567, 568, 109⟩, ⟨41, 125, 584, 111⟩, ⟨126, 151, 584, 111⟩, ⟨152, 283, 584, 111⟩, ⟨284, 328, 584, 111⟩, ⟨329, 394, 584, 111⟩, ⟨395, 431, 584, 111⟩, ⟨432, 463, 584, 111⟩, ⟨464, 496, 584, 111⟩] ⟨497, 567, 584, 111⟩ [] 584 hxt rfl (List.forall_mem_cons.mpr ⟨Or.inl (by decide), (List.forall_mem_cons.mpr ⟨Or.inl (by decide), (List.forall_mem_cons.mpr ⟨Or.inl (by decide), (List.forall_mem_cons.mpr ⟨Or.inl (by decide), (List.forall_mem_cons.mpr ⟨Or.inl (by decide), (List.forall_mem_cons.mpr ⟨Or.inl (by decide), (List.forall_mem_cons.mpr ⟨Or.inl (by decide), (List.forall_mem_cons.mpr ⟨Or.inl (by decide), (List.forall_mem_cons.mpr ⟨Or.inr ⟨by decide, "java/lang/IndexOutOfBoundsException", zq_687, by decide +kernel⟩, (List.forall_mem_cons.mpr ⟨Or.inl (by decide), (List.forall_mem_cons.mpr ⟨Or.inl (by decide), (List.forall_mem_cons.mpr ⟨Or.inl (by decide), (List.forall_mem_cons.mpr ⟨Or.inl (by decide), (List.forall_mem_cons.mpr ⟨Or.inl (by decide), (List.forall_mem_cons.mpr ⟨Or.inl (by decide), (List.forall_mem_cons.mpr ⟨Or.inl (by decide), (List.forall_mem_cons.mpr ⟨Or.inl (by decide), (fun _ h9 => nomatch h9)⟩)⟩)⟩)⟩)⟩)⟩)⟩)⟩)⟩)⟩)⟩)⟩)⟩)⟩)⟩)⟩)⟩) (by decide) (by decide) zq_688 zq_117 rfl (fun q9 => ?_)
                                    refine zr_astore C [(6, .ref q9), (14, .int r13), (13, .int r12), (12, .int r8), (5, .int r6), (4, .int r4), (3, .int r2), (2, .int r1), (0, .ref a0), (1, .int p1)] dL_act_584 (by decide) rfl ?_
                                    refine zr_iload_n C 9 dL_act_586 rfl rfl ?_
                                    refine zr_bipush C 13 dL_act_587 (by decide) ?_
                                    refine zr_callS (As := [.int p1, .int 13]) C (k_L_below h) ok_L_22 zq_677 rfl ⟨by decide, (Nat.le_of_ble_eq_true rfl)⟩ ⟨(Nat.le_of_ble_eq_true rfl), (Nat.le_of_ble_eq_true rfl)⟩ (Nat.le_of_ble_eq_true rfl) dL_act_589 (fun v35 U36 G37 hq => ?_)
                                    clear h
                                    · obtain ⟨r22, rfl, rfl, rfl, h⟩ := hq
                                      refine zr_iconst C 2 dL_act_592 (by decide) ?_
                                      obtain ⟨h1, h2⟩ := h
                                      refine zr_icmp_eq C 640 dL_act_593 (by decide) (fun hc => ?_) (fun hc => ?_)
                                      · have h := h1 hc
                                        clear h1 h2
                                        refine zr_iconst C 0 dL_act_640 (by decide) ?_
                                        exact zr_X (zr_zret C rfl (Or.inl rfl) ⟨_, rfl, h⟩ (Nat.le_of_ble_eq_true rfl) (Nat.le_of_ble_eq_true rfl) dL_act_641)
                                      · have h := h2 hc
                                        clear h1 h2
                                        refine zr_iload_n C 9 dL_act_596 rfl rfl ?_
                                        refine zr_bipush C 13 dL_act_597 (by decide) ?_
                                        refine zr_callS (As := [.int p1, .int 13]) C (k_L_below h) ok_L_22 zq_677 rfl ⟨by decide, (Nat.le_of_ble_eq_true rfl)⟩ ⟨(Nat.le_of_ble_eq_true rfl), (Nat.le_of_ble_eq_true rfl)⟩ (Nat.le_of_ble_eq_true rfl) dL_act_599 (fun v32 U33 G34 hq => ?_)
                                        clear h
                                        · obtain ⟨r23, rfl, rfl, rfl, h⟩ := hq
                                          refine zr_bipush C 6 dL_act_602 (by decide) ?_
                                          obtain ⟨h1, h2⟩ := h
                                          refine zr_icmp_eq C 640 dL_act_604 (by decide) (fun hc => ?_) (fun hc => ?_)
                                          · have h := h1 hc
                                            clear h1 h2
                                            refine zr_iconst C 0 dL_act_640 (by decide) ?_
                                            exact zr_X (zr_zret C rfl (Or.inl rfl) ⟨_, rfl, h⟩ (Nat.le_of_ble_eq_true rfl) (Nat.le_of_ble_eq_true rfl) dL_act_641)
                                          · have h := h2 hc
                                            clear h1 h2
                                            refine zr_iload_n C 9 dL_act_607 rfl rfl ?_
                                            refine zr_bipush C 13 dL_act_608 (by decide) ?_
                                            refine zr_callS (As := [.int p1, .int 13]) C (k_L_below h) ok_L_22 zq_677 rfl ⟨by decide, (Nat.le_of_ble_eq_true rfl)⟩ ⟨(Nat.le_of_ble_eq_true rfl), (Nat.le_of_ble_eq_true rfl)⟩ (Nat.le_of_ble_eq_true rfl) dL_act_610 (fun v29 U30 G31 hq => ?_)
                                            clear h
                                            · obtain ⟨r24, rfl, rfl, rfl, h⟩ := hq
                                              refine zr_bipush C 9 dL_act_613 (by decide) ?_
                                              obtain ⟨h1, h2⟩ := h
                                              refine zr_icmp_eq C 640 dL_act_615 (by decide) (fun hc => ?_) (fun hc => ?_)
                                              · have h := h1 hc
                                                clear h1 h2
                                                refine zr_iconst C 0 dL_act_640 (by decide) ?_
                                                exact zr_X (zr_zret C rfl (Or.inl rfl) ⟨_, rfl, h⟩ (Nat.le_of_ble_eq_true rfl) (Nat.le_of_ble_eq_true rfl) dL_act_641)
                                              · have h := h2 hc
                                                clear h1 h2
                                                refine zr_iload_n C 9 dL_act_618 rfl rfl ?_
                                                refine zr_bipush C 13 dL_act_619 (by decide) ?_
                                                refine zr_callS (As := [.int p1, .int 13]) C (k_L_below h) ok_L_22 zq_677 rfl ⟨by decide, (Nat.le_of_ble_eq_true rfl)⟩ ⟨(Nat.le_of_ble_eq_true rfl), (Nat.le_of_ble_eq_true rfl)⟩ (Nat.le_of_ble_eq_true rfl) dL_act_621 (fun v26 U27 G28 hq => ?_)
                                                clear h
                                                · obtain ⟨r25, rfl, rfl, rfl, h⟩ := hq
                                                  refine zr_bipush C 10 dL_act_624 (by decide) ?_
                                                  obtain ⟨h1, h2⟩ := h
                                                  refine zr_icmp_lt C 636 dL_act_626 (by decide) (fun hc => ?_) (fun hc => ?_)
                                                  · have h := h1 hc
                                                    clear h1 h2
                                                    refine zr_iconst C 1 dL_act_636 (by decide) ?_
                                                    refine zr_goto C 641 dL_act_637 (by decide) ?_
                                                    exact zr_X (zr_zret C rfl (Or.inr rfl) ⟨_, rfl, h⟩ (Nat.le_of_ble_eq_true rfl) (Nat.le_of_ble_eq_true rfl) dL_act_641)
                                                  · have h := h2 hc
                                                    clear h1 h2
                                                    refine zr_iload C 5 dL_act_629 rfl ?_
                                                    refine zr_bipush C 99 dL_act_631 (by decide) ?_
                                                    obtain ⟨h1, h2⟩ := h
                                                    refine zr_icmp_ne C 640 dL_act_633 (by decide) (fun hc => ?_) (fun hc => ?_)
                                                    · have h := h1 hc
                                                      clear h1 h2
                                                      refine zr_iconst C 0 dL_act_640 (by decide) ?_
                                                      exact zr_X (zr_zret C rfl (Or.inl rfl) ⟨_, rfl, h⟩ (Nat.le_of_ble_eq_true rfl) (Nat.le_of_ble_eq_true rfl) dL_act_641)
                                                    · have h := h2 hc
                                                      clear h1 h2
                                                      refine zr_iconst C 1 dL_act_636 (by decide) ?_
                                                      refine zr_goto C 641 dL_act_637 (by decide) ?_
                                                      exact zr_X (zr_zret C rfl (Or.inr rfl) ⟨_, rfl, h⟩ (Nat.le_of_ble_eq_true rfl) (Nat.le_of_ble_eq_true rfl) dL_act_641)
                                · obtain ⟨r17, rfl, rfl, rfl, h⟩ := hq
                                  obtain ⟨h1, h2⟩ := h
                                  refine zr_icmp_gt C 566 dL_act_559 (by decide) (fun hc => ?_) (fun hc => ?_)
                                  · have h := h1 hc
                                    clear h1 h2
                                    refine zr_iconst C 0 dL_act_566 (by decide) ?_
                                    exact zr_X (zr_zret C rfl (Or.inl rfl) ⟨_, rfl, h⟩ (Nat.le_of_ble_eq_true rfl) (Nat.le_of_ble_eq_true rfl) dL_act_567)
                                  · have h := h2 hc
                                    clear h1 h2
                                    refine zr_iconst C 1 dL_act_562 (by decide) ?_
                                    refine zr_goto C 567 dL_act_563 (by decide) ?_
                                    exact zr_X (zr_zret C rfl (Or.inr rfl) ⟨_, rfl, h⟩ (Nat.le_of_ble_eq_true rfl) (Nat.le_of_ble_eq_true rfl) dL_act_567)
              by_cases hk0 : r7 = 0
              · have h := hs207 hk0
                refine zr_tableIn C 100 dL_act_47 (by rw [hk0]; decide) (by rw [hk0]; decide) (by rw [hk0]; rfl) (by decide) ?_
                refine zr_aload_n C 4 dL_act_100 rfl rfl ?_
                refine zr_iload_n C 3 dL_act_101 rfl rfl ?_
                refine zr_iload_n C 2 dL_act_102 rfl rfl ?_
                refine zr_callVX (As := [.int r1, .int r2]) (r := (RX4, TX4, 4)) C (k_X4_approve h) ok_L_66 zq_691 zq_692 hT3 (by decide) rfl rfl ⟨by decide, (Nat.le_of_ble_eq_true rfl)⟩ ⟨(Nat.le_of_ble_eq_true rfl), (Nat.le_of_ble_eq_true rfl)⟩ (Nat.le_of_ble_eq_true rfl) dL_act_103 ?_ (fun v204 U205 G206 hq => ?_)
                · clear h
                  intro E9 T9 F9 hq
                  obtain ⟨rfl, hq⟩ := hq
                  rcases hq with hq | hq
                  · obtain ⟨rfl, h⟩ := hq
                    refine zr_catch C "java/lang/IndexOutOfBoundsException" _ [] ⟨41, 125, 568, 109⟩ [⟨126, 151, 568, 109⟩, ⟨152, 283, 568, 109⟩, ⟨284, 328, 568, 109⟩, ⟨329, 394, 568, 109⟩, ⟨395, 431, 568, 109⟩, ⟨432, 463, 568, 109⟩, ⟨464, 496, 568, 109⟩, ⟨497, 567, 568, 109⟩, ⟨41, 125, 584, 111⟩, ⟨126, 151, 584, 111⟩, ⟨152, 283, 584, 111⟩, ⟨284, 328, 584, 111⟩, ⟨329, 394, 584, 111⟩, ⟨395, 431, 584, 111⟩, ⟨432, 463, 584, 111⟩, ⟨464, 496, 584, 111⟩, ⟨497, 567, 584, 111⟩] 568 hxt rfl (fun _ h9 => nomatch h9) (by decide) (by decide) zq_687 zq_275 rfl (fun q9 => ?_)
                    refine zr_astore C [(6, .ref q9), (5, .int r6), (4, .int r4), (3, .int r2), (2, .int r1), (0, .ref a0), (1, .int p1)] dL_act_568 (by decide) rfl ?_
                    refine zr_aload_n C 5 dL_act_570 rfl rfl ?_
                    refine zr_iconst C 2 dL_act_571 (by decide) ?_
                    refine zr_callV (As := [.int 2]) (r := (RX4, TX4, 4)) C (k_X4_many0 h) ok_L_36 zq_393 zq_394 hT3 (by decide) rfl rfl ⟨by decide, (Nat.le_of_ble_eq_true rfl)⟩ ⟨(Nat.le_of_ble_eq_true rfl), (Nat.le_of_ble_eq_true rfl)⟩ (Nat.le_of_ble_eq_true rfl) dL_act_572 (fun v185 U186 G187 hq => ?_)
                    clear h
                    · obtain ⟨r184, rfl, rfl, rfl, h⟩ := hq
                      obtain ⟨h1, h2⟩ := h
                      refine zr_if_ne C 582 dL_act_575 (by decide) (fun hc => ?_) (fun hc => ?_)
                      · have h := h1 hc
                        clear h1 h2
                        refine zr_iconst C 0 dL_act_582 (by decide) ?_
                        exact zr_X (zr_zret C rfl (Or.inl rfl) ⟨_, rfl, h⟩ (Nat.le_of_ble_eq_true rfl) (Nat.le_of_ble_eq_true rfl) dL_act_583)
                      · have h := h2 hc
                        clear h1 h2
                        refine zr_iconst C 1 dL_act_578 (by decide) ?_
                        refine zr_goto C 583 dL_act_579 (by decide) ?_
                        exact zr_X (zr_zret C rfl (Or.inr rfl) ⟨_, rfl, h⟩ (Nat.le_of_ble_eq_true rfl) (Nat.le_of_ble_eq_true rfl) dL_act_583)
                  · obtain ⟨rfl, h⟩ := hq
                    refine zr_catch C "java/lang/IllegalStateException" _ [⟨41, 125, 568, 109⟩, ⟨126, 151, 568, 109⟩, ⟨152, 283, 568, 109⟩, ⟨284, 328, 568, 109⟩, ⟨329, 394, 568, 109⟩, ⟨395, 431, 568, 109⟩, ⟨432, 463, 568, 109⟩, ⟨464, 496, 568, 109⟩, ⟨497, 567, 568, 109⟩] ⟨41, 125, 584, 111⟩ [⟨126, 151, 584, 111⟩, ⟨152, 283, 584, 111⟩, ⟨284, 328, 584, 111⟩, ⟨329, 394, 584, 111⟩, ⟨395, 431, 584, 111⟩, ⟨432, 463, 584, 111⟩, ⟨464, 496, 584, 111⟩, ⟨497, 567, 584, 111⟩] 584 hxt rfl (List.forall_mem_cons.mpr ⟨Or.inr ⟨by decide, "java/lang/IndexOutOfBoundsException", zq_687, by decide +kernel⟩, (List.forall_mem_cons.mpr ⟨Or.inl (by decide), (List.forall_mem_cons.mpr ⟨Or.inl (by decide), (List.forall_mem_cons.mpr ⟨Or.inl (by decide), (List.forall_mem_cons.mpr ⟨Or.inl (by decide), (List.forall_mem_cons.mpr ⟨Or.inl (by decide), (List.forall_mem_cons.mpr ⟨Or.inl (by decide), (List.forall_mem_cons.mpr ⟨Or.inl (by decide), (List.forall_mem_cons.mpr ⟨Or.inl (by decide), (fun _ h9 => nomatch h9)⟩)⟩)⟩)⟩)⟩)⟩)⟩)⟩)⟩) (by decide) (by decide) zq_688 zq_117 rfl (fun q9 => ?_)
                    refine zr_astore C [(6, .ref q9), (5, .int r6), (4, .int r4), (3, .int r2), (2, .int r1), (0, .ref a0), (1, .int p1)] dL_act_584 (by decide) rfl ?_
                    refine zr_iload_n C 6 dL_act_586 rfl rfl ?_
                    refine zr_bipush C 13 dL_act_587 (by decide) ?_
                    refine zr_callS (As := [.int p1, .int 13]) C (k_L_below h) ok_L_22 zq_677 rfl ⟨by decide, (Nat.le_of_ble_eq_true rfl)⟩ ⟨(Nat.le_of_ble_eq_true rfl), (Nat.le_of_ble_eq_true rfl)⟩ (Nat.le_of_ble_eq_true rfl) dL_act_589 (fun v201 U202 G203 hq => ?_)
                    clear h
                    · obtain ⟨r188, rfl, rfl, rfl, h⟩ := hq
                      refine zr_iconst C 2 dL_act_592 (by decide) ?_
                      obtain ⟨h1, h2⟩ := h
                      refine zr_icmp_eq C 640 dL_act_593 (by decide) (fun hc => ?_) (fun hc => ?_)
                      · have h := h1 hc
                        clear h1 h2
                        refine zr_iconst C 0 dL_act_640 (by decide) ?_
                        exact zr_X (zr_zret C rfl (Or.inl rfl) ⟨_, rfl, h⟩ (Nat.le_of_ble_eq_true rfl) (Nat.le_of_ble_eq_true rfl) dL_act_641)
                      · have h := h2 hc
                        clear h1 h2
                        refine zr_iload_n C 6 dL_act_596 rfl rfl ?_
                        refine zr_bipush C 13 dL_act_597 (by decide) ?_
                        refine zr_callS (As := [.int p1, .int 13]) C (k_L_below h) ok_L_22 zq_677 rfl ⟨by decide, (Nat.le_of_ble_eq_true rfl)⟩ ⟨(Nat.le_of_ble_eq_true rfl), (Nat.le_of_ble_eq_true rfl)⟩ (Nat.le_of_ble_eq_true rfl) dL_act_599 (fun v198 U199 G200 hq => ?_)
                        clear h
                        · obtain ⟨r189, rfl, rfl, rfl, h⟩ := hq
                          refine zr_bipush C 6 dL_act_602 (by decide) ?_
                          obtain ⟨h1, h2⟩ := h
                          refine zr_icmp_eq C 640 dL_act_604 (by decide) (fun hc => ?_) (fun hc => ?_)
                          · have h := h1 hc
                            clear h1 h2
                            refine zr_iconst C 0 dL_act_640 (by decide) ?_
                            exact zr_X (zr_zret C rfl (Or.inl rfl) ⟨_, rfl, h⟩ (Nat.le_of_ble_eq_true rfl) (Nat.le_of_ble_eq_true rfl) dL_act_641)
                          · have h := h2 hc
                            clear h1 h2
                            refine zr_iload_n C 6 dL_act_607 rfl rfl ?_
                            refine zr_bipush C 13 dL_act_608 (by decide) ?_
                            refine zr_callS (As := [.int p1, .int 13]) C (k_L_below h) ok_L_22 zq_677 rfl ⟨by decide, (Nat.le_of_ble_eq_true rfl)⟩ ⟨(Nat.le_of_ble_eq_true rfl), (Nat.le_of_ble_eq_true rfl)⟩ (Nat.le_of_ble_eq_true rfl) dL_act_610 (fun v195 U196 G197 hq => ?_)
                            clear h
                            · obtain ⟨r190, rfl, rfl, rfl, h⟩ := hq
                              refine zr_bipush C 9 dL_act_613 (by decide) ?_
                              obtain ⟨h1, h2⟩ := h
                              refine zr_icmp_eq C 640 dL_act_615 (by decide) (fun hc => ?_) (fun hc => ?_)
                              · have h := h1 hc
                                clear h1 h2
                                refine zr_iconst C 0 dL_act_640 (by decide) ?_
                                exact zr_X (zr_zret C rfl (Or.inl rfl) ⟨_, rfl, h⟩ (Nat.le_of_ble_eq_true rfl) (Nat.le_of_ble_eq_true rfl) dL_act_641)
                              · have h := h2 hc
                                clear h1 h2
                                refine zr_iload_n C 6 dL_act_618 rfl rfl ?_
                                refine zr_bipush C 13 dL_act_619 (by decide) ?_
                                refine zr_callS (As := [.int p1, .int 13]) C (k_L_below h) ok_L_22 zq_677 rfl ⟨by decide, (Nat.le_of_ble_eq_true rfl)⟩ ⟨(Nat.le_of_ble_eq_true rfl), (Nat.le_of_ble_eq_true rfl)⟩ (Nat.le_of_ble_eq_true rfl) dL_act_621 (fun v192 U193 G194 hq => ?_)
                                clear h
                                · obtain ⟨r191, rfl, rfl, rfl, h⟩ := hq
                                  refine zr_bipush C 10 dL_act_624 (by decide) ?_
                                  obtain ⟨h1, h2⟩ := h
                                  refine zr_icmp_lt C 636 dL_act_626 (by decide) (fun hc => ?_) (fun hc => ?_)
                                  · have h := h1 hc
                                    clear h1 h2
                                    refine zr_iconst C 1 dL_act_636 (by decide) ?_
                                    refine zr_goto C 641 dL_act_637 (by decide) ?_
                                    exact zr_X (zr_zret C rfl (Or.inr rfl) ⟨_, rfl, h⟩ (Nat.le_of_ble_eq_true rfl) (Nat.le_of_ble_eq_true rfl) dL_act_641)
                                  · have h := h2 hc
                                    clear h1 h2
                                    refine zr_iload C 2 dL_act_629 rfl ?_
                                    refine zr_bipush C 99 dL_act_631 (by decide) ?_
                                    obtain ⟨h1, h2⟩ := h
                                    refine zr_icmp_ne C 640 dL_act_633 (by decide) (fun hc => ?_) (fun hc => ?_)
                                    · have h := h1 hc
                                      clear h1 h2
                                      refine zr_iconst C 0 dL_act_640 (by decide) ?_
                                      exact zr_X (zr_zret C rfl (Or.inl rfl) ⟨_, rfl, h⟩ (Nat.le_of_ble_eq_true rfl) (Nat.le_of_ble_eq_true rfl) dL_act_641)
                                    · have h := h2 hc
                                      clear h1 h2
                                      refine zr_iconst C 1 dL_act_636 (by decide) ?_
                                      refine zr_goto C 641 dL_act_637 (by decide) ?_
                                      exact zr_X (zr_zret C rfl (Or.inr rfl) ⟨_, rfl, h⟩ (Nat.le_of_ble_eq_true rfl) (Nat.le_of_ble_eq_true rfl) dL_act_641)
                · obtain ⟨r158, rfl, rfl, h⟩ := hq
                  obtain ⟨h1, h2⟩ := h
                  refine zr_if_eq C 120 dL_act_106 (by decide) (fun hc => ?_) (fun hc => ?_)
                  · have h := h1 hc
                    clear h1 h2
                    refine zr_iconst C 1 dL_act_120 (by decide) ?_
                    refine zr_goto C 125 dL_act_121 (by decide) ?_
                    exact zr_X (zr_zret C rfl (Or.inr rfl) ⟨_, rfl, h⟩ (Nat.le_of_ble_eq_true rfl) (Nat.le_of_ble_eq_true rfl) dL_act_125)
                  · have h := h2 hc
                    clear h1 h2
                    refine zr_aload_n C 4 dL_act_109 rfl rfl ?_
                    refine zr_iload_n C 3 dL_act_110 rfl rfl ?_
                    refine zr_iload_n C 2 dL_act_111 rfl rfl ?_
                    refine zr_iload C 1 dL_act_112 rfl ?_
                    refine zr_callVX (As := [.int r1, .int r2, .int r4]) (r := (RX4, TX4, 4)) C (k_X4_isFit h) ok_L_70 zq_702 zq_703 hT3 (by decide) rfl rfl ⟨by decide, (Nat.le_of_ble_eq_true rfl)⟩ ⟨(Nat.le_of_ble_eq_true rfl), (Nat.le_of_ble_eq_true rfl)⟩ (Nat.le_of_ble_eq_true rfl) dL_act_114 ?_ (fun v181 U182 G183 hq => ?_)
                    · clear h
                      intro E9 T9 F9 hq
                      obtain ⟨rfl, rfl, hq⟩ := hq
                      rcases hq with hq | hq
                      · obtain ⟨rfl, h⟩ := hq
                        refine zr_catch C "java/lang/IndexOutOfBoundsException" _ [] ⟨41, 125, 568, 109⟩ [⟨126, 151, 568, 109⟩, ⟨152, 283, 568, 109⟩, ⟨284, 328, 568, 109⟩, ⟨329, 394, 568, 109⟩, ⟨395, 431, 568, 109⟩, ⟨432, 463, 568, 109⟩, ⟨464, 496, 568, 109⟩, ⟨497, 567, 568, 109⟩, ⟨41, 125, 584, 111⟩, ⟨126, 151, 584, 111⟩, ⟨152, 283, 584, 111⟩, ⟨284, 328, 584, 111⟩, ⟨329, 394, 584, 111⟩, ⟨395, 431, 584, 111⟩, ⟨432, 463, 584, 111⟩, ⟨464, 496, 584, 111⟩, ⟨497, 567, 584, 111⟩] 568 hxt rfl (fun _ h9 => nomatch h9) (by decide) (by decide) zq_687 zq_275 rfl (fun q9 => ?_)
                        refine zr_astore C [(6, .ref q9), (5, .int r6), (4, .int r4), (3, .int r2), (2, .int r1), (0, .ref a0), (1, .int p1)] dL_act_568 (by decide) rfl ?_
                        refine zr_aload_n C 5 dL_act_570 rfl rfl ?_
                        refine zr_iconst C 2 dL_act_571 (by decide) ?_
                        refine zr_callV (As := [.int 2]) (r := (RX4, TX4, 4)) C (k_X4_many0 h) ok_L_36 zq_393 zq_394 hT3 (by decide) rfl rfl ⟨by decide, (Nat.le_of_ble_eq_true rfl)⟩ ⟨(Nat.le_of_ble_eq_true rfl), (Nat.le_of_ble_eq_true rfl)⟩ (Nat.le_of_ble_eq_true rfl) dL_act_572 (fun v162 U163 G164 hq => ?_)
                        clear h
                        · obtain ⟨r161, rfl, rfl, rfl, h⟩ := hq
                          obtain ⟨h1, h2⟩ := h
                          refine zr_if_ne C 582 dL_act_575 (by decide) (fun hc => ?_) (fun hc => ?_)
                          · have h := h1 hc
                            clear h1 h2
                            refine zr_iconst C 0 dL_act_582 (by decide) ?_
                            exact zr_X (zr_zret C rfl (Or.inl rfl) ⟨_, rfl, h⟩ (Nat.le_of_ble_eq_true rfl) (Nat.le_of_ble_eq_true rfl) dL_act_583)
                          · have h := h2 hc
                            clear h1 h2
                            refine zr_iconst C 1 dL_act_578 (by decide) ?_
                            refine zr_goto C 583 dL_act_579 (by decide) ?_
                            exact zr_X (zr_zret C rfl (Or.inr rfl) ⟨_, rfl, h⟩ (Nat.le_of_ble_eq_true rfl) (Nat.le_of_ble_eq_true rfl) dL_act_583)
                      · obtain ⟨rfl, h⟩ := hq
                        refine zr_catch C "java/lang/IllegalStateException" _ [⟨41, 125, 568, 109⟩, ⟨126, 151, 568, 109⟩, ⟨152, 283, 568, 109⟩, ⟨284, 328, 568, 109⟩, ⟨329, 394, 568, 109⟩, ⟨395, 431, 568, 109⟩, ⟨432, 463, 568, 109⟩, ⟨464, 496, 568, 109⟩, ⟨497, 567, 568, 109⟩] ⟨41, 125, 584, 111⟩ [⟨126, 151, 584, 111⟩, ⟨152, 283, 584, 111⟩, ⟨284, 328, 584, 111⟩, ⟨329, 394, 584, 111⟩, ⟨395, 431, 584, 111⟩, ⟨432, 463, 584, 111⟩, ⟨464, 496, 584, 111⟩, ⟨497, 567, 584, 111⟩] 584 hxt rfl (List.forall_mem_cons.mpr ⟨Or.inr ⟨by decide, "java/lang/IndexOutOfBoundsException", zq_687, by decide +kernel⟩, (List.forall_mem_cons.mpr ⟨Or.inl (by decide), (List.forall_mem_cons.mpr ⟨Or.inl (by decide), (List.forall_mem_cons.mpr ⟨Or.inl (by decide), (List.forall_mem_cons.mpr ⟨Or.inl (by decide), (List.forall_mem_cons.mpr ⟨Or.inl (by decide), (List.forall_mem_cons.mpr ⟨Or.inl (by decide), (List.forall_mem_cons.mpr ⟨Or.inl (by decide), (List.forall_mem_cons.mpr ⟨Or.inl (by decide), (fun _ h9 => nomatch h9)⟩)⟩)⟩)⟩)⟩)⟩)⟩)⟩)⟩) (by decide) (by decide) zq_688 zq_117 rfl (fun q9 => ?_)
                        refine zr_astore C [(6, .ref q9), (5, .int r6), (4, .int r4), (3, .int r2), (2, .int r1), (0, .ref a0), (1, .int p1)] dL_act_584 (by decide) rfl ?_
                        refine zr_iload_n C 6 dL_act_586 rfl rfl ?_
                        refine zr_bipush C 13 dL_act_587 (by decide) ?_
                        refine zr_callS (As := [.int p1, .int 13]) C (k_L_below h) ok_L_22 zq_677 rfl ⟨by decide, (Nat.le_of_ble_eq_true rfl)⟩ ⟨(Nat.le_of_ble_eq_true rfl), (Nat.le_of_ble_eq_true rfl)⟩ (Nat.le_of_ble_eq_true rfl) dL_act_589 (fun v178 U179 G180 hq => ?_)
                        clear h
                        · obtain ⟨r165, rfl, rfl, rfl, h⟩ := hq
                          refine zr_iconst C 2 dL_act_592 (by decide) ?_
                          obtain ⟨h1, h2⟩ := h
                          refine zr_icmp_eq C 640 dL_act_593 (by decide) (fun hc => ?_) (fun hc => ?_)
                          · have h := h1 hc
                            clear h1 h2
                            refine zr_iconst C 0 dL_act_640 (by decide) ?_
                            exact zr_X (zr_zret C rfl (Or.inl rfl) ⟨_, rfl, h⟩ (Nat.le_of_ble_eq_true rfl) (Nat.le_of_ble_eq_true rfl) dL_act_641)
                          · have h := h2 hc
                            clear h1 h2
                            refine zr_iload_n C 6 dL_act_596 rfl rfl ?_
                            refine zr_bipush C 13 dL_act_597 (by decide) ?_
                            refine zr_callS (As := [.int p1, .int 13]) C (k_L_below h) ok_L_22 zq_677 rfl ⟨by decide, (Nat.le_of_ble_eq_true rfl)⟩ ⟨(Nat.le_of_ble_eq_true rfl), (Nat.le_of_ble_eq_true rfl)⟩ (Nat.le_of_ble_eq_true rfl) dL_act_599 (fun v175 U176 G177 hq => ?_)
                            clear h
                            · obtain ⟨r166, rfl, rfl, rfl, h⟩ := hq
                              refine zr_bipush C 6 dL_act_602 (by decide) ?_
                              obtain ⟨h1, h2⟩ := h
                              refine zr_icmp_eq C 640 dL_act_604 (by decide) (fun hc => ?_) (fun hc => ?_)
                              · have h := h1 hc
                                clear h1 h2
                                refine zr_iconst C 0 dL_act_640 (by decide) ?_
                                exact zr_X (zr_zret C rfl (Or.inl rfl) ⟨_, rfl, h⟩ (Nat.le_of_ble_eq_true rfl) (Nat.le_of_ble_eq_true rfl) dL_act_641)
                              · have h := h2 hc
                                clear h1 h2
                                refine zr_iload_n C 6 dL_act_607 rfl rfl ?_
                                refine zr_bipush C 13 dL_act_608 (by decide) ?_
                                refine zr_callS (As := [.int p1, .int 13]) C (k_L_below h) ok_L_22 zq_677 rfl ⟨by decide, (Nat.le_of_ble_eq_true rfl)⟩ ⟨(Nat.le_of_ble_eq_true rfl), (Nat.le_of_ble_eq_true rfl)⟩ (Nat.le_of_ble_eq_true rfl) dL_act_610 (fun v172 U173 G174 hq => ?_)
                                clear h
                                · obtain ⟨r167, rfl, rfl, rfl, h⟩ := hq
                                  refine zr_bipush C 9 dL_act_613 (by decide) ?_
                                  obtain ⟨h1, h2⟩ := h
                                  refine zr_icmp_eq C 640 dL_act_615 (by decide) (fun hc => ?_) (fun hc => ?_)
                                  · have h := h1 hc
                                    clear h1 h2
                                    refine zr_iconst C 0 dL_act_640 (by decide) ?_
                                    exact zr_X (zr_zret C rfl (Or.inl rfl) ⟨_, rfl, h⟩ (Nat.le_of_ble_eq_true rfl) (Nat.le_of_ble_eq_true rfl) dL_act_641)
                                  · have h := h2 hc
                                    clear h1 h2
                                    refine zr_iload_n C 6 dL_act_618 rfl rfl ?_
                                    refine zr_bipush C 13 dL_act_619 (by decide) ?_
                                    refine zr_callS (As := [.int p1, .int 13]) C (k_L_below h) ok_L_22 zq_677 rfl ⟨by decide, (Nat.le_of_ble_eq_true rfl)⟩ ⟨(Nat.le_of_ble_eq_true rfl), (Nat.le_of_ble_eq_true rfl)⟩ (Nat.le_of_ble_eq_true rfl) dL_act_621 (fun v169 U170 G171 hq => ?_)
                                    clear h
                                    · obtain ⟨r168, rfl, rfl, rfl, h⟩ := hq
                                      refine zr_bipush C 10 dL_act_624 (by decide) ?_
                                      obtain ⟨h1, h2⟩ := h
                                      refine zr_icmp_lt C 636 dL_act_626 (by decide) (fun hc => ?_) (fun hc => ?_)
                                      · have h := h1 hc
                                        clear h1 h2
                                        refine zr_iconst C 1 dL_act_636 (by decide) ?_
                                        refine zr_goto C 641 dL_act_637 (by decide) ?_
                                        exact zr_X (zr_zret C rfl (Or.inr rfl) ⟨_, rfl, h⟩ (Nat.le_of_ble_eq_true rfl) (Nat.le_of_ble_eq_true rfl) dL_act_641)
                                      · have h := h2 hc
                                        clear h1 h2
                                        refine zr_iload C 2 dL_act_629 rfl ?_
                                        refine zr_bipush C 99 dL_act_631 (by decide) ?_
                                        obtain ⟨h1, h2⟩ := h
                                        refine zr_icmp_ne C 640 dL_act_633 (by decide) (fun hc => ?_) (fun hc => ?_)
                                        · have h := h1 hc
                                          clear h1 h2
                                          refine zr_iconst C 0 dL_act_640 (by decide) ?_
                                          exact zr_X (zr_zret C rfl (Or.inl rfl) ⟨_, rfl, h⟩ (Nat.le_of_ble_eq_true rfl) (Nat.le_of_ble_eq_true rfl) dL_act_641)
                                        · have h := h2 hc
                                          clear h1 h2
                                          refine zr_iconst C 1 dL_act_636 (by decide) ?_
                                          refine zr_goto C 641 dL_act_637 (by decide) ?_
                                          exact zr_X (zr_zret C rfl (Or.inr rfl) ⟨_, rfl, h⟩ (Nat.le_of_ble_eq_true rfl) (Nat.le_of_ble_eq_true rfl) dL_act_641)
                    · obtain ⟨r160, rfl, rfl, rfl, h⟩ := hq
                      obtain ⟨h1, h2⟩ := h
                      refine zr_if_eq C 124 dL_act_117 (by decide) (fun hc => ?_) (fun hc => ?_)
                      · have h := h1 hc
                        clear h1 h2
                        refine zr_iconst C 0 dL_act_124 (by decide) ?_
                        exact zr_X (zr_zret C rfl (Or.inl rfl) ⟨_, rfl, h⟩ (Nat.le_of_ble_eq_true rfl) (Nat.le_of_ble_eq_true rfl) dL_act_125)
                      · have h := h2 hc
                        clear h1 h2
                        refine zr_iconst C 1 dL_act_120 (by decide) ?_
                        refine zr_goto C 125 dL_act_121 (by decide) ?_
                        exact zr_X (zr_zret C rfl (Or.inr rfl) ⟨_, rfl, h⟩ (Nat.le_of_ble_eq_true rfl) (Nat.le_of_ble_eq_true rfl) dL_act_125)
              by_cases hk1 : r7 = 1
              · have h := hs257 hk1
                refine zr_tableIn C 100 dL_act_47 (by rw [hk1]; decide) (by rw [hk1]; decide) (by rw [hk1]; rfl) (by decide) ?_
                refine zr_aload_n C 4 dL_act_100 rfl rfl ?_
                refine zr_iload_n C 3 dL_act_101 rfl rfl ?_
                refine zr_iload_n C 2 dL_act_102 rfl rfl ?_
                refine zr_callVX (As := [.int r1, .int r2]) (r := (RX4, TX4, 4)) C (k_X4_approve h) ok_L_66 zq_691 zq_692 hT3 (by decide) rfl rfl ⟨by decide, (Nat.le_of_ble_eq_true rfl)⟩ ⟨(Nat.le_of_ble_eq_true rfl), (Nat.le_of_ble_eq_true rfl)⟩ (Nat.le_of_ble_eq_true rfl) dL_act_103 ?_ (fun v254 U255 G256 hq => ?_)
                · clear h
                  intro E9 T9 F9 hq
                  obtain ⟨rfl, hq⟩ := hq
                  rcases hq with hq | hq
                  · obtain ⟨rfl, h⟩ := hq
                    refine zr_catch C "java/lang/IndexOutOfBoundsException" _ [] ⟨41, 125, 568, 109⟩ [⟨126, 151, 568, 109⟩, ⟨152, 283, 568, 109⟩, ⟨284, 328, 568, 109⟩, ⟨329, 394, 568, 109⟩, ⟨395, 431, 568, 109⟩, ⟨432, 463, 568, 109⟩, ⟨464, 496, 568, 109⟩, ⟨497, 567, 568, 109⟩, ⟨41, 125, 584, 111⟩, ⟨126, 151, 584, 111⟩, ⟨152, 283, 584, 111⟩, ⟨284, 328, 584, 111⟩, ⟨329, 394, 584, 111⟩, ⟨395, 431, 584, 111⟩, ⟨432, 463, 584, 111⟩, ⟨464, 496, 584, 111⟩, ⟨497, 567, 584, 111⟩] 568 hxt rfl (fun _ h9 => nomatch h9) (by decide) (by decide) zq_687 zq_275 rfl (fun q9 => ?_)
                    refine zr_astore C [(6, .ref q9), (5, .int r6), (4, .int r4), (3, .int r2), (2, .int r1), (0, .ref a0), (1, .int p1)] dL_act_568 (by decide) rfl ?_
                    refine zr_aload_n C 5 dL_act_570 rfl rfl ?_
                    refine zr_iconst C 2 dL_act_571 (by decide) ?_
                    refine zr_callV (As := [.int 2]) (r := (RX4, TX4, 4)) C (k_X4_many0 h) ok_L_36 zq_393 zq_394 hT3 (by decide) rfl rfl ⟨by decide, (Nat.le_of_ble_eq_true rfl)⟩ ⟨(Nat.le_of_ble_eq_true rfl), (Nat.le_of_ble_eq_true rfl)⟩ (Nat.le_of_ble_eq_true rfl) dL_act_572 (fun v235 U236 G237 hq => ?_)
                    clear h
                    · obtain ⟨r234, rfl, rfl, rfl, h⟩ := hq
                      obtain ⟨h1, h2⟩ := h
                      refine zr_if_ne C 582 dL_act_575 (by decide) (fun hc => ?_) (fun hc => ?_)
                      · have h := h1 hc
                        clear h1 h2
                        refine zr_iconst C 0 dL_act_582 (by decide) ?_
                        exact zr_X (zr_zret C rfl (Or.inl rfl) ⟨_, rfl, h⟩ (Nat.le_of_ble_eq_true rfl) (Nat.le_of_ble_eq_true rfl) dL_act_583)
                      · have h := h2 hc
                        clear h1 h2
                        refine zr_iconst C 1 dL_act_578 (by decide) ?_
                        refine zr_goto C 583 dL_act_579 (by decide) ?_
                        exact zr_X (zr_zret C rfl (Or.inr rfl) ⟨_, rfl, h⟩ (Nat.le_of_ble_eq_true rfl) (Nat.le_of_ble_eq_true rfl) dL_act_583)
                  · obtain ⟨rfl, h⟩ := hq
                    refine zr_catch C "java/lang/IllegalStateException" _ [⟨41, 125, 568, 109⟩, ⟨126, 151, 568, 109⟩, ⟨152, 283, 568, 109⟩, ⟨284, 328, 568, 109⟩, ⟨329, 394, 568, 109⟩, ⟨395, 431, 568, 109⟩, ⟨432, 463, 568, 109⟩, ⟨464, 496, 568, 109⟩, ⟨497, 567, 568, 109⟩] ⟨41, 125, 584, 111⟩ [⟨126, 151, 584, 111⟩, ⟨152, 283, 584, 111⟩, ⟨284, 328, 584, 111⟩, ⟨329, 394, 584, 111⟩, ⟨395, 431, 584, 111⟩, ⟨432, 463, 584, 111⟩, ⟨464, 496, 584, 111⟩, ⟨497, 567, 584, 111⟩] 584 hxt rfl (List.forall_mem_cons.mpr ⟨Or.inr ⟨by decide, "java/lang/IndexOutOfBoundsException", zq_687, by decide +kernel⟩, (List.forall_mem_cons.mpr ⟨Or.inl (by decide), (List.forall_mem_cons.mpr ⟨Or.inl (by decide), (List.forall_mem_cons.mpr ⟨Or.inl (by decide), (List.forall_mem_cons.mpr ⟨Or.inl (by decide), (List.forall_mem_cons.mpr ⟨Or.inl (by decide), (List.forall_mem_cons.mpr ⟨Or.inl (by decide), (List.forall_mem_cons.mpr ⟨Or.inl (by decide), (List.forall_mem_cons.mpr ⟨Or.inl (by decide), (fun _ h9 => nomatch h9)⟩)⟩)⟩)⟩)⟩)⟩)⟩)⟩)⟩) (by decide) (by decide) zq_688 zq_117 rfl (fun q9 => ?_)
                    refine zr_astore C [(6, .ref q9), (5, .int r6), (4, .int r4), (3, .int r2), (2, .int r1), (0, .ref a0), (1, .int p1)] dL_act_584 (by decide) rfl ?_
                    refine zr_iload_n C 6 dL_act_586 rfl rfl ?_
                    refine zr_bipush C 13 dL_act_587 (by decide) ?_
                    refine zr_callS (As := [.int p1, .int 13]) C (k_L_below h) ok_L_22 zq_677 rfl ⟨by decide, (Nat.le_of_ble_eq_true rfl)⟩ ⟨(Nat.le_of_ble_eq_true rfl), (Nat.le_of_ble_eq_true rfl)⟩ (Nat.le_of_ble_eq_true rfl) dL_act_589 (fun v251 U252 G253 hq => ?_)
                    clear h
                    · obtain ⟨r238, rfl, rfl, rfl, h⟩ := hq
                      refine zr_iconst C 2 dL_act_592 (by decide) ?_
                      obtain ⟨h1, h2⟩ := h
                      refine zr_icmp_eq C 640 dL_act_593 (by decide) (fun hc => ?_) (fun hc => ?_)
                      · have h := h1 hc
                        clear h1 h2
                        refine zr_iconst C 0 dL_act_640 (by decide) ?_
                        exact zr_X (zr_zret C rfl (Or.inl rfl) ⟨_, rfl, h⟩ (Nat.le_of_ble_eq_true rfl) (Nat.le_of_ble_eq_true rfl) dL_act_641)
                      · have h := h2 hc
                        clear h1 h2
                        refine zr_iload_n C 6 dL_act_596 rfl rfl ?_
                        refine zr_bipush C 13 dL_act_597 (by decide) ?_
                        refine zr_callS (As := [.int p1, .int 13]) C (k_L_below h) ok_L_22 zq_677 rfl ⟨by decide, (Nat.le_of_ble_eq_true rfl)⟩ ⟨(Nat.le_of_ble_eq_true rfl), (Nat.le_of_ble_eq_true rfl)⟩ (Nat.le_of_ble_eq_true rfl) dL_act_599 (fun v248 U249 G250 hq => ?_)
                        clear h
                        · obtain ⟨r239, rfl, rfl, rfl, h⟩ := hq
                          refine zr_bipush C 6 dL_act_602 (by decide) ?_
                          obtain ⟨h1, h2⟩ := h
                          refine zr_icmp_eq C 640 dL_act_604 (by decide) (fun hc => ?_) (fun hc => ?_)
                          · have h := h1 hc
                            clear h1 h2
                            refine zr_iconst C 0 dL_act_640 (by decide) ?_
                            exact zr_X (zr_zret C rfl (Or.inl rfl) ⟨_, rfl, h⟩ (Nat.le_of_ble_eq_true rfl) (Nat.le_of_ble_eq_true rfl) dL_act_641)
                          · have h := h2 hc
                            clear h1 h2
                            refine zr_iload_n C 6 dL_act_607 rfl rfl ?_
                            refine zr_bipush C 13 dL_act_608 (by decide) ?_
                            refine zr_callS (As := [.int p1, .int 13]) C (k_L_below h) ok_L_22 zq_677 rfl ⟨by decide, (Nat.le_of_ble_eq_true rfl)⟩ ⟨(Nat.le_of_ble_eq_true rfl), (Nat.le_of_ble_eq_true rfl)⟩ (Nat.le_of_ble_eq_true rfl) dL_act_610 (fun v245 U246 G247 hq => ?_)
                            clear h
                            · obtain ⟨r240, rfl, rfl, rfl, h⟩ := hq
                              refine zr_bipush C 9 dL_act_613 (by decide) ?_
                              obtain ⟨h1, h2⟩ := h
                              refine zr_icmp_eq C 640 dL_act_615 (by decide) (fun hc => ?_) (fun hc => ?_)
                              · have h := h1 hc
                                clear h1 h2
                                refine zr_iconst C 0 dL_act_640 (by decide) ?_
                                exact zr_X (zr_zret C rfl (Or.inl rfl) ⟨_, rfl, h⟩ (Nat.le_of_ble_eq_true rfl) (Nat.le_of_ble_eq_true rfl) dL_act_641)
                              · have h := h2 hc
                                clear h1 h2
                                refine zr_iload_n C 6 dL_act_618 rfl rfl ?_
                                refine zr_bipush C 13 dL_act_619 (by decide) ?_
                                refine zr_callS (As := [.int p1, .int 13]) C (k_L_below h) ok_L_22 zq_677 rfl ⟨by decide, (Nat.le_of_ble_eq_true rfl)⟩ ⟨(Nat.le_of_ble_eq_true rfl), (Nat.le_of_ble_eq_true rfl)⟩ (Nat.le_of_ble_eq_true rfl) dL_act_621 (fun v242 U243 G244 hq => ?_)
                                clear h
                                · obtain ⟨r241, rfl, rfl, rfl, h⟩ := hq
                                  refine zr_bipush C 10 dL_act_624 (by decide) ?_
                                  obtain ⟨h1, h2⟩ := h
                                  refine zr_icmp_lt C 636 dL_act_626 (by decide) (fun hc => ?_) (fun hc => ?_)
                                  · have h := h1 hc
                                    clear h1 h2
                                    refine zr_iconst C 1 dL_act_636 (by decide) ?_
                                    refine zr_goto C 641 dL_act_637 (by decide) ?_
                                    exact zr_X (zr_zret C rfl (Or.inr rfl) ⟨_, rfl, h⟩ (Nat.le_of_ble_eq_true rfl) (Nat.le_of_ble_eq_true rfl) dL_act_641)
                                  · have h := h2 hc
                                    clear h1 h2
                                    refine zr_iload C 2 dL_act_629 rfl ?_
                                    refine zr_bipush C 99 dL_act_631 (by decide) ?_
                                    obtain ⟨h1, h2⟩ := h
                                    refine zr_icmp_ne C 640 dL_act_633 (by decide) (fun hc => ?_) (fun hc => ?_)
                                    · have h := h1 hc
                                      clear h1 h2
                                      refine zr_iconst C 0 dL_act_640 (by decide) ?_
                                      exact zr_X (zr_zret C rfl (Or.inl rfl) ⟨_, rfl, h⟩ (Nat.le_of_ble_eq_true rfl) (Nat.le_of_ble_eq_true rfl) dL_act_641)
                                    · have h := h2 hc
                                      clear h1 h2
                                      refine zr_iconst C 1 dL_act_636 (by decide) ?_
                                      refine zr_goto C 641 dL_act_637 (by decide) ?_
                                      exact zr_X (zr_zret C rfl (Or.inr rfl) ⟨_, rfl, h⟩ (Nat.le_of_ble_eq_true rfl) (Nat.le_of_ble_eq_true rfl) dL_act_641)
                · obtain ⟨r208, rfl, rfl, h⟩ := hq
                  obtain ⟨h1, h2⟩ := h
                  refine zr_if_eq C 120 dL_act_106 (by decide) (fun hc => ?_) (fun hc => ?_)
                  · have h := h1 hc
                    clear h1 h2
                    refine zr_iconst C 1 dL_act_120 (by decide) ?_
                    refine zr_goto C 125 dL_act_121 (by decide) ?_
                    exact zr_X (zr_zret C rfl (Or.inr rfl) ⟨_, rfl, h⟩ (Nat.le_of_ble_eq_true rfl) (Nat.le_of_ble_eq_true rfl) dL_act_125)
                  · have h := h2 hc
                    clear h1 h2
                    refine zr_aload_n C 4 dL_act_109 rfl rfl ?_
                    refine zr_iload_n C 3 dL_act_110 rfl rfl ?_
                    refine zr_iload_n C 2 dL_act_111 rfl rfl ?_
                    refine zr_iload C 1 dL_act_112 rfl ?_
                    refine zr_callVX (As := [.int r1, .int r2, .int r4]) (r := (RX4, TX4, 4)) C (k_X4_isFit h) ok_L_70 zq_702 zq_703 hT3 (by decide) rfl rfl ⟨by decide, (Nat.le_of_ble_eq_true rfl)⟩ ⟨(Nat.le_of_ble_eq_true rfl), (Nat.le_of_ble_eq_true rfl)⟩ (Nat.le_of_ble_eq_true rfl) dL_act_114 ?_ (fun v231 U232 G233 hq => ?_)
                    · clear h
                      intro E9 T9 F9 hq
                      obtain ⟨rfl, rfl, hq⟩ := hq
                      rcases hq with hq | hq
                      · obtain ⟨rfl, h⟩ := hq
                        refine zr_catch C "java/lang/IndexOutOfBoundsException" _ [] ⟨41, 125, 568, 109⟩ [⟨126, 151, 568, 109⟩, ⟨152, 283, 568, 109⟩, ⟨284, 328, 568, 109⟩, ⟨329, 394, 568, 109⟩, ⟨395, 431, 568, 109⟩, ⟨432, 463, 568, 109⟩, ⟨464, 496, 568, 109⟩, ⟨497, 567, 568, 109⟩, ⟨41, 125, 584, 111⟩, ⟨126, 151, 584, 111⟩, ⟨152, 283, 584, 111⟩, ⟨284, 328, 584, 111⟩, ⟨329, 394, 584, 111⟩, ⟨395, 431, 584, 111⟩, ⟨432, 463, 584, 111⟩, ⟨464, 496, 584, 111⟩, ⟨497, 567, 584, 111⟩] 568 hxt rfl (fun _ h9 => nomatch h9) (by decide) (by decide) zq_687 zq_275 rfl (fun q9 => ?_)
                        refine zr_astore C [(6, .ref q9), (5, .int r6), (4, .int r4), (3, .int r2), (2, .int r1), (0, .ref a0), (1, .int p1)] dL_act_568 (by decide) rfl ?_
                        refine zr_aload_n C 5 dL_act_570 rfl rfl ?_
                        refine zr_iconst C 2 dL_act_571 (by decide) ?_
                        refine zr_callV (As := [.int 2]) (r := (RX4, TX4, 4)) C (k_X4_many0 h) ok_L_36 zq_393 zq_394 hT3 (by decide) rfl rfl ⟨by decide, (Nat.le_of_ble_eq_true rfl)⟩ ⟨(Nat.le_of_ble_eq_true rfl), (Nat.le_of_ble_eq_true rfl)⟩ (Nat.le_of_ble_eq_true rfl) dL_act_572 (fun v212 U213 G214 hq => ?_)
                        clear h
                        · obtain ⟨r211, rfl, rfl, rfl, h⟩ := hq
                          obtain ⟨h1, h2⟩ := h
                          refine zr_if_ne C 582 dL_act_575 (by decide) (fun hc => ?_) (fun hc => ?_)
                          · have h := h1 hc
                            clear h1 h2
                            refine zr_iconst C 0 dL_act_582 (by decide) ?_
                            exact zr_X (zr_zret C rfl (Or.inl rfl) ⟨_, rfl, h⟩ (Nat.le_of_ble_eq_true rfl) (Nat.le_of_ble_eq_true rfl) dL_act_583)
                          · have h := h2 hc
                            clear h1 h2
                            refine zr_iconst C 1 dL_act_578 (by decide) ?_
                            refine zr_goto C 583 dL_act_579 (by decide) ?_
                            exact zr_X (zr_zret C rfl (Or.inr rfl) ⟨_, rfl, h⟩ (Nat.le_of_ble_eq_true rfl) (Nat.le_of_ble_eq_true rfl) dL_act_583)
                      · obtain ⟨rfl, h⟩ := hq
                        refine zr_catch C "java/lang/IllegalStateException" _ [⟨41, 125, 568, 109⟩, ⟨126, 151, 568, 109⟩, ⟨152, 283, 568, 109⟩, ⟨284, 328, 568, 109⟩, ⟨329, 394, 568, 109⟩, ⟨395, 431, 568, 109⟩, ⟨432, 463, 568, 109⟩, ⟨464, 496, 568, 109⟩, ⟨497, 567, 568, 109⟩] ⟨41, 125, 584, 111⟩ [⟨126, 151, 584, 111⟩, ⟨152, 283, 584, 111⟩, ⟨284, 328, 584, 111⟩, ⟨329, 394, 584, 111⟩, ⟨395, 431, 584, 111⟩, ⟨432, 463, 584, 111⟩, ⟨464, 496, 584, 111⟩, ⟨497, 567, 584, 111⟩] 584 hxt rfl (List.forall_mem_cons.mpr ⟨Or.inr ⟨by decide, "java/lang/IndexOutOfBoundsException", zq_687, by decide +kernel⟩, (List.forall_mem_cons.mpr ⟨Or.inl (by decide), (List.forall_mem_cons.mpr ⟨Or.inl (by decide), (List.forall_mem_cons.mpr ⟨Or.inl (by decide), (List.forall_mem_cons.mpr ⟨Or.inl (by decide), (List.forall_mem_cons.mpr ⟨Or.inl (by decide), (List.forall_mem_cons.mpr ⟨Or.inl (by decide), (List.forall_mem_cons.mpr ⟨Or.inl (by decide), (List.forall_mem_cons.mpr ⟨Or.inl (by decide), (fun _ h9 => nomatch h9)⟩)⟩)⟩)⟩)⟩)⟩)⟩)⟩)⟩) (by decide) (by decide) zq_688 zq_117 rfl (fun q9 => ?_)
                        refine zr_astore C [(6, .ref q9), (5, .int r6), (4, .int r4), (3, .int r2), (2, .int r1), (0, .ref a0), (1, .int p1)] dL_act_584 (by decide) rfl ?_
                        refine zr_iload_n C 6 dL_act_586 rfl rfl ?_
                        refine zr_bipush C 13 dL_act_587 (by decide) ?_
                        refine zr_callS (As := [.int p1, .int 13]) C (k_L_below h) ok_L_22 zq_677 rfl ⟨by decide, (Nat.le_of_ble_eq_true rfl)⟩ ⟨(Nat.le_of_ble_eq_true rfl), (Nat.le_of_ble_eq_true rfl)⟩ (Nat.le_of_ble_eq_true rfl) dL_act_589 (fun v228 U229 G230 hq => ?_)
                        clear h
                        · obtain ⟨r215, rfl, rfl, rfl, h⟩ := hq
                          refine zr_iconst C 2 dL_act_592 (by decide) ?_
                          obtain ⟨h1, h2⟩ := h
                          refine zr_icmp_eq C 640 dL_act_593 (by decide) (fun hc => ?_) (fun hc => ?_)
                          · have h := h1 hc
                            clear h1 h2
                            refine zr_iconst C 0 dL_act_640 (by decide) ?_
                            exact zr_X (zr_zret C rfl (Or.inl rfl) ⟨_, rfl, h⟩ (Nat.le_of_ble_eq_true rfl) (Nat.le_of_ble_eq_true rfl) dL_act_641)
                          · have h := h2 hc
                            clear h1 h2
                            refine zr_iload_n C 6 dL_act_596 rfl rfl ?_
                            refine zr_bipush C 13 dL_act_597 (by decide) ?_
                            refine zr_callS (As := [.int p1, .int 13]) C (k_L_below h) ok_L_22 zq_677 rfl ⟨by decide, (Nat.le_of_ble_eq_true rfl)⟩ ⟨(Nat.le_of_ble_eq_true rfl), (Nat.le_of_ble_eq_true rfl)⟩ (Nat.le_of_ble_eq_true rfl) dL_act_599 (fun v225 U226 G227 hq => ?_)
                            clear h
                            · obtain ⟨r216, rfl, rfl, rfl, h⟩ := hq
                              refine zr_bipush C 6 dL_act_602 (by decide) ?_
                              obtain ⟨h1, h2⟩ := h
                              refine zr_icmp_eq C 640 dL_act_604 (by decide) (fun hc => ?_) (fun hc => ?_)
                              · have h := h1 hc
                                clear h1 h2
                                refine zr_iconst C 0 dL_act_640 (by decide) ?_
                                exact zr_X (zr_zret C rfl (Or.inl rfl) ⟨_, rfl, h⟩ (Nat.le_of_ble_eq_true rfl) (Nat.le_of_ble_eq_true rfl) dL_act_641)
                              · have h := h2 hc
                                clear h1 h2
                                refine zr_iload_n C 6 dL_act_607 rfl rfl ?_
                                refine zr_bipush C 13 dL_act_608 (by decide) ?_
                                refine zr_callS (As := [.int p1, .int 13]) C (k_L_below h) ok_L_22 zq_677 rfl ⟨by decide, (Nat.le_of_ble_eq_true rfl)⟩ ⟨(Nat.le_of_ble_eq_true rfl), (Nat.le_of_ble_eq_true rfl)⟩ (Nat.le_of_ble_eq_true rfl) dL_act_610 (fun v222 U223 G224 hq => ?_)
                                clear h
                                · obtain ⟨r217, rfl, rfl, rfl, h⟩ := hq
                                  refine zr_bipush C 9 dL_act_613 (by decide) ?_
                                  obtain ⟨h1, h2⟩ := h
                                  refine zr_icmp_eq C 640 dL_act_615 (by decide) (fun hc => ?_) (fun hc => ?_)
                                  · have h := h1 hc
                                    clear h1 h2
                                    refine zr_iconst C 0 dL_act_640 (by decide) ?_
                                    exact zr_X (zr_zret C rfl (Or.inl rfl) ⟨_, rfl, h⟩ (Nat.le_of_ble_eq_true rfl) (Nat.le_of_ble_eq_true rfl) dL_act_641)
                                  · have h := h2 hc
                                    clear h1 h2
                                    refine zr_iload_n C 6 dL_act_618 rfl rfl ?_
                                    refine zr_bipush C 13 dL_act_619 (by decide) ?_
                                    refine zr_callS (As := [.int p1, .int 13]) C (k_L_below h) ok_L_22 zq_677 rfl ⟨by decide, (Nat.le_of_ble_eq_true rfl)⟩ ⟨(Nat.le_of_ble_eq_true rfl), (Nat.le_of_ble_eq_true rfl)⟩ (Nat.le_of_ble_eq_true rfl) dL_act_621 (fun v219 U220 G221 hq => ?_)
                                    clear h
                                    · obtain ⟨r218, rfl, rfl, rfl, h⟩ := hq
                                      refine zr_bipush C 10 dL_act_624 (by decide) ?_
                                      obtain ⟨h1, h2⟩ := h
                                      refine zr_icmp_lt C 636 dL_act_626 (by decide) (fun hc => ?_) (fun hc => ?_)
                                      · have h := h1 hc
                                        clear h1 h2
                                        refine zr_iconst C 1 dL_act_636 (by decide) ?_
                                        refine zr_goto C 641 dL_act_637 (by decide) ?_
                                        exact zr_X (zr_zret C rfl (Or.inr rfl) ⟨_, rfl, h⟩ (Nat.le_of_ble_eq_true rfl) (Nat.le_of_ble_eq_true rfl) dL_act_641)
                                      · have h := h2 hc
                                        clear h1 h2
                                        refine zr_iload C 2 dL_act_629 rfl ?_
                                        refine zr_bipush C 99 dL_act_631 (by decide) ?_
                                        obtain ⟨h1, h2⟩ := h
                                        refine zr_icmp_ne C 640 dL_act_633 (by decide) (fun hc => ?_) (fun hc => ?_)
                                        · have h := h1 hc
                                          clear h1 h2
                                          refine zr_iconst C 0 dL_act_640 (by decide) ?_
                                          exact zr_X (zr_zret C rfl (Or.inl rfl) ⟨_, rfl, h⟩ (Nat.le_of_ble_eq_true rfl) (Nat.le_of_ble_eq_true rfl) dL_act_641)
                                        · have h := h2 hc
                                          clear h1 h2
                                          refine zr_iconst C 1 dL_act_636 (by decide) ?_
                                          refine zr_goto C 641 dL_act_637 (by decide) ?_
                                          exact zr_X (zr_zret C rfl (Or.inr rfl) ⟨_, rfl, h⟩ (Nat.le_of_ble_eq_true rfl) (Nat.le_of_ble_eq_true rfl) dL_act_641)
                    · obtain ⟨r210, rfl, rfl, rfl, h⟩ := hq
                      obtain ⟨h1, h2⟩ := h
                      refine zr_if_eq C 124 dL_act_117 (by decide) (fun hc => ?_) (fun hc => ?_)
                      · have h := h1 hc
                        clear h1 h2
                        refine zr_iconst C 0 dL_act_124 (by decide) ?_
                        exact zr_X (zr_zret C rfl (Or.inl rfl) ⟨_, rfl, h⟩ (Nat.le_of_ble_eq_true rfl) (Nat.le_of_ble_eq_true rfl) dL_act_125)
                      · have h := h2 hc
                        clear h1 h2
                        refine zr_iconst C 1 dL_act_120 (by decide) ?_
                        refine zr_goto C 125 dL_act_121 (by decide) ?_
                        exact zr_X (zr_zret C rfl (Or.inr rfl) ⟨_, rfl, h⟩ (Nat.le_of_ble_eq_true rfl) (Nat.le_of_ble_eq_true rfl) dL_act_125)
              by_cases hk2 : r7 = 2
              · have h := hs307 hk2
                refine zr_tableIn C 126 dL_act_47 (by rw [hk2]; decide) (by rw [hk2]; decide) (by rw [hk2]; rfl) (by decide) ?_
                refine zr_aload_n C 4 dL_act_126 rfl rfl ?_
                refine zr_iload_n C 3 dL_act_127 rfl rfl ?_
                refine zr_iload_n C 2 dL_act_128 rfl rfl ?_
                refine zr_callVX (As := [.int r1, .int r2]) (r := (RX4, TX4, 4)) C (k_X4_hold h) ok_L_74 zq_706 zq_707 hT3 (by decide) rfl rfl ⟨by decide, (Nat.le_of_ble_eq_true rfl)⟩ ⟨(Nat.le_of_ble_eq_true rfl), (Nat.le_of_ble_eq_true rfl)⟩ (Nat.le_of_ble_eq_true rfl) dL_act_129 ?_ (fun v304 U305 G306 hq => ?_)
                · clear h
                  intro E9 T9 F9 hq
                  obtain ⟨rfl, hq⟩ := hq
                  rcases hq with hq | hq
                  · obtain ⟨rfl, h⟩ := hq
                    refine zr_catch C "java/lang/IndexOutOfBoundsException" _ [⟨41, 125, 568, 109⟩] ⟨126, 151, 568, 109⟩ [⟨152, 283, 568, 109⟩, ⟨284, 328, 568, 109⟩, ⟨329, 394, 568, 109⟩, ⟨395, 431, 568, 109⟩, ⟨432, 463, 568, 109⟩, ⟨464, 496, 568, 109⟩, ⟨497, 567, 568, 109⟩, ⟨41, 125, 584, 111⟩, ⟨126, 151, 584, 111⟩, ⟨152, 283, 584, 111⟩, ⟨284, 328, 584, 111⟩, ⟨329, 394, 584, 111⟩, ⟨395, 431, 584, 111⟩, ⟨432, 463, 584, 111⟩, ⟨464, 496, 584, 111⟩, ⟨497, 567, 584, 111⟩] 568 hxt rfl (List.forall_mem_cons.mpr ⟨Or.inl (by decide), (fun _ h9 => nomatch h9)⟩) (by decide) (by decide) zq_687 zq_275 rfl (fun q9 => ?_)
                    refine zr_astore C [(6, .ref q9), (5, .int r6), (4, .int r4), (3, .int r2), (2, .int r1), (0, .ref a0), (1, .int p1)] dL_act_568 (by decide) rfl ?_
                    refine zr_aload_n C 5 dL_act_570 rfl rfl ?_
                    refine zr_iconst C 2 dL_act_571 (by decide) ?_
                    refine zr_callV (As := [.int 2]) (r := (RX4, TX4, 4)) C (k_X4_many0 h) ok_L_36 zq_393 zq_394 hT3 (by decide) rfl rfl ⟨by decide, (Nat.le_of_ble_eq_true rfl)⟩ ⟨(Nat.le_of_ble_eq_true rfl), (Nat.le_of_ble_eq_true rfl)⟩ (Nat.le_of_ble_eq_true rfl) dL_act_572 (fun v285 U286 G287 hq => ?_)
                    clear h
                    · obtain ⟨r284, rfl, rfl, rfl, h⟩ := hq
                      obtain ⟨h1, h2⟩ := h
                      refine zr_if_ne C 582 dL_act_575 (by decide) (fun hc => ?_) (fun hc => ?_)
                      · have h := h1 hc
                        clear h1 h2
                        refine zr_iconst C 0 dL_act_582 (by decide) ?_
                        exact zr_X (zr_zret C rfl (Or.inl rfl) ⟨_, rfl, h⟩ (Nat.le_of_ble_eq_true rfl) (Nat.le_of_ble_eq_true rfl) dL_act_583)
                      · have h := h2 hc
                        clear h1 h2
                        refine zr_iconst C 1 dL_act_578 (by decide) ?_
                        refine zr_goto C 583 dL_act_579 (by decide) ?_
                        exact zr_X (zr_zret C rfl (Or.inr rfl) ⟨_, rfl, h⟩ (Nat.le_of_ble_eq_true rfl) (Nat.le_of_ble_eq_true rfl) dL_act_583)
                  · obtain ⟨rfl, h⟩ := hq
                    refine zr_catch C "java/lang/IllegalStateException" _ [⟨41, 125, 568, 109⟩, ⟨126, 151, 568, 109⟩, ⟨152, 283, 568, 109⟩, ⟨284, 328, 568, 109⟩, ⟨329, 394, 568, 109⟩, ⟨395, 431, 568, 109⟩, ⟨432, 463, 568, 109⟩, ⟨464, 496, 568, 109⟩, ⟨497, 567, 568, 109⟩, ⟨41, 125, 584, 111⟩] ⟨126, 151, 584, 111⟩ [⟨152, 283, 584, 111⟩, ⟨284, 328, 584, 111⟩, ⟨329, 394, 584, 111⟩, ⟨395, 431, 584, 111⟩, ⟨432, 463, 584, 111⟩, ⟨464, 496, 584, 111⟩, ⟨497, 567, 584, 111⟩] 584 hxt rfl (List.forall_mem_cons.mpr ⟨Or.inl (by decide), (List.forall_mem_cons.mpr ⟨Or.inr ⟨by decide, "java/lang/IndexOutOfBoundsException", zq_687, by decide +kernel⟩, (List.forall_mem_cons.mpr ⟨Or.inl (by decide), (List.forall_mem_cons.mpr ⟨Or.inl (by decide), (List.forall_mem_cons.mpr ⟨Or.inl (by decide), (List.forall_mem_cons.mpr ⟨Or.inl (by decide), (List.forall_mem_cons.mpr ⟨Or.inl (by decide), (List.forall_mem_cons.mpr ⟨Or.inl (by decide), (List.forall_mem_cons.mpr ⟨Or.inl (by decide), (List.forall_mem_cons.mpr ⟨Or.inl (by decide), (fun _ h9 => nomatch h9)⟩)⟩)⟩)⟩)⟩)⟩)⟩)⟩)⟩)⟩) (by decide) (by decide) zq_688 zq_117 rfl (fun q9 => ?_)
                    refine zr_astore C [(6, .ref q9), (5, .int r6), (4, .int r4), (3, .int r2), (2, .int r1), (0, .ref a0), (1, .int p1)] dL_act_584 (by decide) rfl ?_
                    refine zr_iload_n C 6 dL_act_586 rfl rfl ?_
                    refine zr_bipush C 13 dL_act_587 (by decide) ?_
                    refine zr_callS (As := [.int p1, .int 13]) C (k_L_below h) ok_L_22 zq_677 rfl ⟨by decide, (Nat.le_of_ble_eq_true rfl)⟩ ⟨(Nat.le_of_ble_eq_true rfl), (Nat.le_of_ble_eq_true rfl)⟩ (Nat.le_of_ble_eq_true rfl) dL_act_589 (fun v301 U302 G303 hq => ?_)
                    clear h
                    · obtain ⟨r288, rfl, rfl, rfl, h⟩ := hq
                      refine zr_iconst C 2 dL_act_592 (by decide) ?_
                      obtain ⟨h1, h2⟩ := h
                      refine zr_icmp_eq C 640 dL_act_593 (by decide) (fun hc => ?_) (fun hc => ?_)
                      · have h := h1 hc
                        clear h1 h2
                        refine zr_iconst C 0 dL_act_640 (by decide) ?_
                        exact zr_X (zr_zret C rfl (Or.inl rfl) ⟨_, rfl, h⟩ (Nat.le_of_ble_eq_true rfl) (Nat.le_of_ble_eq_true rfl) dL_act_641)
                      · have h := h2 hc
                        clear h1 h2
                        refine zr_iload_n C 6 dL_act_596 rfl rfl ?_
                        refine zr_bipush C 13 dL_act_597 (by decide) ?_
                        refine zr_callS (As := [.int p1, .int 13]) C (k_L_below h) ok_L_22 zq_677 rfl ⟨by decide, (Nat.le_of_ble_eq_true rfl)⟩ ⟨(Nat.le_of_ble_eq_true rfl), (Nat.le_of_ble_eq_true rfl)⟩ (Nat.le_of_ble_eq_true rfl) dL_act_599 (fun v298 U299 G300 hq => ?_)
                        clear h
                        · obtain ⟨r289, rfl, rfl, rfl, h⟩ := hq
                          refine zr_bipush C 6 dL_act_602 (by decide) ?_
                          obtain ⟨h1, h2⟩ := h
                          refine zr_icmp_eq C 640 dL_act_604 (by decide) (fun hc => ?_) (fun hc => ?_)
                          · have h := h1 hc
                            clear h1 h2
                            refine zr_iconst C 0 dL_act_640 (by decide) ?_
                            exact zr_X (zr_zret C rfl (Or.inl rfl) ⟨_, rfl, h⟩ (Nat.le_of_ble_eq_true rfl) (Nat.le_of_ble_eq_true rfl) dL_act_641)
                          · have h := h2 hc
                            clear h1 h2
                            refine zr_iload_n C 6 dL_act_607 rfl rfl ?_
                            refine zr_bipush C 13 dL_act_608 (by decide) ?_
                            refine zr_callS (As := [.int p1, .int 13]) C (k_L_below h) ok_L_22 zq_677 rfl ⟨by decide, (Nat.le_of_ble_eq_true rfl)⟩ ⟨(Nat.le_of_ble_eq_true rfl), (Nat.le_of_ble_eq_true rfl)⟩ (Nat.le_of_ble_eq_true rfl) dL_act_610 (fun v295 U296 G297 hq => ?_)
                            clear h
                            · obtain ⟨r290, rfl, rfl, rfl, h⟩ := hq
                              refine zr_bipush C 9 dL_act_613 (by decide) ?_
                              obtain ⟨h1, h2⟩ := h
                              refine zr_icmp_eq C 640 dL_act_615 (by decide) (fun hc => ?_) (fun hc => ?_)
                              · have h := h1 hc
                                clear h1 h2
                                refine zr_iconst C 0 dL_act_640 (by decide) ?_
                                exact zr_X (zr_zret C rfl (Or.inl rfl) ⟨_, rfl, h⟩ (Nat.le_of_ble_eq_true rfl) (Nat.le_of_ble_eq_true rfl) dL_act_641)
                              · have h := h2 hc
                                clear h1 h2
                                refine zr_iload_n C 6 dL_act_618 rfl rfl ?_
                                refine zr_bipush C 13 dL_act_619 (by decide) ?_
                                refine zr_callS (As := [.int p1, .int 13]) C (k_L_below h) ok_L_22 zq_677 rfl ⟨by decide, (Nat.le_of_ble_eq_true rfl)⟩ ⟨(Nat.le_of_ble_eq_true rfl), (Nat.le_of_ble_eq_true rfl)⟩ (Nat.le_of_ble_eq_true rfl) dL_act_621 (fun v292 U293 G294 hq => ?_)
                                clear h
                                · obtain ⟨r291, rfl, rfl, rfl, h⟩ := hq
                                  refine zr_bipush C 10 dL_act_624 (by decide) ?_
                                  obtain ⟨h1, h2⟩ := h
                                  refine zr_icmp_lt C 636 dL_act_626 (by decide) (fun hc => ?_) (fun hc => ?_)
                                  · have h := h1 hc
                                    clear h1 h2
                                    refine zr_iconst C 1 dL_act_636 (by decide) ?_
                                    refine zr_goto C 641 dL_act_637 (by decide) ?_
                                    exact zr_X (zr_zret C rfl (Or.inr rfl) ⟨_, rfl, h⟩ (Nat.le_of_ble_eq_true rfl) (Nat.le_of_ble_eq_true rfl) dL_act_641)
                                  · have h := h2 hc
                                    clear h1 h2
                                    refine zr_iload C 2 dL_act_629 rfl ?_
                                    refine zr_bipush C 99 dL_act_631 (by decide) ?_
                                    obtain ⟨h1, h2⟩ := h
                                    refine zr_icmp_ne C 640 dL_act_633 (by decide) (fun hc => ?_) (fun hc => ?_)
                                    · have h := h1 hc
                                      clear h1 h2
                                      refine zr_iconst C 0 dL_act_640 (by decide) ?_
                                      exact zr_X (zr_zret C rfl (Or.inl rfl) ⟨_, rfl, h⟩ (Nat.le_of_ble_eq_true rfl) (Nat.le_of_ble_eq_true rfl) dL_act_641)
                                    · have h := h2 hc
                                      clear h1 h2
                                      refine zr_iconst C 1 dL_act_636 (by decide) ?_
                                      refine zr_goto C 641 dL_act_637 (by decide) ?_
                                      exact zr_X (zr_zret C rfl (Or.inr rfl) ⟨_, rfl, h⟩ (Nat.le_of_ble_eq_true rfl) (Nat.le_of_ble_eq_true rfl) dL_act_641)
                · obtain ⟨r258, rfl, rfl, h⟩ := hq
                  obtain ⟨h1, h2⟩ := h
                  refine zr_if_eq C 146 dL_act_132 (by decide) (fun hc => ?_) (fun hc => ?_)
                  · have h := h1 hc
                    clear h1 h2
                    refine zr_iconst C 1 dL_act_146 (by decide) ?_
                    refine zr_goto C 151 dL_act_147 (by decide) ?_
                    exact zr_X (zr_zret C rfl (Or.inr rfl) ⟨_, rfl, h⟩ (Nat.le_of_ble_eq_true rfl) (Nat.le_of_ble_eq_true rfl) dL_act_151)
                  · have h := h2 hc
                    clear h1 h2
                    refine zr_aload_n C 4 dL_act_135 rfl rfl ?_
                    refine zr_iload_n C 3 dL_act_136 rfl rfl ?_
                    refine zr_iload_n C 2 dL_act_137 rfl rfl ?_
                    refine zr_iload C 1 dL_act_138 rfl ?_
                    refine zr_callVX (As := [.int r1, .int r2, .int r4]) (r := (RX4, TX4, 4)) C (k_X4_isFit h) ok_L_70 zq_702 zq_703 hT3 (by decide) rfl rfl ⟨by decide, (Nat.le_of_ble_eq_true rfl)⟩ ⟨(Nat.le_of_ble_eq_true rfl), (Nat.le_of_ble_eq_true rfl)⟩ (Nat.le_of_ble_eq_true rfl) dL_act_140 ?_ (fun v281 U282 G283 hq => ?_)
                    · clear h
                      intro E9 T9 F9 hq
                      obtain ⟨rfl, rfl, hq⟩ := hq
                      rcases hq with hq | hq
                      · obtain ⟨rfl, h⟩ := hq
                        refine zr_catch C "java/lang/IndexOutOfBoundsException" _ [⟨41, 125, 568, 109⟩] ⟨126, 151, 568, 109⟩ [⟨152, 283, 568, 109⟩, ⟨284, 328, 568, 109⟩, ⟨329, 394, 568, 109⟩, ⟨395, 431, 568, 109⟩, ⟨432, 463, 568, 109⟩, ⟨464, 496, 568, 109⟩, ⟨497, 567, 568, 109⟩, ⟨41, 125, 584, 111⟩, ⟨126, 151, 584, 111⟩, ⟨152, 283, 584, 111⟩, ⟨284, 328, 584, 111⟩, ⟨329, 394, 584, 111⟩, ⟨395, 431, 584, 111⟩, ⟨432, 463, 584, 111⟩, ⟨464, 496, 584, 111⟩, ⟨497, 567, 584, 111⟩] 568 hxt rfl (List.forall_mem_cons.mpr ⟨Or.inl (by decide), (fun _ h9 => nomatch h9)⟩) (by decide) (by decide) zq_687 zq_275 rfl (fun q9 => ?_)
                        refine zr_astore C [(6, .ref q9), (5, .int r6), (4, .int r4), (3, .int r2), (2, .int r1), (0, .ref a0), (1, .int p1)] dL_act_568 (by decide) rfl ?_
                        refine zr_aload_n C 5 dL_act_570 rfl rfl ?_
                        refine zr_iconst C 2 dL_act_571 (by decide) ?_
                        refine zr_callV (As := [.int 2]) (r := (RX4, TX4, 4)) C (k_X4_many0 h) ok_L_36 zq_393 zq_394 hT3 (by decide) rfl rfl ⟨by decide, (Nat.le_of_ble_eq_true rfl)⟩ ⟨(Nat.le_of_ble_eq_true rfl), (Nat.le_of_ble_eq_true rfl)⟩ (Nat.le_of_ble_eq_true rfl) dL_act_572 (fun v262 U263 G264 hq => ?_)
                        clear h
                        · obtain ⟨r261, rfl, rfl, rfl, h⟩ := hq
                          obtain ⟨h1, h2⟩ := h
                          refine zr_if_ne C 582 dL_act_575 (by decide) (fun hc => ?_) (fun hc => ?_)
                          · have h := h1 hc
                            clear h1 h2
                            refine zr_iconst C 0 dL_act_582 (by decide) ?_
                            exact zr_X (zr_zret C rfl (Or.inl rfl) ⟨_, rfl, h⟩ (Nat.le_of_ble_eq_true rfl) (Nat.le_of_ble_eq_true rfl) dL_act_583)
                          · have h := h2 hc
                            clear h1 h2
                            refine zr_iconst C 1 dL_act_578 (by decide) ?_
                            refine zr_goto C 583 dL_act_579 (by decide) ?_
                            exact zr_X (zr_zret C rfl (Or.inr rfl) ⟨_, rfl, h⟩ (Nat.le_of_ble_eq_true rfl) (Nat.le_of_ble_eq_true rfl) dL_act_583)
                      · obtain ⟨rfl, h⟩ := hq
                        refine zr_catch C "java/lang/IllegalStateException" _ [⟨41, 125, 568, 109⟩, ⟨126, 151, 568, 109⟩, ⟨152, 283, 568, 109⟩, ⟨284, 328, 568, 109⟩, ⟨329, 394, 568, 109⟩, ⟨395, 431, 568, 109⟩, ⟨432, 463, 568, 109⟩, ⟨464, 496, 568, 109⟩, ⟨497, 567, 568, 109⟩, ⟨41, 125, 584, 111⟩] ⟨126, 151, 584, 111⟩ [⟨152, 283, 584, 111⟩, ⟨284, 328, 584, 111⟩, ⟨329, 394, 584, 111⟩, ⟨395, 431, 584, 111⟩, ⟨432, 463, 584, 111⟩, ⟨464, 496, 584, 111⟩, ⟨497, 567, 584, 111⟩] 584 hxt rfl (List.forall_mem_cons.mpr ⟨Or.inl (by decide), (List.forall_mem_cons.mpr ⟨Or.inr ⟨by decide, "java/lang/IndexOutOfBoundsException", zq_687, by decide +kernel⟩, (List.forall_mem_cons.mpr ⟨Or.inl (by decide), (List.forall_mem_cons.mpr ⟨Or.inl (by decide), (List.forall_mem_cons.mpr ⟨Or.inl (by decide), (List.forall_mem_cons.mpr ⟨Or.inl (by decide), (List.forall_mem_cons.mpr ⟨Or.inl (by decide), (List.forall_mem_cons.mpr ⟨Or.inl (by decide), (List.forall_mem_cons.mpr ⟨Or.inl (by decide), (List.forall_mem_cons.mpr ⟨Or.inl (by decide), (fun _ h9 => nomatch h9)⟩)⟩)⟩)⟩)⟩)⟩)⟩)⟩)⟩)⟩) (by decide) (by decide) zq_688 zq_117 rfl (fun q9 => ?_)
                        refine zr_astore C [(6, .ref q9), (5, .int r6), (4, .int r4), (3, .int r2), (2, .int r1), (0, .ref a0), (1, .int p1)] dL_act_584 (by decide) rfl ?_
                        refine zr_iload_n C 6 dL_act_586 rfl rfl ?_
                        refine zr_bipush C 13 dL_act_587 (by decide) ?_
                        refine zr_callS (As := [.int p1, .int 13]) C (k_L_below h) ok_L_22 zq_677 rfl ⟨by decide, (Nat.le_of_ble_eq_true rfl)⟩ ⟨(Nat.le_of_ble_eq_true rfl), (Nat.le_of_ble_eq_true rfl)⟩ (Nat.le_of_ble_eq_true rfl) dL_act_589 (fun v278 U279 G280 hq => ?_)
                        clear h
                        · obtain ⟨r265, rfl, rfl, rfl, h⟩ := hq
                          refine zr_iconst C 2 dL_act_592 (by decide) ?_
                          obtain ⟨h1, h2⟩ := h
                          refine zr_icmp_eq C 640 dL_act_593 (by decide) (fun hc => ?_) (fun hc => ?_)
                          · have h := h1 hc
                            clear h1 h2
                            refine zr_iconst C 0 dL_act_640 (by decide) ?_
                            exact zr_X (zr_zret C rfl (Or.inl rfl) ⟨_, rfl, h⟩ (Nat.le_of_ble_eq_true rfl) (Nat.le_of_ble_eq_true rfl) dL_act_641)
                          · have h := h2 hc
                            clear h1 h2
                            refine zr_iload_n C 6 dL_act_596 rfl rfl ?_
                            refine zr_bipush C 13 dL_act_597 (by decide) ?_
                            refine zr_callS (As := [.int p1, .int 13]) C (k_L_below h) ok_L_22 zq_677 rfl ⟨by decide, (Nat.le_of_ble_eq_true rfl)⟩ ⟨(Nat.le_of_ble_eq_true rfl), (Nat.le_of_ble_eq_true rfl)⟩ (Nat.le_of_ble_eq_true rfl) dL_act_599 (fun v275 U276 G277 hq => ?_)
                            clear h
                            · obtain ⟨r266, rfl, rfl, rfl, h⟩ := hq
                              refine zr_bipush C 6 dL_act_602 (by decide) ?_
                              obtain ⟨h1, h2⟩ := h
                              refine zr_icmp_eq C 640 dL_act_604 (by decide) (fun hc => ?_) (fun hc => ?_)
                              · have h := h1 hc
                                clear h1 h2
                                refine zr_iconst C 0 dL_act_640 (by decide) ?_
                                exact zr_X (zr_zret C rfl (Or.inl rfl) ⟨_, rfl, h⟩ (Nat.le_of_ble_eq_true rfl) (Nat.le_of_ble_eq_true rfl) dL_act_641)
                              · have h := h2 hc
                                clear h1 h2
                                refine zr_iload_n C 6 dL_act_607 rfl rfl ?_
                                refine zr_bipush C 13 dL_act_608 (by decide) ?_
                                refine zr_callS (As := [.int p1, .int 13]) C (k_L_below h) ok_L_22 zq_677 rfl ⟨by decide, (Nat.le_of_ble_eq_true rfl)⟩ ⟨(Nat.le_of_ble_eq_true rfl), (Nat.le_of_ble_eq_true rfl)⟩ (Nat.le_of_ble_eq_true rfl) dL_act_610 (fun v272 U273 G274 hq => ?_)
                                clear h
                                · obtain ⟨r267, rfl, rfl, rfl, h⟩ := hq
                                  refine zr_bipush C 9 dL_act_613 (by decide) ?_
                                  obtain ⟨h1, h2⟩ := h
                                  refine zr_icmp_eq C 640 dL_act_615 (by decide) (fun hc => ?_) (fun hc => ?_)
                                  · have h := h1 hc
                                    clear h1 h2
                                    refine zr_iconst C 0 dL_act_640 (by decide) ?_
                                    exact zr_X (zr_zret C rfl (Or.inl rfl) ⟨_, rfl, h⟩ (Nat.le_of_ble_eq_true rfl) (Nat.le_of_ble_eq_true rfl) dL_act_641)
                                  · have h := h2 hc
                                    clear h1 h2
                                    refine zr_iload_n C 6 dL_act_618 rfl rfl ?_
                                    refine zr_bipush C 13 dL_act_619 (by decide) ?_
                                    refine zr_callS (As := [.int p1, .int 13]) C (k_L_below h) ok_L_22 zq_677 rfl ⟨by decide, (Nat.le_of_ble_eq_true rfl)⟩ ⟨(Nat.le_of_ble_eq_true rfl), (Nat.le_of_ble_eq_true rfl)⟩ (Nat.le_of_ble_eq_true rfl) dL_act_621 (fun v269 U270 G271 hq => ?_)
                                    clear h
                                    · obtain ⟨r268, rfl, rfl, rfl, h⟩ := hq
                                      refine zr_bipush C 10 dL_act_624 (by decide) ?_
                                      obtain ⟨h1, h2⟩ := h
                                      refine zr_icmp_lt C 636 dL_act_626 (by decide) (fun hc => ?_) (fun hc => ?_)
                                      · have h := h1 hc
                                        clear h1 h2
                                        refine zr_iconst C 1 dL_act_636 (by decide) ?_
                                        refine zr_goto C 641 dL_act_637 (by decide) ?_
                                        exact zr_X (zr_zret C rfl (Or.inr rfl) ⟨_, rfl, h⟩ (Nat.le_of_ble_eq_true rfl) (Nat.le_of_ble_eq_true rfl) dL_act_641)
                                      · have h := h2 hc
                                        clear h1 h2
                                        refine zr_iload C 2 dL_act_629 rfl ?_
                                        refine zr_bipush C 99 dL_act_631 (by decide) ?_
                                        obtain ⟨h1, h2⟩ := h
                                        refine zr_icmp_ne C 640 dL_act_633 (by decide) (fun hc => ?_) (fun hc => ?_)
                                        · have h := h1 hc
                                          clear h1 h2
                                          refine zr_iconst C 0 dL_act_640 (by decide) ?_
                                          exact zr_X (zr_zret C rfl (Or.inl rfl) ⟨_, rfl, h⟩ (Nat.le_of_ble_eq_true rfl) (Nat.le_of_ble_eq_true rfl) dL_act_641)
                                        · have h := h2 hc
                                          clear h1 h2
                                          refine zr_iconst C 1 dL_act_636 (by decide) ?_
                                          refine zr_goto C 641 dL_act_637 (by decide) ?_
                                          exact zr_X (zr_zret C rfl (Or.inr rfl) ⟨_, rfl, h⟩ (Nat.le_of_ble_eq_true rfl) (Nat.le_of_ble_eq_true rfl) dL_act_641)
                    · obtain ⟨r260, rfl, rfl, rfl, h⟩ := hq
                      obtain ⟨h1, h2⟩ := h
                      refine zr_if_ne C 150 dL_act_143 (by decide) (fun hc => ?_) (fun hc => ?_)
                      · have h := h1 hc
                        clear h1 h2
                        refine zr_iconst C 0 dL_act_150 (by decide) ?_
                        exact zr_X (zr_zret C rfl (Or.inl rfl) ⟨_, rfl, h⟩ (Nat.le_of_ble_eq_true rfl) (Nat.le_of_ble_eq_true rfl) dL_act_151)
                      · have h := h2 hc
                        clear h1 h2
                        refine zr_iconst C 1 dL_act_146 (by decide) ?_
                        refine zr_goto C 151 dL_act_147 (by decide) ?_
                        exact zr_X (zr_zret C rfl (Or.inr rfl) ⟨_, rfl, h⟩ (Nat.le_of_ble_eq_true rfl) (Nat.le_of_ble_eq_true rfl) dL_act_151)
              by_cases hk3 : r7 = 3
              · have h := hs456 hk3
                refine zr_tableIn C 152 dL_act_47 (by rw [hk3]; decide) (by rw [hk3]; decide) (by rw [hk3]; rfl) (by decide) ?_
                refine zr_bipush C 99 dL_act_152 (by decide) ?_
                refine zr_iload C 1 dL_act_154 rfl ?_
                refine zr_iconst C 1 dL_act_156 (by decide) ?_
                refine zr_iadd C dL_act_157 ?_
                refine zr_iload_n C 5 dL_act_158 rfl rfl ?_
                refine zr_bipush C 6 dL_act_159 (by decide) ?_
                refine zr_ishr C dL_act_161 ?_
                refine zr_bipush C 9 dL_act_162 (by decide) ?_
                refine zr_callS (As := [.int (p1 >>> (6 &&& 31)), .int 9]) C (k_L_below h) ok_L_22 zq_677 rfl ⟨by decide, (Nat.le_of_ble_eq_true rfl)⟩ ⟨(Nat.le_of_ble_eq_true rfl), (Nat.le_of_ble_eq_true rfl)⟩ (Nat.le_of_ble_eq_true rfl) dL_act_164 (fun v453 U454 G455 hq => ?_)
                clear h
                · obtain ⟨r308, rfl, rfl, rfl, h⟩ := hq
                  refine zr_iadd C dL_act_167 ?_
                  refine zr_min C zq_713 zq_258 zq_29 zq_259 (by decide) (Nat.le_of_ble_eq_true rfl) (Nat.le_of_ble_eq_true rfl) (Nat.le_of_ble_eq_true rfl) dL_act_168 ?_
                  refine zr_topi (fun y309 hy310 => ?_)
                  have h := h y309 hy310
                  refine zr_istore C [(6, .int y309), (5, .int r6), (4, .int r4), (3, .int r2), (2, .int r1), (0, .ref a0), (1, .int p1)] dL_act_171 (by decide) rfl ?_
                  refine zr_bipush C 99 dL_act_173 (by decide) ?_
                  refine zr_iload C 0 dL_act_175 rfl ?_
                  refine zr_iload_n C 6 dL_act_177 rfl rfl ?_
                  refine zr_bipush C 7 dL_act_178 (by decide) ?_
                  refine zr_ishr C dL_act_180 ?_
                  refine zr_iconst C 5 dL_act_181 (by decide) ?_
                  refine zr_callS (As := [.int (p1 >>> (7 &&& 31)), .int 5]) C (k_L_below h) ok_L_22 zq_677 rfl ⟨by decide, (Nat.le_of_ble_eq_true rfl)⟩ ⟨(Nat.le_of_ble_eq_true rfl), (Nat.le_of_ble_eq_true rfl)⟩ (Nat.le_of_ble_eq_true rfl) dL_act_182 (fun v450 U451 G452 hq => ?_)
                  clear h
                  · obtain ⟨r311, rfl, rfl, rfl, h⟩ := hq
                    refine zr_iadd C dL_act_185 ?_
                    refine zr_min C zq_713 zq_258 zq_29 zq_259 (by decide) (Nat.le_of_ble_eq_true rfl) (Nat.le_of_ble_eq_true rfl) (Nat.le_of_ble_eq_true rfl) dL_act_186 ?_
                    refine zr_topi (fun y312 hy313 => ?_)
                    have h := h y312 hy313
                    refine zr_istore C [(7, .int y312), (6, .int y309), (5, .int r6), (4, .int r4), (3, .int r2), (2, .int r1), (0, .ref a0), (1, .int p1)] dL_act_189 (by decide) rfl ?_
                    refine zr_aload_n C 6 dL_act_191 rfl rfl ?_
                    refine zr_iload C 1 dL_act_192 rfl ?_
                    refine zr_iload C 0 dL_act_194 rfl ?_
                    refine zr_bipush C 10 dL_act_196 (by decide) ?_
                    refine zr_iload_n C 7 dL_act_198 rfl rfl ?_
                    refine zr_iconst C 4 dL_act_199 (by decide) ?_
                    refine zr_ishr C dL_act_200 ?_
                    refine zr_bipush C 90 dL_act_201 (by decide) ?_
                    refine zr_callS (As := [.int (p1 >>> (4 &&& 31)), .int 90]) C (k_L_below h) ok_L_22 zq_677 rfl ⟨by decide, (Nat.le_of_ble_eq_true rfl)⟩ ⟨(Nat.le_of_ble_eq_true rfl), (Nat.le_of_ble_eq_true rfl)⟩ (Nat.le_of_ble_eq_true rfl) dL_act_203 (fun v447 U448 G449 hq => ?_)
                    clear h
                    · obtain ⟨r314, rfl, rfl, rfl, h⟩ := hq
                      refine zr_iadd C dL_act_206 ?_
                      refine zr_callVX (As := [.int y309, .int y312, .int ((10 : Int32) + r314)]) (r := (RX4, TX4, 4)) C (k_X4_price h) ok_L_80 zq_715 zq_716 hT3 (by decide) rfl rfl ⟨by decide, (Nat.le_of_ble_eq_true rfl)⟩ ⟨(Nat.le_of_ble_eq_true rfl), (Nat.le_of_ble_eq_true rfl)⟩ (Nat.le_of_ble_eq_true rfl) dL_act_207 ?_ (fun v444 U445 G446 hq => ?_)
                      · clear h
                        intro E9 T9 F9 hq
                        obtain ⟨rfl, rfl, hq⟩ := hq
                        rcases hq with hq | hq
                        · obtain ⟨rfl, h⟩ := hq
                          refine zr_catch C "java/lang/IndexOutOfBoundsException" _ [⟨41, 125, 568, 109⟩, ⟨126, 151, 568, 109⟩] ⟨152, 283, 568, 109⟩ [⟨284, 328, 568, 109⟩, ⟨329, 394, 568, 109⟩, ⟨395, 431, 568, 109⟩, ⟨432, 463, 568, 109⟩, ⟨464, 496, 568, 109⟩, ⟨497, 567, 568, 109⟩, ⟨41, 125, 584, 111⟩, ⟨126, 151, 584, 111⟩, ⟨152, 283, 584, 111⟩, ⟨284, 328, 584, 111⟩, ⟨329, 394, 584, 111⟩, ⟨395, 431, 584, 111⟩, ⟨432, 463, 584, 111⟩, ⟨464, 496, 584, 111⟩, ⟨497, 567, 584, 111⟩] 568 hxt rfl (List.forall_mem_cons.mpr ⟨Or.inl (by decide), (List.forall_mem_cons.mpr ⟨Or.inl (by decide), (fun _ h9 => nomatch h9)⟩)⟩) (by decide) (by decide) zq_687 zq_275 rfl (fun q9 => ?_)
                          refine zr_astore C [(6, .ref q9), (7, .int y312), (5, .int r6), (4, .int r4), (3, .int r2), (2, .int r1), (0, .ref a0), (1, .int p1)] dL_act_568 (by decide) rfl ?_
                          refine zr_aload_n C 6 dL_act_570 rfl rfl ?_
                          refine zr_iconst C 2 dL_act_571 (by decide) ?_
                          refine zr_callV (As := [.int 2]) (r := (RX4, TX4, 4)) C (k_X4_many0 h) ok_L_36 zq_393 zq_394 hT3 (by decide) rfl rfl ⟨by decide, (Nat.le_of_ble_eq_true rfl)⟩ ⟨(Nat.le_of_ble_eq_true rfl), (Nat.le_of_ble_eq_true rfl)⟩ (Nat.le_of_ble_eq_true rfl) dL_act_572 (fun v425 U426 G427 hq => ?_)
                          clear h
                          · obtain ⟨r424, rfl, rfl, rfl, h⟩ := hq
                            obtain ⟨h1, h2⟩ := h
                            refine zr_if_ne C 582 dL_act_575 (by decide) (fun hc => ?_) (fun hc => ?_)
                            · have h := h1 hc
                              clear h1 h2
                              refine zr_iconst C 0 dL_act_582 (by decide) ?_
                              exact zr_X (zr_zret C rfl (Or.inl rfl) ⟨_, rfl, h⟩ (Nat.le_of_ble_eq_true rfl) (Nat.le_of_ble_eq_true rfl) dL_act_583)
                            · have h := h2 hc
                              clear h1 h2
                              refine zr_iconst C 1 dL_act_578 (by decide) ?_
                              refine zr_goto C 583 dL_act_579 (by decide) ?_
                              exact zr_X (zr_zret C rfl (Or.inr rfl) ⟨_, rfl, h⟩ (Nat.le_of_ble_eq_true rfl) (Nat.le_of_ble_eq_true rfl) dL_act_583)
                        · obtain ⟨rfl, h⟩ := hq
                          refine zr_catch C "java/lang/IllegalStateException" _ [⟨41, 125, 568, 109⟩, ⟨126, 151, 568, 109⟩, ⟨152, 283, 568, 109⟩, ⟨284, 328, 568, 109⟩, ⟨329, 394, 568, 109⟩, ⟨395, 431, 568, 109⟩, ⟨432, 463, 568, 109⟩, ⟨464, 496, 568, 109⟩, ⟨497, 567, 568, 109⟩, ⟨41, 125, 584, 111⟩, ⟨126, 151, 584, 111⟩] ⟨152, 283, 584, 111⟩ [⟨284, 328, 584, 111⟩, ⟨329, 394, 584, 111⟩, ⟨395, 431, 584, 111⟩, ⟨432, 463, 584, 111⟩, ⟨464, 496, 584, 111⟩, ⟨497, 567, 584, 111⟩] 584 hxt rfl (List.forall_mem_cons.mpr ⟨Or.inl (by decide), (List.forall_mem_cons.mpr ⟨Or.inl (by decide), (List.forall_mem_cons.mpr ⟨Or.inr ⟨by decide, "java/lang/IndexOutOfBoundsException", zq_687, by decide +kernel⟩, (List.forall_mem_cons.mpr ⟨Or.inl (by decide), (List.forall_mem_cons.mpr ⟨Or.inl (by decide), (List.forall_mem_cons.mpr ⟨Or.inl (by decide), (List.forall_mem_cons.mpr ⟨Or.inl (by decide), (List.forall_mem_cons.mpr ⟨Or.inl (by decide), (List.forall_mem_cons.mpr ⟨Or.inl (by decide), (List.forall_mem_cons.mpr ⟨Or.inl (by decide), (List.forall_mem_cons.mpr ⟨Or.inl (by decide), (fun _ h9 => nomatch h9)⟩)⟩)⟩)⟩)⟩)⟩)⟩)⟩)⟩)⟩)⟩) (by decide) (by decide) zq_688 zq_117 rfl (fun q9 => ?_)
                          refine zr_astore C [(6, .ref q9), (7, .int y312), (5, .int r6), (4, .int r4), (3, .int r2), (2, .int r1), (0, .ref a0), (1, .int p1)] dL_act_584 (by decide) rfl ?_
                          refine zr_iload_n C 7 dL_act_586 rfl rfl ?_
                          refine zr_bipush C 13 dL_act_587 (by decide) ?_
                          refine zr_callS (As := [.int p1, .int 13]) C (k_L_below h) ok_L_22 zq_677 rfl ⟨by decide, (Nat.le_of_ble_eq_true rfl)⟩ ⟨(Nat.le_of_ble_eq_true rfl), (Nat.le_of_ble_eq_true rfl)⟩ (Nat.le_of_ble_eq_true rfl) dL_act_589 (fun v441 U442 G443 hq => ?_)
                          clear h
                          · obtain ⟨r428, rfl, rfl, rfl, h⟩ := hq
                            refine zr_iconst C 2 dL_act_592 (by decide) ?_
                            obtain ⟨h1, h2⟩ := h
                            refine zr_icmp_eq C 640 dL_act_593 (by decide) (fun hc => ?_) (fun hc => ?_)
                            · have h := h1 hc
                              clear h1 h2
                              refine zr_iconst C 0 dL_act_640 (by decide) ?_
                              exact zr_X (zr_zret C rfl (Or.inl rfl) ⟨_, rfl, h⟩ (Nat.le_of_ble_eq_true rfl) (Nat.le_of_ble_eq_true rfl) dL_act_641)
                            · have h := h2 hc
                              clear h1 h2
                              refine zr_iload_n C 7 dL_act_596 rfl rfl ?_
                              refine zr_bipush C 13 dL_act_597 (by decide) ?_
                              refine zr_callS (As := [.int p1, .int 13]) C (k_L_below h) ok_L_22 zq_677 rfl ⟨by decide, (Nat.le_of_ble_eq_true rfl)⟩ ⟨(Nat.le_of_ble_eq_true rfl), (Nat.le_of_ble_eq_true rfl)⟩ (Nat.le_of_ble_eq_true rfl) dL_act_599 (fun v438 U439 G440 hq => ?_)
                              clear h
                              · obtain ⟨r429, rfl, rfl, rfl, h⟩ := hq
                                refine zr_bipush C 6 dL_act_602 (by decide) ?_
                                obtain ⟨h1, h2⟩ := h
                                refine zr_icmp_eq C 640 dL_act_604 (by decide) (fun hc => ?_) (fun hc => ?_)
                                · have h := h1 hc
                                  clear h1 h2
                                  refine zr_iconst C 0 dL_act_640 (by decide) ?_
                                  exact zr_X (zr_zret C rfl (Or.inl rfl) ⟨_, rfl, h⟩ (Nat.le_of_ble_eq_true rfl) (Nat.le_of_ble_eq_true rfl) dL_act_641)
                                · have h := h2 hc
                                  clear h1 h2
                                  refine zr_iload_n C 7 dL_act_607 rfl rfl ?_
                                  refine zr_bipush C 13 dL_act_608 (by decide) ?_
                                  refine zr_callS (As := [.int p1, .int 13]) C (k_L_below h) ok_L_22 zq_677 rfl ⟨by decide, (Nat.le_of_ble_eq_true rfl)⟩ ⟨(Nat.le_of_ble_eq_true rfl), (Nat.le_of_ble_eq_true rfl)⟩ (Nat.le_of_ble_eq_true rfl) dL_act_610 (fun v435 U436 G437 hq => ?_)
                                  clear h
                                  · obtain ⟨r430, rfl, rfl, rfl, h⟩ := hq
                                    refine zr_bipush C 9 dL_act_613 (by decide) ?_
                                    obtain ⟨h1, h2⟩ := h
                                    refine zr_icmp_eq C 640 dL_act_615 (by decide) (fun hc => ?_) (fun hc => ?_)
                                    · have h := h1 hc
                                      clear h1 h2
                                      refine zr_iconst C 0 dL_act_640 (by decide) ?_
                                      exact zr_X (zr_zret C rfl (Or.inl rfl) ⟨_, rfl, h⟩ (Nat.le_of_ble_eq_true rfl) (Nat.le_of_ble_eq_true rfl) dL_act_641)
                                    · have h := h2 hc
                                      clear h1 h2
                                      refine zr_iload_n C 7 dL_act_618 rfl rfl ?_
                                      refine zr_bipush C 13 dL_act_619 (by decide) ?_
                                      refine zr_callS (As := [.int p1, .int 13]) C (k_L_below h) ok_L_22 zq_677 rfl ⟨by decide, (Nat.le_of_ble_eq_true rfl)⟩ ⟨(Nat.le_of_ble_eq_true rfl), (Nat.le_of_ble_eq_true rfl)⟩ (Nat.le_of_ble_eq_true rfl) dL_act_621 (fun v432 U433 G434 hq => ?_)
                                      clear h
                                      · obtain ⟨r431, rfl, rfl, rfl, h⟩ := hq
                                        refine zr_bipush C 10 dL_act_624 (by decide) ?_
                                        obtain ⟨h1, h2⟩ := h
                                        refine zr_icmp_lt C 636 dL_act_626 (by decide) (fun hc => ?_) (fun hc => ?_)
                                        · have h := h1 hc
                                          clear h1 h2
                                          refine zr_iconst C 1 dL_act_636 (by decide) ?_
                                          refine zr_goto C 641 dL_act_637 (by decide) ?_
                                          exact zr_X (zr_zret C rfl (Or.inr rfl) ⟨_, rfl, h⟩ (Nat.le_of_ble_eq_true rfl) (Nat.le_of_ble_eq_true rfl) dL_act_641)
                                        · have h := h2 hc
                                          clear h1 h2
                                          refine zr_iload C 3 dL_act_629 rfl ?_
                                          refine zr_bipush C 99 dL_act_631 (by decide) ?_
                                          obtain ⟨h1, h2⟩ := h
                                          refine zr_icmp_ne C 640 dL_act_633 (by decide) (fun hc => ?_) (fun hc => ?_)
                                          · have h := h1 hc
                                            clear h1 h2
                                            refine zr_iconst C 0 dL_act_640 (by decide) ?_
                                            exact zr_X (zr_zret C rfl (Or.inl rfl) ⟨_, rfl, h⟩ (Nat.le_of_ble_eq_true rfl) (Nat.le_of_ble_eq_true rfl) dL_act_641)
                                          · have h := h2 hc
                                            clear h1 h2
                                            refine zr_iconst C 1 dL_act_636 (by decide) ?_
                                            refine zr_goto C 641 dL_act_637 (by decide) ?_
                                            exact zr_X (zr_zret C rfl (Or.inr rfl) ⟨_, rfl, h⟩ (Nat.le_of_ble_eq_true rfl) (Nat.le_of_ble_eq_true rfl) dL_act_641)
                      · obtain ⟨r315, rfl, rfl, rfl, h⟩ := hq
                        refine zr_istore C [(8, .int r315), (7, .int y312), (6, .int y309), (5, .int r6), (4, .int r4), (3, .int r2), (2, .int r1), (0, .ref a0), (1, .int p1)] dL_act_210 (by decide) rfl ?_
                        refine zr_aload_n C 7 dL_act_212 rfl rfl ?_
                        refine zr_iconst C 2 dL_act_213 (by decide) ?_
                        refine zr_callVX (As := [.int 2]) (r := (RX4, TX4, 4)) C (k_X4_many h) ok_L_36 zq_393 zq_394 hT3 (by decide) rfl rfl ⟨by decide, (Nat.le_of_ble_eq_true rfl)⟩ ⟨(Nat.le_of_ble_eq_true rfl), (Nat.le_of_ble_eq_true rfl)⟩ (Nat.le_of_ble_eq_true rfl) dL_act_214 ?_ (fun v421 U422 G423 hq => ?_)
                        · clear h
                          intro E9 T9 F9 hq
                          obtain ⟨rfl, rfl, hq⟩ := hq
                          rcases hq with hq | hq
                          · obtain ⟨rfl, h⟩ := hq
                            refine zr_catch C "java/lang/IndexOutOfBoundsException" _ [⟨41, 125, 568, 109⟩, ⟨126, 151, 568, 109⟩] ⟨152, 283, 568, 109⟩ [⟨284, 328, 568, 109⟩, ⟨329, 394, 568, 109⟩, ⟨395, 431, 568, 109⟩, ⟨432, 463, 568, 109⟩, ⟨464, 496, 568, 109⟩, ⟨497, 567, 568, 109⟩, ⟨41, 125, 584, 111⟩, ⟨126, 151, 584, 111⟩, ⟨152, 283, 584, 111⟩, ⟨284, 328, 584, 111⟩, ⟨329, 394, 584, 111⟩, ⟨395, 431, 584, 111⟩, ⟨432, 463, 584, 111⟩, ⟨464, 496, 584, 111⟩, ⟨497, 567, 584, 111⟩] 568 hxt rfl (List.forall_mem_cons.mpr ⟨Or.inl (by decide), (List.forall_mem_cons.mpr ⟨Or.inl (by decide), (fun _ h9 => nomatch h9)⟩)⟩) (by decide) (by decide) zq_687 zq_275 rfl (fun q9 => ?_)
                            refine zr_astore C [(6, .ref q9), (8, .int r315), (7, .int y312), (5, .int r6), (4, .int r4), (3, .int r2), (2, .int r1), (0, .ref a0), (1, .int p1)] dL_act_568 (by decide) rfl ?_
                            refine zr_aload_n C 7 dL_act_570 rfl rfl ?_
                            refine zr_iconst C 2 dL_act_571 (by decide) ?_
                            refine zr_callV (As := [.int 2]) (r := (RX4, TX4, 4)) C (k_X4_many0 h) ok_L_36 zq_393 zq_394 hT3 (by decide) rfl rfl ⟨by decide, (Nat.le_of_ble_eq_true rfl)⟩ ⟨(Nat.le_of_ble_eq_true rfl), (Nat.le_of_ble_eq_true rfl)⟩ (Nat.le_of_ble_eq_true rfl) dL_act_572 (fun v402 U403 G404 hq => ?_)
                            clear h
                            · obtain ⟨r401, rfl, rfl, rfl, h⟩ := hq
                              obtain ⟨h1, h2⟩ := h
                              refine zr_if_ne C 582 dL_act_575 (by decide) (fun hc => ?_) (fun hc => ?_)
                              · have h := h1 hc
                                clear h1 h2
                                refine zr_iconst C 0 dL_act_582 (by decide) ?_
                                exact zr_X (zr_zret C rfl (Or.inl rfl) ⟨_, rfl, h⟩ (Nat.le_of_ble_eq_true rfl) (Nat.le_of_ble_eq_true rfl) dL_act_583)
                              · have h := h2 hc
                                clear h1 h2
                                refine zr_iconst C 1 dL_act_578 (by decide) ?_
                                refine zr_goto C 583 dL_act_579 (by decide) ?_
                                exact zr_X (zr_zret C rfl (Or.inr rfl) ⟨_, rfl, h⟩ (Nat.le_of_ble_eq_true rfl) (Nat.le_of_ble_eq_true rfl) dL_act_583)
                          · obtain ⟨rfl, h⟩ := hq
                            refine zr_catch C "java/lang/IllegalStateException" _ [⟨41, 125, 568, 109⟩, ⟨126, 151, 568, 109⟩, ⟨152, 283, 568, 109⟩, ⟨284, 328, 568, 109⟩, ⟨329, 394, 568, 109⟩, ⟨395, 431, 568, 109⟩, ⟨432, 463, 568, 109⟩, ⟨464, 496, 568, 109⟩, ⟨497, 567, 568, 109⟩, ⟨41, 125, 584, 111⟩, ⟨126, 151, 584, 111⟩] ⟨152, 283, 584, 111⟩ [⟨284, 328, 584, 111⟩, ⟨329, 394, 584, 111⟩, ⟨395, 431, 584, 111⟩, ⟨432, 463, 584, 111⟩, ⟨464, 496, 584, 111⟩, ⟨497, 567, 584, 111⟩] 584 hxt rfl (List.forall_mem_cons.mpr ⟨Or.inl (by decide), (List.forall_mem_cons.mpr ⟨Or.inl (by decide), (List.forall_mem_cons.mpr ⟨Or.inr ⟨by decide, "java/lang/IndexOutOfBoundsException", zq_687, by decide +kernel⟩, (List.forall_mem_cons.mpr ⟨Or.inl (by decide), (List.forall_mem_cons.mpr ⟨Or.inl (by decide), (List.forall_mem_cons.mpr ⟨Or.inl (by decide), (List.forall_mem_cons.mpr ⟨Or.inl (by decide), (List.forall_mem_cons.mpr ⟨Or.inl (by decide), (List.forall_mem_cons.mpr ⟨Or.inl (by decide), (List.forall_mem_cons.mpr ⟨Or.inl (by decide), (List.forall_mem_cons.mpr ⟨Or.inl (by decide), (fun _ h9 => nomatch h9)⟩)⟩)⟩)⟩)⟩)⟩)⟩)⟩)⟩)⟩)⟩) (by decide) (by decide) zq_688 zq_117 rfl (fun q9 => ?_)
                            refine zr_astore C [(6, .ref q9), (8, .int r315), (7, .int y312), (5, .int r6), (4, .int r4), (3, .int r2), (2, .int r1), (0, .ref a0), (1, .int p1)] dL_act_584 (by decide) rfl ?_
                            refine zr_iload_n C 8 dL_act_586 rfl rfl ?_
                            refine zr_bipush C 13 dL_act_587 (by decide) ?_
                            refine zr_callS (As := [.int p1, .int 13]) C (k_L_below h) ok_L_22 zq_677 rfl ⟨by decide, (Nat.le_of_ble_eq_true rfl)⟩ ⟨(Nat.le_of_ble_eq_true rfl), (Nat.le_of_ble_eq_true rfl)⟩ (Nat.le_of_ble_eq_true rfl) dL_act_589 (fun v418 U419 G420 hq => ?_)
                            clear h
                            · obtain ⟨r405, rfl, rfl, rfl, h⟩ := hq
                              refine zr_iconst C 2 dL_act_592 (by decide) ?_
                              obtain ⟨h1, h2⟩ := h
                              refine zr_icmp_eq C 640 dL_act_593 (by decide) (fun hc => ?_) (fun hc => ?_)
                              · have h := h1 hc
                                clear h1 h2
                                refine zr_iconst C 0 dL_act_640 (by decide) ?_
                                exact zr_X (zr_zret C rfl (Or.inl rfl) ⟨_, rfl, h⟩ (Nat.le_of_ble_eq_true rfl) (Nat.le_of_ble_eq_true rfl) dL_act_641)
                              · have h := h2 hc
                                clear h1 h2
                                refine zr_iload_n C 8 dL_act_596 rfl rfl ?_
                                refine zr_bipush C 13 dL_act_597 (by decide) ?_
                                refine zr_callS (As := [.int p1, .int 13]) C (k_L_below h) ok_L_22 zq_677 rfl ⟨by decide, (Nat.le_of_ble_eq_true rfl)⟩ ⟨(Nat.le_of_ble_eq_true rfl), (Nat.le_of_ble_eq_true rfl)⟩ (Nat.le_of_ble_eq_true rfl) dL_act_599 (fun v415 U416 G417 hq => ?_)
                                clear h
                                · obtain ⟨r406, rfl, rfl, rfl, h⟩ := hq
                                  refine zr_bipush C 6 dL_act_602 (by decide) ?_
                                  obtain ⟨h1, h2⟩ := h
                                  refine zr_icmp_eq C 640 dL_act_604 (by decide) (fun hc => ?_) (fun hc => ?_)
                                  · have h := h1 hc
                                    clear h1 h2
                                    refine zr_iconst C 0 dL_act_640 (by decide) ?_
                                    exact zr_X (zr_zret C rfl (Or.inl rfl) ⟨_, rfl, h⟩ (Nat.le_of_ble_eq_true rfl) (Nat.le_of_ble_eq_true rfl) dL_act_641)
                                  · have h := h2 hc
                                    clear h1 h2
                                    refine zr_iload_n C 8 dL_act_607 rfl rfl ?_
                                    refine zr_bipush C 13 dL_act_608 (by decide) ?_
                                    refine zr_callS (As := [.int p1, .int 13]) C (k_L_below h) ok_L_22 zq_677 rfl ⟨by decide, (Nat.le_of_ble_eq_true rfl)⟩ ⟨(Nat.le_of_ble_eq_true rfl), (Nat.le_of_ble_eq_true rfl)⟩ (Nat.le_of_ble_eq_true rfl) dL_act_610 (fun v412 U413 G414 hq => ?_)
                                    clear h
                                    · obtain ⟨r407, rfl, rfl, rfl, h⟩ := hq
                                      refine zr_bipush C 9 dL_act_613 (by decide) ?_
                                      obtain ⟨h1, h2⟩ := h
                                      refine zr_icmp_eq C 640 dL_act_615 (by decide) (fun hc => ?_) (fun hc => ?_)
                                      · have h := h1 hc
                                        clear h1 h2
                                        refine zr_iconst C 0 dL_act_640 (by decide) ?_
                                        exact zr_X (zr_zret C rfl (Or.inl rfl) ⟨_, rfl, h⟩ (Nat.le_of_ble_eq_true rfl) (Nat.le_of_ble_eq_true rfl) dL_act_641)
                                      · have h := h2 hc
                                        clear h1 h2
                                        refine zr_iload_n C 8 dL_act_618 rfl rfl ?_
                                        refine zr_bipush C 13 dL_act_619 (by decide) ?_
                                        refine zr_callS (As := [.int p1, .int 13]) C (k_L_below h) ok_L_22 zq_677 rfl ⟨by decide, (Nat.le_of_ble_eq_true rfl)⟩ ⟨(Nat.le_of_ble_eq_true rfl), (Nat.le_of_ble_eq_true rfl)⟩ (Nat.le_of_ble_eq_true rfl) dL_act_621 (fun v409 U410 G411 hq => ?_)
                                        clear h
                                        · obtain ⟨r408, rfl, rfl, rfl, h⟩ := hq
                                          refine zr_bipush C 10 dL_act_624 (by decide) ?_
                                          obtain ⟨h1, h2⟩ := h
                                          refine zr_icmp_lt C 636 dL_act_626 (by decide) (fun hc => ?_) (fun hc => ?_)
                                          · have h := h1 hc
                                            clear h1 h2
                                            refine zr_iconst C 1 dL_act_636 (by decide) ?_
                                            refine zr_goto C 641 dL_act_637 (by decide) ?_
                                            exact zr_X (zr_zret C rfl (Or.inr rfl) ⟨_, rfl, h⟩ (Nat.le_of_ble_eq_true rfl) (Nat.le_of_ble_eq_true rfl) dL_act_641)
                                          · have h := h2 hc
                                            clear h1 h2
                                            refine zr_iload C 4 dL_act_629 rfl ?_
                                            refine zr_bipush C 99 dL_act_631 (by decide) ?_
                                            obtain ⟨h1, h2⟩ := h
                                            refine zr_icmp_ne C 640 dL_act_633 (by decide) (fun hc => ?_) (fun hc => ?_)
                                            · have h := h1 hc
                                              clear h1 h2
                                              refine zr_iconst C 0 dL_act_640 (by decide) ?_
                                              exact zr_X (zr_zret C rfl (Or.inl rfl) ⟨_, rfl, h⟩ (Nat.le_of_ble_eq_true rfl) (Nat.le_of_ble_eq_true rfl) dL_act_641)
                                            · have h := h2 hc
                                              clear h1 h2
                                              refine zr_iconst C 1 dL_act_636 (by decide) ?_
                                              refine zr_goto C 641 dL_act_637 (by decide) ?_
                                              exact zr_X (zr_zret C rfl (Or.inr rfl) ⟨_, rfl, h⟩ (Nat.le_of_ble_eq_true rfl) (Nat.le_of_ble_eq_true rfl) dL_act_641)
                        · obtain ⟨r316, rfl, rfl, rfl, h⟩ := hq
                          refine zr_istore C [(9, .int r316), (8, .int r315), (7, .int y312), (6, .int y309), (5, .int r6), (4, .int r4), (3, .int r2), (2, .int r1), (0, .ref a0), (1, .int p1)] dL_act_217 (by decide) rfl ?_
                          refine zr_aload_n C 8 dL_act_219 rfl rfl ?_
                          refine zr_iload_n C 7 dL_act_220 rfl rfl ?_
                          refine zr_iload_n C 6 dL_act_221 rfl rfl ?_
                          refine zr_iload_n C 9 dL_act_222 rfl rfl ?_
                          refine zr_iconst C 4 dL_act_223 (by decide) ?_
                          refine zr_ishr C dL_act_224 ?_
                          refine zr_iconst C 2 dL_act_225 (by decide) ?_
                          refine zr_callS (As := [.int (p1 >>> (4 &&& 31)), .int 2]) C (k_L_below h) ok_L_22 zq_677 rfl ⟨by decide, (Nat.le_of_ble_eq_true rfl)⟩ ⟨(Nat.le_of_ble_eq_true rfl), (Nat.le_of_ble_eq_true rfl)⟩ (Nat.le_of_ble_eq_true rfl) dL_act_226 (fun v398 U399 G400 hq => ?_)
                          clear h
                          · obtain ⟨r317, rfl, rfl, rfl, h⟩ := hq
                            refine zr_iload C 3 dL_act_229 rfl ?_
                            refine zr_iload C 2 dL_act_231 rfl ?_
                            refine zr_bipush C 10 dL_act_233 (by decide) ?_
                            refine zr_iload_n C 9 dL_act_235 rfl rfl ?_
                            refine zr_iconst C 4 dL_act_236 (by decide) ?_
                            refine zr_ishr C dL_act_237 ?_
                            refine zr_bipush C 90 dL_act_238 (by decide) ?_
                            refine zr_callS (As := [.int (p1 >>> (4 &&& 31)), .int 90]) C (k_L_below h) ok_L_22 zq_677 rfl ⟨by decide, (Nat.le_of_ble_eq_true rfl)⟩ ⟨(Nat.le_of_ble_eq_true rfl), (Nat.le_of_ble_eq_true rfl)⟩ (Nat.le_of_ble_eq_true rfl) dL_act_240 (fun v395 U396 G397 hq => ?_)
                            clear h
                            · obtain ⟨r318, rfl, rfl, rfl, h⟩ := hq
                              refine zr_iadd C dL_act_243 ?_
                              refine zr_callVX (As := [.int r1, .int r2, .int r317, .int y309, .int y312, .int ((10 : Int32) + r318)]) (r := (RX4, TX4, 4)) C (k_X4_book h) ok_L_84 zq_731 zq_732 hT3 (by decide) rfl rfl ⟨by decide, (Nat.le_of_ble_eq_true rfl)⟩ ⟨(Nat.le_of_ble_eq_true rfl), (Nat.le_of_ble_eq_true rfl)⟩ (Nat.le_of_ble_eq_true rfl) dL_act_244 ?_ (fun v392 U393 G394 hq => ?_)
                              · clear h
                                intro E9 T9 F9 hq
                                rcases hq with hq | hq
                                · obtain ⟨rfl, h⟩ := hq
                                  refine zr_catch C "java/lang/IndexOutOfBoundsException" _ [⟨41, 125, 568, 109⟩, ⟨126, 151, 568, 109⟩] ⟨152, 283, 568, 109⟩ [⟨284, 328, 568, 109⟩, ⟨329, 394, 568, 109⟩, ⟨395, 431, 568, 109⟩, ⟨432, 463, 568, 109⟩, ⟨464, 496, 568, 109⟩, ⟨497, 567, 568, 109⟩, ⟨41, 125, 584, 111⟩, ⟨126, 151, 584, 111⟩, ⟨152, 283, 584, 111⟩, ⟨284, 328, 584, 111⟩, ⟨329, 394, 584, 111⟩, ⟨395, 431, 584, 111⟩, ⟨432, 463, 584, 111⟩, ⟨464, 496, 584, 111⟩, ⟨497, 567, 584, 111⟩] 568 hxt rfl (List.forall_mem_cons.mpr ⟨Or.inl (by decide), (List.forall_mem_cons.mpr ⟨Or.inl (by decide), (fun _ h9 => nomatch h9)⟩)⟩) (by decide) (by decide) zq_687 zq_275 rfl (fun q9 => ?_)
                                  refine zr_astore C [(6, .ref q9), (9, .int r316), (8, .int r315), (7, .int y312), (5, .int r6), (4, .int r4), (3, .int r2), (2, .int r1), (0, .ref a0), (1, .int p1)] dL_act_568 (by decide) rfl ?_
                                  refine zr_aload_n C 8 dL_act_570 rfl rfl ?_
                                  refine zr_iconst C 2 dL_act_571 (by decide) ?_
                                  obtain ⟨hT371, h⟩ := h
                                  refine zr_callV (As := [.int 2]) (r := (RX4, TX4, 4)) C (k_X4_many0 h) ok_L_36 zq_393 zq_394 hT371 (by decide) rfl rfl ⟨by decide, (Nat.le_of_ble_eq_true rfl)⟩ ⟨(Nat.le_of_ble_eq_true rfl), (Nat.le_of_ble_eq_true rfl)⟩ (Nat.le_of_ble_eq_true rfl) dL_act_572 (fun v373 U374 G375 hq => ?_)
                                  clear h
                                  · obtain ⟨r372, rfl, rfl, rfl, h⟩ := hq
                                    obtain ⟨h1, h2⟩ := h
                                    refine zr_if_ne C 582 dL_act_575 (by decide) (fun hc => ?_) (fun hc => ?_)
                                    · have h := h1 hc
                                      clear h1 h2
                                      refine zr_iconst C 0 dL_act_582 (by decide) ?_
                                      exact zr_X (zr_zret C rfl (Or.inl rfl) ⟨_, rfl, h⟩ (Nat.le_of_ble_eq_true rfl) (Nat.le_of_ble_eq_true rfl) dL_act_583)
                                    · have h := h2 hc
                                      clear h1 h2
                                      refine zr_iconst C 1 dL_act_578 (by decide) ?_
                                      refine zr_goto C 583 dL_act_579 (by decide) ?_
                                      exact zr_X (zr_zret C rfl (Or.inr rfl) ⟨_, rfl, h⟩ (Nat.le_of_ble_eq_true rfl) (Nat.le_of_ble_eq_true rfl) dL_act_583)
                                · obtain ⟨rfl, h⟩ := hq
                                  refine zr_catch C "java/lang/IllegalStateException" _ [⟨41, 125, 568, 109⟩, ⟨126, 151, 568, 109⟩, ⟨152, 283, 568, 109⟩, ⟨284, 328, 568, 109⟩, ⟨329, 394, 568, 109⟩, ⟨395, 431, 568, 109⟩, ⟨432, 463, 568, 109⟩, ⟨464, 496, 568, 109⟩, ⟨497, 567, 568, 109⟩, ⟨41, 125, 584, 111⟩, ⟨126, 151, 584, 111⟩] ⟨152, 283, 584, 111⟩ [⟨284, 328, 584, 111⟩, ⟨329, 394, 584, 111⟩, ⟨395, 431, 584, 111⟩, ⟨432, 463, 584, 111⟩, ⟨464, 496, 584, 111⟩, ⟨497, 567, 584, 111⟩] 584 hxt rfl (List.forall_mem_cons.mpr ⟨Or.inl (by decide), (List.forall_mem_cons.mpr ⟨Or.inl (by decide), (List.forall_mem_cons.mpr ⟨Or.inr ⟨by decide, "java/lang/IndexOutOfBoundsException", zq_687, by decide +kernel⟩, (List.forall_mem_cons.mpr ⟨Or.inl (by decide), (List.forall_mem_cons.mpr ⟨Or.inl (by decide), (List.forall_mem_cons.mpr ⟨Or.inl (by decide), (List.forall_mem_cons.mpr ⟨Or.inl (by decide), (List.forall_mem_cons.mpr ⟨Or.inl (by decide), (List.forall_mem_cons.mpr ⟨Or.inl (by decide), (List.forall_mem_cons.mpr ⟨Or.inl (by decide), (List.forall_mem_cons.mpr ⟨Or.inl (by decide), (fun _ h9 => nomatch h9)⟩)⟩)⟩)⟩)⟩)⟩)⟩)⟩)⟩)⟩)⟩) (by decide) (by decide) zq_688 zq_117 rfl (fun q9 => ?_)
                                  refine zr_astore C [(6, .ref q9), (9, .int r316), (8, .int r315), (7, .int y312), (5, .int r6), (4, .int r4), (3, .int r2), (2, .int r1), (0, .ref a0), (1, .int p1)] dL_act_584 (by decide) rfl ?_
                                  refine zr_iload_n C 9 dL_act_586 rfl rfl ?_
                                  refine zr_bipush C 13 dL_act_587 (by decide) ?_
                                  refine zr_callS (As := [.int p1, .int 13]) C (k_L_below h) ok_L_22 zq_677 rfl ⟨by decide, (Nat.le_of_ble_eq_true rfl)⟩ ⟨(Nat.le_of_ble_eq_true rfl), (Nat.le_of_ble_eq_true rfl)⟩ (Nat.le_of_ble_eq_true rfl) dL_act_589 (fun v389 U390 G391 hq => ?_)
                                  clear h
                                  · obtain ⟨r376, rfl, rfl, rfl, h⟩ := hq
                                    refine zr_iconst C 2 dL_act_592 (by decide) ?_
                                    obtain ⟨h1, h2⟩ := h
                                    refine zr_icmp_eq C 640 dL_act_593 (by decide) (fun hc => ?_) (fun hc => ?_)
                                    · have h := h1 hc
                                      clear h1 h2
                                      refine zr_iconst C 0 dL_act_640 (by decide) ?_
                                      exact zr_X (zr_zret C rfl (Or.inl rfl) ⟨_, rfl, h⟩ (Nat.le_of_ble_eq_true rfl) (Nat.le_of_ble_eq_true rfl) dL_act_641)
                                    · have h := h2 hc
                                      clear h1 h2
                                      refine zr_iload_n C 9 dL_act_596 rfl rfl ?_
                                      refine zr_bipush C 13 dL_act_597 (by decide) ?_
                                      refine zr_callS (As := [.int p1, .int 13]) C (k_L_below h) ok_L_22 zq_677 rfl ⟨by decide, (Nat.le_of_ble_eq_true rfl)⟩ ⟨(Nat.le_of_ble_eq_true rfl), (Nat.le_of_ble_eq_true rfl)⟩ (Nat.le_of_ble_eq_true rfl) dL_act_599 (fun v386 U387 G388 hq => ?_)
                                      clear h
                                      · obtain ⟨r377, rfl, rfl, rfl, h⟩ := hq
                                        refine zr_bipush C 6 dL_act_602 (by decide) ?_
                                        obtain ⟨h1, h2⟩ := h
                                        refine zr_icmp_eq C 640 dL_act_604 (by decide) (fun hc => ?_) (fun hc => ?_)
                                        · have h := h1 hc
                                          clear h1 h2
                                          refine zr_iconst C 0 dL_act_640 (by decide) ?_
                                          exact zr_X (zr_zret C rfl (Or.inl rfl) ⟨_, rfl, h⟩ (Nat.le_of_ble_eq_true rfl) (Nat.le_of_ble_eq_true rfl) dL_act_641)
                                        · have h := h2 hc
                                          clear h1 h2
                                          refine zr_iload_n C 9 dL_act_607 rfl rfl ?_
                                          refine zr_bipush C 13 dL_act_608 (by decide) ?_
                                          refine zr_callS (As := [.int p1, .int 13]) C (k_L_below h) ok_L_22 zq_677 rfl ⟨by decide, (Nat.le_of_ble_eq_true rfl)⟩ ⟨(Nat.le_of_ble_eq_true rfl), (Nat.le_of_ble_eq_true rfl)⟩ (Nat.le_of_ble_eq_true rfl) dL_act_610 (fun v383 U384 G385 hq => ?_)
                                          clear h
                                          · obtain ⟨r378, rfl, rfl, rfl, h⟩ := hq
                                            refine zr_bipush C 9 dL_act_613 (by decide) ?_
                                            obtain ⟨h1, h2⟩ := h
                                            refine zr_icmp_eq C 640 dL_act_615 (by decide) (fun hc => ?_) (fun hc => ?_)
                                            · have h := h1 hc
                                              clear h1 h2
                                              refine zr_iconst C 0 dL_act_640 (by decide) ?_
                                              exact zr_X (zr_zret C rfl (Or.inl rfl) ⟨_, rfl, h⟩ (Nat.le_of_ble_eq_true rfl) (Nat.le_of_ble_eq_true rfl) dL_act_641)
                                            · have h := h2 hc
                                              clear h1 h2
                                              refine zr_iload_n C 9 dL_act_618 rfl rfl ?_
                                              refine zr_bipush C 13 dL_act_619 (by decide) ?_
                                              refine zr_callS (As := [.int p1, .int 13]) C (k_L_below h) ok_L_22 zq_677 rfl ⟨by decide, (Nat.le_of_ble_eq_true rfl)⟩ ⟨(Nat.le_of_ble_eq_true rfl), (Nat.le_of_ble_eq_true rfl)⟩ (Nat.le_of_ble_eq_true rfl) dL_act_621 (fun v380 U381 G382 hq => ?_)
                                              clear h
                                              · obtain ⟨r379, rfl, rfl, rfl, h⟩ := hq
                                                refine zr_bipush C 10 dL_act_624 (by decide) ?_
                                                obtain ⟨h1, h2⟩ := h
                                                refine zr_icmp_lt C 636 dL_act_626 (by decide) (fun hc => ?_) (fun hc => ?_)
                                                · have h := h1 hc
                                                  clear h1 h2
                                                  refine zr_iconst C 1 dL_act_636 (by decide) ?_
                                                  refine zr_goto C 641 dL_act_637 (by decide) ?_
                                                  exact zr_X (zr_zret C rfl (Or.inr rfl) ⟨_, rfl, h⟩ (Nat.le_of_ble_eq_true rfl) (Nat.le_of_ble_eq_true rfl) dL_act_641)
                                                · have h := h2 hc
                                                  clear h1 h2
                                                  refine zr_iload C 5 dL_act_629 rfl ?_
                                                  refine zr_bipush C 99 dL_act_631 (by decide) ?_
                                                  obtain ⟨h1, h2⟩ := h
                                                  refine zr_icmp_ne C 640 dL_act_633 (by decide) (fun hc => ?_) (fun hc => ?_)
                                                  · have h := h1 hc
                                                    clear h1 h2
                                                    refine zr_iconst C 0 dL_act_640 (by decide) ?_
                                                    exact zr_X (zr_zret C rfl (Or.inl rfl) ⟨_, rfl, h⟩ (Nat.le_of_ble_eq_true rfl) (Nat.le_of_ble_eq_true rfl) dL_act_641)
                                                  · have h := h2 hc
                                                    clear h1 h2
                                                    refine zr_iconst C 1 dL_act_636 (by decide) ?_
                                                    refine zr_goto C 641 dL_act_637 (by decide) ?_
                                                    exact zr_X (zr_zret C rfl (Or.inr rfl) ⟨_, rfl, h⟩ (Nat.le_of_ble_eq_true rfl) (Nat.le_of_ble_eq_true rfl) dL_act_641)
                              · obtain ⟨r319, rfl, h⟩ := hq
                                skip
                                refine zr_iload C 0 dL_act_247 rfl ?_
                                obtain ⟨h1, h2⟩ := h
                                refine zr_icmp_ne C 282 dL_act_249 (by decide) (fun hc => ?_) (fun hc => ?_)
                                · have h := h1 hc
                                  clear h1 h2
                                  refine zr_iconst C 0 dL_act_282 (by decide) ?_
                                  exact zr_X (zr_zret C rfl (Or.inl rfl) ⟨_, rfl, h⟩ (Nat.le_of_ble_eq_true rfl) (Nat.le_of_ble_eq_true rfl) dL_act_283)
                                · have h := h2 hc
                                  clear h1 h2
                                  refine zr_aload_n C 8 dL_act_252 rfl rfl ?_
                                  refine zr_iload C 0 dL_act_253 rfl ?_
                                  refine zr_bipush C 6 dL_act_255 (by decide) ?_
                                  obtain ⟨hT322, h⟩ := h
                                  refine zr_callVX (As := [.int r316, .int 6]) (r := (RX4, TX4, 4)) C (k_X4_ofBooking h) ok_L_40 zq_378 zq_379 hT322 (by decide) rfl rfl ⟨by decide, (Nat.le_of_ble_eq_true rfl)⟩ ⟨(Nat.le_of_ble_eq_true rfl), (Nat.le_of_ble_eq_true rfl)⟩ (Nat.le_of_ble_eq_true rfl) dL_act_257 ?_ (fun v368 U369 G370 hq => ?_)
                                  · clear h
                                    intro E9 T9 F9 hq
                                    obtain ⟨rfl, rfl, hq⟩ := hq
                                    rcases hq with hq | hq
                                    · obtain ⟨rfl, h⟩ := hq
                                      refine zr_catch C "java/lang/IndexOutOfBoundsException" _ [⟨41, 125, 568, 109⟩, ⟨126, 151, 568, 109⟩] ⟨152, 283, 568, 109⟩ [⟨284, 328, 568, 109⟩, ⟨329, 394, 568, 109⟩, ⟨395, 431, 568, 109⟩, ⟨432, 463, 568, 109⟩, ⟨464, 496, 568, 109⟩, ⟨497, 567, 568, 109⟩, ⟨41, 125, 584, 111⟩, ⟨126, 151, 584, 111⟩, ⟨152, 283, 584, 111⟩, ⟨284, 328, 584, 111⟩, ⟨329, 394, 584, 111⟩, ⟨395, 431, 584, 111⟩, ⟨432, 463, 584, 111⟩, ⟨464, 496, 584, 111⟩, ⟨497, 567, 584, 111⟩] 568 hxt rfl (List.forall_mem_cons.mpr ⟨Or.inl (by decide), (List.forall_mem_cons.mpr ⟨Or.inl (by decide), (fun _ h9 => nomatch h9)⟩)⟩) (by decide) (by decide) zq_687 zq_275 rfl (fun q9 => ?_)
                                      refine zr_astore C [(6, .ref q9), (9, .int r316), (8, .int r315), (7, .int y312), (5, .int r6), (4, .int r4), (3, .int r2), (2, .int r1), (0, .ref a0), (1, .int p1)] dL_act_568 (by decide) rfl ?_
                                      refine zr_aload_n C 8 dL_act_570 rfl rfl ?_
                                      refine zr_iconst C 2 dL_act_571 (by decide) ?_
                                      refine zr_callV (As := [.int 2]) (r := (RX4, TX4, 4)) C (k_X4_many0 h) ok_L_36 zq_393 zq_394 hT322 (by decide) rfl rfl ⟨by decide, (Nat.le_of_ble_eq_true rfl)⟩ ⟨(Nat.le_of_ble_eq_true rfl), (Nat.le_of_ble_eq_true rfl)⟩ (Nat.le_of_ble_eq_true rfl) dL_act_572 (fun v349 U350 G351 hq => ?_)
                                      clear h
                                      · obtain ⟨r348, rfl, rfl, rfl, h⟩ := hq
                                        obtain ⟨h1, h2⟩ := h
                                        refine zr_if_ne C 582 dL_act_575 (by decide) (fun hc => ?_) (fun hc => ?_)
                                        · have h := h1 hc
                                          clear h1 h2
                                          refine zr_iconst C 0 dL_act_582 (by decide) ?_
                                          exact zr_X (zr_zret C rfl (Or.inl rfl) ⟨_, rfl, h⟩ (Nat.le_of_ble_eq_true rfl) (Nat.le_of_ble_eq_true rfl) dL_act_583)
                                        · have h := h2 hc
                                          clear h1 h2
                                          refine zr_iconst C 1 dL_act_578 (by decide) ?_
                                          refine zr_goto C 583 dL_act_579 (by decide) ?_
                                          exact zr_X (zr_zret C rfl (Or.inr rfl) ⟨_, rfl, h⟩ (Nat.le_of_ble_eq_true rfl) (Nat.le_of_ble_eq_true rfl) dL_act_583)
                                    · obtain ⟨rfl, h⟩ := hq
                                      refine zr_catch C "java/lang/IllegalStateException" _ [⟨41, 125, 568, 109⟩, ⟨126, 151, 568, 109⟩, ⟨152, 283, 568, 109⟩, ⟨284, 328, 568, 109⟩, ⟨329, 394, 568, 109⟩, ⟨395, 431, 568, 109⟩, ⟨432, 463, 568, 109⟩, ⟨464, 496, 568, 109⟩, ⟨497, 567, 568, 109⟩, ⟨41, 125, 584, 111⟩, ⟨126, 151, 584, 111⟩] ⟨152, 283, 584, 111⟩ [⟨284, 328, 584, 111⟩, ⟨329, 394, 584, 111⟩, ⟨395, 431, 584, 111⟩, ⟨432, 463, 584, 111⟩, ⟨464, 496, 584, 111⟩, ⟨497, 567, 584, 111⟩] 584 hxt rfl (List.forall_mem_cons.mpr ⟨Or.inl (by decide), (List.forall_mem_cons.mpr ⟨Or.inl (by decide), (List.forall_mem_cons.mpr ⟨Or.inr ⟨by decide, "java/lang/IndexOutOfBoundsException", zq_687, by decide +kernel⟩, (List.forall_mem_cons.mpr ⟨Or.inl (by decide), (List.forall_mem_cons.mpr ⟨Or.inl (by decide), (List.forall_mem_cons.mpr ⟨Or.inl (by decide), (List.forall_mem_cons.mpr ⟨Or.inl (by decide), (List.forall_mem_cons.mpr ⟨Or.inl (by decide), (List.forall_mem_cons.mpr ⟨Or.inl (by decide), (List.forall_mem_cons.mpr ⟨Or.inl (by decide), (List.forall_mem_cons.mpr ⟨Or.inl (by decide), (fun _ h9 => nomatch h9)⟩)⟩)⟩)⟩)⟩)⟩)⟩)⟩)⟩)⟩)⟩) (by decide) (by decide) zq_688 zq_117 rfl (fun q9 => ?_)
                                      refine zr_astore C [(6, .ref q9), (9, .int r316), (8, .int r315), (7, .int y312), (5, .int r6), (4, .int r4), (3, .int r2), (2, .int r1), (0, .ref a0), (1, .int p1)] dL_act_584 (by decide) rfl ?_
                                      refine zr_iload_n C 9 dL_act_586 rfl rfl ?_
                                      refine zr_bipush C 13 dL_act_587 (by decide) ?_
                                      refine zr_callS (As := [.int p1, .int 13]) C (k_L_below h) ok_L_22 zq_677 rfl ⟨by decide, (Nat.le_of_ble_eq_true rfl)⟩ ⟨(Nat.le_of_ble_eq_true rfl), (Nat.le_of_ble_eq_true rfl)⟩ (Nat.le_of_ble_eq_true rfl) dL_act_589 (fun v365 U366 G367 hq => ?_)
                                      clear h
                                      · obtain ⟨r352, rfl, rfl, rfl, h⟩ := hq
                                        refine zr_iconst C 2 dL_act_592 (by decide) ?_
                                        obtain ⟨h1, h2⟩ := h
                                        refine zr_icmp_eq C 640 dL_act_593 (by decide) (fun hc => ?_) (fun hc => ?_)
                                        · have h := h1 hc
                                          clear h1 h2
                                          refine zr_iconst C 0 dL_act_640 (by decide) ?_
                                          exact zr_X (zr_zret C rfl (Or.inl rfl) ⟨_, rfl, h⟩ (Nat.le_of_ble_eq_true rfl) (Nat.le_of_ble_eq_true rfl) dL_act_641)
                                        · have h := h2 hc
                                          clear h1 h2
                                          refine zr_iload_n C 9 dL_act_596 rfl rfl ?_
                                          refine zr_bipush C 13 dL_act_597 (by decide) ?_
                                          refine zr_callS (As := [.int p1, .int 13]) C (k_L_below h) ok_L_22 zq_677 rfl ⟨by decide, (Nat.le_of_ble_eq_true rfl)⟩ ⟨(Nat.le_of_ble_eq_true rfl), (Nat.le_of_ble_eq_true rfl)⟩ (Nat.le_of_ble_eq_true rfl) dL_act_599 (fun v362 U363 G364 hq => ?_)
                                          clear h
                                          · obtain ⟨r353, rfl, rfl, rfl, h⟩ := hq
                                            refine zr_bipush C 6 dL_act_602 (by decide) ?_
                                            obtain ⟨h1, h2⟩ := h
                                            refine zr_icmp_eq C 640 dL_act_604 (by decide) (fun hc => ?_) (fun hc => ?_)
                                            · have h := h1 hc
                                              clear h1 h2
                                              refine zr_iconst C 0 dL_act_640 (by decide) ?_
                                              exact zr_X (zr_zret C rfl (Or.inl rfl) ⟨_, rfl, h⟩ (Nat.le_of_ble_eq_true rfl) (Nat.le_of_ble_eq_true rfl) dL_act_641)
                                            · have h := h2 hc
                                              clear h1 h2
                                              refine zr_iload_n C 9 dL_act_607 rfl rfl ?_
                                              refine zr_bipush C 13 dL_act_608 (by decide) ?_
                                              refine zr_callS (As := [.int p1, .int 13]) C (k_L_below h) ok_L_22 zq_677 rfl ⟨by decide, (Nat.le_of_ble_eq_true rfl)⟩ ⟨(Nat.le_of_ble_eq_true rfl), (Nat.le_of_ble_eq_true rfl)⟩ (Nat.le_of_ble_eq_true rfl) dL_act_610 (fun v359 U360 G361 hq => ?_)
                                              clear h
                                              · obtain ⟨r354, rfl, rfl, rfl, h⟩ := hq
                                                refine zr_bipush C 9 dL_act_613 (by decide) ?_
                                                obtain ⟨h1, h2⟩ := h
                                                refine zr_icmp_eq C 640 dL_act_615 (by decide) (fun hc => ?_) (fun hc => ?_)
                                                · have h := h1 hc
                                                  clear h1 h2
                                                  refine zr_iconst C 0 dL_act_640 (by decide) ?_
                                                  exact zr_X (zr_zret C rfl (Or.inl rfl) ⟨_, rfl, h⟩ (Nat.le_of_ble_eq_true rfl) (Nat.le_of_ble_eq_true rfl) dL_act_641)
                                                · have h := h2 hc
                                                  clear h1 h2
                                                  refine zr_iload_n C 9 dL_act_618 rfl rfl ?_
                                                  refine zr_bipush C 13 dL_act_619 (by decide) ?_
                                                  refine zr_callS (As := [.int p1, .int 13]) C (k_L_below h) ok_L_22 zq_677 rfl ⟨by decide, (Nat.le_of_ble_eq_true rfl)⟩ ⟨(Nat.le_of_ble_eq_true rfl), (Nat.le_of_ble_eq_true rfl)⟩ (Nat.le_of_ble_eq_true rfl) dL_act_621 (fun v356 U357 G358 hq => ?_)
                                                  clear h
                                                  · obtain ⟨r355, rfl, rfl, rfl, h⟩ := hq
                                                    refine zr_bipush C 10 dL_act_624 (by decide) ?_
                                                    obtain ⟨h1, h2⟩ := h
                                                    refine zr_icmp_lt C 636 dL_act_626 (by decide) (fun hc => ?_) (fun hc => ?_)
                                                    · have h := h1 hc
                                                      clear h1 h2
                                                      refine zr_iconst C 1 dL_act_636 (by decide) ?_
                                                      refine zr_goto C 641 dL_act_637 (by decide) ?_
                                                      exact zr_X (zr_zret C rfl (Or.inr rfl) ⟨_, rfl, h⟩ (Nat.le_of_ble_eq_true rfl) (Nat.le_of_ble_eq_true rfl) dL_act_641)
                                                    · have h := h2 hc
                                                      clear h1 h2
                                                      refine zr_iload C 5 dL_act_629 rfl ?_
                                                      refine zr_bipush C 99 dL_act_631 (by decide) ?_
                                                      obtain ⟨h1, h2⟩ := h
                                                      refine zr_icmp_ne C 640 dL_act_633 (by decide) (fun hc => ?_) (fun hc => ?_)
                                                      · have h := h1 hc
                                                        clear h1 h2
                                                        refine zr_iconst C 0 dL_act_640 (by decide) ?_
                                                        exact zr_X (zr_zret C rfl (Or.inl rfl) ⟨_, rfl, h⟩ (Nat.le_of_ble_eq_true rfl) (Nat.le_of_ble_eq_true rfl) dL_act_641)
                                                      · have h := h2 hc
                                                        clear h1 h2
                                                        refine zr_iconst C 1 dL_act_636 (by decide) ?_
                                                        refine zr_goto C 641 dL_act_637 (by decide) ?_
                                                        exact zr_X (zr_zret C rfl (Or.inr rfl) ⟨_, rfl, h⟩ (Nat.le_of_ble_eq_true rfl) (Nat.le_of_ble_eq_true rfl) dL_act_641)
                                  · obtain ⟨r323, rfl, rfl, rfl, h⟩ := hq
                                    refine zr_iload C 1 dL_act_260 rfl ?_
                                    obtain ⟨h1, h2⟩ := h
                                    refine zr_icmp_ne C 282 dL_act_262 (by decide) (fun hc => ?_) (fun hc => ?_)
                                    · have h := h1 hc
                                      clear h1 h2
                                      refine zr_iconst C 0 dL_act_282 (by decide) ?_
                                      exact zr_X (zr_zret C rfl (Or.inl rfl) ⟨_, rfl, h⟩ (Nat.le_of_ble_eq_true rfl) (Nat.le_of_ble_eq_true rfl) dL_act_283)
                                    · have h := h2 hc
                                      clear h1 h2
                                      refine zr_aload_n C 8 dL_act_265 rfl rfl ?_
                                      refine zr_iload C 0 dL_act_266 rfl ?_
                                      refine zr_bipush C 7 dL_act_268 (by decide) ?_
                                      refine zr_callVX (As := [.int r316, .int 7]) (r := (RX4, TX4, 4)) C (k_X4_ofBooking h) ok_L_40 zq_378 zq_379 hT322 (by decide) rfl rfl ⟨by decide, (Nat.le_of_ble_eq_true rfl)⟩ ⟨(Nat.le_of_ble_eq_true rfl), (Nat.le_of_ble_eq_true rfl)⟩ (Nat.le_of_ble_eq_true rfl) dL_act_270 ?_ (fun v345 U346 G347 hq => ?_)
                                      · clear h
                                        intro E9 T9 F9 hq
                                        obtain ⟨rfl, rfl, hq⟩ := hq
                                        rcases hq with hq | hq
                                        · obtain ⟨rfl, h⟩ := hq
                                          refine zr_catch C "java/lang/IndexOutOfBoundsException" _ [⟨41, 125, 568, 109⟩, ⟨126, 151, 568, 109⟩] ⟨152, 283, 568, 109⟩ [⟨284, 328, 568, 109⟩, ⟨329, 394, 568, 109⟩, ⟨395, 431, 568, 109⟩, ⟨432, 463, 568, 109⟩, ⟨464, 496, 568, 109⟩, ⟨497, 567, 568, 109⟩, ⟨41, 125, 584, 111⟩, ⟨126, 151, 584, 111⟩, ⟨152, 283, 584, 111⟩, ⟨284, 328, 584, 111⟩, ⟨329, 394, 584, 111⟩, ⟨395, 431, 584, 111⟩, ⟨432, 463, 584, 111⟩, ⟨464, 496, 584, 111⟩, ⟨497, 567, 584, 111⟩] 568 hxt rfl (List.forall_mem_cons.mpr ⟨Or.inl (by decide), (List.forall_mem_cons.mpr ⟨Or.inl (by decide), (fun _ h9 => nomatch h9)⟩)⟩) (by decide) (by decide) zq_687 zq_275 rfl (fun q9 => ?_)
                                          refine zr_astore C [(6, .ref q9), (9, .int r316), (8, .int r315), (7, .int y312), (5, .int r6), (4, .int r4), (3, .int r2), (2, .int r1), (0, .ref a0), (1, .int p1)] dL_act_568 (by decide) rfl ?_
                                          refine zr_aload_n C 8 dL_act_570 rfl rfl ?_
                                          refine zr_iconst C 2 dL_act_571 (by decide) ?_
                                          refine zr_callV (As := [.int 2]) (r := (RX4, TX4, 4)) C (k_X4_many0 h) ok_L_36 zq_393 zq_394 hT322 (by decide) rfl rfl ⟨by decide, (Nat.le_of_ble_eq_true rfl)⟩ ⟨(Nat.le_of_ble_eq_true rfl), (Nat.le_of_ble_eq_true rfl)⟩ (Nat.le_of_ble_eq_true rfl) dL_act_572 (fun v326 U327 G328 hq => ?_)
                                          clear h
                                          · obtain ⟨r325, rfl, rfl, rfl, h⟩ := hq
                                            obtain ⟨h1, h2⟩ := h
                                            refine zr_if_ne C 582 dL_act_575 (by decide) (fun hc => ?_) (fun hc => ?_)
                                            · have h := h1 hc
                                              clear h1 h2
                                              refine zr_iconst C 0 dL_act_582 (by decide) ?_
                                              exact zr_X (zr_zret C rfl (Or.inl rfl) ⟨_, rfl, h⟩ (Nat.le_of_ble_eq_true rfl) (Nat.le_of_ble_eq_true rfl) dL_act_583)
                                            · have h := h2 hc
                                              clear h1 h2
                                              refine zr_iconst C 1 dL_act_578 (by decide) ?_
                                              refine zr_goto C 583 dL_act_579 (by decide) ?_
                                              exact zr_X (zr_zret C rfl (Or.inr rfl) ⟨_, rfl, h⟩ (Nat.le_of_ble_eq_true rfl) (Nat.le_of_ble_eq_true rfl) dL_act_583)
                                        · obtain ⟨rfl, h⟩ := hq
                                          refine zr_catch C "java/lang/IllegalStateException" _ [⟨41, 125, 568, 109⟩, ⟨126, 151, 568, 109⟩, ⟨152, 283, 568, 109⟩, ⟨284, 328, 568, 109⟩, ⟨329, 394, 568, 109⟩, ⟨395, 431, 568, 109⟩, ⟨432, 463, 568, 109⟩, ⟨464, 496, 568, 109⟩, ⟨497, 567, 568, 109⟩, ⟨41, 125, 584, 111⟩, ⟨126, 151, 584, 111⟩] ⟨152, 283, 584, 111⟩ [⟨284, 328, 584, 111⟩, ⟨329, 394, 584, 111⟩, ⟨395, 431, 584, 111⟩, ⟨432, 463, 584, 111⟩, ⟨464, 496, 584, 111⟩, ⟨497, 567, 584, 111⟩] 584 hxt rfl (List.forall_mem_cons.mpr ⟨Or.inl (by decide), (List.forall_mem_cons.mpr ⟨Or.inl (by decide), (List.forall_mem_cons.mpr ⟨Or.inr ⟨by decide, "java/lang/IndexOutOfBoundsException", zq_687, by decide +kernel⟩, (List.forall_mem_cons.mpr ⟨Or.inl (by decide), (List.forall_mem_cons.mpr ⟨Or.inl (by decide), (List.forall_mem_cons.mpr ⟨Or.inl (by decide), (List.forall_mem_cons.mpr ⟨Or.inl (by decide), (List.forall_mem_cons.mpr ⟨Or.inl (by decide), (List.forall_mem_cons.mpr ⟨Or.inl (by decide), (List.forall_mem_cons.mpr ⟨Or.inl (by decide), (List.forall_mem_cons.mpr ⟨Or.inl (by decide), (fun _ h9 => nomatch h9)⟩)⟩)⟩)⟩)⟩)⟩)⟩)⟩)⟩)⟩)⟩) (by decide) (by decide) zq_688 zq_117 rfl (fun q9 => ?_)
                                          refine zr_astore C [(6, .ref q9), (9, .int r316), (8, .int r315), (7, .int y312), (5, .int r6), (4, .int r4), (3, .int r2), (2, .int r1), (0, .ref a0), (1, .int p1)] dL_act_584 (by decide) rfl ?_
                                          refine zr_iload_n C 9 dL_act_586 rfl rfl ?_
                                          refine zr_bipush C 13 dL_act_587 (by decide) ?_
                                          refine zr_callS (As := [.int p1, .int 13]) C (k_L_below h) ok_L_22 zq_677 rfl ⟨by decide, (Nat.le_of_ble_eq_true rfl)⟩ ⟨(Nat.le_of_ble_eq_true rfl), (Nat.le_of_ble_eq_true rfl)⟩ (Nat.le_of_ble_eq_true rfl) dL_act_589 (fun v342 U343 G344 hq => ?_)
                                          clear h
                                          · obtain ⟨r329, rfl, rfl, rfl, h⟩ := hq
                                            refine zr_iconst C 2 dL_act_592 (by decide) ?_
                                            obtain ⟨h1, h2⟩ := h
                                            refine zr_icmp_eq C 640 dL_act_593 (by decide) (fun hc => ?_) (fun hc => ?_)
                                            · have h := h1 hc
                                              clear h1 h2
                                              refine zr_iconst C 0 dL_act_640 (by decide) ?_
                                              exact zr_X (zr_zret C rfl (Or.inl rfl) ⟨_, rfl, h⟩ (Nat.le_of_ble_eq_true rfl) (Nat.le_of_ble_eq_true rfl) dL_act_641)
                                            · have h := h2 hc
                                              clear h1 h2
                                              refine zr_iload_n C 9 dL_act_596 rfl rfl ?_
                                              refine zr_bipush C 13 dL_act_597 (by decide) ?_
                                              refine zr_callS (As := [.int p1, .int 13]) C (k_L_below h) ok_L_22 zq_677 rfl ⟨by decide, (Nat.le_of_ble_eq_true rfl)⟩ ⟨(Nat.le_of_ble_eq_true rfl), (Nat.le_of_ble_eq_true rfl)⟩ (Nat.le_of_ble_eq_true rfl) dL_act_599 (fun v339 U340 G341 hq => ?_)
                                              clear h
                                              · obtain ⟨r330, rfl, rfl, rfl, h⟩ := hq
                                                refine zr_bipush C 6 dL_act_602 (by decide) ?_
                                                obtain ⟨h1, h2⟩ := h
                                                refine zr_icmp_eq C 640 dL_act_604 (by decide) (fun hc => ?_) (fun hc => ?_)
                                                · have h := h1 hc
                                                  clear h1 h2
                                                  refine zr_iconst C 0 dL_act_640 (by decide) ?_
                                                  exact zr_X (zr_zret C rfl (Or.inl rfl) ⟨_, rfl, h⟩ (Nat.le_of_ble_eq_true rfl) (Nat.le_of_ble_eq_true rfl) dL_act_641)
                                                · have h := h2 hc
                                                  clear h1 h2
                                                  refine zr_iload_n C 9 dL_act_607 rfl rfl ?_
                                                  refine zr_bipush C 13 dL_act_608 (by decide) ?_
                                                  refine zr_callS (As := [.int p1, .int 13]) C (k_L_below h) ok_L_22 zq_677 rfl ⟨by decide, (Nat.le_of_ble_eq_true rfl)⟩ ⟨(Nat.le_of_ble_eq_true rfl), (Nat.le_of_ble_eq_true rfl)⟩ (Nat.le_of_ble_eq_true rfl) dL_act_610 (fun v336 U337 G338 hq => ?_)
                                                  clear h
                                                  · obtain ⟨r331, rfl, rfl, rfl, h⟩ := hq
                                                    refine zr_bipush C 9 dL_act_613 (by decide) ?_
                                                    obtain ⟨h1, h2⟩ := h
                                                    refine zr_icmp_eq C 640 dL_act_615 (by decide) (fun hc => ?_) (fun hc => ?_)
                                                    · have h := h1 hc
                                                      clear h1 h2
                                                      refine zr_iconst C 0 dL_act_640 (by decide) ?_
                                                      exact zr_X (zr_zret C rfl (Or.inl rfl) ⟨_, rfl, h⟩ (Nat.le_of_ble_eq_true rfl) (Nat.le_of_ble_eq_true rfl) dL_act_641)
                                                    · have h := h2 hc
                                                      clear h1 h2
                                                      refine zr_iload_n C 9 dL_act_618 rfl rfl ?_
                                                      refine zr_bipush C 13 dL_act_619 (by decide) ?_
                                                      refine zr_callS (As := [.int p1, .int 13]) C (k_L_below h) ok_L_22 zq_677 rfl ⟨by decide, (Nat.le_of_ble_eq_true rfl)⟩ ⟨(Nat.le_of_ble_eq_true rfl), (Nat.le_of_ble_eq_true rfl)⟩ (Nat.le_of_ble_eq_true rfl) dL_act_621 (fun v333 U334 G335 hq => ?_)
                                                      clear h
                                                      · obtain ⟨r332, rfl, rfl, rfl, h⟩ := hq
                                                        refine zr_bipush C 10 dL_act_624 (by decide) ?_
                                                        obtain ⟨h1, h2⟩ := h
                                                        refine zr_icmp_lt C 636 dL_act_626 (by decide) (fun hc => ?_) (fun hc => ?_)
                                                        · have h := h1 hc
                                                          clear h1 h2
                                                          refine zr_iconst C 1 dL_act_636 (by decide) ?_
                                                          refine zr_goto C 641 dL_act_637 (by decide) ?_
                                                          exact zr_X (zr_zret C rfl (Or.inr rfl) ⟨_, rfl, h⟩ (Nat.le_of_ble_eq_true rfl) (Nat.le_of_ble_eq_true rfl) dL_act_641)
                                                        · have h := h2 hc
                                                          clear h1 h2
                                                          refine zr_iload C 5 dL_act_629 rfl ?_
                                                          refine zr_bipush C 99 dL_act_631 (by decide) ?_
                                                          obtain ⟨h1, h2⟩ := h
                                                          refine zr_icmp_ne C 640 dL_act_633 (by decide) (fun hc => ?_) (fun hc => ?_)
                                                          · have h := h1 hc
                                                            clear h1 h2
                                                            refine zr_iconst C 0 dL_act_640 (by decide) ?_
                                                            exact zr_X (zr_zret C rfl (Or.inl rfl) ⟨_, rfl, h⟩ (Nat.le_of_ble_eq_true rfl) (Nat.le_of_ble_eq_true rfl) dL_act_641)
                                                          · have h := h2 hc
                                                            clear h1 h2
                                                            refine zr_iconst C 1 dL_act_636 (by decide) ?_
                                                            refine zr_goto C 641 dL_act_637 (by decide) ?_
                                                            exact zr_X (zr_zret C rfl (Or.inr rfl) ⟨_, rfl, h⟩ (Nat.le_of_ble_eq_true rfl) (Nat.le_of_ble_eq_true rfl) dL_act_641)
                                      · obtain ⟨r324, rfl, rfl, rfl, h⟩ := hq
                                        refine zr_iload C 1 dL_act_273 rfl ?_
                                        obtain ⟨h1, h2⟩ := h
                                        refine zr_icmp_ne C 282 dL_act_275 (by decide) (fun hc => ?_) (fun hc => ?_)
                                        · have h := h1 hc
                                          clear h1 h2
                                          refine zr_iconst C 0 dL_act_282 (by decide) ?_
                                          exact zr_X (zr_zret C rfl (Or.inl rfl) ⟨_, rfl, h⟩ (Nat.le_of_ble_eq_true rfl) (Nat.le_of_ble_eq_true rfl) dL_act_283)
                                        · have h := h2 hc
                                          clear h1 h2
                                          refine zr_iconst C 1 dL_act_278 (by decide) ?_
                                          refine zr_goto C 283 dL_act_279 (by decide) ?_
                                          exact zr_X (zr_zret C rfl (Or.inr rfl) ⟨_, rfl, h⟩ (Nat.le_of_ble_eq_true rfl) (Nat.le_of_ble_eq_true rfl) dL_act_283)
              by_cases hk4 : r7 = 4
              · have h := hs605 hk4
                refine zr_tableIn C 152 dL_act_47 (by rw [hk4]; decide) (by rw [hk4]; decide) (by rw [hk4]; rfl) (by decide) ?_
                refine zr_bipush C 99 dL_act_152 (by decide) ?_
                refine zr_iload C 1 dL_act_154 rfl ?_
                refine zr_iconst C 1 dL_act_156 (by decide) ?_
                refine zr_iadd C dL_act_157 ?_
                refine zr_iload_n C 5 dL_act_158 rfl rfl ?_
                refine zr_bipush C 6 dL_act_159 (by decide) ?_
                refine zr_ishr C dL_act_161 ?_
                refine zr_bipush C 9 dL_act_162 (by decide) ?_
                refine zr_callS (As := [.int (p1 >>> (6 &&& 31)), .int 9]) C (k_L_below h) ok_L_22 zq_677 rfl ⟨by decide, (Nat.le_of_ble_eq_true rfl)⟩ ⟨(Nat.le_of_ble_eq_true rfl), (Nat.le_of_ble_eq_true rfl)⟩ (Nat.le_of_ble_eq_true rfl) dL_act_164 (fun v602 U603 G604 hq => ?_)
                clear h
                · obtain ⟨r457, rfl, rfl, rfl, h⟩ := hq
                  refine zr_iadd C dL_act_167 ?_
                  refine zr_min C zq_713 zq_258 zq_29 zq_259 (by decide) (Nat.le_of_ble_eq_true rfl) (Nat.le_of_ble_eq_true rfl) (Nat.le_of_ble_eq_true rfl) dL_act_168 ?_
                  refine zr_topi (fun y458 hy459 => ?_)
                  have h := h y458 hy459
                  refine zr_istore C [(6, .int y458), (5, .int r6), (4, .int r4), (3, .int r2), (2, .int r1), (0, .ref a0), (1, .int p1)] dL_act_171 (by decide) rfl ?_
                  refine zr_bipush C 99 dL_act_173 (by decide) ?_
                  refine zr_iload C 0 dL_act_175 rfl ?_
                  refine zr_iload_n C 6 dL_act_177 rfl rfl ?_
                  refine zr_bipush C 7 dL_act_178 (by decide) ?_
                  refine zr_ishr C dL_act_180 ?_
                  refine zr_iconst C 5 dL_act_181 (by decide) ?_
                  refine zr_callS (As := [.int (p1 >>> (7 &&& 31)), .int 5]) C (k_L_below h) ok_L_22 zq_677 rfl ⟨by decide, (Nat.le_of_ble_eq_true rfl)⟩ ⟨(Nat.le_of_ble_eq_true rfl), (Nat.le_of_ble_eq_true rfl)⟩ (Nat.le_of_ble_eq_true rfl) dL_act_182 (fun v599 U600 G601 hq => ?_)
                  clear h
                  · obtain ⟨r460, rfl, rfl, rfl, h⟩ := hq
                    refine zr_iadd C dL_act_185 ?_
                    refine zr_min C zq_713 zq_258 zq_29 zq_259 (by decide) (Nat.le_of_ble_eq_true rfl) (Nat.le_of_ble_eq_true rfl) (Nat.le_of_ble_eq_true rfl) dL_act_186 ?_
                    refine zr_topi (fun y461 hy462 => ?_)
                    have h := h y461 hy462
                    refine zr_istore C [(7, .int y461), (6, .int y458), (5, .int r6), (4, .int r4), (3, .int r2), (2, .int r1), (0, .ref a0), (1, .int p1)] dL_act_189 (by decide) rfl ?_
                    refine zr_aload_n C 6 dL_act_191 rfl rfl ?_
                    refine zr_iload C 1 dL_act_192 rfl ?_
                    refine zr_iload C 0 dL_act_194 rfl ?_
                    refine zr_bipush C 10 dL_act_196 (by decide) ?_
                    refine zr_iload_n C 7 dL_act_198 rfl rfl ?_
                    refine zr_iconst C 4 dL_act_199 (by decide) ?_
                    refine zr_ishr C dL_act_200 ?_
                    refine zr_bipush C 90 dL_act_201 (by decide) ?_
                    refine zr_callS (As := [.int (p1 >>> (4 &&& 31)), .int 90]) C (k_L_below h) ok_L_22 zq_677 rfl ⟨by decide, (Nat.le_of_ble_eq_true rfl)⟩ ⟨(Nat.le_of_ble_eq_true rfl), (Nat.le_of_ble_eq_true rfl)⟩ (Nat.le_of_ble_eq_true rfl) dL_act_203 (fun v596 U597 G598 hq => ?_)
                    clear h
                    · obtain ⟨r463, rfl, rfl, rfl, h⟩ := hq
                      refine zr_iadd C dL_act_206 ?_
                      refine zr_callVX (As := [.int y458, .int y461, .int ((10 : Int32) + r463)]) (r := (RX4, TX4, 4)) C (k_X4_price h) ok_L_80 zq_715 zq_716 hT3 (by decide) rfl rfl ⟨by decide, (Nat.le_of_ble_eq_true rfl)⟩ ⟨(Nat.le_of_ble_eq_true rfl), (Nat.le_of_ble_eq_true rfl)⟩ (Nat.le_of_ble_eq_true rfl) dL_act_207 ?_ (fun v593 U594 G595 hq => ?_)
                      · clear h
                        intro E9 T9 F9 hq
                        obtain ⟨rfl, rfl, hq⟩ := hq
                        rcases hq with hq | hq
                        · obtain ⟨rfl, h⟩ := hq
                          refine zr_catch C "java/lang/IndexOutOfBoundsException" _ [⟨41, 125, 568, 109⟩, ⟨126, 151, 568, 109⟩] ⟨152, 283, 568, 109⟩ [⟨284, 328, 568, 109⟩, ⟨329, 394, 568, 109⟩, ⟨395, 431, 568, 109⟩, ⟨432, 463, 568, 109⟩, ⟨464, 496, 568, 109⟩, ⟨497, 567, 568, 109⟩, ⟨41, 125, 584, 111⟩, ⟨126, 151, 584, 111⟩, ⟨152, 283, 584, 111⟩, ⟨284, 328, 584, 111⟩, ⟨329, 394, 584, 111⟩, ⟨395, 431, 584, 111⟩, ⟨432, 463, 584, 111⟩, ⟨464, 496, 584, 111⟩, ⟨497, 567, 584, 111⟩] 568 hxt rfl (List.forall_mem_cons.mpr ⟨Or.inl (by decide), (List.forall_mem_cons.mpr ⟨Or.inl (by decide), (fun _ h9 => nomatch h9)⟩)⟩) (by decide) (by decide) zq_687 zq_275 rfl (fun q9 => ?_)
                          refine zr_astore C [(6, .ref q9), (7, .int y461), (5, .int r6), (4, .int r4), (3, .int r2), (2, .int r1), (0, .ref a0), (1, .int p1)] dL_act_568 (by decide) rfl ?_
                          refine zr_aload_n C 6 dL_act_570 rfl rfl ?_
                          refine zr_iconst C 2 dL_act_571 (by decide) ?_
                          refine zr_callV (As := [.int 2]) (r := (RX4, TX4, 4)) C (k_X4_many0 h) ok_L_36 zq_393 zq_394 hT3 (by decide) rfl rfl ⟨by decide, (Nat.le_of_ble_eq_true rfl)⟩ ⟨(Nat.le_of_ble_eq_true rfl), (Nat.le_of_ble_eq_true rfl)⟩ (Nat.le_of_ble_eq_true rfl) dL_act_572 (fun v574 U575 G576 hq => ?_)
                          clear h
                          · obtain ⟨r573, rfl, rfl, rfl, h⟩ := hq
                            obtain ⟨h1, h2⟩ := h
                            refine zr_if_ne C 582 dL_act_575 (by decide) (fun hc => ?_) (fun hc => ?_)
                            · have h := h1 hc
                              clear h1 h2
                              refine zr_iconst C 0 dL_act_582 (by decide) ?_
                              exact zr_X (zr_zret C rfl (Or.inl rfl) ⟨_, rfl, h⟩ (Nat.le_of_ble_eq_true rfl) (Nat.le_of_ble_eq_true rfl) dL_act_583)
                            · have h := h2 hc
                              clear h1 h2
                              refine zr_iconst C 1 dL_act_578 (by decide) ?_
                              refine zr_goto C 583 dL_act_579 (by decide) ?_
                              exact zr_X (zr_zret C rfl (Or.inr rfl) ⟨_, rfl, h⟩ (Nat.le_of_ble_eq_true rfl) (Nat.le_of_ble_eq_true rfl) dL_act_583)
                        · obtain ⟨rfl, h⟩ := hq
                          refine zr_catch C "java/lang/IllegalStateException" _ [⟨41, 125, 568, 109⟩, ⟨126, 151, 568, 109⟩, ⟨152, 283, 568, 109⟩, ⟨284, 328, 568, 109⟩, ⟨329, 394, 568, 109⟩, ⟨395, 431, 568, 109⟩, ⟨432, 463, 568, 109⟩, ⟨464, 496, 568, 109⟩, ⟨497, 567, 568, 109⟩, ⟨41, 125, 584, 111⟩, ⟨126, 151, 584, 111⟩] ⟨152, 283, 584, 111⟩ [⟨284, 328, 584, 111⟩, ⟨329, 394, 584, 111⟩, ⟨395, 431, 584, 111⟩, ⟨432, 463, 584, 111⟩, ⟨464, 496, 584, 111⟩, ⟨497, 567, 584, 111⟩] 584 hxt rfl (List.forall_mem_cons.mpr ⟨Or.inl (by decide), (List.forall_mem_cons.mpr ⟨Or.inl (by decide), (List.forall_mem_cons.mpr ⟨Or.inr ⟨by decide, "java/lang/IndexOutOfBoundsException", zq_687, by decide +kernel⟩, (List.forall_mem_cons.mpr ⟨Or.inl (by decide), (List.forall_mem_cons.mpr ⟨Or.inl (by decide), (List.forall_mem_cons.mpr ⟨Or.inl (by decide), (List.forall_mem_cons.mpr ⟨Or.inl (by decide), (List.forall_mem_cons.mpr ⟨Or.inl (by decide), (List.forall_mem_cons.mpr ⟨Or.inl (by decide), (List.forall_mem_cons.mpr ⟨Or.inl (by decide), (List.forall_mem_cons.mpr ⟨Or.inl (by decide), (fun _ h9 => nomatch h9)⟩)⟩)⟩)⟩)⟩)⟩)⟩)⟩)⟩)⟩)⟩) (by decide) (by decide) zq_688 zq_117 rfl (fun q9 => ?_)
                          refine zr_astore C [(6, .ref q9), (7, .int y461), (5, .int r6), (4, .int r4), (3, .int r2), (2, .int r1), (0, .ref a0), (1, .int p1)] dL_act_584 (by decide) rfl ?_
                          refine zr_iload_n C 7 dL_act_586 rfl rfl ?_
                          refine zr_bipush C 13 dL_act_587 (by decide) ?_
                          refine zr_callS (As := [.int p1, .int 13]) C (k_L_below h) ok_L_22 zq_677 rfl ⟨by decide, (Nat.le_of_ble_eq_true rfl)⟩ ⟨(Nat.le_of_ble_eq_true rfl), (Nat.le_of_ble_eq_true rfl)⟩ (Nat.le_of_ble_eq_true rfl) dL_act_589 (fun v590 U591 G592 hq => ?_)
                          clear h
                          · obtain ⟨r577, rfl, rfl, rfl, h⟩ := hq
                            refine zr_iconst C 2 dL_act_592 (by decide) ?_
                            obtain ⟨h1, h2⟩ := h
                            refine zr_icmp_eq C 640 dL_act_593 (by decide) (fun hc => ?_) (fun hc => ?_)
                            · have h := h1 hc
                              clear h1 h2
                              refine zr_iconst C 0 dL_act_640 (by decide) ?_
                              exact zr_X (zr_zret C rfl (Or.inl rfl) ⟨_, rfl, h⟩ (Nat.le_of_ble_eq_true rfl) (Nat.le_of_ble_eq_true rfl) dL_act_641)
                            · have h := h2 hc
                              clear h1 h2
                              refine zr_iload_n C 7 dL_act_596 rfl rfl ?_
                              refine zr_bipush C 13 dL_act_597 (by decide) ?_
                              refine zr_callS (As := [.int p1, .int 13]) C (k_L_below h) ok_L_22 zq_677 rfl ⟨by decide, (Nat.le_of_ble_eq_true rfl)⟩ ⟨(Nat.le_of_ble_eq_true rfl), (Nat.le_of_ble_eq_true rfl)⟩ (Nat.le_of_ble_eq_true rfl) dL_act_599 (fun v587 U588 G589 hq => ?_)
                              clear h
                              · obtain ⟨r578, rfl, rfl, rfl, h⟩ := hq
                                refine zr_bipush C 6 dL_act_602 (by decide) ?_
                                obtain ⟨h1, h2⟩ := h
                                refine zr_icmp_eq C 640 dL_act_604 (by decide) (fun hc => ?_) (fun hc => ?_)
                                · have h := h1 hc
                                  clear h1 h2
                                  refine zr_iconst C 0 dL_act_640 (by decide) ?_
                                  exact zr_X (zr_zret C rfl (Or.inl rfl) ⟨_, rfl, h⟩ (Nat.le_of_ble_eq_true rfl) (Nat.le_of_ble_eq_true rfl) dL_act_641)
                                · have h := h2 hc
                                  clear h1 h2
                                  refine zr_iload_n C 7 dL_act_607 rfl rfl ?_
                                  refine zr_bipush C 13 dL_act_608 (by decide) ?_
                                  refine zr_callS (As := [.int p1, .int 13]) C (k_L_below h) ok_L_22 zq_677 rfl ⟨by decide, (Nat.le_of_ble_eq_true rfl)⟩ ⟨(Nat.le_of_ble_eq_true rfl), (Nat.le_of_ble_eq_true rfl)⟩ (Nat.le_of_ble_eq_true rfl) dL_act_610 (fun v584 U585 G586 hq => ?_)
                                  clear h
                                  · obtain ⟨r579, rfl, rfl, rfl, h⟩ := hq
                                    refine zr_bipush C 9 dL_act_613 (by decide) ?_
                                    obtain ⟨h1, h2⟩ := h
                                    refine zr_icmp_eq C 640 dL_act_615 (by decide) (fun hc => ?_) (fun hc => ?_)
                                    · have h := h1 hc
                                      clear h1 h2
                                      refine zr_iconst C 0 dL_act_640 (by decide) ?_
                                      exact zr_X (zr_zret C rfl (Or.inl rfl) ⟨_, rfl, h⟩ (Nat.le_of_ble_eq_true rfl) (Nat.le_of_ble_eq_true rfl) dL_act_641)
                                    · have h := h2 hc
                                      clear h1 h2
                                      refine zr_iload_n C 7 dL_act_618 rfl rfl ?_
                                      refine zr_bipush C 13 dL_act_619 (by decide) ?_
                                      refine zr_callS (As := [.int p1, .int 13]) C (k_L_below h) ok_L_22 zq_677 rfl ⟨by decide, (Nat.le_of_ble_eq_true rfl)⟩ ⟨(Nat.le_of_ble_eq_true rfl), (Nat.le_of_ble_eq_true rfl)⟩ (Nat.le_of_ble_eq_true rfl) dL_act_621 (fun v581 U582 G583 hq => ?_)
                                      clear h
                                      · obtain ⟨r580, rfl, rfl, rfl, h⟩ := hq
                                        refine zr_bipush C 10 dL_act_624 (by decide) ?_
                                        obtain ⟨h1, h2⟩ := h
                                        refine zr_icmp_lt C 636 dL_act_626 (by decide) (fun hc => ?_) (fun hc => ?_)
                                        · have h := h1 hc
                                          clear h1 h2
                                          refine zr_iconst C 1 dL_act_636 (by decide) ?_
                                          refine zr_goto C 641 dL_act_637 (by decide) ?_
                                          exact zr_X (zr_zret C rfl (Or.inr rfl) ⟨_, rfl, h⟩ (Nat.le_of_ble_eq_true rfl) (Nat.le_of_ble_eq_true rfl) dL_act_641)
                                        · have h := h2 hc
                                          clear h1 h2
                                          refine zr_iload C 3 dL_act_629 rfl ?_
                                          refine zr_bipush C 99 dL_act_631 (by decide) ?_
                                          obtain ⟨h1, h2⟩ := h
                                          refine zr_icmp_ne C 640 dL_act_633 (by decide) (fun hc => ?_) (fun hc => ?_)
                                          · have h := h1 hc
                                            clear h1 h2
                                            refine zr_iconst C 0 dL_act_640 (by decide) ?_
                                            exact zr_X (zr_zret C rfl (Or.inl rfl) ⟨_, rfl, h⟩ (Nat.le_of_ble_eq_true rfl) (Nat.le_of_ble_eq_true rfl) dL_act_641)
                                          · have h := h2 hc
                                            clear h1 h2
                                            refine zr_iconst C 1 dL_act_636 (by decide) ?_
                                            refine zr_goto C 641 dL_act_637 (by decide) ?_
                                            exact zr_X (zr_zret C rfl (Or.inr rfl) ⟨_, rfl, h⟩ (Nat.le_of_ble_eq_true rfl) (Nat.le_of_ble_eq_true rfl) dL_act_641)
                      · obtain ⟨r464, rfl, rfl, rfl, h⟩ := hq
                        refine zr_istore C [(8, .int r464), (7, .int y461), (6, .int y458), (5, .int r6), (4, .int r4), (3, .int r2), (2, .int r1), (0, .ref a0), (1, .int p1)] dL_act_210 (by decide) rfl ?_
                        refine zr_aload_n C 7 dL_act_212 rfl rfl ?_
                        refine zr_iconst C 2 dL_act_213 (by decide) ?_
                        refine zr_callVX (As := [.int 2]) (r := (RX4, TX4, 4)) C (k_X4_many h) ok_L_36 zq_393 zq_394 hT3 (by decide) rfl rfl ⟨by decide, (Nat.le_of_ble_eq_true rfl)⟩ ⟨(Nat.le_of_ble_eq_true rfl), (Nat.le_of_ble_eq_true rfl)⟩ (Nat.le_of_ble_eq_true rfl) dL_act_214 ?_ (fun v570 U571 G572 hq => ?_)
                        · clear h
                          intro E9 T9 F9 hq
                          obtain ⟨rfl, rfl, hq⟩ := hq
                          rcases hq with hq | hq
                          · obtain ⟨rfl, h⟩ := hq
                            refine zr_catch C "java/lang/IndexOutOfBoundsException" _ [⟨41, 125, 568, 109⟩, ⟨126, 151, 568, 109⟩] ⟨152, 283, 568, 109⟩ [⟨284, 328, 568, 109⟩, ⟨329, 394, 568, 109⟩, ⟨395, 431, 568, 109⟩, ⟨432, 463, 568, 109⟩, ⟨464, 496, 568, 109⟩, ⟨497, 567, 568, 109⟩, ⟨41, 125, 584, 111⟩, ⟨126, 151, 584, 111⟩, ⟨152, 283, 584, 111⟩, ⟨284, 328, 584, 111⟩, ⟨329, 394, 584, 111⟩, ⟨395, 431, 584, 111⟩, ⟨432, 463, 584, 111⟩, ⟨464, 496, 584, 111⟩, ⟨497, 567, 584, 111⟩] 568 hxt rfl (List.forall_mem_cons.mpr ⟨Or.inl (by decide), (List.forall_mem_cons.mpr ⟨Or.inl (by decide), (fun _ h9 => nomatch h9)⟩)⟩) (by decide) (by decide) zq_687 zq_275 rfl (fun q9 => ?_)
                            refine zr_astore C [(6, .ref q9), (8, .int r464), (7, .int y461), (5, .int r6), (4, .int r4), (3, .int r2), (2, .int r1), (0, .ref a0), (1, .int p1)] dL_act_568 (by decide) rfl ?_
                            refine zr_aload_n C 7 dL_act_570 rfl rfl ?_
                            refine zr_iconst C 2 dL_act_571 (by decide) ?_
                            refine zr_callV (As := [.int 2]) (r := (RX4, TX4, 4)) C (k_X4_many0 h) ok_L_36 zq_393 zq_394 hT3 (by decide) rfl rfl ⟨by decide, (Nat.le_of_ble_eq_true rfl)⟩ ⟨(Nat.le_of_ble_eq_true rfl), (Nat.le_of_ble_eq_true rfl)⟩ (Nat.le_of_ble_eq_true rfl) dL_act_572 (fun v551 U552 G553 hq => ?_)
                            clear h
                            · obtain ⟨r550, rfl, rfl, rfl, h⟩ := hq
                              obtain ⟨h1, h2⟩ := h
                              refine zr_if_ne C 582 dL_act_575 (by decide) (fun hc => ?_) (fun hc => ?_)
                              · have h := h1 hc
                                clear h1 h2
                                refine zr_iconst C 0 dL_act_582 (by decide) ?_
                                exact zr_X (zr_zret C rfl (Or.inl rfl) ⟨_, rfl, h⟩ (Nat.le_of_ble_eq_true rfl) (Nat.le_of_ble_eq_true rfl) dL_act_583)
                              · have h := h2 hc
                                clear h1 h2
                                refine zr_iconst C 1 dL_act_578 (by decide) ?_
                                refine zr_goto C 583 dL_act_579 (by decide) ?_
                                exact zr_X (zr_zret C rfl (Or.inr rfl) ⟨_, rfl, h⟩ (Nat.le_of_ble_eq_true rfl) (Nat.le_of_ble_eq_true rfl) dL_act_583)
                          · obtain ⟨rfl, h⟩ := hq
                            refine zr_catch C "java/lang/IllegalStateException" _ [⟨41, 125, 568, 109⟩, ⟨126, 151, 568, 109⟩, ⟨152, 283, 568, 109⟩, ⟨284, 328, 568, 109⟩, ⟨329, 394, 568, 109⟩, ⟨395, 431, 568, 109⟩, ⟨432, 463, 568, 109⟩, ⟨464, 496, 568, 109⟩, ⟨497, 567, 568, 109⟩, ⟨41, 125, 584, 111⟩, ⟨126, 151, 584, 111⟩] ⟨152, 283, 584, 111⟩ [⟨284, 328, 584, 111⟩, ⟨329, 394, 584, 111⟩, ⟨395, 431, 584, 111⟩, ⟨432, 463, 584, 111⟩, ⟨464, 496, 584, 111⟩, ⟨497, 567, 584, 111⟩] 584 hxt rfl (List.forall_mem_cons.mpr ⟨Or.inl (by decide), (List.forall_mem_cons.mpr ⟨Or.inl (by decide), (List.forall_mem_cons.mpr ⟨Or.inr ⟨by decide, "java/lang/IndexOutOfBoundsException", zq_687, by decide +kernel⟩, (List.forall_mem_cons.mpr ⟨Or.inl (by decide), (List.forall_mem_cons.mpr ⟨Or.inl (by decide), (List.forall_mem_cons.mpr ⟨Or.inl (by decide), (List.forall_mem_cons.mpr ⟨Or.inl (by decide), (List.forall_mem_cons.mpr ⟨Or.inl (by decide), (List.forall_mem_cons.mpr ⟨Or.inl (by decide), (List.forall_mem_cons.mpr ⟨Or.inl (by decide), (List.forall_mem_cons.mpr ⟨Or.inl (by decide), (fun _ h9 => nomatch h9)⟩)⟩)⟩)⟩)⟩)⟩)⟩)⟩)⟩)⟩)⟩) (by decide) (by decide) zq_688 zq_117 rfl (fun q9 => ?_)
                            refine zr_astore C [(6, .ref q9), (8, .int r464), (7, .int y461), (5, .int r6), (4, .int r4), (3, .int r2), (2, .int r1), (0, .ref a0), (1, .int p1)] dL_act_584 (by decide) rfl ?_
                            refine zr_iload_n C 8 dL_act_586 rfl rfl ?_
                            refine zr_bipush C 13 dL_act_587 (by decide) ?_
                            refine zr_callS (As := [.int p1, .int 13]) C (k_L_below h) ok_L_22 zq_677 rfl ⟨by decide, (Nat.le_of_ble_eq_true rfl)⟩ ⟨(Nat.le_of_ble_eq_true rfl), (Nat.le_of_ble_eq_true rfl)⟩ (Nat.le_of_ble_eq_true rfl) dL_act_589 (fun v567 U568 G569 hq => ?_)
                            clear h
                            · obtain ⟨r554, rfl, rfl, rfl, h⟩ := hq
                              refine zr_iconst C 2 dL_act_592 (by decide) ?_
                              obtain ⟨h1, h2⟩ := h
                              refine zr_icmp_eq C 640 dL_act_593 (by decide) (fun hc => ?_) (fun hc => ?_)
                              · have h := h1 hc
                                clear h1 h2
                                refine zr_iconst C 0 dL_act_640 (by decide) ?_
                                exact zr_X (zr_zret C rfl (Or.inl rfl) ⟨_, rfl, h⟩ (Nat.le_of_ble_eq_true rfl) (Nat.le_of_ble_eq_true rfl) dL_act_641)
                              · have h := h2 hc
                                clear h1 h2
                                refine zr_iload_n C 8 dL_act_596 rfl rfl ?_
                                refine zr_bipush C 13 dL_act_597 (by decide) ?_
                                refine zr_callS (As := [.int p1, .int 13]) C (k_L_below h) ok_L_22 zq_677 rfl ⟨by decide, (Nat.le_of_ble_eq_true rfl)⟩ ⟨(Nat.le_of_ble_eq_true rfl), (Nat.le_of_ble_eq_true rfl)⟩ (Nat.le_of_ble_eq_true rfl) dL_act_599 (fun v564 U565 G566 hq => ?_)
                                clear h
                                · obtain ⟨r555, rfl, rfl, rfl, h⟩ := hq
                                  refine zr_bipush C 6 dL_act_602 (by decide) ?_
                                  obtain ⟨h1, h2⟩ := h
                                  refine zr_icmp_eq C 640 dL_act_604 (by decide) (fun hc => ?_) (fun hc => ?_)
                                  · have h := h1 hc
                                    clear h1 h2
                                    refine zr_iconst C 0 dL_act_640 (by decide) ?_
                                    exact zr_X (zr_zret C rfl (Or.inl rfl) ⟨_, rfl, h⟩ (Nat.le_of_ble_eq_true rfl) (Nat.le_of_ble_eq_true rfl) dL_act_641)
                                  · have h := h2 hc
                                    clear h1 h2
                                    refine zr_iload_n C 8 dL_act_607 rfl rfl ?_
                                    refine zr_bipush C 13 dL_act_608 (by decide) ?_
                                    refine zr_callS (As := [.int p1, .int 13]) C (k_L_below h) ok_L_22 zq_677 rfl ⟨by decide, (Nat.le_of_ble_eq_true rfl)⟩ ⟨(Nat.le_of_ble_eq_true rfl), (Nat.le_of_ble_eq_true rfl)⟩ (Nat.le_of_ble_eq_true rfl) dL_act_610 (fun v561 U562 G563 hq => ?_)
                                    clear h
                                    · obtain ⟨r556, rfl, rfl, rfl, h⟩ := hq
                                      refine zr_bipush C 9 dL_act_613 (by decide) ?_
                                      obtain ⟨h1, h2⟩ := h
                                      refine zr_icmp_eq C 640 dL_act_615 (by decide) (fun hc => ?_) (fun hc => ?_)
                                      · have h := h1 hc
                                        clear h1 h2
                                        refine zr_iconst C 0 dL_act_640 (by decide) ?_
                                        exact zr_X (zr_zret C rfl (Or.inl rfl) ⟨_, rfl, h⟩ (Nat.le_of_ble_eq_true rfl) (Nat.le_of_ble_eq_true rfl) dL_act_641)
                                      · have h := h2 hc
                                        clear h1 h2
                                        refine zr_iload_n C 8 dL_act_618 rfl rfl ?_
                                        refine zr_bipush C 13 dL_act_619 (by decide) ?_
                                        refine zr_callS (As := [.int p1, .int 13]) C (k_L_below h) ok_L_22 zq_677 rfl ⟨by decide, (Nat.le_of_ble_eq_true rfl)⟩ ⟨(Nat.le_of_ble_eq_true rfl), (Nat.le_of_ble_eq_true rfl)⟩ (Nat.le_of_ble_eq_true rfl) dL_act_621 (fun v558 U559 G560 hq => ?_)
                                        clear h
                                        · obtain ⟨r557, rfl, rfl, rfl, h⟩ := hq
                                          refine zr_bipush C 10 dL_act_624 (by decide) ?_
                                          obtain ⟨h1, h2⟩ := h
                                          refine zr_icmp_lt C 636 dL_act_626 (by decide) (fun hc => ?_) (fun hc => ?_)
                                          · have h := h1 hc
                                            clear h1 h2
                                            refine zr_iconst C 1 dL_act_636 (by decide) ?_
                                            refine zr_goto C 641 dL_act_637 (by decide) ?_
                                            exact zr_X (zr_zret C rfl (Or.inr rfl) ⟨_, rfl, h⟩ (Nat.le_of_ble_eq_true rfl) (Nat.le_of_ble_eq_true rfl) dL_act_641)
                                          · have h := h2 hc
                                            clear h1 h2
                                            refine zr_iload C 4 dL_act_629 rfl ?_
                                            refine zr_bipush C 99 dL_act_631 (by decide) ?_
                                            obtain ⟨h1, h2⟩ := h
                                            refine zr_icmp_ne C 640 dL_act_633 (by decide) (fun hc => ?_) (fun hc => ?_)
                                            · have h := h1 hc
                                              clear h1 h2
                                              refine zr_iconst C 0 dL_act_640 (by decide) ?_
                                              exact zr_X (zr_zret C rfl (Or.inl rfl) ⟨_, rfl, h⟩ (Nat.le_of_ble_eq_true rfl) (Nat.le_of_ble_eq_true rfl) dL_act_641)
                                            · have h := h2 hc
                                              clear h1 h2
                                              refine zr_iconst C 1 dL_act_636 (by decide) ?_
                                              refine zr_goto C 641 dL_act_637 (by decide) ?_
                                              exact zr_X (zr_zret C rfl (Or.inr rfl) ⟨_, rfl, h⟩ (Nat.le_of_ble_eq_true rfl) (Nat.le_of_ble_eq_true rfl) dL_act_641)
                        · obtain ⟨r465, rfl, rfl, rfl, h⟩ := hq
                          refine zr_istore C [(9, .int r465), (8, .int r464), (7, .int y461), (6, .int y458), (5, .int r6), (4, .int r4), (3, .int r2), (2, .int r1), (0, .ref a0), (1, .int p1)] dL_act_217 (by decide) rfl ?_
                          refine zr_aload_n C 8 dL_act_219 rfl rfl ?_
                          refine zr_iload_n C 7 dL_act_220 rfl rfl ?_
                          refine zr_iload_n C 6 dL_act_221 rfl rfl ?_
                          refine zr_iload_n C 9 dL_act_222 rfl rfl ?_
                          refine zr_iconst C 4 dL_act_223 (by decide) ?_
                          refine zr_ishr C dL_act_224 ?_
                          refine zr_iconst C 2 dL_act_225 (by decide) ?_
                          refine zr_callS (As := [.int (p1 >>> (4 &&& 31)), .int 2]) C (k_L_below h) ok_L_22 zq_677 rfl ⟨by decide, (Nat.le_of_ble_eq_true rfl)⟩ ⟨(Nat.le_of_ble_eq_true rfl), (Nat.le_of_ble_eq_true rfl)⟩ (Nat.le_of_ble_eq_true rfl) dL_act_226 (fun v547 U548 G549 hq => ?_)
                          clear h
                          · obtain ⟨r466, rfl, rfl, rfl, h⟩ := hq
                            refine zr_iload C 3 dL_act_229 rfl ?_
                            refine zr_iload C 2 dL_act_231 rfl ?_
                            refine zr_bipush C 10 dL_act_233 (by decide) ?_
                            refine zr_iload_n C 9 dL_act_235 rfl rfl ?_
                            refine zr_iconst C 4 dL_act_236 (by decide) ?_
                            refine zr_ishr C dL_act_237 ?_
                            refine zr_bipush C 90 dL_act_238 (by decide) ?_
                            refine zr_callS (As := [.int (p1 >>> (4 &&& 31)), .int 90]) C (k_L_below h) ok_L_22 zq_677 rfl ⟨by decide, (Nat.le_of_ble_eq_true rfl)⟩ ⟨(Nat.le_of_ble_eq_true rfl), (Nat.le_of_ble_eq_true rfl)⟩ (Nat.le_of_ble_eq_true rfl) dL_act_240 (fun v544 U545 G546 hq => ?_)
                            clear h
                            · obtain ⟨r467, rfl, rfl, rfl, h⟩ := hq
                              refine zr_iadd C dL_act_243 ?_
                              refine zr_callVX (As := [.int r1, .int r2, .int r466, .int y458, .int y461, .int ((10 : Int32) + r467)]) (r := (RX4, TX4, 4)) C (k_X4_book h) ok_L_84 zq_731 zq_732 hT3 (by decide) rfl rfl ⟨by decide, (Nat.le_of_ble_eq_true rfl)⟩ ⟨(Nat.le_of_ble_eq_true rfl), (Nat.le_of_ble_eq_true rfl)⟩ (Nat.le_of_ble_eq_true rfl) dL_act_244 ?_ (fun v541 U542 G543 hq => ?_)
                              · clear h
                                intro E9 T9 F9 hq
                                rcases hq with hq | hq
                                · obtain ⟨rfl, h⟩ := hq
                                  refine zr_catch C "java/lang/IndexOutOfBoundsException" _ [⟨41, 125, 568, 109⟩, ⟨126, 151, 568, 109⟩] ⟨152, 283, 568, 109⟩ [⟨284, 328, 568, 109⟩, ⟨329, 394, 568, 109⟩, ⟨395, 431, 568, 109⟩, ⟨432, 463, 568, 109⟩, ⟨464, 496, 568, 109⟩, ⟨497, 567, 568, 109⟩, ⟨41, 125, 584, 111⟩, ⟨126, 151, 584, 111⟩, ⟨152, 283, 584, 111⟩, ⟨284, 328, 584, 111⟩, ⟨329, 394, 584, 111⟩, ⟨395, 431, 584, 111⟩, ⟨432, 463, 584, 111⟩, ⟨464, 496, 584, 111⟩, ⟨497, 567, 584, 111⟩] 568 hxt rfl (List.forall_mem_cons.mpr ⟨Or.inl (by decide), (List.forall_mem_cons.mpr ⟨Or.inl (by decide), (fun _ h9 => nomatch h9)⟩)⟩) (by decide) (by decide) zq_687 zq_275 rfl (fun q9 => ?_)
                                  refine zr_astore C [(6, .ref q9), (9, .int r465), (8, .int r464), (7, .int y461), (5, .int r6), (4, .int r4), (3, .int r2), (2, .int r1), (0, .ref a0), (1, .int p1)] dL_act_568 (by decide) rfl ?_
                                  refine zr_aload_n C 8 dL_act_570 rfl rfl ?_
                                  refine zr_iconst C 2 dL_act_571 (by decide) ?_
                                  obtain ⟨hT520, h⟩ := h
                                  refine zr_callV (As := [.int 2]) (r := (RX4, TX4, 4)) C (k_X4_many0 h) ok_L_36 zq_393 zq_394 hT520 (by decide) rfl rfl ⟨by decide, (Nat.le_of_ble_eq_true rfl)⟩ ⟨(Nat.le_of_ble_eq_true rfl), (Nat.le_of_ble_eq_true rfl)⟩ (Nat.le_of_ble_eq_true rfl) dL_act_572 (fun v522 U523 G524 hq => ?_)
                                  clear h
                                  · obtain ⟨r521, rfl, rfl, rfl, h⟩ := hq
                                    obtain ⟨h1, h2⟩ := h
                                    refine zr_if_ne C 582 dL_act_575 (by decide) (fun hc => ?_) (fun hc => ?_)
                                    · have h := h1 hc
                                      clear h1 h2
                                      refine zr_iconst C 0 dL_act_582 (by decide) ?_
                                      exact zr_X (zr_zret C rfl (Or.inl rfl) ⟨_, rfl, h⟩ (Nat.le_of_ble_eq_true rfl) (Nat.le_of_ble_eq_true rfl) dL_act_583)
                                    · have h := h2 hc
                                      clear h1 h2
                                      refine zr_iconst C 1 dL_act_578 (by decide) ?_
                                      refine zr_goto C 583 dL_act_579 (by decide) ?_
                                      exact zr_X (zr_zret C rfl (Or.inr rfl) ⟨_, rfl, h⟩ (Nat.le_of_ble_eq_true rfl) (Nat.le_of_ble_eq_true rfl) dL_act_583)
                                · obtain ⟨rfl, h⟩ := hq
                                  refine zr_catch C "java/lang/IllegalStateException" _ [⟨41, 125, 568, 109⟩, ⟨126, 151, 568, 109⟩, ⟨152, 283, 568, 109⟩, ⟨284, 328, 568, 109⟩, ⟨329, 394, 568, 109⟩, ⟨395, 431, 568, 109⟩, ⟨432, 463, 568, 109⟩, ⟨464, 496, 568, 109⟩, ⟨497, 567, 568, 109⟩, ⟨41, 125, 584, 111⟩, ⟨126, 151, 584, 111⟩] ⟨152, 283, 584, 111⟩ [⟨284, 328, 584, 111⟩, ⟨329, 394, 584, 111⟩, ⟨395, 431, 584, 111⟩, ⟨432, 463, 584, 111⟩, ⟨464, 496, 584, 111⟩, ⟨497, 567, 584, 111⟩] 584 hxt rfl (List.forall_mem_cons.mpr ⟨Or.inl (by decide), (List.forall_mem_cons.mpr ⟨Or.inl (by decide), (List.forall_mem_cons.mpr ⟨Or.inr ⟨by decide, "java/lang/IndexOutOfBoundsException", zq_687, by decide +kernel⟩, (List.forall_mem_cons.mpr ⟨Or.inl (by decide), (List.forall_mem_cons.mpr ⟨Or.inl (by decide), (List.forall_mem_cons.mpr ⟨Or.inl (by decide), (List.forall_mem_cons.mpr ⟨Or.inl (by decide), (List.forall_mem_cons.mpr ⟨Or.inl (by decide), (List.forall_mem_cons.mpr ⟨Or.inl (by decide), (List.forall_mem_cons.mpr ⟨Or.inl (by decide), (List.forall_mem_cons.mpr ⟨Or.inl (by decide), (fun _ h9 => nomatch h9)⟩)⟩)⟩)⟩)⟩)⟩)⟩)⟩)⟩)⟩)⟩) (by decide) (by decide) zq_688 zq_117 rfl (fun q9 => ?_)
                                  refine zr_astore C [(6, .ref q9), (9, .int r465), (8, .int r464), (7, .int y461), (5, .int r6), (4, .int r4), (3, .int r2), (2, .int r1), (0, .ref a0), (1, .int p1)] dL_act_584 (by decide) rfl ?_
                                  refine zr_iload_n C 9 dL_act_586 rfl rfl ?_
                                  refine zr_bipush C 13 dL_act_587 (by decide) ?_
                                  refine zr_callS (As := [.int p1, .int 13]) C (k_L_below h) ok_L_22 zq_677 rfl ⟨by decide, (Nat.le_of_ble_eq_true rfl)⟩ ⟨(Nat.le_of_ble_eq_true rfl), (Nat.le_of_ble_eq_true rfl)⟩ (Nat.le_of_ble_eq_true rfl) dL_act_589 (fun v538 U539 G540 hq => ?_)
                                  clear h
                                  · obtain ⟨r525, rfl, rfl, rfl, h⟩ := hq
                                    refine zr_iconst C 2 dL_act_592 (by decide) ?_
                                    obtain ⟨h1, h2⟩ := h
                                    refine zr_icmp_eq C 640 dL_act_593 (by decide) (fun hc => ?_) (fun hc => ?_)
                                    · have h := h1 hc
                                      clear h1 h2
                                      refine zr_iconst C 0 dL_act_640 (by decide) ?_
                                      exact zr_X (zr_zret C rfl (Or.inl rfl) ⟨_, rfl, h⟩ (Nat.le_of_ble_eq_true rfl) (Nat.le_of_ble_eq_true rfl) dL_act_641)
                                    · have h := h2 hc
                                      clear h1 h2
                                      refine zr_iload_n C 9 dL_act_596 rfl rfl ?_
                                      refine zr_bipush C 13 dL_act_597 (by decide) ?_
                                      refine zr_callS (As := [.int p1, .int 13]) C (k_L_below h) ok_L_22 zq_677 rfl ⟨by decide, (Nat.le_of_ble_eq_true rfl)⟩ ⟨(Nat.le_of_ble_eq_true rfl), (Nat.le_of_ble_eq_true rfl)⟩ (Nat.le_of_ble_eq_true rfl) dL_act_599 (fun v535 U536 G537 hq => ?_)
                                      clear h
                                      · obtain ⟨r526, rfl, rfl, rfl, h⟩ := hq
                                        refine zr_bipush C 6 dL_act_602 (by decide) ?_
                                        obtain ⟨h1, h2⟩ := h
                                        refine zr_icmp_eq C 640 dL_act_604 (by decide) (fun hc => ?_) (fun hc => ?_)
                                        · have h := h1 hc
                                          clear h1 h2
                                          refine zr_iconst C 0 dL_act_640 (by decide) ?_
                                          exact zr_X (zr_zret C rfl (Or.inl rfl) ⟨_, rfl, h⟩ (Nat.le_of_ble_eq_true rfl) (Nat.le_of_ble_eq_true rfl) dL_act_641)
                                        · have h := h2 hc
                                          clear h1 h2
                                          refine zr_iload_n C 9 dL_act_607 rfl rfl ?_
                                          refine zr_bipush C 13 dL_act_608 (by decide) ?_
                                          refine zr_callS (As := [.int p1, .int 13]) C (k_L_below h) ok_L_22 zq_677 rfl ⟨by decide, (Nat.le_of_ble_eq_true rfl)⟩ ⟨(Nat.le_of_ble_eq_true rfl), (Nat.le_of_ble_eq_true rfl)⟩ (Nat.le_of_ble_eq_true rfl) dL_act_610 (fun v532 U533 G534 hq => ?_)
                                          clear h
                                          · obtain ⟨r527, rfl, rfl, rfl, h⟩ := hq
                                            refine zr_bipush C 9 dL_act_613 (by decide) ?_
                                            obtain ⟨h1, h2⟩ := h
                                            refine zr_icmp_eq C 640 dL_act_615 (by decide) (fun hc => ?_) (fun hc => ?_)
                                            · have h := h1 hc
                                              clear h1 h2
                                              refine zr_iconst C 0 dL_act_640 (by decide) ?_
                                              exact zr_X (zr_zret C rfl (Or.inl rfl) ⟨_, rfl, h⟩ (Nat.le_of_ble_eq_true rfl) (Nat.le_of_ble_eq_true rfl) dL_act_641)
                                            · have h := h2 hc
                                              clear h1 h2
                                              refine zr_iload_n C 9 dL_act_618 rfl rfl ?_
                                              refine zr_bipush C 13 dL_act_619 (by decide) ?_
                                              refine zr_callS (As := [.int p1, .int 13]) C (k_L_below h) ok_L_22 zq_677 rfl ⟨by decide, (Nat.le_of_ble_eq_true rfl)⟩ ⟨(Nat.le_of_ble_eq_true rfl), (Nat.le_of_ble_eq_true rfl)⟩ (Nat.le_of_ble_eq_true rfl) dL_act_621 (fun v529 U530 G531 hq => ?_)
                                              clear h
                                              · obtain ⟨r528, rfl, rfl, rfl, h⟩ := hq
                                                refine zr_bipush C 10 dL_act_624 (by decide) ?_
                                                obtain ⟨h1, h2⟩ := h
                                                refine zr_icmp_lt C 636 dL_act_626 (by decide) (fun hc => ?_) (fun hc => ?_)
                                                · have h := h1 hc
                                                  clear h1 h2
                                                  refine zr_iconst C 1 dL_act_636 (by decide) ?_
                                                  refine zr_goto C 641 dL_act_637 (by decide) ?_
                                                  exact zr_X (zr_zret C rfl (Or.inr rfl) ⟨_, rfl, h⟩ (Nat.le_of_ble_eq_true rfl) (Nat.le_of_ble_eq_true rfl) dL_act_641)
                                                · have h := h2 hc
                                                  clear h1 h2
                                                  refine zr_iload C 5 dL_act_629 rfl ?_
                                                  refine zr_bipush C 99 dL_act_631 (by decide) ?_
                                                  obtain ⟨h1, h2⟩ := h
                                                  refine zr_icmp_ne C 640 dL_act_633 (by decide) (fun hc => ?_) (fun hc => ?_)
                                                  · have h := h1 hc
                                                    clear h1 h2
                                                    refine zr_iconst C 0 dL_act_640 (by decide) ?_
                                                    exact zr_X (zr_zret C rfl (Or.inl rfl) ⟨_, rfl, h⟩ (Nat.le_of_ble_eq_true rfl) (Nat.le_of_ble_eq_true rfl) dL_act_641)
                                                  · have h := h2 hc
                                                    clear h1 h2
                                                    refine zr_iconst C 1 dL_act_636 (by decide) ?_
                                                    refine zr_goto C 641 dL_act_637 (by decide) ?_
                                                    exact zr_X (zr_zret C rfl (Or.inr rfl) ⟨_, rfl, h⟩ (Nat.le_of_ble_eq_true rfl) (Nat.le_of_ble_eq_true rfl) dL_act_641)
                              · obtain ⟨r468, rfl, h⟩ := hq
                                skip
                                refine zr_iload C 0 dL_act_247 rfl ?_
                                obtain ⟨h1, h2⟩ := h
                                refine zr_icmp_ne C 282 dL_act_249 (by decide) (fun hc => ?_) (fun hc => ?_)
                                · have h := h1 hc
                                  clear h1 h2
                                  refine zr_iconst C 0 dL_act_282 (by decide) ?_
                                  exact zr_X (zr_zret C rfl (Or.inl rfl) ⟨_, rfl, h⟩ (Nat.le_of_ble_eq_true rfl) (Nat.le_of_ble_eq_true rfl) dL_act_283)
                                · have h := h2 hc
                                  clear h1 h2
                                  refine zr_aload_n C 8 dL_act_252 rfl rfl ?_
                                  refine zr_iload C 0 dL_act_253 rfl ?_
                                  refine zr_bipush C 6 dL_act_255 (by decide) ?_
                                  obtain ⟨hT471, h⟩ := h
                                  refine zr_callVX (As := [.int r465, .int 6]) (r := (RX4, TX4, 4)) C (k_X4_ofBooking h) ok_L_40 zq_378 zq_379 hT471 (by decide) rfl rfl ⟨by decide, (Nat.le_of_ble_eq_true rfl)⟩ ⟨(Nat.le_of_ble_eq_true rfl), (Nat.le_of_ble_eq_true rfl)⟩ (Nat.le_of_ble_eq_true rfl) dL_act_257 ?_ (fun v517 U518 G519 hq => ?_)
                                  · clear h
                                    intro E9 T9 F9 hq
                                    obtain ⟨rfl, rfl, hq⟩ := hq
                                    rcases hq with hq | hq
                                    · obtain ⟨rfl, h⟩ := hq
                                      refine zr_catch C "java/lang/IndexOutOfBoundsException" _ [⟨41, 125, 568, 109⟩, ⟨126, 151, 568, 109⟩] ⟨152, 283, 568, 109⟩ [⟨284, 328, 568, 109⟩, ⟨329, 394, 568, 109⟩, ⟨395, 431, 568, 109⟩, ⟨432, 463, 568, 109⟩, ⟨464, 496, 568, 109⟩, ⟨497, 567, 568, 109⟩, ⟨41, 125, 584, 111⟩, ⟨126, 151, 584, 111⟩, ⟨152, 283, 584, 111⟩, ⟨284, 328, 584, 111⟩, ⟨329, 394, 584, 111⟩, ⟨395, 431, 584, 111⟩, ⟨432, 463, 584, 111⟩, ⟨464, 496, 584, 111⟩, ⟨497, 567, 584, 111⟩] 568 hxt rfl (List.forall_mem_cons.mpr ⟨Or.inl (by decide), (List.forall_mem_cons.mpr ⟨Or.inl (by decide), (fun _ h9 => nomatch h9)⟩)⟩) (by decide) (by decide) zq_687 zq_275 rfl (fun q9 => ?_)
                                      refine zr_astore C [(6, .ref q9), (9, .int r465), (8, .int r464), (7, .int y461), (5, .int r6), (4, .int r4), (3, .int r2), (2, .int r1), (0, .ref a0), (1, .int p1)] dL_act_568 (by decide) rfl ?_
                                      refine zr_aload_n C 8 dL_act_570 rfl rfl ?_
                                      refine zr_iconst C 2 dL_act_571 (by decide) ?_
                                      refine zr_callV (As := [.int 2]) (r := (RX4, TX4, 4)) C (k_X4_many0 h) ok_L_36 zq_393 zq_394 hT471 (by decide) rfl rfl ⟨by decide, (Nat.le_of_ble_eq_true rfl)⟩ ⟨(Nat.le_of_ble_eq_true rfl), (Nat.le_of_ble_eq_true rfl)⟩ (Nat.le_of_ble_eq_true rfl) dL_act_572 (fun v498 U499 G500 hq => ?_)
                                      clear h
                                      · obtain ⟨r497, rfl, rfl, rfl, h⟩ := hq
                                        obtain ⟨h1, h2⟩ := h
                                        refine zr_if_ne C 582 dL_act_575 (by decide) (fun hc => ?_) (fun hc => ?_)
                                        · have h := h1 hc
                                          clear h1 h2
                                          refine zr_iconst C 0 dL_act_582 (by decide) ?_
                                          exact zr_X (zr_zret C rfl (Or.inl rfl) ⟨_, rfl, h⟩ (Nat.le_of_ble_eq_true rfl) (Nat.le_of_ble_eq_true rfl) dL_act_583)
                                        · have h := h2 hc
                                          clear h1 h2
                                          refine zr_iconst C 1 dL_act_578 (by decide) ?_
                                          refine zr_goto C 583 dL_act_579 (by decide) ?_
                                          exact zr_X (zr_zret C rfl (Or.inr rfl) ⟨_, rfl, h⟩ (Nat.le_of_ble_eq_true rfl) (Nat.le_of_ble_eq_true rfl) dL_act_583)
                                    · obtain ⟨rfl, h⟩ := hq
                                      refine zr_catch C "java/lang/IllegalStateException" _ [⟨41, 125, 568, 109⟩, ⟨126, 151, 568, 109⟩, ⟨152, 283, 568, 109⟩, ⟨284, 328, 568, 109⟩, ⟨329, 394, 568, 109⟩, ⟨395, 431, 568, 109⟩, ⟨432, 463, 568, 109⟩, ⟨464, 496, 568, 109⟩, ⟨497, 567, 568, 109⟩, ⟨41, 125, 584, 111⟩, ⟨126, 151, 584, 111⟩] ⟨152, 283, 584, 111⟩ [⟨284, 328, 584, 111⟩, ⟨329, 394, 584, 111⟩, ⟨395, 431, 584, 111⟩, ⟨432, 463, 584, 111⟩, ⟨464, 496, 584, 111⟩, ⟨497, 567, 584, 111⟩] 584 hxt rfl (List.forall_mem_cons.mpr ⟨Or.inl (by decide), (List.forall_mem_cons.mpr ⟨Or.inl (by decide), (List.forall_mem_cons.mpr ⟨Or.inr ⟨by decide, "java/lang/IndexOutOfBoundsException", zq_687, by decide +kernel⟩, (List.forall_mem_cons.mpr ⟨Or.inl (by decide), (List.forall_mem_cons.mpr ⟨Or.inl (by decide), (List.forall_mem_cons.mpr ⟨Or.inl (by decide), (List.forall_mem_cons.mpr ⟨Or.inl (by decide), (List.forall_mem_cons.mpr ⟨Or.inl (by decide), (List.forall_mem_cons.mpr ⟨Or.inl (by decide), (List.forall_mem_cons.mpr ⟨Or.inl (by decide), (List.forall_mem_cons.mpr ⟨Or.inl (by decide), (fun _ h9 => nomatch h9)⟩)⟩)⟩)⟩)⟩)⟩)⟩)⟩)⟩)⟩)⟩) (by decide) (by decide) zq_688 zq_117 rfl (fun q9 => ?_)
                                      refine zr_astore C [(6, .ref q9), (9, .int r465), (8, .int r464), (7, .int y461), (5, .int r6), (4, .int r4), (3, .int r2), (2, .int r1), (0, .ref a0), (1, .int p1)] dL_act_584 (by decide) rfl ?_
                                      refine zr_iload_n C 9 dL_act_586 rfl rfl ?_
                                      refine zr_bipush C 13 dL_act_587 (by decide) ?_
                                      refine zr_callS (As := [.int p1, .int 13]) C (k_L_below h) ok_L_22 zq_677 rfl ⟨by decide, (Nat.le_of_ble_eq_true rfl)⟩ ⟨(Nat.le_of_ble_eq_true rfl), (Nat.le_of_ble_eq_true rfl)⟩ (Nat.le_of_ble_eq_true rfl) dL_act_589 (fun v514 U515 G516 hq => ?_)
                                      clear h
                                      · obtain ⟨r501, rfl, rfl, rfl, h⟩ := hq
                                        refine zr_iconst C 2 dL_act_592 (by decide) ?_
                                        obtain ⟨h1, h2⟩ := h
                                        refine zr_icmp_eq C 640 dL_act_593 (by decide) (fun hc => ?_) (fun hc => ?_)
                                        · have h := h1 hc
                                          clear h1 h2
                                          refine zr_iconst C 0 dL_act_640 (by decide) ?_
                                          exact zr_X (zr_zret C rfl (Or.inl rfl) ⟨_, rfl, h⟩ (Nat.le_of_ble_eq_true rfl) (Nat.le_of_ble_eq_true rfl) dL_act_641)
                                        · have h := h2 hc
                                          clear h1 h2
                                          refine zr_iload_n C 9 dL_act_596 rfl rfl ?_
                                          refine zr_bipush C 13 dL_act_597 (by decide) ?_
                                          refine zr_callS (As := [.int p1, .int 13]) C (k_L_below h) ok_L_22 zq_677 rfl ⟨by decide, (Nat.le_of_ble_eq_true rfl)⟩ ⟨(Nat.le_of_ble_eq_true rfl), (Nat.le_of_ble_eq_true rfl)⟩ (Nat.le_of_ble_eq_true rfl) dL_act_599 (fun v511 U512 G513 hq => ?_)
                                          clear h
                                          · obtain ⟨r502, rfl, rfl, rfl, h⟩ := hq
                                            refine zr_bipush C 6 dL_act_602 (by decide) ?_
                                            obtain ⟨h1, h2⟩ := h
                                            refine zr_icmp_eq C 640 dL_act_604 (by decide) (fun hc => ?_) (fun hc => ?_)
                                            · have h := h1 hc
                                              clear h1 h2
                                              refine zr_iconst C 0 dL_act_640 (by decide) ?_
                                              exact zr_X (zr_zret C rfl (Or.inl rfl) ⟨_, rfl, h⟩ (Nat.le_of_ble_eq_true rfl) (Nat.le_of_ble_eq_true rfl) dL_act_641)
                                            · have h := h2 hc
                                              clear h1 h2
                                              refine zr_iload_n C 9 dL_act_607 rfl rfl ?_
                                              refine zr_bipush C 13 dL_act_608 (by decide) ?_
                                              refine zr_callS (As := [.int p1, .int 13]) C (k_L_below h) ok_L_22 zq_677 rfl ⟨by decide, (Nat.le_of_ble_eq_true rfl)⟩ ⟨(Nat.le_of_ble_eq_true rfl), (Nat.le_of_ble_eq_true rfl)⟩ (Nat.le_of_ble_eq_true rfl) dL_act_610 (fun v508 U509 G510 hq => ?_)
                                              clear h
                                              · obtain ⟨r503, rfl, rfl, rfl, h⟩ := hq
                                                refine zr_bipush C 9 dL_act_613 (by decide) ?_
                                                obtain ⟨h1, h2⟩ := h
                                                refine zr_icmp_eq C 640 dL_act_615 (by decide) (fun hc => ?_) (fun hc => ?_)
                                                · have h := h1 hc
                                                  clear h1 h2
                                                  refine zr_iconst C 0 dL_act_640 (by decide) ?_
                                                  exact zr_X (zr_zret C rfl (Or.inl rfl) ⟨_, rfl, h⟩ (Nat.le_of_ble_eq_true rfl) (Nat.le_of_ble_eq_true rfl) dL_act_641)
                                                · have h := h2 hc
                                                  clear h1 h2
                                                  refine zr_iload_n C 9 dL_act_618 rfl rfl ?_
                                                  refine zr_bipush C 13 dL_act_619 (by decide) ?_
                                                  refine zr_callS (As := [.int p1, .int 13]) C (k_L_below h) ok_L_22 zq_677 rfl ⟨by decide, (Nat.le_of_ble_eq_true rfl)⟩ ⟨(Nat.le_of_ble_eq_true rfl), (Nat.le_of_ble_eq_true rfl)⟩ (Nat.le_of_ble_eq_true rfl) dL_act_621 (fun v505 U506 G507 hq => ?_)
                                                  clear h
                                                  · obtain ⟨r504, rfl, rfl, rfl, h⟩ := hq
                                                    refine zr_bipush C 10 dL_act_624 (by decide) ?_
                                                    obtain ⟨h1, h2⟩ := h
                                                    refine zr_icmp_lt C 636 dL_act_626 (by decide) (fun hc => ?_) (fun hc => ?_)
                                                    · have h := h1 hc
                                                      clear h1 h2
                                                      refine zr_iconst C 1 dL_act_636 (by decide) ?_
                                                      refine zr_goto C 641 dL_act_637 (by decide) ?_
                                                      exact zr_X (zr_zret C rfl (Or.inr rfl) ⟨_, rfl, h⟩ (Nat.le_of_ble_eq_true rfl) (Nat.le_of_ble_eq_true rfl) dL_act_641)
                                                    · have h := h2 hc
                                                      clear h1 h2
                                                      refine zr_iload C 5 dL_act_629 rfl ?_
                                                      refine zr_bipush C 99 dL_act_631 (by decide) ?_
                                                      obtain ⟨h1, h2⟩ := h
                                                      refine zr_icmp_ne C 640 dL_act_633 (by decide) (fun hc => ?_) (fun hc => ?_)
                                                      · have h := h1 hc
                                                        clear h1 h2
                                                        refine zr_iconst C 0 dL_act_640 (by decide) ?_
                                                        exact zr_X (zr_zret C rfl (Or.inl rfl) ⟨_, rfl, h⟩ (Nat.le_of_ble_eq_true rfl) (Nat.le_of_ble_eq_true rfl) dL_act_641)
                                                      · have h := h2 hc
                                                        clear h1 h2
                                                        refine zr_iconst C 1 dL_act_636 (by decide) ?_
                                                        refine zr_goto C 641 dL_act_637 (by decide) ?_
                                                        exact zr_X (zr_zret C rfl (Or.inr rfl) ⟨_, rfl, h⟩ (Nat.le_of_ble_eq_true rfl) (Nat.le_of_ble_eq_true rfl) dL_act_641)
                                  · obtain ⟨r472, rfl, rfl, rfl, h⟩ := hq
                                    refine zr_iload C 1 dL_act_260 rfl ?_
                                    obtain ⟨h1, h2⟩ := h
                                    refine zr_icmp_ne C 282 dL_act_262 (by decide) (fun hc => ?_) (fun hc => ?_)
                                    · have h := h1 hc
                                      clear h1 h2
                                      refine zr_iconst C 0 dL_act_282 (by decide) ?_
                                      exact zr_X (zr_zret C rfl (Or.inl rfl) ⟨_, rfl, h⟩ (Nat.le_of_ble_eq_true rfl) (Nat.le_of_ble_eq_true rfl) dL_act_283)
                                    · have h := h2 hc
                                      clear h1 h2
                                      refine zr_aload_n C 8 dL_act_265 rfl rfl ?_
                                      refine zr_iload C 0 dL_act_266 rfl ?_
                                      refine zr_bipush C 7 dL_act_268 (by decide) ?_
                                      refine zr_callVX (As := [.int r465, .int 7]) (r := (RX4, TX4, 4)) C (k_X4_ofBooking h) ok_L_40 zq_378 zq_379 hT471 (by decide) rfl rfl ⟨by decide, (Nat.le_of_ble_eq_true rfl)⟩ ⟨(Nat.le_of_ble_eq_true rfl), (Nat.le_of_ble_eq_true rfl)⟩ (Nat.le_of_ble_eq_true rfl) dL_act_270 ?_ (fun v494 U495 G496 hq => ?_)
                                      · clear h
                                        intro E9 T9 F9 hq
                                        obtain ⟨rfl, rfl, hq⟩ := hq
                                        rcases hq with hq | hq
                                        · obtain ⟨rfl, h⟩ := hq
                                          refine zr_catch C "java/lang/IndexOutOfBoundsException" _ [⟨41, 125, 568, 109⟩, ⟨126, 151, 568, 109⟩] ⟨152, 283, 568, 109⟩ [⟨284, 328, 568, 109⟩, ⟨329, 394, 568, 109⟩, ⟨395, 431, 568, 109⟩, ⟨432, 463, 568, 109⟩, ⟨464, 496, 568, 109⟩, ⟨497, 567, 568, 109⟩, ⟨41, 125, 584, 111⟩, ⟨126, 151, 584, 111⟩, ⟨152, 283, 584, 111⟩, ⟨284, 328, 584, 111⟩, ⟨329, 394, 584, 111⟩, ⟨395, 431, 584, 111⟩, ⟨432, 463, 584, 111⟩, ⟨464, 496, 584, 111⟩, ⟨497, 567, 584, 111⟩] 568 hxt rfl (List.forall_mem_cons.mpr ⟨Or.inl (by decide), (List.forall_mem_cons.mpr ⟨Or.inl (by decide), (fun _ h9 => nomatch h9)⟩)⟩) (by decide) (by decide) zq_687 zq_275 rfl (fun q9 => ?_)
                                          refine zr_astore C [(6, .ref q9), (9, .int r465), (8, .int r464), (7, .int y461), (5, .int r6), (4, .int r4), (3, .int r2), (2, .int r1), (0, .ref a0), (1, .int p1)] dL_act_568 (by decide) rfl ?_
                                          refine zr_aload_n C 8 dL_act_570 rfl rfl ?_
                                          refine zr_iconst C 2 dL_act_571 (by decide) ?_
                                          refine zr_callV (As := [.int 2]) (r := (RX4, TX4, 4)) C (k_X4_many0 h) ok_L_36 zq_393 zq_394 hT471 (by decide) rfl rfl ⟨by decide, (Nat.le_of_ble_eq_true rfl)⟩ ⟨(Nat.le_of_ble_eq_true rfl), (Nat.le_of_ble_eq_true rfl)⟩ (Nat.le_of_ble_eq_true rfl) dL_act_572 (fun v475 U476 G477 hq => ?_)
                                          clear h
                                          · obtain ⟨r474, rfl, rfl, rfl, h⟩ := hq
                                            obtain ⟨h1, h2⟩ := h
                                            refine zr_if_ne C 582 dL_act_575 (by decide) (fun hc => ?_) (fun hc => ?_)
                                            · have h := h1 hc
                                              clear h1 h2
                                              refine zr_iconst C 0 dL_act_582 (by decide) ?_
                                              exact zr_X (zr_zret C rfl (Or.inl rfl) ⟨_, rfl, h⟩ (Nat.le_of_ble_eq_true rfl) (Nat.le_of_ble_eq_true rfl) dL_act_583)
                                            · have h := h2 hc
                                              clear h1 h2
                                              refine zr_iconst C 1 dL_act_578 (by decide) ?_
                                              refine zr_goto C 583 dL_act_579 (by decide) ?_
                                              exact zr_X (zr_zret C rfl (Or.inr rfl) ⟨_, rfl, h⟩ (Nat.le_of_ble_eq_true rfl) (Nat.le_of_ble_eq_true rfl) dL_act_583)
                                        · obtain ⟨rfl, h⟩ := hq
                                          refine zr_catch C "java/lang/IllegalStateException" _ [⟨41, 125, 568, 109⟩, ⟨126, 151, 568, 109⟩, ⟨152, 283, 568, 109⟩, ⟨284, 328, 568, 109⟩, ⟨329, 394, 568, 109⟩, ⟨395, 431, 568, 109⟩, ⟨432, 463, 568, 109⟩, ⟨464, 496, 568, 109⟩, ⟨497, 567, 568, 109⟩, ⟨41, 125, 584, 111⟩, ⟨126, 151, 584, 111⟩] ⟨152, 283, 584, 111⟩ [⟨284, 328, 584, 111⟩, ⟨329, 394, 584, 111⟩, ⟨395, 431, 584, 111⟩, ⟨432, 463, 584, 111⟩, ⟨464, 496, 584, 111⟩, ⟨497, 567, 584, 111⟩] 584 hxt rfl (List.forall_mem_cons.mpr ⟨Or.inl (by decide), (List.forall_mem_cons.mpr ⟨Or.inl (by decide), (List.forall_mem_cons.mpr ⟨Or.inr ⟨by decide, "java/lang/IndexOutOfBoundsException", zq_687, by decide +kernel⟩, (List.forall_mem_cons.mpr ⟨Or.inl (by decide), (List.forall_mem_cons.mpr ⟨Or.inl (by decide), (List.forall_mem_cons.mpr ⟨Or.inl (by decide), (List.forall_mem_cons.mpr ⟨Or.inl (by decide), (List.forall_mem_cons.mpr ⟨Or.inl (by decide), (List.forall_mem_cons.mpr ⟨Or.inl (by decide), (List.forall_mem_cons.mpr ⟨Or.inl (by decide), (List.forall_mem_cons.mpr ⟨Or.inl (by decide), (fun _ h9 => nomatch h9)⟩)⟩)⟩)⟩)⟩)⟩)⟩)⟩)⟩)⟩)⟩) (by decide) (by decide) zq_688 zq_117 rfl (fun q9 => ?_)
                                          refine zr_astore C [(6, .ref q9), (9, .int r465), (8, .int r464), (7, .int y461), (5, .int r6), (4, .int r4), (3, .int r2), (2, .int r1), (0, .ref a0), (1, .int p1)] dL_act_584 (by decide) rfl ?_
                                          refine zr_iload_n C 9 dL_act_586 rfl rfl ?_
                                          refine zr_bipush C 13 dL_act_587 (by decide) ?_
                                          refine zr_callS (As := [.int p1, .int 13]) C (k_L_below h) ok_L_22 zq_677 rfl ⟨by decide, (Nat.le_of_ble_eq_true rfl)⟩ ⟨(Nat.le_of_ble_eq_true rfl), (Nat.le_of_ble_eq_true rfl)⟩ (Nat.le_of_ble_eq_true rfl) dL_act_589 (fun v491 U492 G493 hq => ?_)
                                          clear h
                                          · obtain ⟨r478, rfl, rfl, rfl, h⟩ := hq
                                            refine zr_iconst C 2 dL_act_592 (by decide) ?_
                                            obtain ⟨h1, h2⟩ := h
                                            refine zr_icmp_eq C 640 dL_act_593 (by decide) (fun hc => ?_) (fun hc => ?_)
                                            · have h := h1 hc
                                              clear h1 h2
                                              refine zr_iconst C 0 dL_act_640 (by decide) ?_
                                              exact zr_X (zr_zret C rfl (Or.inl rfl) ⟨_, rfl, h⟩ (Nat.le_of_ble_eq_true rfl) (Nat.le_of_ble_eq_true rfl) dL_act_641)
                                            · have h := h2 hc
                                              clear h1 h2
                                              refine zr_iload_n C 9 dL_act_596 rfl rfl ?_
                                              refine zr_bipush C 13 dL_act_597 (by decide) ?_
                                              refine zr_callS (As := [.int p1, .int 13]) C (k_L_below h) ok_L_22 zq_677 rfl ⟨by decide, (Nat.le_of_ble_eq_true rfl)⟩ ⟨(Nat.le_of_ble_eq_true rfl), (Nat.le_of_ble_eq_true rfl)⟩ (Nat.le_of_ble_eq_true rfl) dL_act_599 (fun v488 U489 G490 hq => ?_)
                                              clear h
                                              · obtain ⟨r479, rfl, rfl, rfl, h⟩ := hq
                                                refine zr_bipush C 6 dL_act_602 (by decide) ?_
                                                obtain ⟨h1, h2⟩ := h
                                                refine zr_icmp_eq C 640 dL_act_604 (by decide) (fun hc => ?_) (fun hc => ?_)
                                                · have h := h1 hc
                                                  clear h1 h2
                                                  refine zr_iconst C 0 dL_act_640 (by decide) ?_
                                                  exact zr_X (zr_zret C rfl (Or.inl rfl) ⟨_, rfl, h⟩ (Nat.le_of_ble_eq_true rfl) (Nat.le_of_ble_eq_true rfl) dL_act_641)
                                                · have h := h2 hc
                                                  clear h1 h2
                                                  refine zr_iload_n C 9 dL_act_607 rfl rfl ?_
                                                  refine zr_bipush C 13 dL_act_608 (by decide) ?_
                                                  refine zr_callS (As := [.int p1, .int 13]) C (k_L_below h) ok_L_22 zq_677 rfl ⟨by decide, (Nat.le_of_ble_eq_true rfl)⟩ ⟨(Nat.le_of_ble_eq_true rfl), (Nat.le_of_ble_eq_true rfl)⟩ (Nat.le_of_ble_eq_true rfl) dL_act_610 (fun v485 U486 G487 hq => ?_)
                                                  clear h
                                                  · obtain ⟨r480, rfl, rfl, rfl, h⟩ := hq
                                                    refine zr_bipush C 9 dL_act_613 (by decide) ?_
                                                    obtain ⟨h1, h2⟩ := h
                                                    refine zr_icmp_eq C 640 dL_act_615 (by decide) (fun hc => ?_) (fun hc => ?_)
                                                    · have h := h1 hc
                                                      clear h1 h2
                                                      refine zr_iconst C 0 dL_act_640 (by decide) ?_
                                                      exact zr_X (zr_zret C rfl (Or.inl rfl) ⟨_, rfl, h⟩ (Nat.le_of_ble_eq_true rfl) (Nat.le_of_ble_eq_true rfl) dL_act_641)
                                                    · have h := h2 hc
                                                      clear h1 h2
                                                      refine zr_iload_n C 9 dL_act_618 rfl rfl ?_
                                                      refine zr_bipush C 13 dL_act_619 (by decide) ?_
                                                      refine zr_callS (As := [.int p1, .int 13]) C (k_L_below h) ok_L_22 zq_677 rfl ⟨by decide, (Nat.le_of_ble_eq_true rfl)⟩ ⟨(Nat.le_of_ble_eq_true rfl), (Nat.le_of_ble_eq_true rfl)⟩ (Nat.le_of_ble_eq_true rfl) dL_act_621 (fun v482 U483 G484 hq => ?_)
                                                      clear h
                                                      · obtain ⟨r481, rfl, rfl, rfl, h⟩ := hq
                                                        refine zr_bipush C 10 dL_act_624 (by decide) ?_
                                                        obtain ⟨h1, h2⟩ := h
                                                        refine zr_icmp_lt C 636 dL_act_626 (by decide) (fun hc => ?_) (fun hc => ?_)
                                                        · have h := h1 hc
                                                          clear h1 h2
                                                          refine zr_iconst C 1 dL_act_636 (by decide) ?_
                                                          refine zr_goto C 641 dL_act_637 (by decide) ?_
                                                          exact zr_X (zr_zret C rfl (Or.inr rfl) ⟨_, rfl, h⟩ (Nat.le_of_ble_eq_true rfl) (Nat.le_of_ble_eq_true rfl) dL_act_641)
                                                        · have h := h2 hc
                                                          clear h1 h2
                                                          refine zr_iload C 5 dL_act_629 rfl ?_
                                                          refine zr_bipush C 99 dL_act_631 (by decide) ?_
                                                          obtain ⟨h1, h2⟩ := h
                                                          refine zr_icmp_ne C 640 dL_act_633 (by decide) (fun hc => ?_) (fun hc => ?_)
                                                          · have h := h1 hc
                                                            clear h1 h2
                                                            refine zr_iconst C 0 dL_act_640 (by decide) ?_
                                                            exact zr_X (zr_zret C rfl (Or.inl rfl) ⟨_, rfl, h⟩ (Nat.le_of_ble_eq_true rfl) (Nat.le_of_ble_eq_true rfl) dL_act_641)
                                                          · have h := h2 hc
                                                            clear h1 h2
                                                            refine zr_iconst C 1 dL_act_636 (by decide) ?_
                                                            refine zr_goto C 641 dL_act_637 (by decide) ?_
                                                            exact zr_X (zr_zret C rfl (Or.inr rfl) ⟨_, rfl, h⟩ (Nat.le_of_ble_eq_true rfl) (Nat.le_of_ble_eq_true rfl) dL_act_641)
                                      · obtain ⟨r473, rfl, rfl, rfl, h⟩ := hq
                                        refine zr_iload C 1 dL_act_273 rfl ?_
                                        obtain ⟨h1, h2⟩ := h
                                        refine zr_icmp_ne C 282 dL_act_275 (by decide) (fun hc => ?_) (fun hc => ?_)
                                        · have h := h1 hc
                                          clear h1 h2
                                          refine zr_iconst C 0 dL_act_282 (by decide) ?_
                                          exact zr_X (zr_zret C rfl (Or.inl rfl) ⟨_, rfl, h⟩ (Nat.le_of_ble_eq_true rfl) (Nat.le_of_ble_eq_true rfl) dL_act_283)
                                        · have h := h2 hc
                                          clear h1 h2
                                          refine zr_iconst C 1 dL_act_278 (by decide) ?_
                                          refine zr_goto C 283 dL_act_279 (by decide) ?_
                                          exact zr_X (zr_zret C rfl (Or.inr rfl) ⟨_, rfl, h⟩ (Nat.le_of_ble_eq_true rfl) (Nat.le_of_ble_eq_true rfl) dL_act_283)
              by_cases hk5 : r7 = 5
              · have h := hs703 hk5
                refine zr_tableIn C 284 dL_act_47 (by rw [hk5]; decide) (by rw [hk5]; decide) (by rw [hk5]; rfl) (by decide) ?_
                refine zr_aload_n C 4 dL_act_284 rfl rfl ?_
                refine zr_iload C 0 dL_act_285 rfl ?_
                refine zr_callVX (As := [.int r6]) (r := (RX4, TX4, 4)) C (k_X4_cancel h) ok_L_88 zq_745 zq_746 hT3 (by decide) rfl rfl ⟨by decide, (Nat.le_of_ble_eq_true rfl)⟩ ⟨(Nat.le_of_ble_eq_true rfl), (Nat.le_of_ble_eq_true rfl)⟩ (Nat.le_of_ble_eq_true rfl) dL_act_287 ?_ (fun v700 U701 G702 hq => ?_)
                · clear h
                  intro E9 T9 F9 hq
                  obtain ⟨rfl, hq⟩ := hq
                  rcases hq with hq | hq
                  · obtain ⟨rfl, h⟩ := hq
                    refine zr_catch C "java/lang/IndexOutOfBoundsException" _ [⟨41, 125, 568, 109⟩, ⟨126, 151, 568, 109⟩, ⟨152, 283, 568, 109⟩] ⟨284, 328, 568, 109⟩ [⟨329, 394, 568, 109⟩, ⟨395, 431, 568, 109⟩, ⟨432, 463, 568, 109⟩, ⟨464, 496, 568, 109⟩, ⟨497, 567, 568, 109⟩, ⟨41, 125, 584, 111⟩, ⟨126, 151, 584, 111⟩, ⟨152, 283, 584, 111⟩, ⟨284, 328, 584, 111⟩, ⟨329, 394, 584, 111⟩, ⟨395, 431, 584, 111⟩, ⟨432, 463, 584, 111⟩, ⟨464, 496, 584, 111⟩, ⟨497, 567, 584, 111⟩] 568 hxt rfl (List.forall_mem_cons.mpr ⟨Or.inl (by decide), (List.forall_mem_cons.mpr ⟨Or.inl (by decide), (List.forall_mem_cons.mpr ⟨Or.inl (by decide), (fun _ h9 => nomatch h9)⟩)⟩)⟩) (by decide) (by decide) zq_687 zq_275 rfl (fun q9 => ?_)
                    refine zr_astore C [(6, .ref q9), (5, .int r6), (4, .int r4), (3, .int r2), (2, .int r1), (0, .ref a0), (1, .int p1)] dL_act_568 (by decide) rfl ?_
                    refine zr_aload_n C 5 dL_act_570 rfl rfl ?_
                    refine zr_iconst C 2 dL_act_571 (by decide) ?_
                    refine zr_callV (As := [.int 2]) (r := (RX4, TX4, 4)) C (k_X4_many0 h) ok_L_36 zq_393 zq_394 hT3 (by decide) rfl rfl ⟨by decide, (Nat.le_of_ble_eq_true rfl)⟩ ⟨(Nat.le_of_ble_eq_true rfl), (Nat.le_of_ble_eq_true rfl)⟩ (Nat.le_of_ble_eq_true rfl) dL_act_572 (fun v681 U682 G683 hq => ?_)
                    clear h
                    · obtain ⟨r680, rfl, rfl, rfl, h⟩ := hq
                      obtain ⟨h1, h2⟩ := h
                      refine zr_if_ne C 582 dL_act_575 (by decide) (fun hc => ?_) (fun hc => ?_)
                      · have h := h1 hc
                        clear h1 h2
                        refine zr_iconst C 0 dL_act_582 (by decide) ?_
                        exact zr_X (zr_zret C rfl (Or.inl rfl) ⟨_, rfl, h⟩ (Nat.le_of_ble_eq_true rfl) (Nat.le_of_ble_eq_true rfl) dL_act_583)
                      · have h := h2 hc
                        clear h1 h2
                        refine zr_iconst C 1 dL_act_578 (by decide) ?_
                        refine zr_goto C 583 dL_act_579 (by decide) ?_
                        exact zr_X (zr_zret C rfl (Or.inr rfl) ⟨_, rfl, h⟩ (Nat.le_of_ble_eq_true rfl) (Nat.le_of_ble_eq_true rfl) dL_act_583)
                  · obtain ⟨rfl, h⟩ := hq
                    refine zr_catch C "java/lang/IllegalStateException" _ [⟨41, 125, 568, 109⟩, ⟨126, 151, 568, 109⟩, ⟨152, 283, 568, 109⟩, ⟨284, 328, 568, 109⟩, ⟨329, 394, 568, 109⟩, ⟨395, 431, 568, 109⟩, ⟨432, 463, 568, 109⟩, ⟨464, 496, 568, 109⟩, ⟨497, 567, 568, 109⟩, ⟨41, 125, 584, 111⟩, ⟨126, 151, 584, 111⟩, ⟨152, 283, 584, 111⟩] ⟨284, 328, 584, 111⟩ [⟨329, 394, 584, 111⟩, ⟨395, 431, 584, 111⟩, ⟨432, 463, 584, 111⟩, ⟨464, 496, 584, 111⟩, ⟨497, 567, 584, 111⟩] 584 hxt rfl (List.forall_mem_cons.mpr ⟨Or.inl (by decide), (List.forall_mem_cons.mpr ⟨Or.inl (by decide), (List.forall_mem_cons.mpr ⟨Or.inl (by decide), (List.forall_mem_cons.mpr ⟨Or.inr ⟨by decide, "java/lang/IndexOutOfBoundsException", zq_687, by decide +kernel⟩, (List.forall_mem_cons.mpr ⟨Or.inl (by decide), (List.forall_mem_cons.mpr ⟨Or.inl (by decide), (List.forall_mem_cons.mpr ⟨Or.inl (by decide), (List.forall_mem_cons.mpr ⟨Or.inl (by decide), (List.forall_mem_cons.mpr ⟨Or.inl (by decide), (List.forall_mem_cons.mpr ⟨Or.inl (by decide), (List.forall_mem_cons.mpr ⟨Or.inl (by decide), (List.forall_mem_cons.mpr ⟨Or.inl (by decide), (fun _ h9 => nomatch h9)⟩)⟩)⟩)⟩)⟩)⟩)⟩)⟩)⟩)⟩)⟩)⟩) (by decide) (by decide) zq_688 zq_117 rfl (fun q9 => ?_)
                    refine zr_astore C [(6, .ref q9), (5, .int r6), (4, .int r4), (3, .int r2), (2, .int r1), (0, .ref a0), (1, .int p1)] dL_act_584 (by decide) rfl ?_
                    refine zr_iload_n C 6 dL_act_586 rfl rfl ?_
                    refine zr_bipush C 13 dL_act_587 (by decide) ?_
                    refine zr_callS (As := [.int p1, .int 13]) C (k_L_below h) ok_L_22 zq_677 rfl ⟨by decide, (Nat.le_of_ble_eq_true rfl)⟩ ⟨(Nat.le_of_ble_eq_true rfl), (Nat.le_of_ble_eq_true rfl)⟩ (Nat.le_of_ble_eq_true rfl) dL_act_589 (fun v697 U698 G699 hq => ?_)
                    clear h
                    · obtain ⟨r684, rfl, rfl, rfl, h⟩ := hq
                      refine zr_iconst C 2 dL_act_592 (by decide) ?_
                      obtain ⟨h1, h2⟩ := h
                      refine zr_icmp_eq C 640 dL_act_593 (by decide) (fun hc => ?_) (fun hc => ?_)
                      · have h := h1 hc
                        clear h1 h2
                        refine zr_iconst C 0 dL_act_640 (by decide) ?_
                        exact zr_X (zr_zret C rfl (Or.inl rfl) ⟨_, rfl, h⟩ (Nat.le_of_ble_eq_true rfl) (Nat.le_of_ble_eq_true rfl) dL_act_641)
                      · have h := h2 hc
                        clear h1 h2
                        refine zr_iload_n C 6 dL_act_596 rfl rfl ?_
                        refine zr_bipush C 13 dL_act_597 (by decide) ?_
                        refine zr_callS (As := [.int p1, .int 13]) C (k_L_below h) ok_L_22 zq_677 rfl ⟨by decide, (Nat.le_of_ble_eq_true rfl)⟩ ⟨(Nat.le_of_ble_eq_true rfl), (Nat.le_of_ble_eq_true rfl)⟩ (Nat.le_of_ble_eq_true rfl) dL_act_599 (fun v694 U695 G696 hq => ?_)
                        clear h
                        · obtain ⟨r685, rfl, rfl, rfl, h⟩ := hq
                          refine zr_bipush C 6 dL_act_602 (by decide) ?_
                          obtain ⟨h1, h2⟩ := h
                          refine zr_icmp_eq C 640 dL_act_604 (by decide) (fun hc => ?_) (fun hc => ?_)
                          · have h := h1 hc
                            clear h1 h2
                            refine zr_iconst C 0 dL_act_640 (by decide) ?_
                            exact zr_X (zr_zret C rfl (Or.inl rfl) ⟨_, rfl, h⟩ (Nat.le_of_ble_eq_true rfl) (Nat.le_of_ble_eq_true rfl) dL_act_641)
                          · have h := h2 hc
                            clear h1 h2
                            refine zr_iload_n C 6 dL_act_607 rfl rfl ?_
                            refine zr_bipush C 13 dL_act_608 (by decide) ?_
                            refine zr_callS (As := [.int p1, .int 13]) C (k_L_below h) ok_L_22 zq_677 rfl ⟨by decide, (Nat.le_of_ble_eq_true rfl)⟩ ⟨(Nat.le_of_ble_eq_true rfl), (Nat.le_of_ble_eq_true rfl)⟩ (Nat.le_of_ble_eq_true rfl) dL_act_610 (fun v691 U692 G693 hq => ?_)
                            clear h
                            · obtain ⟨r686, rfl, rfl, rfl, h⟩ := hq
                              refine zr_bipush C 9 dL_act_613 (by decide) ?_
                              obtain ⟨h1, h2⟩ := h
                              refine zr_icmp_eq C 640 dL_act_615 (by decide) (fun hc => ?_) (fun hc => ?_)
                              · have h := h1 hc
                                clear h1 h2
                                refine zr_iconst C 0 dL_act_640 (by decide) ?_
                                exact zr_X (zr_zret C rfl (Or.inl rfl) ⟨_, rfl, h⟩ (Nat.le_of_ble_eq_true rfl) (Nat.le_of_ble_eq_true rfl) dL_act_641)
                              · have h := h2 hc
                                clear h1 h2
                                refine zr_iload_n C 6 dL_act_618 rfl rfl ?_
                                refine zr_bipush C 13 dL_act_619 (by decide) ?_
                                refine zr_callS (As := [.int p1, .int 13]) C (k_L_below h) ok_L_22 zq_677 rfl ⟨by decide, (Nat.le_of_ble_eq_true rfl)⟩ ⟨(Nat.le_of_ble_eq_true rfl), (Nat.le_of_ble_eq_true rfl)⟩ (Nat.le_of_ble_eq_true rfl) dL_act_621 (fun v688 U689 G690 hq => ?_)
                                clear h
                                · obtain ⟨r687, rfl, rfl, rfl, h⟩ := hq
                                  refine zr_bipush C 10 dL_act_624 (by decide) ?_
                                  obtain ⟨h1, h2⟩ := h
                                  refine zr_icmp_lt C 636 dL_act_626 (by decide) (fun hc => ?_) (fun hc => ?_)
                                  · have h := h1 hc
                                    clear h1 h2
                                    refine zr_iconst C 1 dL_act_636 (by decide) ?_
                                    refine zr_goto C 641 dL_act_637 (by decide) ?_
                                    exact zr_X (zr_zret C rfl (Or.inr rfl) ⟨_, rfl, h⟩ (Nat.le_of_ble_eq_true rfl) (Nat.le_of_ble_eq_true rfl) dL_act_641)
                                  · have h := h2 hc
                                    clear h1 h2
                                    refine zr_iload C 2 dL_act_629 rfl ?_
                                    refine zr_bipush C 99 dL_act_631 (by decide) ?_
                                    obtain ⟨h1, h2⟩ := h
                                    refine zr_icmp_ne C 640 dL_act_633 (by decide) (fun hc => ?_) (fun hc => ?_)
                                    · have h := h1 hc
                                      clear h1 h2
                                      refine zr_iconst C 0 dL_act_640 (by decide) ?_
                                      exact zr_X (zr_zret C rfl (Or.inl rfl) ⟨_, rfl, h⟩ (Nat.le_of_ble_eq_true rfl) (Nat.le_of_ble_eq_true rfl) dL_act_641)
                                    · have h := h2 hc
                                      clear h1 h2
                                      refine zr_iconst C 1 dL_act_636 (by decide) ?_
                                      refine zr_goto C 641 dL_act_637 (by decide) ?_
                                      exact zr_X (zr_zret C rfl (Or.inr rfl) ⟨_, rfl, h⟩ (Nat.le_of_ble_eq_true rfl) (Nat.le_of_ble_eq_true rfl) dL_act_641)
                · obtain ⟨r606, rfl, rfl, h⟩ := hq
                  refine zr_aload_n C 4 dL_act_290 rfl rfl ?_
                  refine zr_iload C 0 dL_act_291 rfl ?_
                  refine zr_bipush C 7 dL_act_293 (by decide) ?_
                  refine zr_callVX (As := [.int r6, .int 7]) (r := (RX4, TX4, 4)) C (k_X4_ofBooking h) ok_L_40 zq_378 zq_379 hT3 (by decide) rfl rfl ⟨by decide, (Nat.le_of_ble_eq_true rfl)⟩ ⟨(Nat.le_of_ble_eq_true rfl), (Nat.le_of_ble_eq_true rfl)⟩ (Nat.le_of_ble_eq_true rfl) dL_act_295 ?_ (fun v677 U678 G679 hq => ?_)
                  · clear h
                    intro E9 T9 F9 hq
                    obtain ⟨rfl, rfl, hq⟩ := hq
                    rcases hq with hq | hq
                    · obtain ⟨rfl, h⟩ := hq
                      refine zr_catch C "java/lang/IndexOutOfBoundsException" _ [⟨41, 125, 568, 109⟩, ⟨126, 151, 568, 109⟩, ⟨152, 283, 568, 109⟩] ⟨284, 328, 568, 109⟩ [⟨329, 394, 568, 109⟩, ⟨395, 431, 568, 109⟩, ⟨432, 463, 568, 109⟩, ⟨464, 496, 568, 109⟩, ⟨497, 567, 568, 109⟩, ⟨41, 125, 584, 111⟩, ⟨126, 151, 584, 111⟩, ⟨152, 283, 584, 111⟩, ⟨284, 328, 584, 111⟩, ⟨329, 394, 584, 111⟩, ⟨395, 431, 584, 111⟩, ⟨432, 463, 584, 111⟩, ⟨464, 496, 584, 111⟩, ⟨497, 567, 584, 111⟩] 568 hxt rfl (List.forall_mem_cons.mpr ⟨Or.inl (by decide), (List.forall_mem_cons.mpr ⟨Or.inl (by decide), (List.forall_mem_cons.mpr ⟨Or.inl (by decide), (fun _ h9 => nomatch h9)⟩)⟩)⟩) (by decide) (by decide) zq_687 zq_275 rfl (fun q9 => ?_)
                      refine zr_astore C [(6, .ref q9), (5, .int r6), (4, .int r4), (3, .int r2), (2, .int r1), (0, .ref a0), (1, .int p1)] dL_act_568 (by decide) rfl ?_
                      refine zr_aload_n C 5 dL_act_570 rfl rfl ?_
                      refine zr_iconst C 2 dL_act_571 (by decide) ?_
                      refine zr_callV (As := [.int 2]) (r := (RX4, TX4, 4)) C (k_X4_many0 h) ok_L_36 zq_393 zq_394 hT3 (by decide) rfl rfl ⟨by decide, (Nat.le_of_ble_eq_true rfl)⟩ ⟨(Nat.le_of_ble_eq_true rfl), (Nat.le_of_ble_eq_true rfl)⟩ (Nat.le_of_ble_eq_true rfl) dL_act_572 (fun v658 U659 G660 hq => ?_)
                      clear h
                      · obtain ⟨r657, rfl, rfl, rfl, h⟩ := hq
                        obtain ⟨h1, h2⟩ := h
                        refine zr_if_ne C 582 dL_act_575 (by decide) (fun hc => ?_) (fun hc => ?_)
                        · have h := h1 hc
                          clear h1 h2
                          refine zr_iconst C 0 dL_act_582 (by decide) ?_
                          exact zr_X (zr_zret C rfl (Or.inl rfl) ⟨_, rfl, h⟩ (Nat.le_of_ble_eq_true rfl) (Nat.le_of_ble_eq_true rfl) dL_act_583)
                        · have h := h2 hc
                          clear h1 h2
                          refine zr_iconst C 1 dL_act_578 (by decide) ?_
                          refine zr_goto C 583 dL_act_579 (by decide) ?_
                          exact zr_X (zr_zret C rfl (Or.inr rfl) ⟨_, rfl, h⟩ (Nat.le_of_ble_eq_true rfl) (Nat.le_of_ble_eq_true rfl) dL_act_583)
                    · obtain ⟨rfl, h⟩ := hq
                      refine zr_catch C "java/lang/IllegalStateException" _ [⟨41, 125, 568, 109⟩, ⟨126, 151, 568, 109⟩, ⟨152, 283, 568, 109⟩, ⟨284, 328, 568, 109⟩, ⟨329, 394, 568, 109⟩, ⟨395, 431, 568, 109⟩, ⟨432, 463, 568, 109⟩, ⟨464, 496, 568, 109⟩, ⟨497, 567, 568, 109⟩, ⟨41, 125, 584, 111⟩, ⟨126, 151, 584, 111⟩, ⟨152, 283, 584, 111⟩] ⟨284, 328, 584, 111⟩ [⟨329, 394, 584, 111⟩, ⟨395, 431, 584, 111⟩, ⟨432, 463, 584, 111⟩, ⟨464, 496, 584, 111⟩, ⟨497, 567, 584, 111⟩] 584 hxt rfl (List.forall_mem_cons.mpr ⟨Or.inl (by decide), (List.forall_mem_cons.mpr ⟨Or.inl (by decide), (List.forall_mem_cons.mpr ⟨Or.inl (by decide), (List.forall_mem_cons.mpr ⟨Or.inr ⟨by decide, "java/lang/IndexOutOfBoundsException", zq_687, by decide +kernel⟩, (List.forall_mem_cons.mpr ⟨Or.inl (by decide), (List.forall_mem_cons.mpr ⟨Or.inl (by decide), (List.forall_mem_cons.mpr ⟨Or.inl (by decide), (List.forall_mem_cons.mpr ⟨Or.inl (by decide), (List.forall_mem_cons.mpr ⟨Or.inl (by decide), (List.forall_mem_cons.mpr ⟨Or.inl (by decide), (List.forall_mem_cons.mpr ⟨Or.inl (by decide), (List.forall_mem_cons.mpr ⟨Or.inl (by decide), (fun _ h9 => nomatch h9)⟩)⟩)⟩)⟩)⟩)⟩)⟩)⟩)⟩)⟩)⟩)⟩) (by decide) (by decide) zq_688 zq_117 rfl (fun q9 => ?_)
                      refine zr_astore C [(6, .ref q9), (5, .int r6), (4, .int r4), (3, .int r2), (2, .int r1), (0, .ref a0), (1, .int p1)] dL_act_584 (by decide) rfl ?_
                      refine zr_iload_n C 6 dL_act_586 rfl rfl ?_
                      refine zr_bipush C 13 dL_act_587 (by decide) ?_
                      refine zr_callS (As := [.int p1, .int 13]) C (k_L_below h) ok_L_22 zq_677 rfl ⟨by decide, (Nat.le_of_ble_eq_true rfl)⟩ ⟨(Nat.le_of_ble_eq_true rfl), (Nat.le_of_ble_eq_true rfl)⟩ (Nat.le_of_ble_eq_true rfl) dL_act_589 (fun v674 U675 G676 hq => ?_)
                      clear h
                      · obtain ⟨r661, rfl, rfl, rfl, h⟩ := hq
                        refine zr_iconst C 2 dL_act_592 (by decide) ?_
                        obtain ⟨h1, h2⟩ := h
                        refine zr_icmp_eq C 640 dL_act_593 (by decide) (fun hc => ?_) (fun hc => ?_)
                        · have h := h1 hc
                          clear h1 h2
                          refine zr_iconst C 0 dL_act_640 (by decide) ?_
                          exact zr_X (zr_zret C rfl (Or.inl rfl) ⟨_, rfl, h⟩ (Nat.le_of_ble_eq_true rfl) (Nat.le_of_ble_eq_true rfl) dL_act_641)
                        · have h := h2 hc
                          clear h1 h2
                          refine zr_iload_n C 6 dL_act_596 rfl rfl ?_
                          refine zr_bipush C 13 dL_act_597 (by decide) ?_
                          refine zr_callS (As := [.int p1, .int 13]) C (k_L_below h) ok_L_22 zq_677 rfl ⟨by decide, (Nat.le_of_ble_eq_true rfl)⟩ ⟨(Nat.le_of_ble_eq_true rfl), (Nat.le_of_ble_eq_true rfl)⟩ (Nat.le_of_ble_eq_true rfl) dL_act_599 (fun v671 U672 G673 hq => ?_)
                          clear h
                          · obtain ⟨r662, rfl, rfl, rfl, h⟩ := hq
                            refine zr_bipush C 6 dL_act_602 (by decide) ?_
                            obtain ⟨h1, h2⟩ := h
                            refine zr_icmp_eq C 640 dL_act_604 (by decide) (fun hc => ?_) (fun hc => ?_)
                            · have h := h1 hc
                              clear h1 h2
                              refine zr_iconst C 0 dL_act_640 (by decide) ?_
                              exact zr_X (zr_zret C rfl (Or.inl rfl) ⟨_, rfl, h⟩ (Nat.le_of_ble_eq_true rfl) (Nat.le_of_ble_eq_true rfl) dL_act_641)
                            · have h := h2 hc
                              clear h1 h2
                              refine zr_iload_n C 6 dL_act_607 rfl rfl ?_
                              refine zr_bipush C 13 dL_act_608 (by decide) ?_
                              refine zr_callS (As := [.int p1, .int 13]) C (k_L_below h) ok_L_22 zq_677 rfl ⟨by decide, (Nat.le_of_ble_eq_true rfl)⟩ ⟨(Nat.le_of_ble_eq_true rfl), (Nat.le_of_ble_eq_true rfl)⟩ (Nat.le_of_ble_eq_true rfl) dL_act_610 (fun v668 U669 G670 hq => ?_)
                              clear h
                              · obtain ⟨r663, rfl, rfl, rfl, h⟩ := hq
                                refine zr_bipush C 9 dL_act_613 (by decide) ?_
                                obtain ⟨h1, h2⟩ := h
                                refine zr_icmp_eq C 640 dL_act_615 (by decide) (fun hc => ?_) (fun hc => ?_)
                                · have h := h1 hc
                                  clear h1 h2
                                  refine zr_iconst C 0 dL_act_640 (by decide) ?_
                                  exact zr_X (zr_zret C rfl (Or.inl rfl) ⟨_, rfl, h⟩ (Nat.le_of_ble_eq_true rfl) (Nat.le_of_ble_eq_true rfl) dL_act_641)
                                · have h := h2 hc
                                  clear h1 h2
                                  refine zr_iload_n C 6 dL_act_618 rfl rfl ?_
                                  refine zr_bipush C 13 dL_act_619 (by decide) ?_
                                  refine zr_callS (As := [.int p1, .int 13]) C (k_L_below h) ok_L_22 zq_677 rfl ⟨by decide, (Nat.le_of_ble_eq_true rfl)⟩ ⟨(Nat.le_of_ble_eq_true rfl), (Nat.le_of_ble_eq_true rfl)⟩ (Nat.le_of_ble_eq_true rfl) dL_act_621 (fun v665 U666 G667 hq => ?_)
                                  clear h
                                  · obtain ⟨r664, rfl, rfl, rfl, h⟩ := hq
                                    refine zr_bipush C 10 dL_act_624 (by decide) ?_
                                    obtain ⟨h1, h2⟩ := h
                                    refine zr_icmp_lt C 636 dL_act_626 (by decide) (fun hc => ?_) (fun hc => ?_)
                                    · have h := h1 hc
                                      clear h1 h2
                                      refine zr_iconst C 1 dL_act_636 (by decide) ?_
                                      refine zr_goto C 641 dL_act_637 (by decide) ?_
                                      exact zr_X (zr_zret C rfl (Or.inr rfl) ⟨_, rfl, h⟩ (Nat.le_of_ble_eq_true rfl) (Nat.le_of_ble_eq_true rfl) dL_act_641)
                                    · have h := h2 hc
                                      clear h1 h2
                                      refine zr_iload C 2 dL_act_629 rfl ?_
                                      refine zr_bipush C 99 dL_act_631 (by decide) ?_
                                      obtain ⟨h1, h2⟩ := h
                                      refine zr_icmp_ne C 640 dL_act_633 (by decide) (fun hc => ?_) (fun hc => ?_)
                                      · have h := h1 hc
                                        clear h1 h2
                                        refine zr_iconst C 0 dL_act_640 (by decide) ?_
                                        exact zr_X (zr_zret C rfl (Or.inl rfl) ⟨_, rfl, h⟩ (Nat.le_of_ble_eq_true rfl) (Nat.le_of_ble_eq_true rfl) dL_act_641)
                                      · have h := h2 hc
                                        clear h1 h2
                                        refine zr_iconst C 1 dL_act_636 (by decide) ?_
                                        refine zr_goto C 641 dL_act_637 (by decide) ?_
                                        exact zr_X (zr_zret C rfl (Or.inr rfl) ⟨_, rfl, h⟩ (Nat.le_of_ble_eq_true rfl) (Nat.le_of_ble_eq_true rfl) dL_act_641)
                  · obtain ⟨r608, rfl, rfl, rfl, h⟩ := hq
                    obtain ⟨h1, h2⟩ := h
                    refine zr_icmp_ne C 327 dL_act_298 (by decide) (fun hc => ?_) (fun hc => ?_)
                    · have h := h1 hc
                      clear h1 h2
                      refine zr_iconst C 0 dL_act_327 (by decide) ?_
                      exact zr_X (zr_zret C rfl (Or.inl rfl) ⟨_, rfl, h⟩ (Nat.le_of_ble_eq_true rfl) (Nat.le_of_ble_eq_true rfl) dL_act_328)
                    · have h := h2 hc
                      clear h1 h2
                      refine zr_aload_n C 4 dL_act_301 rfl rfl ?_
                      refine zr_iload C 0 dL_act_302 rfl ?_
                      refine zr_iconst C 5 dL_act_304 (by decide) ?_
                      refine zr_callVX (As := [.int r6, .int 5]) (r := (RX4, TX4, 4)) C (k_X4_ofBooking h) ok_L_40 zq_378 zq_379 hT3 (by decide) rfl rfl ⟨by decide, (Nat.le_of_ble_eq_true rfl)⟩ ⟨(Nat.le_of_ble_eq_true rfl), (Nat.le_of_ble_eq_true rfl)⟩ (Nat.le_of_ble_eq_true rfl) dL_act_305 ?_ (fun v654 U655 G656 hq => ?_)
                      · clear h
                        intro E9 T9 F9 hq
                        obtain ⟨rfl, rfl, hq⟩ := hq
                        rcases hq with hq | hq
                        · obtain ⟨rfl, h⟩ := hq
                          refine zr_catch C "java/lang/IndexOutOfBoundsException" _ [⟨41, 125, 568, 109⟩, ⟨126, 151, 568, 109⟩, ⟨152, 283, 568, 109⟩] ⟨284, 328, 568, 109⟩ [⟨329, 394, 568, 109⟩, ⟨395, 431, 568, 109⟩, ⟨432, 463, 568, 109⟩, ⟨464, 496, 568, 109⟩, ⟨497, 567, 568, 109⟩, ⟨41, 125, 584, 111⟩, ⟨126, 151, 584, 111⟩, ⟨152, 283, 584, 111⟩, ⟨284, 328, 584, 111⟩, ⟨329, 394, 584, 111⟩, ⟨395, 431, 584, 111⟩, ⟨432, 463, 584, 111⟩, ⟨464, 496, 584, 111⟩, ⟨497, 567, 584, 111⟩] 568 hxt rfl (List.forall_mem_cons.mpr ⟨Or.inl (by decide), (List.forall_mem_cons.mpr ⟨Or.inl (by decide), (List.forall_mem_cons.mpr ⟨Or.inl (by decide), (fun _ h9 => nomatch h9)⟩)⟩)⟩) (by decide) (by decide) zq_687 zq_275 rfl (fun q9 => ?_)
                          refine zr_astore C [(6, .ref q9), (5, .int r6), (4, .int r4), (3, .int r2), (2, .int r1), (0, .ref a0), (1, .int p1)] dL_act_568 (by decide) rfl ?_
                          refine zr_aload_n C 5 dL_act_570 rfl rfl ?_
                          refine zr_iconst C 2 dL_act_571 (by decide) ?_
                          refine zr_callV (As := [.int 2]) (r := (RX4, TX4, 4)) C (k_X4_many0 h) ok_L_36 zq_393 zq_394 hT3 (by decide) rfl rfl ⟨by decide, (Nat.le_of_ble_eq_true rfl)⟩ ⟨(Nat.le_of_ble_eq_true rfl), (Nat.le_of_ble_eq_true rfl)⟩ (Nat.le_of_ble_eq_true rfl) dL_act_572 (fun v635 U636 G637 hq => ?_)
                          clear h
                          · obtain ⟨r634, rfl, rfl, rfl, h⟩ := hq
                            obtain ⟨h1, h2⟩ := h
                            refine zr_if_ne C 582 dL_act_575 (by decide) (fun hc => ?_) (fun hc => ?_)
                            · have h := h1 hc
                              clear h1 h2
                              refine zr_iconst C 0 dL_act_582 (by decide) ?_
                              exact zr_X (zr_zret C rfl (Or.inl rfl) ⟨_, rfl, h⟩ (Nat.le_of_ble_eq_true rfl) (Nat.le_of_ble_eq_true rfl) dL_act_583)
                            · have h := h2 hc
                              clear h1 h2
                              refine zr_iconst C 1 dL_act_578 (by decide) ?_
                              refine zr_goto C 583 dL_act_579 (by decide) ?_
                              exact zr_X (zr_zret C rfl (Or.inr rfl) ⟨_, rfl, h⟩ (Nat.le_of_ble_eq_true rfl) (Nat.le_of_ble_eq_true rfl) dL_act_583)
                        · obtain ⟨rfl, h⟩ := hq
                          refine zr_catch C "java/lang/IllegalStateException" _ [⟨41, 125, 568, 109⟩, ⟨126, 151, 568, 109⟩, ⟨152, 283, 568, 109⟩, ⟨284, 328, 568, 109⟩, ⟨329, 394, 568, 109⟩, ⟨395, 431, 568, 109⟩, ⟨432, 463, 568, 109⟩, ⟨464, 496, 568, 109⟩, ⟨497, 567, 568, 109⟩, ⟨41, 125, 584, 111⟩, ⟨126, 151, 584, 111⟩, ⟨152, 283, 584, 111⟩] ⟨284, 328, 584, 111⟩ [⟨329, 394, 584, 111⟩, ⟨395, 431, 584, 111⟩, ⟨432, 463, 584, 111⟩, ⟨464, 496, 584, 111⟩, ⟨497, 567, 584, 111⟩] 584 hxt rfl (List.forall_mem_cons.mpr ⟨Or.inl (by decide), (List.forall_mem_cons.mpr ⟨Or.inl (by decide), (List.forall_mem_cons.mpr ⟨Or.inl (by decide), (List.forall_mem_cons.mpr ⟨Or.inr ⟨by decide, "java/lang/IndexOutOfBoundsException", zq_687, by decide +kernel⟩, (List.forall_mem_cons.mpr ⟨Or.inl (by decide), (List.forall_mem_cons.mpr ⟨Or.inl (by decide), (List.forall_mem_cons.mpr ⟨Or.inl (by decide), (List.forall_mem_cons.mpr ⟨Or.inl (by decide), (List.forall_mem_cons.mpr ⟨Or.inl (by decide), (List.forall_mem_cons.mpr ⟨Or.inl (by decide), (List.forall_mem_cons.mpr ⟨Or.inl (by decide), (List.forall_mem_cons.mpr ⟨Or.inl (by decide), (fun _ h9 => nomatch h9)⟩)⟩)⟩)⟩)⟩)⟩)⟩)⟩)⟩)⟩)⟩)⟩) (by decide) (by decide) zq_688 zq_117 rfl (fun q9 => ?_)
                          refine zr_astore C [(6, .ref q9), (5, .int r6), (4, .int r4), (3, .int r2), (2, .int r1), (0, .ref a0), (1, .int p1)] dL_act_584 (by decide) rfl ?_
                          refine zr_iload_n C 6 dL_act_586 rfl rfl ?_
                          refine zr_bipush C 13 dL_act_587 (by decide) ?_
                          refine zr_callS (As := [.int p1, .int 13]) C (k_L_below h) ok_L_22 zq_677 rfl ⟨by decide, (Nat.le_of_ble_eq_true rfl)⟩ ⟨(Nat.le_of_ble_eq_true rfl), (Nat.le_of_ble_eq_true rfl)⟩ (Nat.le_of_ble_eq_true rfl) dL_act_589 (fun v651 U652 G653 hq => ?_)
                          clear h
                          · obtain ⟨r638, rfl, rfl, rfl, h⟩ := hq
                            refine zr_iconst C 2 dL_act_592 (by decide) ?_
                            obtain ⟨h1, h2⟩ := h
                            refine zr_icmp_eq C 640 dL_act_593 (by decide) (fun hc => ?_) (fun hc => ?_)
                            · have h := h1 hc
                              clear h1 h2
                              refine zr_iconst C 0 dL_act_640 (by decide) ?_
                              exact zr_X (zr_zret C rfl (Or.inl rfl) ⟨_, rfl, h⟩ (Nat.le_of_ble_eq_true rfl) (Nat.le_of_ble_eq_true rfl) dL_act_641)
                            · have h := h2 hc
                              clear h1 h2
                              refine zr_iload_n C 6 dL_act_596 rfl rfl ?_
                              refine zr_bipush C 13 dL_act_597 (by decide) ?_
                              refine zr_callS (As := [.int p1, .int 13]) C (k_L_below h) ok_L_22 zq_677 rfl ⟨by decide, (Nat.le_of_ble_eq_true rfl)⟩ ⟨(Nat.le_of_ble_eq_true rfl), (Nat.le_of_ble_eq_true rfl)⟩ (Nat.le_of_ble_eq_true rfl) dL_act_599 (fun v648 U649 G650 hq => ?_)
                              clear h
                              · obtain ⟨r639, rfl, rfl, rfl, h⟩ := hq
                                refine zr_bipush C 6 dL_act_602 (by decide) ?_
                                obtain ⟨h1, h2⟩ := h
                                refine zr_icmp_eq C 640 dL_act_604 (by decide) (fun hc => ?_) (fun hc => ?_)
                                · have h := h1 hc
                                  clear h1 h2
                                  refine zr_iconst C 0 dL_act_640 (by decide) ?_
                                  exact zr_X (zr_zret C rfl (Or.inl rfl) ⟨_, rfl, h⟩ (Nat.le_of_ble_eq_true rfl) (Nat.le_of_ble_eq_true rfl) dL_act_641)
                                · have h := h2 hc
                                  clear h1 h2
                                  refine zr_iload_n C 6 dL_act_607 rfl rfl ?_
                                  refine zr_bipush C 13 dL_act_608 (by decide) ?_
                                  refine zr_callS (As := [.int p1, .int 13]) C (k_L_below h) ok_L_22 zq_677 rfl ⟨by decide, (Nat.le_of_ble_eq_true rfl)⟩ ⟨(Nat.le_of_ble_eq_true rfl), (Nat.le_of_ble_eq_true rfl)⟩ (Nat.le_of_ble_eq_true rfl) dL_act_610 (fun v645 U646 G647 hq => ?_)
                                  clear h
                                  · obtain ⟨r640, rfl, rfl, rfl, h⟩ := hq
                                    refine zr_bipush C 9 dL_act_613 (by decide) ?_
                                    obtain ⟨h1, h2⟩ := h
                                    refine zr_icmp_eq C 640 dL_act_615 (by decide) (fun hc => ?_) (fun hc => ?_)
                                    · have h := h1 hc
                                      clear h1 h2
                                      refine zr_iconst C 0 dL_act_640 (by decide) ?_
                                      exact zr_X (zr_zret C rfl (Or.inl rfl) ⟨_, rfl, h⟩ (Nat.le_of_ble_eq_true rfl) (Nat.le_of_ble_eq_true rfl) dL_act_641)
                                    · have h := h2 hc
                                      clear h1 h2
                                      refine zr_iload_n C 6 dL_act_618 rfl rfl ?_
                                      refine zr_bipush C 13 dL_act_619 (by decide) ?_
                                      refine zr_callS (As := [.int p1, .int 13]) C (k_L_below h) ok_L_22 zq_677 rfl ⟨by decide, (Nat.le_of_ble_eq_true rfl)⟩ ⟨(Nat.le_of_ble_eq_true rfl), (Nat.le_of_ble_eq_true rfl)⟩ (Nat.le_of_ble_eq_true rfl) dL_act_621 (fun v642 U643 G644 hq => ?_)
                                      clear h
                                      · obtain ⟨r641, rfl, rfl, rfl, h⟩ := hq
                                        refine zr_bipush C 10 dL_act_624 (by decide) ?_
                                        obtain ⟨h1, h2⟩ := h
                                        refine zr_icmp_lt C 636 dL_act_626 (by decide) (fun hc => ?_) (fun hc => ?_)
                                        · have h := h1 hc
                                          clear h1 h2
                                          refine zr_iconst C 1 dL_act_636 (by decide) ?_
                                          refine zr_goto C 641 dL_act_637 (by decide) ?_
                                          exact zr_X (zr_zret C rfl (Or.inr rfl) ⟨_, rfl, h⟩ (Nat.le_of_ble_eq_true rfl) (Nat.le_of_ble_eq_true rfl) dL_act_641)
                                        · have h := h2 hc
                                          clear h1 h2
                                          refine zr_iload C 2 dL_act_629 rfl ?_
                                          refine zr_bipush C 99 dL_act_631 (by decide) ?_
                                          obtain ⟨h1, h2⟩ := h
                                          refine zr_icmp_ne C 640 dL_act_633 (by decide) (fun hc => ?_) (fun hc => ?_)
                                          · have h := h1 hc
                                            clear h1 h2
                                            refine zr_iconst C 0 dL_act_640 (by decide) ?_
                                            exact zr_X (zr_zret C rfl (Or.inl rfl) ⟨_, rfl, h⟩ (Nat.le_of_ble_eq_true rfl) (Nat.le_of_ble_eq_true rfl) dL_act_641)
                                          · have h := h2 hc
                                            clear h1 h2
                                            refine zr_iconst C 1 dL_act_636 (by decide) ?_
                                            refine zr_goto C 641 dL_act_637 (by decide) ?_
                                            exact zr_X (zr_zret C rfl (Or.inr rfl) ⟨_, rfl, h⟩ (Nat.le_of_ble_eq_true rfl) (Nat.le_of_ble_eq_true rfl) dL_act_641)
                      · obtain ⟨r609, rfl, rfl, rfl, h⟩ := hq
                        refine zr_iconst C 3 dL_act_308 (by decide) ?_
                        obtain ⟨h1, h2⟩ := h
                        refine zr_icmp_ne C 327 dL_act_309 (by decide) (fun hc => ?_) (fun hc => ?_)
                        · have h := h1 hc
                          clear h1 h2
                          refine zr_iconst C 0 dL_act_327 (by decide) ?_
                          exact zr_X (zr_zret C rfl (Or.inl rfl) ⟨_, rfl, h⟩ (Nat.le_of_ble_eq_true rfl) (Nat.le_of_ble_eq_true rfl) dL_act_328)
                        · have h := h2 hc
                          clear h1 h2
                          refine zr_aload_n C 4 dL_act_312 rfl rfl ?_
                          refine zr_iload C 0 dL_act_313 rfl ?_
                          refine zr_bipush C 10 dL_act_315 (by decide) ?_
                          refine zr_callVX (As := [.int r6, .int 10]) (r := (RX4, TX4, 4)) C (k_X4_ofBooking h) ok_L_40 zq_378 zq_379 hT3 (by decide) rfl rfl ⟨by decide, (Nat.le_of_ble_eq_true rfl)⟩ ⟨(Nat.le_of_ble_eq_true rfl), (Nat.le_of_ble_eq_true rfl)⟩ (Nat.le_of_ble_eq_true rfl) dL_act_317 ?_ (fun v631 U632 G633 hq => ?_)
                          · clear h
                            intro E9 T9 F9 hq
                            obtain ⟨rfl, rfl, hq⟩ := hq
                            rcases hq with hq | hq
                            · obtain ⟨rfl, h⟩ := hq
                              refine zr_catch C "java/lang/IndexOutOfBoundsException" _ [⟨41, 125, 568, 109⟩, ⟨126, 151, 568, 109⟩, ⟨152, 283, 568, 109⟩] ⟨284, 328, 568, 109⟩ [⟨329, 394, 568, 109⟩, ⟨395, 431, 568, 109⟩, ⟨432, 463, 568, 109⟩, ⟨464, 496, 568, 109⟩, ⟨497, 567, 568, 109⟩, ⟨41, 125, 584, 111⟩, ⟨126, 151, 584, 111⟩, ⟨152, 283, 584, 111⟩, ⟨284, 328, 584, 111⟩, ⟨329, 394, 584, 111⟩, ⟨395, 431, 584, 111⟩, ⟨432, 463, 584, 111⟩, ⟨464, 496, 584, 111⟩, ⟨497, 567, 584, 111⟩] 568 hxt rfl (List.forall_mem_cons.mpr ⟨Or.inl (by decide), (List.forall_mem_cons.mpr ⟨Or.inl (by decide), (List.forall_mem_cons.mpr ⟨Or.inl (by decide), (fun _ h9 => nomatch h9)⟩)⟩)⟩) (by decide) (by decide) zq_687 zq_275 rfl (fun q9 => ?_)
                              refine zr_astore C [(6, .ref q9), (5, .int r6), (4, .int r4), (3, .int r2), (2, .int r1), (0, .ref a0), (1, .int p1)] dL_act_568 (by decide) rfl ?_
                              refine zr_aload_n C 5 dL_act_570 rfl rfl ?_
                              refine zr_iconst C 2 dL_act_571 (by decide) ?_
                              refine zr_callV (As := [.int 2]) (r := (RX4, TX4, 4)) C (k_X4_many0 h) ok_L_36 zq_393 zq_394 hT3 (by decide) rfl rfl ⟨by decide, (Nat.le_of_ble_eq_true rfl)⟩ ⟨(Nat.le_of_ble_eq_true rfl), (Nat.le_of_ble_eq_true rfl)⟩ (Nat.le_of_ble_eq_true rfl) dL_act_572 (fun v612 U613 G614 hq => ?_)
                              clear h
                              · obtain ⟨r611, rfl, rfl, rfl, h⟩ := hq
                                obtain ⟨h1, h2⟩ := h
                                refine zr_if_ne C 582 dL_act_575 (by decide) (fun hc => ?_) (fun hc => ?_)
                                · have h := h1 hc
                                  clear h1 h2
                                  refine zr_iconst C 0 dL_act_582 (by decide) ?_
                                  exact zr_X (zr_zret C rfl (Or.inl rfl) ⟨_, rfl, h⟩ (Nat.le_of_ble_eq_true rfl) (Nat.le_of_ble_eq_true rfl) dL_act_583)
                                · have h := h2 hc
                                  clear h1 h2
                                  refine zr_iconst C 1 dL_act_578 (by decide) ?_
                                  refine zr_goto C 583 dL_act_579 (by decide) ?_
                                  exact zr_X (zr_zret C rfl (Or.inr rfl) ⟨_, rfl, h⟩ (Nat.le_of_ble_eq_true rfl) (Nat.le_of_ble_eq_true rfl) dL_act_583)
                            · obtain ⟨rfl, h⟩ := hq
                              refine zr_catch C "java/lang/IllegalStateException" _ [⟨41, 125, 568, 109⟩, ⟨126, 151, 568, 109⟩, ⟨152, 283, 568, 109⟩, ⟨284, 328, 568, 109⟩, ⟨329, 394, 568, 109⟩, ⟨395, 431, 568, 109⟩, ⟨432, 463, 568, 109⟩, ⟨464, 496, 568, 109⟩, ⟨497, 567, 568, 109⟩, ⟨41, 125, 584, 111⟩, ⟨126, 151, 584, 111⟩, ⟨152, 283, 584, 111⟩] ⟨284, 328, 584, 111⟩ [⟨329, 394, 584, 111⟩, ⟨395, 431, 584, 111⟩, ⟨432, 463, 584, 111⟩, ⟨464, 496, 584, 111⟩, ⟨497, 567, 584, 111⟩] 584 hxt rfl (List.forall_mem_cons.mpr ⟨Or.inl (by decide), (List.forall_mem_cons.mpr ⟨Or.inl (by decide), (List.forall_mem_cons.mpr ⟨Or.inl (by decide), (List.forall_mem_cons.mpr ⟨Or.inr ⟨by decide, "java/lang/IndexOutOfBoundsException", zq_687, by decide +kernel⟩, (List.forall_mem_cons.mpr ⟨Or.inl (by decide), (List.forall_mem_cons.mpr ⟨Or.inl (by decide), (List.forall_mem_cons.mpr ⟨Or.inl (by decide), (List.forall_mem_cons.mpr ⟨Or.inl (by decide), (List.forall_mem_cons.mpr ⟨Or.inl (by decide), (List.forall_mem_cons.mpr ⟨Or.inl (by decide), (List.forall_mem_cons.mpr ⟨Or.inl (by decide), (List.forall_mem_cons.mpr ⟨Or.inl (by decide), (fun _ h9 => nomatch h9)⟩)⟩)⟩)⟩)⟩)⟩)⟩)⟩)⟩)⟩)⟩)⟩) (by decide) (by decide) zq_688 zq_117 rfl (fun q9 => ?_)
                              refine zr_astore C [(6, .ref q9), (5, .int r6), (4, .int r4), (3, .int r2), (2, .int r1), (0, .ref a0), (1, .int p1)] dL_act_584 (by decide) rfl ?_
                              refine zr_iload_n C 6 dL_act_586 rfl rfl ?_
                              refine zr_bipush C 13 dL_act_587 (by decide) ?_
                              refine zr_callS (As := [.int p1, .int 13]) C (k_L_below h) ok_L_22 zq_677 rfl ⟨by decide, (Nat.le_of_ble_eq_true rfl)⟩ ⟨(Nat.le_of_ble_eq_true rfl), (Nat.le_of_ble_eq_true rfl)⟩ (Nat.le_of_ble_eq_true rfl) dL_act_589 (fun v628 U629 G630 hq => ?_)
                              clear h
                              · obtain ⟨r615, rfl, rfl, rfl, h⟩ := hq
                                refine zr_iconst C 2 dL_act_592 (by decide) ?_
                                obtain ⟨h1, h2⟩ := h
                                refine zr_icmp_eq C 640 dL_act_593 (by decide) (fun hc => ?_) (fun hc => ?_)
                                · have h := h1 hc
                                  clear h1 h2
                                  refine zr_iconst C 0 dL_act_640 (by decide) ?_
                                  exact zr_X (zr_zret C rfl (Or.inl rfl) ⟨_, rfl, h⟩ (Nat.le_of_ble_eq_true rfl) (Nat.le_of_ble_eq_true rfl) dL_act_641)
                                · have h := h2 hc
                                  clear h1 h2
                                  refine zr_iload_n C 6 dL_act_596 rfl rfl ?_
                                  refine zr_bipush C 13 dL_act_597 (by decide) ?_
                                  refine zr_callS (As := [.int p1, .int 13]) C (k_L_below h) ok_L_22 zq_677 rfl ⟨by decide, (Nat.le_of_ble_eq_true rfl)⟩ ⟨(Nat.le_of_ble_eq_true rfl), (Nat.le_of_ble_eq_true rfl)⟩ (Nat.le_of_ble_eq_true rfl) dL_act_599 (fun v625 U626 G627 hq => ?_)
                                  clear h
                                  · obtain ⟨r616, rfl, rfl, rfl, h⟩ := hq
                                    refine zr_bipush C 6 dL_act_602 (by decide) ?_
                                    obtain ⟨h1, h2⟩ := h
                                    refine zr_icmp_eq C 640 dL_act_604 (by decide) (fun hc => ?_) (fun hc => ?_)
                                    · have h := h1 hc
                                      clear h1 h2
                                      refine zr_iconst C 0 dL_act_640 (by decide) ?_
                                      exact zr_X (zr_zret C rfl (Or.inl rfl) ⟨_, rfl, h⟩ (Nat.le_of_ble_eq_true rfl) (Nat.le_of_ble_eq_true rfl) dL_act_641)
                                    · have h := h2 hc
                                      clear h1 h2
                                      refine zr_iload_n C 6 dL_act_607 rfl rfl ?_
                                      refine zr_bipush C 13 dL_act_608 (by decide) ?_
                                      refine zr_callS (As := [.int p1, .int 13]) C (k_L_below h) ok_L_22 zq_677 rfl ⟨by decide, (Nat.le_of_ble_eq_true rfl)⟩ ⟨(Nat.le_of_ble_eq_true rfl), (Nat.le_of_ble_eq_true rfl)⟩ (Nat.le_of_ble_eq_true rfl) dL_act_610 (fun v622 U623 G624 hq => ?_)
                                      clear h
                                      · obtain ⟨r617, rfl, rfl, rfl, h⟩ := hq
                                        refine zr_bipush C 9 dL_act_613 (by decide) ?_
                                        obtain ⟨h1, h2⟩ := h
                                        refine zr_icmp_eq C 640 dL_act_615 (by decide) (fun hc => ?_) (fun hc => ?_)
                                        · have h := h1 hc
                                          clear h1 h2
                                          refine zr_iconst C 0 dL_act_640 (by decide) ?_
                                          exact zr_X (zr_zret C rfl (Or.inl rfl) ⟨_, rfl, h⟩ (Nat.le_of_ble_eq_true rfl) (Nat.le_of_ble_eq_true rfl) dL_act_641)
                                        · have h := h2 hc
                                          clear h1 h2
                                          refine zr_iload_n C 6 dL_act_618 rfl rfl ?_
                                          refine zr_bipush C 13 dL_act_619 (by decide) ?_
                                          refine zr_callS (As := [.int p1, .int 13]) C (k_L_below h) ok_L_22 zq_677 rfl ⟨by decide, (Nat.le_of_ble_eq_true rfl)⟩ ⟨(Nat.le_of_ble_eq_true rfl), (Nat.le_of_ble_eq_true rfl)⟩ (Nat.le_of_ble_eq_true rfl) dL_act_621 (fun v619 U620 G621 hq => ?_)
                                          clear h
                                          · obtain ⟨r618, rfl, rfl, rfl, h⟩ := hq
                                            refine zr_bipush C 10 dL_act_624 (by decide) ?_
                                            obtain ⟨h1, h2⟩ := h
                                            refine zr_icmp_lt C 636 dL_act_626 (by decide) (fun hc => ?_) (fun hc => ?_)
                                            · have h := h1 hc
                                              clear h1 h2
                                              refine zr_iconst C 1 dL_act_636 (by decide) ?_
                                              refine zr_goto C 641 dL_act_637 (by decide) ?_
                                              exact zr_X (zr_zret C rfl (Or.inr rfl) ⟨_, rfl, h⟩ (Nat.le_of_ble_eq_true rfl) (Nat.le_of_ble_eq_true rfl) dL_act_641)
                                            · have h := h2 hc
                                              clear h1 h2
                                              refine zr_iload C 2 dL_act_629 rfl ?_
                                              refine zr_bipush C 99 dL_act_631 (by decide) ?_
                                              obtain ⟨h1, h2⟩ := h
                                              refine zr_icmp_ne C 640 dL_act_633 (by decide) (fun hc => ?_) (fun hc => ?_)
                                              · have h := h1 hc
                                                clear h1 h2
                                                refine zr_iconst C 0 dL_act_640 (by decide) ?_
                                                exact zr_X (zr_zret C rfl (Or.inl rfl) ⟨_, rfl, h⟩ (Nat.le_of_ble_eq_true rfl) (Nat.le_of_ble_eq_true rfl) dL_act_641)
                                              · have h := h2 hc
                                                clear h1 h2
                                                refine zr_iconst C 1 dL_act_636 (by decide) ?_
                                                refine zr_goto C 641 dL_act_637 (by decide) ?_
                                                exact zr_X (zr_zret C rfl (Or.inr rfl) ⟨_, rfl, h⟩ (Nat.le_of_ble_eq_true rfl) (Nat.le_of_ble_eq_true rfl) dL_act_641)
                          · obtain ⟨r610, rfl, rfl, rfl, h⟩ := hq
                            obtain ⟨h1, h2⟩ := h
                            refine zr_if_ne C 327 dL_act_320 (by decide) (fun hc => ?_) (fun hc => ?_)
                            · have h := h1 hc
                              clear h1 h2
                              refine zr_iconst C 0 dL_act_327 (by decide) ?_
                              exact zr_X (zr_zret C rfl (Or.inl rfl) ⟨_, rfl, h⟩ (Nat.le_of_ble_eq_true rfl) (Nat.le_of_ble_eq_true rfl) dL_act_328)
                            · have h := h2 hc
                              clear h1 h2
                              refine zr_iconst C 1 dL_act_323 (by decide) ?_
                              refine zr_goto C 328 dL_act_324 (by decide) ?_
                              exact zr_X (zr_zret C rfl (Or.inr rfl) ⟨_, rfl, h⟩ (Nat.le_of_ble_eq_true rfl) (Nat.le_of_ble_eq_true rfl) dL_act_328)
              by_cases hk6 : r7 = 6
              · have h := hs801 hk6
                refine zr_tableIn C 329 dL_act_47 (by rw [hk6]; decide) (by rw [hk6]; decide) (by rw [hk6]; rfl) (by decide) ?_
                refine zr_aload_n C 4 dL_act_329 rfl rfl ?_
                refine zr_iload C 0 dL_act_330 rfl ?_
                refine zr_callVX (As := [.int r6]) (r := (RX4, TX4, 4)) C (k_X4_swapFor h) ok_L_91 zq_505 zq_506 hT3 (by decide) rfl rfl ⟨by decide, (Nat.le_of_ble_eq_true rfl)⟩ ⟨(Nat.le_of_ble_eq_true rfl), (Nat.le_of_ble_eq_true rfl)⟩ (Nat.le_of_ble_eq_true rfl) dL_act_332 ?_ (fun v798 U799 G800 hq => ?_)
                · clear h
                  intro E9 T9 F9 hq
                  obtain ⟨rfl, rfl, hq⟩ := hq
                  rcases hq with hq | hq
                  · obtain ⟨rfl, h⟩ := hq
                    refine zr_catch C "java/lang/IndexOutOfBoundsException" _ [⟨41, 125, 568, 109⟩, ⟨126, 151, 568, 109⟩, ⟨152, 283, 568, 109⟩, ⟨284, 328, 568, 109⟩] ⟨329, 394, 568, 109⟩ [⟨395, 431, 568, 109⟩, ⟨432, 463, 568, 109⟩, ⟨464, 496, 568, 109⟩, ⟨497, 567, 568, 109⟩, ⟨41, 125, 584, 111⟩, ⟨126, 151, 584, 111⟩, ⟨152, 283, 584, 111⟩, ⟨284, 328, 584, 111⟩, ⟨329, 394, 584, 111⟩, ⟨395, 431, 584, 111⟩, ⟨432, 463, 584, 111⟩, ⟨464, 496, 584, 111⟩, ⟨497, 567, 584, 111⟩] 568 hxt rfl (List.forall_mem_cons.mpr ⟨Or.inl (by decide), (List.forall_mem_cons.mpr ⟨Or.inl (by decide), (List.forall_mem_cons.mpr ⟨Or.inl (by decide), (List.forall_mem_cons.mpr ⟨Or.inl (by decide), (fun _ h9 => nomatch h9)⟩)⟩)⟩)⟩) (by decide) (by decide) zq_687 zq_275 rfl (fun q9 => ?_)
                    refine zr_astore C [(6, .ref q9), (5, .int r6), (4, .int r4), (3, .int r2), (2, .int r1), (0, .ref a0), (1, .int p1)] dL_act_568 (by decide) rfl ?_
                    refine zr_aload_n C 5 dL_act_570 rfl rfl ?_
                    refine zr_iconst C 2 dL_act_571 (by decide) ?_
                    refine zr_callV (As := [.int 2]) (r := (RX4, TX4, 4)) C (k_X4_many0 h) ok_L_36 zq_393 zq_394 hT3 (by decide) rfl rfl ⟨by decide, (Nat.le_of_ble_eq_true rfl)⟩ ⟨(Nat.le_of_ble_eq_true rfl), (Nat.le_of_ble_eq_true rfl)⟩ (Nat.le_of_ble_eq_true rfl) dL_act_572 (fun v779 U780 G781 hq => ?_)
                    clear h
                    · obtain ⟨r778, rfl, rfl, rfl, h⟩ := hq
                      obtain ⟨h1, h2⟩ := h
                      refine zr_if_ne C 582 dL_act_575 (by decide) (fun hc => ?_) (fun hc => ?_)
                      · have h := h1 hc
                        clear h1 h2
                        refine zr_iconst C 0 dL_act_582 (by decide) ?_
                        exact zr_X (zr_zret C rfl (Or.inl rfl) ⟨_, rfl, h⟩ (Nat.le_of_ble_eq_true rfl) (Nat.le_of_ble_eq_true rfl) dL_act_583)
                      · have h := h2 hc
                        clear h1 h2
                        refine zr_iconst C 1 dL_act_578 (by decide) ?_
                        refine zr_goto C 583 dL_act_579 (by decide) ?_
                        exact zr_X (zr_zret C rfl (Or.inr rfl) ⟨_, rfl, h⟩ (Nat.le_of_ble_eq_true rfl) (Nat.le_of_ble_eq_true rfl) dL_act_583)
                  · obtain ⟨rfl, h⟩ := hq
                    refine zr_catch C "java/lang/IllegalStateException" _ [⟨41, 125, 568, 109⟩, ⟨126, 151, 568, 109⟩, ⟨152, 283, 568, 109⟩, ⟨284, 328, 568, 109⟩, ⟨329, 394, 568, 109⟩, ⟨395, 431, 568, 109⟩, ⟨432, 463, 568, 109⟩, ⟨464, 496, 568, 109⟩, ⟨497, 567, 568, 109⟩, ⟨41, 125, 584, 111⟩, ⟨126, 151, 584, 111⟩, ⟨152, 283, 584, 111⟩, ⟨284, 328, 584, 111⟩] ⟨329, 394, 584, 111⟩ [⟨395, 431, 584, 111⟩, ⟨432, 463, 584, 111⟩, ⟨464, 496, 584, 111⟩, ⟨497, 567, 584, 111⟩] 584 hxt rfl (List.forall_mem_cons.mpr ⟨Or.inl (by decide), (List.forall_mem_cons.mpr ⟨Or.inl (by decide), (List.forall_mem_cons.mpr ⟨Or.inl (by decide), (List.forall_mem_cons.mpr ⟨Or.inl (by decide), (List.forall_mem_cons.mpr ⟨Or.inr ⟨by decide, "java/lang/IndexOutOfBoundsException", zq_687, by decide +kernel⟩, (List.forall_mem_cons.mpr ⟨Or.inl (by decide), (List.forall_mem_cons.mpr ⟨Or.inl (by decide), (List.forall_mem_cons.mpr ⟨Or.inl (by decide), (List.forall_mem_cons.mpr ⟨Or.inl (by decide), (List.forall_mem_cons.mpr ⟨Or.inl (by decide), (List.forall_mem_cons.mpr ⟨Or.inl (by decide), (List.forall_mem_cons.mpr ⟨Or.inl (by decide), (List.forall_mem_cons.mpr ⟨Or.inl (by decide), (fun _ h9 => nomatch h9)⟩)⟩)⟩)⟩)⟩)⟩)⟩)⟩)⟩)⟩)⟩)⟩)⟩) (by decide) (by decide) zq_688 zq_117 rfl (fun q9 => ?_)
                    refine zr_astore C [(6, .ref q9), (5, .int r6), (4, .int r4), (3, .int r2), (2, .int r1), (0, .ref a0), (1, .int p1)] dL_act_584 (by decide) rfl ?_
                    refine zr_iload_n C 6 dL_act_586 rfl rfl ?_
                    refine zr_bipush C 13 dL_act_587 (by decide) ?_
                    refine zr_callS (As := [.int p1, .int 13]) C (k_L_below h) ok_L_22 zq_677 rfl ⟨by decide, (Nat.le_of_ble_eq_true rfl)⟩ ⟨(Nat.le_of_ble_eq_true rfl), (Nat.le_of_ble_eq_true rfl)⟩ (Nat.le_of_ble_eq_true rfl) dL_act_589 (fun v795 U796 G797 hq => ?_)
                    clear h
                    · obtain ⟨r782, rfl, rfl, rfl, h⟩ := hq
                      refine zr_iconst C 2 dL_act_592 (by decide) ?_
                      obtain ⟨h1, h2⟩ := h
                      refine zr_icmp_eq C 640 dL_act_593 (by decide) (fun hc => ?_) (fun hc => ?_)
                      · have h := h1 hc
                        clear h1 h2
                        refine zr_iconst C 0 dL_act_640 (by decide) ?_
                        exact zr_X (zr_zret C rfl (Or.inl rfl) ⟨_, rfl, h⟩ (Nat.le_of_ble_eq_true rfl) (Nat.le_of_ble_eq_true rfl) dL_act_641)
                      · have h := h2 hc
                        clear h1 h2
                        refine zr_iload_n C 6 dL_act_596 rfl rfl ?_
                        refine zr_bipush C 13 dL_act_597 (by decide) ?_
                        refine zr_callS (As := [.int p1, .int 13]) C (k_L_below h) ok_L_22 zq_677 rfl ⟨by decide, (Nat.le_of_ble_eq_true rfl)⟩ ⟨(Nat.le_of_ble_eq_true rfl), (Nat.le_of_ble_eq_true rfl)⟩ (Nat.le_of_ble_eq_true rfl) dL_act_599 (fun v792 U793 G794 hq => ?_)
                        clear h
                        · obtain ⟨r783, rfl, rfl, rfl, h⟩ := hq
                          refine zr_bipush C 6 dL_act_602 (by decide) ?_
                          obtain ⟨h1, h2⟩ := h
                          refine zr_icmp_eq C 640 dL_act_604 (by decide) (fun hc => ?_) (fun hc => ?_)
                          · have h := h1 hc
                            clear h1 h2
                            refine zr_iconst C 0 dL_act_640 (by decide) ?_
                            exact zr_X (zr_zret C rfl (Or.inl rfl) ⟨_, rfl, h⟩ (Nat.le_of_ble_eq_true rfl) (Nat.le_of_ble_eq_true rfl) dL_act_641)
                          · have h := h2 hc
                            clear h1 h2
                            refine zr_iload_n C 6 dL_act_607 rfl rfl ?_
                            refine zr_bipush C 13 dL_act_608 (by decide) ?_
                            refine zr_callS (As := [.int p1, .int 13]) C (k_L_below h) ok_L_22 zq_677 rfl ⟨by decide, (Nat.le_of_ble_eq_true rfl)⟩ ⟨(Nat.le_of_ble_eq_true rfl), (Nat.le_of_ble_eq_true rfl)⟩ (Nat.le_of_ble_eq_true rfl) dL_act_610 (fun v789 U790 G791 hq => ?_)
                            clear h
                            · obtain ⟨r784, rfl, rfl, rfl, h⟩ := hq
                              refine zr_bipush C 9 dL_act_613 (by decide) ?_
                              obtain ⟨h1, h2⟩ := h
                              refine zr_icmp_eq C 640 dL_act_615 (by decide) (fun hc => ?_) (fun hc => ?_)
                              · have h := h1 hc
                                clear h1 h2
                                refine zr_iconst C 0 dL_act_640 (by decide) ?_
                                exact zr_X (zr_zret C rfl (Or.inl rfl) ⟨_, rfl, h⟩ (Nat.le_of_ble_eq_true rfl) (Nat.le_of_ble_eq_true rfl) dL_act_641)
                              · have h := h2 hc
                                clear h1 h2
                                refine zr_iload_n C 6 dL_act_618 rfl rfl ?_
                                refine zr_bipush C 13 dL_act_619 (by decide) ?_
                                refine zr_callS (As := [.int p1, .int 13]) C (k_L_below h) ok_L_22 zq_677 rfl ⟨by decide, (Nat.le_of_ble_eq_true rfl)⟩ ⟨(Nat.le_of_ble_eq_true rfl), (Nat.le_of_ble_eq_true rfl)⟩ (Nat.le_of_ble_eq_true rfl) dL_act_621 (fun v786 U787 G788 hq => ?_)
                                clear h
                                · obtain ⟨r785, rfl, rfl, rfl, h⟩ := hq
                                  refine zr_bipush C 10 dL_act_624 (by decide) ?_
                                  obtain ⟨h1, h2⟩ := h
                                  refine zr_icmp_lt C 636 dL_act_626 (by decide) (fun hc => ?_) (fun hc => ?_)
                                  · have h := h1 hc
                                    clear h1 h2
                                    refine zr_iconst C 1 dL_act_636 (by decide) ?_
                                    refine zr_goto C 641 dL_act_637 (by decide) ?_
                                    exact zr_X (zr_zret C rfl (Or.inr rfl) ⟨_, rfl, h⟩ (Nat.le_of_ble_eq_true rfl) (Nat.le_of_ble_eq_true rfl) dL_act_641)
                                  · have h := h2 hc
                                    clear h1 h2
                                    refine zr_iload C 2 dL_act_629 rfl ?_
                                    refine zr_bipush C 99 dL_act_631 (by decide) ?_
                                    obtain ⟨h1, h2⟩ := h
                                    refine zr_icmp_ne C 640 dL_act_633 (by decide) (fun hc => ?_) (fun hc => ?_)
                                    · have h := h1 hc
                                      clear h1 h2
                                      refine zr_iconst C 0 dL_act_640 (by decide) ?_
                                      exact zr_X (zr_zret C rfl (Or.inl rfl) ⟨_, rfl, h⟩ (Nat.le_of_ble_eq_true rfl) (Nat.le_of_ble_eq_true rfl) dL_act_641)
                                    · have h := h2 hc
                                      clear h1 h2
                                      refine zr_iconst C 1 dL_act_636 (by decide) ?_
                                      refine zr_goto C 641 dL_act_637 (by decide) ?_
                                      exact zr_X (zr_zret C rfl (Or.inr rfl) ⟨_, rfl, h⟩ (Nat.le_of_ble_eq_true rfl) (Nat.le_of_ble_eq_true rfl) dL_act_641)
                · obtain ⟨r704, rfl, rfl, rfl, h⟩ := hq
                  refine zr_istore C [(10, .int r704), (5, .int r6), (4, .int r4), (3, .int r2), (2, .int r1), (0, .ref a0), (1, .int p1)] dL_act_335 (by decide) rfl ?_
                  refine zr_aload_n C 5 dL_act_337 rfl rfl ?_
                  refine zr_iload C 1 dL_act_338 rfl ?_
                  refine zr_iconst C 5 dL_act_340 (by decide) ?_
                  refine zr_callVX (As := [.int r6, .int 5]) (r := (RX4, TX4, 4)) C (k_X4_ofBooking h) ok_L_40 zq_378 zq_379 hT3 (by decide) rfl rfl ⟨by decide, (Nat.le_of_ble_eq_true rfl)⟩ ⟨(Nat.le_of_ble_eq_true rfl), (Nat.le_of_ble_eq_true rfl)⟩ (Nat.le_of_ble_eq_true rfl) dL_act_341 ?_ (fun v775 U776 G777 hq => ?_)
                  · clear h
                    intro E9 T9 F9 hq
                    obtain ⟨rfl, rfl, hq⟩ := hq
                    rcases hq with hq | hq
                    · obtain ⟨rfl, h⟩ := hq
                      refine zr_catch C "java/lang/IndexOutOfBoundsException" _ [⟨41, 125, 568, 109⟩, ⟨126, 151, 568, 109⟩, ⟨152, 283, 568, 109⟩, ⟨284, 328, 568, 109⟩] ⟨329, 394, 568, 109⟩ [⟨395, 431, 568, 109⟩, ⟨432, 463, 568, 109⟩, ⟨464, 496, 568, 109⟩, ⟨497, 567, 568, 109⟩, ⟨41, 125, 584, 111⟩, ⟨126, 151, 584, 111⟩, ⟨152, 283, 584, 111⟩, ⟨284, 328, 584, 111⟩, ⟨329, 394, 584, 111⟩, ⟨395, 431, 584, 111⟩, ⟨432, 463, 584, 111⟩, ⟨464, 496, 584, 111⟩, ⟨497, 567, 584, 111⟩] 568 hxt rfl (List.forall_mem_cons.mpr ⟨Or.inl (by decide), (List.forall_mem_cons.mpr ⟨Or.inl (by decide), (List.forall_mem_cons.mpr ⟨Or.inl (by decide), (List.forall_mem_cons.mpr ⟨Or.inl (by decide), (fun _ h9 => nomatch h9)⟩)⟩)⟩)⟩) (by decide) (by decide) zq_687 zq_275 rfl (fun q9 => ?_)
                      refine zr_astore C [(6, .ref q9), (10, .int r704), (5, .int r6), (4, .int r4), (3, .int r2), (2, .int r1), (0, .ref a0), (1, .int p1)] dL_act_568 (by decide) rfl ?_
                      refine zr_aload_n C 6 dL_act_570 rfl rfl ?_
                      refine zr_iconst C 2 dL_act_571 (by decide) ?_
                      refine zr_callV (As := [.int 2]) (r := (RX4, TX4, 4)) C (k_X4_many0 h) ok_L_36 zq_393 zq_394 hT3 (by decide) rfl rfl ⟨by decide, (Nat.le_of_ble_eq_true rfl)⟩ ⟨(Nat.le_of_ble_eq_true rfl), (Nat.le_of_ble_eq_true rfl)⟩ (Nat.le_of_ble_eq_true rfl) dL_act_572 (fun v756 U757 G758 hq => ?_)
                      clear h
                      · obtain ⟨r755, rfl, rfl, rfl, h⟩ := hq
                        obtain ⟨h1, h2⟩ := h
                        refine zr_if_ne C 582 dL_act_575 (by decide) (fun hc => ?_) (fun hc => ?_)
                        · have h := h1 hc
                          clear h1 h2
                          refine zr_iconst C 0 dL_act_582 (by decide) ?_
                          exact zr_X (zr_zret C rfl (Or.inl rfl) ⟨_, rfl, h⟩ (Nat.le_of_ble_eq_true rfl) (Nat.le_of_ble_eq_true rfl) dL_act_583)
                        · have h := h2 hc
                          clear h1 h2
                          refine zr_iconst C 1 dL_act_578 (by decide) ?_
                          refine zr_goto C 583 dL_act_579 (by decide) ?_
                          exact zr_X (zr_zret C rfl (Or.inr rfl) ⟨_, rfl, h⟩ (Nat.le_of_ble_eq_true rfl) (Nat.le_of_ble_eq_true rfl) dL_act_583)
                    · obtain ⟨rfl, h⟩ := hq
                      refine zr_catch C "java/lang/IllegalStateException" _ [⟨41, 125, 568, 109⟩, ⟨126, 151, 568, 109⟩, ⟨152, 283, 568, 109⟩, ⟨284, 328, 568, 109⟩, ⟨329, 394, 568, 109⟩, ⟨395, 431, 568, 109⟩, ⟨432, 463, 568, 109⟩, ⟨464, 496, 568, 109⟩, ⟨497, 567, 568, 109⟩, ⟨41, 125, 584, 111⟩, ⟨126, 151, 584, 111⟩, ⟨152, 283, 584, 111⟩, ⟨284, 328, 584, 111⟩] ⟨329, 394, 584, 111⟩ [⟨395, 431, 584, 111⟩, ⟨432, 463, 584, 111⟩, ⟨464, 496, 584, 111⟩, ⟨497, 567, 584, 111⟩] 584 hxt rfl (List.forall_mem_cons.mpr ⟨Or.inl (by decide), (List.forall_mem_cons.mpr ⟨Or.inl (by decide), (List.forall_mem_cons.mpr ⟨Or.inl (by decide), (List.forall_mem_cons.mpr ⟨Or.inl (by decide), (List.forall_mem_cons.mpr ⟨Or.inr ⟨by decide, "java/lang/IndexOutOfBoundsException", zq_687, by decide +kernel⟩, (List.forall_mem_cons.mpr ⟨Or.inl (by decide), (List.forall_mem_cons.mpr ⟨Or.inl (by decide), (List.forall_mem_cons.mpr ⟨Or.inl (by decide), (List.forall_mem_cons.mpr ⟨Or.inl (by decide), (List.forall_mem_cons.mpr ⟨Or.inl (by decide), (List.forall_mem_cons.mpr ⟨Or.inl (by decide), (List.forall_mem_cons.mpr ⟨Or.inl (by decide), (List.forall_mem_cons.mpr ⟨Or.inl (by decide), (fun _ h9 => nomatch h9)⟩)⟩)⟩)⟩)⟩)⟩)⟩)⟩)⟩)⟩)⟩)⟩)⟩) (by decide) (by decide) zq_688 zq_117 rfl (fun q9 => ?_)
                      refine zr_astore C [(6, .ref q9), (10, .int r704), (5, .int r6), (4, .int r4), (3, .int r2), (2, .int r1), (0, .ref a0), (1, .int p1)] dL_act_584 (by decide) rfl ?_
                      refine zr_iload_n C 7 dL_act_586 rfl rfl ?_
                      refine zr_bipush C 13 dL_act_587 (by decide) ?_
                      refine zr_callS (As := [.int p1, .int 13]) C (k_L_below h) ok_L_22 zq_677 rfl ⟨by decide, (Nat.le_of_ble_eq_true rfl)⟩ ⟨(Nat.le_of_ble_eq_true rfl), (Nat.le_of_ble_eq_true rfl)⟩ (Nat.le_of_ble_eq_true rfl) dL_act_589 (fun v772 U773 G774 hq => ?_)
                      clear h
                      · obtain ⟨r759, rfl, rfl, rfl, h⟩ := hq
                        refine zr_iconst C 2 dL_act_592 (by decide) ?_
                        obtain ⟨h1, h2⟩ := h
                        refine zr_icmp_eq C 640 dL_act_593 (by decide) (fun hc => ?_) (fun hc => ?_)
                        · have h := h1 hc
                          clear h1 h2
                          refine zr_iconst C 0 dL_act_640 (by decide) ?_
                          exact zr_X (zr_zret C rfl (Or.inl rfl) ⟨_, rfl, h⟩ (Nat.le_of_ble_eq_true rfl) (Nat.le_of_ble_eq_true rfl) dL_act_641)
                        · have h := h2 hc
                          clear h1 h2
                          refine zr_iload_n C 7 dL_act_596 rfl rfl ?_
                          refine zr_bipush C 13 dL_act_597 (by decide) ?_
                          refine zr_callS (As := [.int p1, .int 13]) C (k_L_below h) ok_L_22 zq_677 rfl ⟨by decide, (Nat.le_of_ble_eq_true rfl)⟩ ⟨(Nat.le_of_ble_eq_true rfl), (Nat.le_of_ble_eq_true rfl)⟩ (Nat.le_of_ble_eq_true rfl) dL_act_599 (fun v769 U770 G771 hq => ?_)
                          clear h
                          · obtain ⟨r760, rfl, rfl, rfl, h⟩ := hq
                            refine zr_bipush C 6 dL_act_602 (by decide) ?_
                            obtain ⟨h1, h2⟩ := h
                            refine zr_icmp_eq C 640 dL_act_604 (by decide) (fun hc => ?_) (fun hc => ?_)
                            · have h := h1 hc
                              clear h1 h2
                              refine zr_iconst C 0 dL_act_640 (by decide) ?_
                              exact zr_X (zr_zret C rfl (Or.inl rfl) ⟨_, rfl, h⟩ (Nat.le_of_ble_eq_true rfl) (Nat.le_of_ble_eq_true rfl) dL_act_641)
                            · have h := h2 hc
                              clear h1 h2
                              refine zr_iload_n C 7 dL_act_607 rfl rfl ?_
                              refine zr_bipush C 13 dL_act_608 (by decide) ?_
                              refine zr_callS (As := [.int p1, .int 13]) C (k_L_below h) ok_L_22 zq_677 rfl ⟨by decide, (Nat.le_of_ble_eq_true rfl)⟩ ⟨(Nat.le_of_ble_eq_true rfl), (Nat.le_of_ble_eq_true rfl)⟩ (Nat.le_of_ble_eq_true rfl) dL_act_610 (fun v766 U767 G768 hq => ?_)
                              clear h
                              · obtain ⟨r761, rfl, rfl, rfl, h⟩ := hq
                                refine zr_bipush C 9 dL_act_613 (by decide) ?_
                                obtain ⟨h1, h2⟩ := h
                                refine zr_icmp_eq C 640 dL_act_615 (by decide) (fun hc => ?_) (fun hc => ?_)
                                · have h := h1 hc
                                  clear h1 h2
                                  refine zr_iconst C 0 dL_act_640 (by decide) ?_
                                  exact zr_X (zr_zret C rfl (Or.inl rfl) ⟨_, rfl, h⟩ (Nat.le_of_ble_eq_true rfl) (Nat.le_of_ble_eq_true rfl) dL_act_641)
                                · have h := h2 hc
                                  clear h1 h2
                                  refine zr_iload_n C 7 dL_act_618 rfl rfl ?_
                                  refine zr_bipush C 13 dL_act_619 (by decide) ?_
                                  refine zr_callS (As := [.int p1, .int 13]) C (k_L_below h) ok_L_22 zq_677 rfl ⟨by decide, (Nat.le_of_ble_eq_true rfl)⟩ ⟨(Nat.le_of_ble_eq_true rfl), (Nat.le_of_ble_eq_true rfl)⟩ (Nat.le_of_ble_eq_true rfl) dL_act_621 (fun v763 U764 G765 hq => ?_)
                                  clear h
                                  · obtain ⟨r762, rfl, rfl, rfl, h⟩ := hq
                                    refine zr_bipush C 10 dL_act_624 (by decide) ?_
                                    obtain ⟨h1, h2⟩ := h
                                    refine zr_icmp_lt C 636 dL_act_626 (by decide) (fun hc => ?_) (fun hc => ?_)
                                    · have h := h1 hc
                                      clear h1 h2
                                      refine zr_iconst C 1 dL_act_636 (by decide) ?_
                                      refine zr_goto C 641 dL_act_637 (by decide) ?_
                                      exact zr_X (zr_zret C rfl (Or.inr rfl) ⟨_, rfl, h⟩ (Nat.le_of_ble_eq_true rfl) (Nat.le_of_ble_eq_true rfl) dL_act_641)
                                    · have h := h2 hc
                                      clear h1 h2
                                      refine zr_iload C 3 dL_act_629 rfl ?_
                                      refine zr_bipush C 99 dL_act_631 (by decide) ?_
                                      obtain ⟨h1, h2⟩ := h
                                      refine zr_icmp_ne C 640 dL_act_633 (by decide) (fun hc => ?_) (fun hc => ?_)
                                      · have h := h1 hc
                                        clear h1 h2
                                        refine zr_iconst C 0 dL_act_640 (by decide) ?_
                                        exact zr_X (zr_zret C rfl (Or.inl rfl) ⟨_, rfl, h⟩ (Nat.le_of_ble_eq_true rfl) (Nat.le_of_ble_eq_true rfl) dL_act_641)
                                      · have h := h2 hc
                                        clear h1 h2
                                        refine zr_iconst C 1 dL_act_636 (by decide) ?_
                                        refine zr_goto C 641 dL_act_637 (by decide) ?_
                                        exact zr_X (zr_zret C rfl (Or.inr rfl) ⟨_, rfl, h⟩ (Nat.le_of_ble_eq_true rfl) (Nat.le_of_ble_eq_true rfl) dL_act_641)
                  · obtain ⟨r705, rfl, rfl, rfl, h⟩ := hq
                    obtain ⟨h1, h2⟩ := h
                    refine zr_if_ne C 351 dL_act_344 (by decide) (fun hc => ?_) (fun hc => ?_)
                    · have h := h1 hc
                      clear h1 h2
                      refine zr_iconst C 0 dL_act_351 (by decide) ?_
                      refine zr_istore C [(11, .int 0), (10, .int r704), (5, .int r6), (4, .int r4), (3, .int r2), (2, .int r1), (0, .ref a0), (1, .int p1)] dL_act_352 (by decide) rfl ?_
                      refine zr_iload C 1 dL_act_354 rfl ?_
                      obtain ⟨h1, h2⟩ := h
                      refine zr_if_lt C 389 dL_act_356 (by decide) (fun hc => ?_) (fun hc => ?_)
                      · have h := h1 hc
                        clear h1 h2
                        refine zr_iconst C 1 dL_act_389 (by decide) ?_
                        refine zr_goto C 394 dL_act_390 (by decide) ?_
                        exact zr_X (zr_zret C rfl (Or.inr rfl) ⟨_, rfl, h⟩ (Nat.le_of_ble_eq_true rfl) (Nat.le_of_ble_eq_true rfl) dL_act_394)
                      · have h := h2 hc
                        clear h1 h2
                        refine zr_iload C 0 dL_act_359 rfl ?_
                        refine zr_if_eq C 389 dL_act_361 (by decide) (fun _ => ?_) (fun hc => absurd hc (by decide))
                        refine zr_iconst C 1 dL_act_389 (by decide) ?_
                        refine zr_goto C 394 dL_act_390 (by decide) ?_
                        exact zr_X (zr_zret C rfl (Or.inr rfl) ⟨_, rfl, h⟩ (Nat.le_of_ble_eq_true rfl) (Nat.le_of_ble_eq_true rfl) dL_act_394)
                    · have h := h2 hc
                      clear h1 h2
                      refine zr_iconst C 1 dL_act_347 (by decide) ?_
                      refine zr_goto C 352 dL_act_348 (by decide) ?_
                      refine zr_istore C [(11, .int 1), (10, .int r704), (5, .int r6), (4, .int r4), (3, .int r2), (2, .int r1), (0, .ref a0), (1, .int p1)] dL_act_352 (by decide) rfl ?_
                      refine zr_iload C 1 dL_act_354 rfl ?_
                      obtain ⟨h1, h2⟩ := h
                      refine zr_if_lt C 389 dL_act_356 (by decide) (fun hc => ?_) (fun hc => ?_)
                      · have h := h1 hc
                        clear h1 h2
                        refine zr_iconst C 1 dL_act_389 (by decide) ?_
                        refine zr_goto C 394 dL_act_390 (by decide) ?_
                        exact zr_X (zr_zret C rfl (Or.inr rfl) ⟨_, rfl, h⟩ (Nat.le_of_ble_eq_true rfl) (Nat.le_of_ble_eq_true rfl) dL_act_394)
                      · have h := h2 hc
                        clear h1 h2
                        refine zr_iload C 0 dL_act_359 rfl ?_
                        refine zr_if_eq C 389 dL_act_361 (by decide) (fun hc => absurd hc (by decide)) (fun _ => ?_)
                        refine zr_aload_n C 6 dL_act_364 rfl rfl ?_
                        refine zr_iload C 2 dL_act_365 rfl ?_
                        refine zr_iload C 1 dL_act_367 rfl ?_
                        refine zr_callVX (As := [.int r6, .int r704]) (r := (RX4, TX4, 4)) C (k_X4_swap h) ok_L_94 zq_756 zq_757 hT3 (by decide) rfl rfl ⟨by decide, (Nat.le_of_ble_eq_true rfl)⟩ ⟨(Nat.le_of_ble_eq_true rfl), (Nat.le_of_ble_eq_true rfl)⟩ (Nat.le_of_ble_eq_true rfl) dL_act_369 ?_ (fun v752 U753 G754 hq => ?_)
                        · clear h
                          intro E9 T9 F9 hq
                          obtain ⟨rfl, hq⟩ := hq
                          rcases hq with hq | hq
                          · obtain ⟨rfl, h⟩ := hq
                            refine zr_catch C "java/lang/IndexOutOfBoundsException" _ [⟨41, 125, 568, 109⟩, ⟨126, 151, 568, 109⟩, ⟨152, 283, 568, 109⟩, ⟨284, 328, 568, 109⟩] ⟨329, 394, 568, 109⟩ [⟨395, 431, 568, 109⟩, ⟨432, 463, 568, 109⟩, ⟨464, 496, 568, 109⟩, ⟨497, 567, 568, 109⟩, ⟨41, 125, 584, 111⟩, ⟨126, 151, 584, 111⟩, ⟨152, 283, 584, 111⟩, ⟨284, 328, 584, 111⟩, ⟨329, 394, 584, 111⟩, ⟨395, 431, 584, 111⟩, ⟨432, 463, 584, 111⟩, ⟨464, 496, 584, 111⟩, ⟨497, 567, 584, 111⟩] 568 hxt rfl (List.forall_mem_cons.mpr ⟨Or.inl (by decide), (List.forall_mem_cons.mpr ⟨Or.inl (by decide), (List.forall_mem_cons.mpr ⟨Or.inl (by decide), (List.forall_mem_cons.mpr ⟨Or.inl (by decide), (fun _ h9 => nomatch h9)⟩)⟩)⟩)⟩) (by decide) (by decide) zq_687 zq_275 rfl (fun q9 => ?_)
                            refine zr_astore C [(6, .ref q9), (11, .int 1), (10, .int r704), (5, .int r6), (4, .int r4), (3, .int r2), (2, .int r1), (0, .ref a0), (1, .int p1)] dL_act_568 (by decide) rfl ?_
                            refine zr_aload_n C 7 dL_act_570 rfl rfl ?_
                            refine zr_iconst C 2 dL_act_571 (by decide) ?_
                            refine zr_callV (As := [.int 2]) (r := (RX4, TX4, 4)) C (k_X4_many0 h) ok_L_36 zq_393 zq_394 hT3 (by decide) rfl rfl ⟨by decide, (Nat.le_of_ble_eq_true rfl)⟩ ⟨(Nat.le_of_ble_eq_true rfl), (Nat.le_of_ble_eq_true rfl)⟩ (Nat.le_of_ble_eq_true rfl) dL_act_572 (fun v733 U734 G735 hq => ?_)
                            clear h
                            · obtain ⟨r732, rfl, rfl, rfl, h⟩ := hq
                              obtain ⟨h1, h2⟩ := h
                              refine zr_if_ne C 582 dL_act_575 (by decide) (fun hc => ?_) (fun hc => ?_)
                              · have h := h1 hc
                                clear h1 h2
                                refine zr_iconst C 0 dL_act_582 (by decide) ?_
                                exact zr_X (zr_zret C rfl (Or.inl rfl) ⟨_, rfl, h⟩ (Nat.le_of_ble_eq_true rfl) (Nat.le_of_ble_eq_true rfl) dL_act_583)
                              · have h := h2 hc
                                clear h1 h2
                                refine zr_iconst C 1 dL_act_578 (by decide) ?_
                                refine zr_goto C 583 dL_act_579 (by decide) ?_
                                exact zr_X (zr_zret C rfl (Or.inr rfl) ⟨_, rfl, h⟩ (Nat.le_of_ble_eq_true rfl) (Nat.le_of_ble_eq_true rfl) dL_act_583)
                          · obtain ⟨rfl, h⟩ := hq
                            refine zr_catch C "java/lang/IllegalStateException" _ [⟨41, 125, 568, 109⟩, ⟨126, 151, 568, 109⟩, ⟨152, 283, 568, 109⟩, ⟨284, 328, 568, 109⟩, ⟨329, 394, 568, 109⟩, ⟨395, 431, 568, 109⟩, ⟨432, 463, 568, 109⟩, ⟨464, 496, 568, 109⟩, ⟨497, 567, 568, 109⟩, ⟨41, 125, 584, 111⟩, ⟨126, 151, 584, 111⟩, ⟨152, 283, 584, 111⟩, ⟨284, 328, 584, 111⟩] ⟨329, 394, 584, 111⟩ [⟨395, 431, 584, 111⟩, ⟨432, 463, 584, 111⟩, ⟨464, 496, 584, 111⟩, ⟨497, 567, 584, 111⟩] 584 hxt rfl (List.forall_mem_cons.mpr ⟨Or.inl (by decide), (List.forall_mem_cons.mpr ⟨Or.inl (by decide), (List.forall_mem_cons.mpr ⟨Or.inl (by decide), (List.forall_mem_cons.mpr ⟨Or.inl (by decide), (List.forall_mem_cons.mpr ⟨Or.inr ⟨by decide, "java/lang/IndexOutOfBoundsException", zq_687, by decide +kernel⟩, (List.forall_mem_cons.mpr ⟨Or.inl (by decide), (List.forall_mem_cons.mpr ⟨Or.inl (by decide), (List.forall_mem_cons.mpr ⟨Or.inl (by decide), (List.forall_mem_cons.mpr ⟨Or.inl (by decide), (List.forall_mem_cons.mpr ⟨Or.inl (by decide), (List.forall_mem_cons.mpr ⟨Or.inl (by decide), (List.forall_mem_cons.mpr ⟨Or.inl (by decide), (List.forall_mem_cons.mpr ⟨Or.inl (by decide), (fun _ h9 => nomatch h9)⟩)⟩)⟩)⟩)⟩)⟩)⟩)⟩)⟩)⟩)⟩)⟩)⟩) (by decide) (by decide) zq_688 zq_117 rfl (fun q9 => ?_)
                            refine zr_astore C [(6, .ref q9), (11, .int 1), (10, .int r704), (5, .int r6), (4, .int r4), (3, .int r2), (2, .int r1), (0, .ref a0), (1, .int p1)] dL_act_584 (by decide) rfl ?_
                            refine zr_iload_n C 8 dL_act_586 rfl rfl ?_
                            refine zr_bipush C 13 dL_act_587 (by decide) ?_
                            refine zr_callS (As := [.int p1, .int 13]) C (k_L_below h) ok_L_22 zq_677 rfl ⟨by decide, (Nat.le_of_ble_eq_true rfl)⟩ ⟨(Nat.le_of_ble_eq_true rfl), (Nat.le_of_ble_eq_true rfl)⟩ (Nat.le_of_ble_eq_true rfl) dL_act_589 (fun v749 U750 G751 hq => ?_)
                            clear h
                            · obtain ⟨r736, rfl, rfl, rfl, h⟩ := hq
                              refine zr_iconst C 2 dL_act_592 (by decide) ?_
                              obtain ⟨h1, h2⟩ := h
                              refine zr_icmp_eq C 640 dL_act_593 (by decide) (fun hc => ?_) (fun hc => ?_)
                              · have h := h1 hc
                                clear h1 h2
                                refine zr_iconst C 0 dL_act_640 (by decide) ?_
                                exact zr_X (zr_zret C rfl (Or.inl rfl) ⟨_, rfl, h⟩ (Nat.le_of_ble_eq_true rfl) (Nat.le_of_ble_eq_true rfl) dL_act_641)
                              · have h := h2 hc
                                clear h1 h2
                                refine zr_iload_n C 8 dL_act_596 rfl rfl ?_
                                refine zr_bipush C 13 dL_act_597 (by decide) ?_
                                refine zr_callS (As := [.int p1, .int 13]) C (k_L_below h) ok_L_22 zq_677 rfl ⟨by decide, (Nat.le_of_ble_eq_true rfl)⟩ ⟨(Nat.le_of_ble_eq_true rfl), (Nat.le_of_ble_eq_true rfl)⟩ (Nat.le_of_ble_eq_true rfl) dL_act_599 (fun v746 U747 G748 hq => ?_)
                                clear h
                                · obtain ⟨r737, rfl, rfl, rfl, h⟩ := hq
                                  refine zr_bipush C 6 dL_act_602 (by decide) ?_
                                  obtain ⟨h1, h2⟩ := h
                                  refine zr_icmp_eq C 640 dL_act_604 (by decide) (fun hc => ?_) (fun hc => ?_)
                                  · have h := h1 hc
                                    clear h1 h2
                                    refine zr_iconst C 0 dL_act_640 (by decide) ?_
                                    exact zr_X (zr_zret C rfl (Or.inl rfl) ⟨_, rfl, h⟩ (Nat.le_of_ble_eq_true rfl) (Nat.le_of_ble_eq_true rfl) dL_act_641)
                                  · have h := h2 hc
                                    clear h1 h2
                                    refine zr_iload_n C 8 dL_act_607 rfl rfl ?_
                                    refine zr_bipush C 13 dL_act_608 (by decide) ?_
                                    refine zr_callS (As := [.int p1, .int 13]) C (k_L_below h) ok_L_22 zq_677 rfl ⟨by decide, (Nat.le_of_ble_eq_true rfl)⟩ ⟨(Nat.le_of_ble_eq_true rfl), (Nat.le_of_ble_eq_true rfl)⟩ (Nat.le_of_ble_eq_true rfl) dL_act_610 (fun v743 U744 G745 hq => ?_)
                                    clear h
                                    · obtain ⟨r738, rfl, rfl, rfl, h⟩ := hq
                                      refine zr_bipush C 9 dL_act_613 (by decide) ?_
                                      obtain ⟨h1, h2⟩ := h
                                      refine zr_icmp_eq C 640 dL_act_615 (by decide) (fun hc => ?_) (fun hc => ?_)
                                      · have h := h1 hc
                                        clear h1 h2
                                        refine zr_iconst C 0 dL_act_640 (by decide) ?_
                                        exact zr_X (zr_zret C rfl (Or.inl rfl) ⟨_, rfl, h⟩ (Nat.le_of_ble_eq_true rfl) (Nat.le_of_ble_eq_true rfl) dL_act_641)
                                      · have h := h2 hc
                                        clear h1 h2
                                        refine zr_iload_n C 8 dL_act_618 rfl rfl ?_
                                        refine zr_bipush C 13 dL_act_619 (by decide) ?_
                                        refine zr_callS (As := [.int p1, .int 13]) C (k_L_below h) ok_L_22 zq_677 rfl ⟨by decide, (Nat.le_of_ble_eq_true rfl)⟩ ⟨(Nat.le_of_ble_eq_true rfl), (Nat.le_of_ble_eq_true rfl)⟩ (Nat.le_of_ble_eq_true rfl) dL_act_621 (fun v740 U741 G742 hq => ?_)
                                        clear h
                                        · obtain ⟨r739, rfl, rfl, rfl, h⟩ := hq
                                          refine zr_bipush C 10 dL_act_624 (by decide) ?_
                                          obtain ⟨h1, h2⟩ := h
                                          refine zr_icmp_lt C 636 dL_act_626 (by decide) (fun hc => ?_) (fun hc => ?_)
                                          · have h := h1 hc
                                            clear h1 h2
                                            refine zr_iconst C 1 dL_act_636 (by decide) ?_
                                            refine zr_goto C 641 dL_act_637 (by decide) ?_
                                            exact zr_X (zr_zret C rfl (Or.inr rfl) ⟨_, rfl, h⟩ (Nat.le_of_ble_eq_true rfl) (Nat.le_of_ble_eq_true rfl) dL_act_641)
                                          · have h := h2 hc
                                            clear h1 h2
                                            refine zr_iload C 4 dL_act_629 rfl ?_
                                            refine zr_bipush C 99 dL_act_631 (by decide) ?_
                                            obtain ⟨h1, h2⟩ := h
                                            refine zr_icmp_ne C 640 dL_act_633 (by decide) (fun hc => ?_) (fun hc => ?_)
                                            · have h := h1 hc
                                              clear h1 h2
                                              refine zr_iconst C 0 dL_act_640 (by decide) ?_
                                              exact zr_X (zr_zret C rfl (Or.inl rfl) ⟨_, rfl, h⟩ (Nat.le_of_ble_eq_true rfl) (Nat.le_of_ble_eq_true rfl) dL_act_641)
                                            · have h := h2 hc
                                              clear h1 h2
                                              refine zr_iconst C 1 dL_act_636 (by decide) ?_
                                              refine zr_goto C 641 dL_act_637 (by decide) ?_
                                              exact zr_X (zr_zret C rfl (Or.inr rfl) ⟨_, rfl, h⟩ (Nat.le_of_ble_eq_true rfl) (Nat.le_of_ble_eq_true rfl) dL_act_641)
                        · obtain ⟨r706, rfl, rfl, h⟩ := hq
                          refine zr_iload C 1 dL_act_372 rfl ?_
                          obtain ⟨h1, h2⟩ := h
                          refine zr_icmp_eq C 393 dL_act_374 (by decide) (fun hc => ?_) (fun hc => ?_)
                          · have h := h1 hc
                            clear h1 h2
                            refine zr_iconst C 0 dL_act_393 (by decide) ?_
                            exact zr_X (zr_zret C rfl (Or.inl rfl) ⟨_, rfl, h⟩ (Nat.le_of_ble_eq_true rfl) (Nat.le_of_ble_eq_true rfl) dL_act_394)
                          · have h := h2 hc
                            clear h1 h2
                            refine zr_aload_n C 6 dL_act_377 rfl rfl ?_
                            refine zr_iload C 2 dL_act_378 rfl ?_
                            refine zr_iconst C 0 dL_act_380 (by decide) ?_
                            refine zr_callVX (As := [.int r6, .int 0]) (r := (RX4, TX4, 4)) C (k_X4_ofBooking h) ok_L_40 zq_378 zq_379 hT3 (by decide) rfl rfl ⟨by decide, (Nat.le_of_ble_eq_true rfl)⟩ ⟨(Nat.le_of_ble_eq_true rfl), (Nat.le_of_ble_eq_true rfl)⟩ (Nat.le_of_ble_eq_true rfl) dL_act_381 ?_ (fun v729 U730 G731 hq => ?_)
                            · clear h
                              intro E9 T9 F9 hq
                              obtain ⟨rfl, rfl, hq⟩ := hq
                              rcases hq with hq | hq
                              · obtain ⟨rfl, h⟩ := hq
                                refine zr_catch C "java/lang/IndexOutOfBoundsException" _ [⟨41, 125, 568, 109⟩, ⟨126, 151, 568, 109⟩, ⟨152, 283, 568, 109⟩, ⟨284, 328, 568, 109⟩] ⟨329, 394, 568, 109⟩ [⟨395, 431, 568, 109⟩, ⟨432, 463, 568, 109⟩, ⟨464, 496, 568, 109⟩, ⟨497, 567, 568, 109⟩, ⟨41, 125, 584, 111⟩, ⟨126, 151, 584, 111⟩, ⟨152, 283, 584, 111⟩, ⟨284, 328, 584, 111⟩, ⟨329, 394, 584, 111⟩, ⟨395, 431, 584, 111⟩, ⟨432, 463, 584, 111⟩, ⟨464, 496, 584, 111⟩, ⟨497, 567, 584, 111⟩] 568 hxt rfl (List.forall_mem_cons.mpr ⟨Or.inl (by decide), (List.forall_mem_cons.mpr ⟨Or.inl (by decide), (List.forall_mem_cons.mpr ⟨Or.inl (by decide), (List.forall_mem_cons.mpr ⟨Or.inl (by decide), (fun _ h9 => nomatch h9)⟩)⟩)⟩)⟩) (by decide) (by decide) zq_687 zq_275 rfl (fun q9 => ?_)
                                refine zr_astore C [(6, .ref q9), (11, .int 1), (10, .int r704), (5, .int r6), (4, .int r4), (3, .int r2), (2, .int r1), (0, .ref a0), (1, .int p1)] dL_act_568 (by decide) rfl ?_
                                refine zr_aload_n C 7 dL_act_570 rfl rfl ?_
                                refine zr_iconst C 2 dL_act_571 (by decide) ?_
                                refine zr_callV (As := [.int 2]) (r := (RX4, TX4, 4)) C (k_X4_many0 h) ok_L_36 zq_393 zq_394 hT3 (by decide) rfl rfl ⟨by decide, (Nat.le_of_ble_eq_true rfl)⟩ ⟨(Nat.le_of_ble_eq_true rfl), (Nat.le_of_ble_eq_true rfl)⟩ (Nat.le_of_ble_eq_true rfl) dL_act_572 (fun v710 U711 G712 hq => ?_)
                                clear h
                                · obtain ⟨r709, rfl, rfl, rfl, h⟩ := hq
                                  obtain ⟨h1, h2⟩ := h
                                  refine zr_if_ne C 582 dL_act_575 (by decide) (fun hc => ?_) (fun hc => ?_)
                                  · have h := h1 hc
                                    clear h1 h2
                                    refine zr_iconst C 0 dL_act_582 (by decide) ?_
                                    exact zr_X (zr_zret C rfl (Or.inl rfl) ⟨_, rfl, h⟩ (Nat.le_of_ble_eq_true rfl) (Nat.le_of_ble_eq_true rfl) dL_act_583)
                                  · have h := h2 hc
                                    clear h1 h2
                                    refine zr_iconst C 1 dL_act_578 (by decide) ?_
                                    refine zr_goto C 583 dL_act_579 (by decide) ?_
                                    exact zr_X (zr_zret C rfl (Or.inr rfl) ⟨_, rfl, h⟩ (Nat.le_of_ble_eq_true rfl) (Nat.le_of_ble_eq_true rfl) dL_act_583)
                              · obtain ⟨rfl, h⟩ := hq
                                refine zr_catch C "java/lang/IllegalStateException" _ [⟨41, 125, 568, 109⟩, ⟨126, 151, 568, 109⟩, ⟨152, 283, 568, 109⟩, ⟨284, 328, 568, 109⟩, ⟨329, 394, 568, 109⟩, ⟨395, 431, 568, 109⟩, ⟨432, 463, 568, 109⟩, ⟨464, 496, 568, 109⟩, ⟨497, 567, 568, 109⟩, ⟨41, 125, 584, 111⟩, ⟨126, 151, 584, 111⟩, ⟨152, 283, 584, 111⟩, ⟨284, 328, 584, 111⟩] ⟨329, 394, 584, 111⟩ [⟨395, 431, 584, 111⟩, ⟨432, 463, 584, 111⟩, ⟨464, 496, 584, 111⟩, ⟨497, 567, 584, 111⟩] 584 hxt rfl (List.forall_mem_cons.mpr ⟨Or.inl (by decide), (List.forall_mem_cons.mpr ⟨Or.inl (by decide), (List.forall_mem_cons.mpr ⟨Or.inl (by decide), (List.forall_mem_cons.mpr ⟨Or.inl (by decide), (List.forall_mem_cons.mpr ⟨Or.inr ⟨by decide, "java/lang/IndexOutOfBoundsException", zq_687, by decide +kernel⟩, (List.forall_mem_cons.mpr ⟨Or.inl (by decide), (List.forall_mem_cons.mpr ⟨Or.inl (by decide), (List.forall_mem_cons.mpr ⟨Or.inl (by decide), (List.forall_mem_cons.mpr ⟨Or.inl (by decide), (List.forall_mem_cons.mpr ⟨Or.inl (by decide), (List.forall_mem_cons.mpr ⟨Or.inl (by decide), (List.forall_mem_cons.mpr ⟨Or.inl (by decide), (List.forall_mem_cons.mpr ⟨Or.inl (by decide), (fun _ h9 => nomatch h9)⟩)⟩)⟩)⟩)⟩)⟩)⟩)⟩)⟩)⟩)⟩)⟩)⟩) (by decide) (by decide) zq_688 zq_117 rfl (fun q9 => ?_)
                                refine zr_astore C [(6, .ref q9), (11, .int 1), (10, .int r704), (5, .int r6), (4, .int r4), (3, .int r2), (2, .int r1), (0, .ref a0), (1, .int p1)] dL_act_584 (by decide) rfl ?_
                                refine zr_iload_n C 8 dL_act_586 rfl rfl ?_
                                refine zr_bipush C 13 dL_act_587 (by decide) ?_
                                refine zr_callS (As := [.int p1, .int 13]) C (k_L_below h) ok_L_22 zq_677 rfl ⟨by decide, (Nat.le_of_ble_eq_true rfl)⟩ ⟨(Nat.le_of_ble_eq_true rfl), (Nat.le_of_ble_eq_true rfl)⟩ (Nat.le_of_ble_eq_true rfl) dL_act_589 (fun v726 U727 G728 hq => ?_)
                                clear h
                                · obtain ⟨r713, rfl, rfl, rfl, h⟩ := hq
                                  refine zr_iconst C 2 dL_act_592 (by decide) ?_
                                  obtain ⟨h1, h2⟩ := h
                                  refine zr_icmp_eq C 640 dL_act_593 (by decide) (fun hc => ?_) (fun hc => ?_)
                                  · have h := h1 hc
                                    clear h1 h2
                                    refine zr_iconst C 0 dL_act_640 (by decide) ?_
                                    exact zr_X (zr_zret C rfl (Or.inl rfl) ⟨_, rfl, h⟩ (Nat.le_of_ble_eq_true rfl) (Nat.le_of_ble_eq_true rfl) dL_act_641)
                                  · have h := h2 hc
                                    clear h1 h2
                                    refine zr_iload_n C 8 dL_act_596 rfl rfl ?_
                                    refine zr_bipush C 13 dL_act_597 (by decide) ?_
                                    refine zr_callS (As := [.int p1, .int 13]) C (k_L_below h) ok_L_22 zq_677 rfl ⟨by decide, (Nat.le_of_ble_eq_true rfl)⟩ ⟨(Nat.le_of_ble_eq_true rfl), (Nat.le_of_ble_eq_true rfl)⟩ (Nat.le_of_ble_eq_true rfl) dL_act_599 (fun v723 U724 G725 hq => ?_)
                                    clear h
                                    · obtain ⟨r714, rfl, rfl, rfl, h⟩ := hq
                                      refine zr_bipush C 6 dL_act_602 (by decide) ?_
                                      obtain ⟨h1, h2⟩ := h
                                      refine zr_icmp_eq C 640 dL_act_604 (by decide) (fun hc => ?_) (fun hc => ?_)
                                      · have h := h1 hc
                                        clear h1 h2
                                        refine zr_iconst C 0 dL_act_640 (by decide) ?_
                                        exact zr_X (zr_zret C rfl (Or.inl rfl) ⟨_, rfl, h⟩ (Nat.le_of_ble_eq_true rfl) (Nat.le_of_ble_eq_true rfl) dL_act_641)
                                      · have h := h2 hc
                                        clear h1 h2
                                        refine zr_iload_n C 8 dL_act_607 rfl rfl ?_
                                        refine zr_bipush C 13 dL_act_608 (by decide) ?_
                                        refine zr_callS (As := [.int p1, .int 13]) C (k_L_below h) ok_L_22 zq_677 rfl ⟨by decide, (Nat.le_of_ble_eq_true rfl)⟩ ⟨(Nat.le_of_ble_eq_true rfl), (Nat.le_of_ble_eq_true rfl)⟩ (Nat.le_of_ble_eq_true rfl) dL_act_610 (fun v720 U721 G722 hq => ?_)
                                        clear h
                                        · obtain ⟨r715, rfl, rfl, rfl, h⟩ := hq
                                          refine zr_bipush C 9 dL_act_613 (by decide) ?_
                                          obtain ⟨h1, h2⟩ := h
                                          refine zr_icmp_eq C 640 dL_act_615 (by decide) (fun hc => ?_) (fun hc => ?_)
                                          · have h := h1 hc
                                            clear h1 h2
                                            refine zr_iconst C 0 dL_act_640 (by decide) ?_
                                            exact zr_X (zr_zret C rfl (Or.inl rfl) ⟨_, rfl, h⟩ (Nat.le_of_ble_eq_true rfl) (Nat.le_of_ble_eq_true rfl) dL_act_641)
                                          · have h := h2 hc
                                            clear h1 h2
                                            refine zr_iload_n C 8 dL_act_618 rfl rfl ?_
                                            refine zr_bipush C 13 dL_act_619 (by decide) ?_
                                            refine zr_callS (As := [.int p1, .int 13]) C (k_L_below h) ok_L_22 zq_677 rfl ⟨by decide, (Nat.le_of_ble_eq_true rfl)⟩ ⟨(Nat.le_of_ble_eq_true rfl), (Nat.le_of_ble_eq_true rfl)⟩ (Nat.le_of_ble_eq_true rfl) dL_act_621 (fun v717 U718 G719 hq => ?_)
                                            clear h
                                            · obtain ⟨r716, rfl, rfl, rfl, h⟩ := hq
                                              refine zr_bipush C 10 dL_act_624 (by decide) ?_
                                              obtain ⟨h1, h2⟩ := h
                                              refine zr_icmp_lt C 636 dL_act_626 (by decide) (fun hc => ?_) (fun hc => ?_)
                                              · have h := h1 hc
                                                clear h1 h2
                                                refine zr_iconst C 1 dL_act_636 (by decide) ?_
                                                refine zr_goto C 641 dL_act_637 (by decide) ?_
                                                exact zr_X (zr_zret C rfl (Or.inr rfl) ⟨_, rfl, h⟩ (Nat.le_of_ble_eq_true rfl) (Nat.le_of_ble_eq_true rfl) dL_act_641)
                                              · have h := h2 hc
                                                clear h1 h2
                                                refine zr_iload C 4 dL_act_629 rfl ?_
                                                refine zr_bipush C 99 dL_act_631 (by decide) ?_
                                                obtain ⟨h1, h2⟩ := h
                                                refine zr_icmp_ne C 640 dL_act_633 (by decide) (fun hc => ?_) (fun hc => ?_)
                                                · have h := h1 hc
                                                  clear h1 h2
                                                  refine zr_iconst C 0 dL_act_640 (by decide) ?_
                                                  exact zr_X (zr_zret C rfl (Or.inl rfl) ⟨_, rfl, h⟩ (Nat.le_of_ble_eq_true rfl) (Nat.le_of_ble_eq_true rfl) dL_act_641)
                                                · have h := h2 hc
                                                  clear h1 h2
                                                  refine zr_iconst C 1 dL_act_636 (by decide) ?_
                                                  refine zr_goto C 641 dL_act_637 (by decide) ?_
                                                  exact zr_X (zr_zret C rfl (Or.inr rfl) ⟨_, rfl, h⟩ (Nat.le_of_ble_eq_true rfl) (Nat.le_of_ble_eq_true rfl) dL_act_641)
                            · obtain ⟨r708, rfl, rfl, rfl, h⟩ := hq
                              refine zr_iload C 1 dL_act_384 rfl ?_
                              obtain ⟨h1, h2⟩ := h
                              refine zr_icmp_ne C 393 dL_act_386 (by decide) (fun hc => ?_) (fun hc => ?_)
                              · have h := h1 hc
                                clear h1 h2
                                refine zr_iconst C 0 dL_act_393 (by decide) ?_
                                exact zr_X (zr_zret C rfl (Or.inl rfl) ⟨_, rfl, h⟩ (Nat.le_of_ble_eq_true rfl) (Nat.le_of_ble_eq_true rfl) dL_act_394)
                              · have h := h2 hc
                                clear h1 h2
                                refine zr_iconst C 1 dL_act_389 (by decide) ?_
                                refine zr_goto C 394 dL_act_390 (by decide) ?_
                                exact zr_X (zr_zret C rfl (Or.inr rfl) ⟨_, rfl, h⟩ (Nat.le_of_ble_eq_true rfl) (Nat.le_of_ble_eq_true rfl) dL_act_394)
              by_cases hk7 : r7 = 7
              · have h := hs835 hk7
                refine zr_tableIn C 395 dL_act_47 (by rw [hk7]; decide) (by rw [hk7]; decide) (by rw [hk7]; rfl) (by decide) ?_
                refine zr_aload_n C 4 dL_act_395 rfl rfl ?_
                refine zr_iload_n C 5 dL_act_396 rfl rfl ?_
                refine zr_iconst C 4 dL_act_397 (by decide) ?_
                refine zr_ishr C dL_act_398 ?_
                refine zr_iconst C 3 dL_act_399 (by decide) ?_
                refine zr_callS (As := [.int (p1 >>> (4 &&& 31)), .int 3]) C (k_L_below h) ok_L_22 zq_677 rfl ⟨by decide, (Nat.le_of_ble_eq_true rfl)⟩ ⟨(Nat.le_of_ble_eq_true rfl), (Nat.le_of_ble_eq_true rfl)⟩ (Nat.le_of_ble_eq_true rfl) dL_act_400 (fun v832 U833 G834 hq => ?_)
                clear h
                · obtain ⟨r802, rfl, rfl, rfl, h⟩ := hq
                  refine zr_bipush C 99 dL_act_403 (by decide) ?_
                  refine zr_iload C 1 dL_act_405 rfl ?_
                  refine zr_iload_n C 5 dL_act_407 rfl rfl ?_
                  refine zr_bipush C 6 dL_act_408 (by decide) ?_
                  refine zr_ishr C dL_act_410 ?_
                  refine zr_iconst C 5 dL_act_411 (by decide) ?_
                  refine zr_callS (As := [.int (p1 >>> (6 &&& 31)), .int 5]) C (k_L_below h) ok_L_22 zq_677 rfl ⟨by decide, (Nat.le_of_ble_eq_true rfl)⟩ ⟨(Nat.le_of_ble_eq_true rfl), (Nat.le_of_ble_eq_true rfl)⟩ (Nat.le_of_ble_eq_true rfl) dL_act_412 (fun v829 U830 G831 hq => ?_)
                  clear h
                  · obtain ⟨r803, rfl, rfl, rfl, h⟩ := hq
                    refine zr_iadd C dL_act_415 ?_
                    refine zr_min C zq_713 zq_258 zq_29 zq_259 (by decide) (Nat.le_of_ble_eq_true rfl) (Nat.le_of_ble_eq_true rfl) (Nat.le_of_ble_eq_true rfl) dL_act_416 ?_
                    refine zr_callVX (As := [.int r802, .int (if (r4 + r803) < (99 : Int32) then (r4 + r803) else (99 : Int32))]) (r := (RX4, TX4, 4)) C (k_X4_version h) ok_L_26 zq_266 zq_267 hT3 (by decide) rfl rfl ⟨by decide, (Nat.le_of_ble_eq_true rfl)⟩ ⟨(Nat.le_of_ble_eq_true rfl), (Nat.le_of_ble_eq_true rfl)⟩ (Nat.le_of_ble_eq_true rfl) dL_act_419 ?_ (fun v826 U827 G828 hq => ?_)
                    · clear h
                      intro E9 T9 F9 hq
                      obtain ⟨rfl, hq⟩ := hq
                      rcases hq with hq | hq
                      · obtain ⟨rfl, h⟩ := hq
                        refine zr_catch C "java/lang/IndexOutOfBoundsException" _ [⟨41, 125, 568, 109⟩, ⟨126, 151, 568, 109⟩, ⟨152, 283, 568, 109⟩, ⟨284, 328, 568, 109⟩, ⟨329, 394, 568, 109⟩] ⟨395, 431, 568, 109⟩ [⟨432, 463, 568, 109⟩, ⟨464, 496, 568, 109⟩, ⟨497, 567, 568, 109⟩, ⟨41, 125, 584, 111⟩, ⟨126, 151, 584, 111⟩, ⟨152, 283, 584, 111⟩, ⟨284, 328, 584, 111⟩, ⟨329, 394, 584, 111⟩, ⟨395, 431, 584, 111⟩, ⟨432, 463, 584, 111⟩, ⟨464, 496, 584, 111⟩, ⟨497, 567, 584, 111⟩] 568 hxt rfl (List.forall_mem_cons.mpr ⟨Or.inl (by decide), (List.forall_mem_cons.mpr ⟨Or.inl (by decide), (List.forall_mem_cons.mpr ⟨Or.inl (by decide), (List.forall_mem_cons.mpr ⟨Or.inl (by decide), (List.forall_mem_cons.mpr ⟨Or.inl (by decide), (fun _ h9 => nomatch h9)⟩)⟩)⟩)⟩)⟩) (by decide) (by decide) zq_687 zq_275 rfl (fun q9 => ?_)
                        refine zr_astore C [(6, .ref q9), (5, .int r6), (4, .int r4), (3, .int r2), (2, .int r1), (0, .ref a0), (1, .int p1)] dL_act_568 (by decide) rfl ?_
                        refine zr_aload_n C 5 dL_act_570 rfl rfl ?_
                        refine zr_iconst C 2 dL_act_571 (by decide) ?_
                        refine zr_callV (As := [.int 2]) (r := (RX4, TX4, 4)) C (k_X4_many0 h) ok_L_36 zq_393 zq_394 hT3 (by decide) rfl rfl ⟨by decide, (Nat.le_of_ble_eq_true rfl)⟩ ⟨(Nat.le_of_ble_eq_true rfl), (Nat.le_of_ble_eq_true rfl)⟩ (Nat.le_of_ble_eq_true rfl) dL_act_572 (fun v807 U808 G809 hq => ?_)
                        clear h
                        · obtain ⟨r806, rfl, rfl, rfl, h⟩ := hq
                          obtain ⟨h1, h2⟩ := h
                          refine zr_if_ne C 582 dL_act_575 (by decide) (fun hc => ?_) (fun hc => ?_)
                          · have h := h1 hc
                            clear h1 h2
                            refine zr_iconst C 0 dL_act_582 (by decide) ?_
                            exact zr_X (zr_zret C rfl (Or.inl rfl) ⟨_, rfl, h⟩ (Nat.le_of_ble_eq_true rfl) (Nat.le_of_ble_eq_true rfl) dL_act_583)
                          · have h := h2 hc
                            clear h1 h2
                            refine zr_iconst C 1 dL_act_578 (by decide) ?_
                            refine zr_goto C 583 dL_act_579 (by decide) ?_
                            exact zr_X (zr_zret C rfl (Or.inr rfl) ⟨_, rfl, h⟩ (Nat.le_of_ble_eq_true rfl) (Nat.le_of_ble_eq_true rfl) dL_act_583)
                      · obtain ⟨rfl, h⟩ := hq
                        refine zr_catch C "java/lang/IllegalStateException" _ [⟨41, 125, 568, 109⟩, ⟨126, 151, 568, 109⟩, ⟨152, 283, 568, 109⟩, ⟨284, 328, 568, 109⟩, ⟨329, 394, 568, 109⟩, ⟨395, 431, 568, 109⟩, ⟨432, 463, 568, 109⟩, ⟨464, 496, 568, 109⟩, ⟨497, 567, 568, 109⟩, ⟨41, 125, 584, 111⟩, ⟨126, 151, 584, 111⟩, ⟨152, 283, 584, 111⟩, ⟨284, 328, 584, 111⟩, ⟨329, 394, 584, 111⟩] ⟨395, 431, 584, 111⟩ [⟨432, 463, 584, 111⟩, ⟨464, 496, 584, 111⟩, ⟨497, 567, 584, 111⟩] 584 hxt rfl (List.forall_mem_cons.mpr ⟨Or.inl (by decide), (List.forall_mem_cons.mpr ⟨Or.inl (by decide), (List.forall_mem_cons.mpr ⟨Or.inl (by decide), (List.forall_mem_cons.mpr ⟨Or.inl (by decide), (List.forall_mem_cons.mpr ⟨Or.inl (by decide), (List.forall_mem_cons.mpr ⟨Or.inr ⟨by decide, "java/lang/IndexOutOfBoundsException", zq_687, by decide +kernel⟩, (List.forall_mem_cons.mpr ⟨Or.inl (by decide), (List.forall_mem_cons.mpr ⟨Or.inl (by decide), (List.forall_mem_cons.mpr ⟨Or.inl (by decide), (List.forall_mem_cons.mpr ⟨Or.inl (by decide), (List.forall_mem_cons.mpr ⟨Or.inl (by decide), (List.forall_mem_cons.mpr ⟨Or.inl (by decide), (List.forall_mem_cons.mpr ⟨Or.inl (by decide), (List.forall_mem_cons.mpr ⟨Or.inl (by decide), (fun _ h9 => nomatch h9)⟩)⟩)⟩)⟩)⟩)⟩)⟩)⟩)⟩)⟩)⟩)⟩)⟩)⟩) (by decide) (by decide) zq_688 zq_117 rfl (fun q9 => ?_)
                        refine zr_astore C [(6, .ref q9), (5, .int r6), (4, .int r4), (3, .int r2), (2, .int r1), (0, .ref a0), (1, .int p1)] dL_act_584 (by decide) rfl ?_
                        refine zr_iload_n C 6 dL_act_586 rfl rfl ?_
                        refine zr_bipush C 13 dL_act_587 (by decide) ?_
                        refine zr_callS (As := [.int p1, .int 13]) C (k_L_below h) ok_L_22 zq_677 rfl ⟨by decide, (Nat.le_of_ble_eq_true rfl)⟩ ⟨(Nat.le_of_ble_eq_true rfl), (Nat.le_of_ble_eq_true rfl)⟩ (Nat.le_of_ble_eq_true rfl) dL_act_589 (fun v823 U824 G825 hq => ?_)
                        clear h
                        · obtain ⟨r810, rfl, rfl, rfl, h⟩ := hq
                          refine zr_iconst C 2 dL_act_592 (by decide) ?_
                          obtain ⟨h1, h2⟩ := h
                          refine zr_icmp_eq C 640 dL_act_593 (by decide) (fun hc => ?_) (fun hc => ?_)
                          · have h := h1 hc
                            clear h1 h2
                            refine zr_iconst C 0 dL_act_640 (by decide) ?_
                            exact zr_X (zr_zret C rfl (Or.inl rfl) ⟨_, rfl, h⟩ (Nat.le_of_ble_eq_true rfl) (Nat.le_of_ble_eq_true rfl) dL_act_641)
                          · have h := h2 hc
                            clear h1 h2
                            refine zr_iload_n C 6 dL_act_596 rfl rfl ?_
                            refine zr_bipush C 13 dL_act_597 (by decide) ?_
                            refine zr_callS (As := [.int p1, .int 13]) C (k_L_below h) ok_L_22 zq_677 rfl ⟨by decide, (Nat.le_of_ble_eq_true rfl)⟩ ⟨(Nat.le_of_ble_eq_true rfl), (Nat.le_of_ble_eq_true rfl)⟩ (Nat.le_of_ble_eq_true rfl) dL_act_599 (fun v820 U821 G822 hq => ?_)
                            clear h
                            · obtain ⟨r811, rfl, rfl, rfl, h⟩ := hq
                              refine zr_bipush C 6 dL_act_602 (by decide) ?_
                              obtain ⟨h1, h2⟩ := h
                              refine zr_icmp_eq C 640 dL_act_604 (by decide) (fun hc => ?_) (fun hc => ?_)
                              · have h := h1 hc
                                clear h1 h2
                                refine zr_iconst C 0 dL_act_640 (by decide) ?_
                                exact zr_X (zr_zret C rfl (Or.inl rfl) ⟨_, rfl, h⟩ (Nat.le_of_ble_eq_true rfl) (Nat.le_of_ble_eq_true rfl) dL_act_641)
                              · have h := h2 hc
                                clear h1 h2
                                refine zr_iload_n C 6 dL_act_607 rfl rfl ?_
                                refine zr_bipush C 13 dL_act_608 (by decide) ?_
                                refine zr_callS (As := [.int p1, .int 13]) C (k_L_below h) ok_L_22 zq_677 rfl ⟨by decide, (Nat.le_of_ble_eq_true rfl)⟩ ⟨(Nat.le_of_ble_eq_true rfl), (Nat.le_of_ble_eq_true rfl)⟩ (Nat.le_of_ble_eq_true rfl) dL_act_610 (fun v817 U818 G819 hq => ?_)
                                clear h
                                · obtain ⟨r812, rfl, rfl, rfl, h⟩ := hq
                                  refine zr_bipush C 9 dL_act_613 (by decide) ?_
                                  obtain ⟨h1, h2⟩ := h
                                  refine zr_icmp_eq C 640 dL_act_615 (by decide) (fun hc => ?_) (fun hc => ?_)
                                  · have h := h1 hc
                                    clear h1 h2
                                    refine zr_iconst C 0 dL_act_640 (by decide) ?_
                                    exact zr_X (zr_zret C rfl (Or.inl rfl) ⟨_, rfl, h⟩ (Nat.le_of_ble_eq_true rfl) (Nat.le_of_ble_eq_true rfl) dL_act_641)
                                  · have h := h2 hc
                                    clear h1 h2
                                    refine zr_iload_n C 6 dL_act_618 rfl rfl ?_
                                    refine zr_bipush C 13 dL_act_619 (by decide) ?_
                                    refine zr_callS (As := [.int p1, .int 13]) C (k_L_below h) ok_L_22 zq_677 rfl ⟨by decide, (Nat.le_of_ble_eq_true rfl)⟩ ⟨(Nat.le_of_ble_eq_true rfl), (Nat.le_of_ble_eq_true rfl)⟩ (Nat.le_of_ble_eq_true rfl) dL_act_621 (fun v814 U815 G816 hq => ?_)
                                    clear h
                                    · obtain ⟨r813, rfl, rfl, rfl, h⟩ := hq
                                      refine zr_bipush C 10 dL_act_624 (by decide) ?_
                                      obtain ⟨h1, h2⟩ := h
                                      refine zr_icmp_lt C 636 dL_act_626 (by decide) (fun hc => ?_) (fun hc => ?_)
                                      · have h := h1 hc
                                        clear h1 h2
                                        refine zr_iconst C 1 dL_act_636 (by decide) ?_
                                        refine zr_goto C 641 dL_act_637 (by decide) ?_
                                        exact zr_X (zr_zret C rfl (Or.inr rfl) ⟨_, rfl, h⟩ (Nat.le_of_ble_eq_true rfl) (Nat.le_of_ble_eq_true rfl) dL_act_641)
                                      · have h := h2 hc
                                        clear h1 h2
                                        refine zr_iload C 2 dL_act_629 rfl ?_
                                        refine zr_bipush C 99 dL_act_631 (by decide) ?_
                                        obtain ⟨h1, h2⟩ := h
                                        refine zr_icmp_ne C 640 dL_act_633 (by decide) (fun hc => ?_) (fun hc => ?_)
                                        · have h := h1 hc
                                          clear h1 h2
                                          refine zr_iconst C 0 dL_act_640 (by decide) ?_
                                          exact zr_X (zr_zret C rfl (Or.inl rfl) ⟨_, rfl, h⟩ (Nat.le_of_ble_eq_true rfl) (Nat.le_of_ble_eq_true rfl) dL_act_641)
                                        · have h := h2 hc
                                          clear h1 h2
                                          refine zr_iconst C 1 dL_act_636 (by decide) ?_
                                          refine zr_goto C 641 dL_act_637 (by decide) ?_
                                          exact zr_X (zr_zret C rfl (Or.inr rfl) ⟨_, rfl, h⟩ (Nat.le_of_ble_eq_true rfl) (Nat.le_of_ble_eq_true rfl) dL_act_641)
                    · obtain ⟨r804, rfl, rfl, h⟩ := hq
                      refine zr_iconst C 5 dL_act_422 (by decide) ?_
                      obtain ⟨h1, h2⟩ := h
                      refine zr_icmp_ge C 430 dL_act_423 (by decide) (fun hc => ?_) (fun hc => ?_)
                      · have h := h1 hc
                        clear h1 h2
                        refine zr_iconst C 0 dL_act_430 (by decide) ?_
                        exact zr_X (zr_zret C rfl (Or.inl rfl) ⟨_, rfl, h⟩ (Nat.le_of_ble_eq_true rfl) (Nat.le_of_ble_eq_true rfl) dL_act_431)
                      · have h := h2 hc
                        clear h1 h2
                        refine zr_iconst C 1 dL_act_426 (by decide) ?_
                        refine zr_goto C 431 dL_act_427 (by decide) ?_
                        exact zr_X (zr_zret C rfl (Or.inr rfl) ⟨_, rfl, h⟩ (Nat.le_of_ble_eq_true rfl) (Nat.le_of_ble_eq_true rfl) dL_act_431)
              by_cases hk8 : r7 = 8
              · have h := hs869 hk8
                refine zr_tableIn C 432 dL_act_47 (by rw [hk8]; decide) (by rw [hk8]; decide) (by rw [hk8]; rfl) (by decide) ?_
                refine zr_aload_n C 4 dL_act_432 rfl rfl ?_
                refine zr_iload_n C 5 dL_act_433 rfl rfl ?_
                refine zr_iconst C 4 dL_act_434 (by decide) ?_
                refine zr_ishr C dL_act_435 ?_
                refine zr_iconst C 3 dL_act_436 (by decide) ?_
                refine zr_callS (As := [.int (p1 >>> (4 &&& 31)), .int 3]) C (k_L_below h) ok_L_22 zq_677 rfl ⟨by decide, (Nat.le_of_ble_eq_true rfl)⟩ ⟨(Nat.le_of_ble_eq_true rfl), (Nat.le_of_ble_eq_true rfl)⟩ (Nat.le_of_ble_eq_true rfl) dL_act_437 (fun v866 U867 G868 hq => ?_)
                clear h
                · obtain ⟨r836, rfl, rfl, rfl, h⟩ := hq
                  refine zr_iconst C 1 dL_act_440 (by decide) ?_
                  refine zr_iload_n C 5 dL_act_441 rfl rfl ?_
                  refine zr_bipush C 6 dL_act_442 (by decide) ?_
                  refine zr_ishr C dL_act_444 ?_
                  refine zr_iconst C 5 dL_act_445 (by decide) ?_
                  refine zr_callS (As := [.int (p1 >>> (6 &&& 31)), .int 5]) C (k_L_below h) ok_L_22 zq_677 rfl ⟨by decide, (Nat.le_of_ble_eq_true rfl)⟩ ⟨(Nat.le_of_ble_eq_true rfl), (Nat.le_of_ble_eq_true rfl)⟩ (Nat.le_of_ble_eq_true rfl) dL_act_446 (fun v863 U864 G865 hq => ?_)
                  clear h
                  · obtain ⟨r837, rfl, rfl, rfl, h⟩ := hq
                    refine zr_iadd C dL_act_449 ?_
                    refine zr_callVX (As := [.int r836, .int ((1 : Int32) + r837)]) (r := (RX4, TX4, 4)) C (k_X4_late h) ok_L_97 zq_763 zq_764 hT3 (by decide) rfl rfl ⟨by decide, (Nat.le_of_ble_eq_true rfl)⟩ ⟨(Nat.le_of_ble_eq_true rfl), (Nat.le_of_ble_eq_true rfl)⟩ (Nat.le_of_ble_eq_true rfl) dL_act_450 ?_ (fun v860 U861 G862 hq => ?_)
                    · clear h
                      intro E9 T9 F9 hq
                      obtain ⟨rfl, hq⟩ := hq
                      rcases hq with hq | hq
                      · obtain ⟨rfl, h⟩ := hq
                        refine zr_catch C "java/lang/IndexOutOfBoundsException" _ [⟨41, 125, 568, 109⟩, ⟨126, 151, 568, 109⟩, ⟨152, 283, 568, 109⟩, ⟨284, 328, 568, 109⟩, ⟨329, 394, 568, 109⟩, ⟨395, 431, 568, 109⟩] ⟨432, 463, 568, 109⟩ [⟨464, 496, 568, 109⟩, ⟨497, 567, 568, 109⟩, ⟨41, 125, 584, 111⟩, ⟨126, 151, 584, 111⟩, ⟨152, 283, 584, 111⟩, ⟨284, 328, 584, 111⟩, ⟨329, 394, 584, 111⟩, ⟨395, 431, 584, 111⟩, ⟨432, 463, 584, 111⟩, ⟨464, 496, 584, 111⟩, ⟨497, 567, 584, 111⟩] 568 hxt rfl (List.forall_mem_cons.mpr ⟨Or.inl (by decide), (List.forall_mem_cons.mpr ⟨Or.inl (by decide), (List.forall_mem_cons.mpr ⟨Or.inl (by decide), (List.forall_mem_cons.mpr ⟨Or.inl (by decide), (List.forall_mem_cons.mpr ⟨Or.inl (by decide), (List.forall_mem_cons.mpr ⟨Or.inl (by decide), (fun _ h9 => nomatch h9)⟩)⟩)⟩)⟩)⟩)⟩) (by decide) (by decide) zq_687 zq_275 rfl (fun q9 => ?_)
                        refine zr_astore C [(6, .ref q9), (5, .int r6), (4, .int r4), (3, .int r2), (2, .int r1), (0, .ref a0), (1, .int p1)] dL_act_568 (by decide) rfl ?_
                        refine zr_aload_n C 5 dL_act_570 rfl rfl ?_
                        refine zr_iconst C 2 dL_act_571 (by decide) ?_
                        refine zr_callV (As := [.int 2]) (r := (RX4, TX4, 4)) C (k_X4_many0 h) ok_L_36 zq_393 zq_394 hT3 (by decide) rfl rfl ⟨by decide, (Nat.le_of_ble_eq_true rfl)⟩ ⟨(Nat.le_of_ble_eq_true rfl), (Nat.le_of_ble_eq_true rfl)⟩ (Nat.le_of_ble_eq_true rfl) dL_act_572 (fun v841 U842 G843 hq => ?_)
                        clear h
                        · obtain ⟨r840, rfl, rfl, rfl, h⟩ := hq
                          obtain ⟨h1, h2⟩ := h
                          refine zr_if_ne C 582 dL_act_575 (by decide) (fun hc => ?_) (fun hc => ?_)
                          · have h := h1 hc
                            clear h1 h2
                            refine zr_iconst C 0 dL_act_582 (by decide) ?_
                            exact zr_X (zr_zret C rfl (Or.inl rfl) ⟨_, rfl, h⟩ (Nat.le_of_ble_eq_true rfl) (Nat.le_of_ble_eq_true rfl) dL_act_583)
                          · have h := h2 hc
                            clear h1 h2
                            refine zr_iconst C 1 dL_act_578 (by decide) ?_
                            refine zr_goto C 583 dL_act_579 (by decide) ?_
                            exact zr_X (zr_zret C rfl (Or.inr rfl) ⟨_, rfl, h⟩ (Nat.le_of_ble_eq_true rfl) (Nat.le_of_ble_eq_true rfl) dL_act_583)
                      · obtain ⟨rfl, h⟩ := hq
                        refine zr_catch C "java/lang/IllegalStateException" _ [⟨41, 125, 568, 109⟩, ⟨126, 151, 568, 109⟩, ⟨152, 283, 568, 109⟩, ⟨284, 328, 568, 109⟩, ⟨329, 394, 568, 109⟩, ⟨395, 431, 568, 109⟩, ⟨432, 463, 568, 109⟩, ⟨464, 496, 568, 109⟩, ⟨497, 567, 568, 109⟩, ⟨41, 125, 584, 111⟩, ⟨126, 151, 584, 111⟩, ⟨152, 283, 584, 111⟩, ⟨284, 328, 584, 111⟩, ⟨329, 394, 584, 111⟩, ⟨395, 431, 584, 111⟩] ⟨432, 463, 584, 111⟩ [⟨464, 496, 584, 111⟩, ⟨497, 567, 584, 111⟩] 584 hxt rfl (List.forall_mem_cons.mpr ⟨Or.inl (by decide), (List.forall_mem_cons.mpr ⟨Or.inl (by decide), (List.forall_mem_cons.mpr ⟨Or.inl (by decide), (List.forall_mem_cons.mpr ⟨Or.inl (by decide), (List.forall_mem_cons.mpr ⟨Or.inl (by decide), (List.forall_mem_cons.mpr ⟨Or.inl (by decide), (List.forall_mem_cons.mpr ⟨Or.inr ⟨by decide, "java/lang/IndexOutOfBoundsException", zq_687, by decide +kernel⟩, (List.forall_mem_cons.mpr ⟨Or.inl (by decide), (List.forall_mem_cons.mpr ⟨Or.inl (by decide), (List.forall_mem_cons.mpr ⟨Or.inl (by decide), (List.forall_mem_cons.mpr ⟨Or.inl (by decide), (List.forall_mem_cons.mpr ⟨Or.inl (by decide), (List.forall_mem_cons.mpr ⟨Or.inl (by decide), (List.forall_mem_cons.mpr ⟨Or.inl (by decide), (List.forall_mem_cons.mpr ⟨Or.inl (by decide), (fun _ h9 => nomatch h9)⟩)⟩)⟩)⟩)⟩)⟩)⟩)⟩)⟩)⟩)⟩)⟩)⟩)⟩)⟩) (by decide) (by decide) zq_688 zq_117 rfl (fun q9 => ?_)
                        refine zr_astore C [(6, .ref q9), (5, .int r6), (4, .int r4), (3, .int r2), (2, .int r1), (0, .ref a0), (1, .int p1)] dL_act_584 (by decide) rfl ?_
                        refine zr_iload_n C 6 dL_act_586 rfl rfl ?_
                        refine zr_bipush C 13 dL_act_587 (by decide) ?_
                        refine zr_callS (As := [.int p1, .int 13]) C (k_L_below h) ok_L_22 zq_677 rfl ⟨by decide, (Nat.le_of_ble_eq_true rfl)⟩ ⟨(Nat.le_of_ble_eq_true rfl), (Nat.le_of_ble_eq_true rfl)⟩ (Nat.le_of_ble_eq_true rfl) dL_act_589 (fun v857 U858 G859 hq => ?_)
                        clear h
                        · obtain ⟨r844, rfl, rfl, rfl, h⟩ := hq
                          refine zr_iconst C 2 dL_act_592 (by decide) ?_
                          obtain ⟨h1, h2⟩ := h
                          refine zr_icmp_eq C 640 dL_act_593 (by decide) (fun hc => ?_) (fun hc => ?_)
                          · have h := h1 hc
                            clear h1 h2
                            refine zr_iconst C 0 dL_act_640 (by decide) ?_
                            exact zr_X (zr_zret C rfl (Or.inl rfl) ⟨_, rfl, h⟩ (Nat.le_of_ble_eq_true rfl) (Nat.le_of_ble_eq_true rfl) dL_act_641)
                          · have h := h2 hc
                            clear h1 h2
                            refine zr_iload_n C 6 dL_act_596 rfl rfl ?_
                            refine zr_bipush C 13 dL_act_597 (by decide) ?_
                            refine zr_callS (As := [.int p1, .int 13]) C (k_L_below h) ok_L_22 zq_677 rfl ⟨by decide, (Nat.le_of_ble_eq_true rfl)⟩ ⟨(Nat.le_of_ble_eq_true rfl), (Nat.le_of_ble_eq_true rfl)⟩ (Nat.le_of_ble_eq_true rfl) dL_act_599 (fun v854 U855 G856 hq => ?_)
                            clear h
                            · obtain ⟨r845, rfl, rfl, rfl, h⟩ := hq
                              refine zr_bipush C 6 dL_act_602 (by decide) ?_
                              obtain ⟨h1, h2⟩ := h
                              refine zr_icmp_eq C 640 dL_act_604 (by decide) (fun hc => ?_) (fun hc => ?_)
                              · have h := h1 hc
                                clear h1 h2
                                refine zr_iconst C 0 dL_act_640 (by decide) ?_
                                exact zr_X (zr_zret C rfl (Or.inl rfl) ⟨_, rfl, h⟩ (Nat.le_of_ble_eq_true rfl) (Nat.le_of_ble_eq_true rfl) dL_act_641)
                              · have h := h2 hc
                                clear h1 h2
                                refine zr_iload_n C 6 dL_act_607 rfl rfl ?_
                                refine zr_bipush C 13 dL_act_608 (by decide) ?_
                                refine zr_callS (As := [.int p1, .int 13]) C (k_L_below h) ok_L_22 zq_677 rfl ⟨by decide, (Nat.le_of_ble_eq_true rfl)⟩ ⟨(Nat.le_of_ble_eq_true rfl), (Nat.le_of_ble_eq_true rfl)⟩ (Nat.le_of_ble_eq_true rfl) dL_act_610 (fun v851 U852 G853 hq => ?_)
                                clear h
                                · obtain ⟨r846, rfl, rfl, rfl, h⟩ := hq
                                  refine zr_bipush C 9 dL_act_613 (by decide) ?_
                                  obtain ⟨h1, h2⟩ := h
                                  refine zr_icmp_eq C 640 dL_act_615 (by decide) (fun hc => ?_) (fun hc => ?_)
                                  · have h := h1 hc
                                    clear h1 h2
                                    refine zr_iconst C 0 dL_act_640 (by decide) ?_
                                    exact zr_X (zr_zret C rfl (Or.inl rfl) ⟨_, rfl, h⟩ (Nat.le_of_ble_eq_true rfl) (Nat.le_of_ble_eq_true rfl) dL_act_641)
                                  · have h := h2 hc
                                    clear h1 h2
                                    refine zr_iload_n C 6 dL_act_618 rfl rfl ?_
                                    refine zr_bipush C 13 dL_act_619 (by decide) ?_
                                    refine zr_callS (As := [.int p1, .int 13]) C (k_L_below h) ok_L_22 zq_677 rfl ⟨by decide, (Nat.le_of_ble_eq_true rfl)⟩ ⟨(Nat.le_of_ble_eq_true rfl), (Nat.le_of_ble_eq_true rfl)⟩ (Nat.le_of_ble_eq_true rfl) dL_act_621 (fun v848 U849 G850 hq => ?_)
                                    clear h
                                    · obtain ⟨r847, rfl, rfl, rfl, h⟩ := hq
                                      refine zr_bipush C 10 dL_act_624 (by decide) ?_
                                      obtain ⟨h1, h2⟩ := h
                                      refine zr_icmp_lt C 636 dL_act_626 (by decide) (fun hc => ?_) (fun hc => ?_)
                                      · have h := h1 hc
                                        clear h1 h2
                                        refine zr_iconst C 1 dL_act_636 (by decide) ?_
                                        refine zr_goto C 641 dL_act_637 (by decide) ?_
                                        exact zr_X (zr_zret C rfl (Or.inr rfl) ⟨_, rfl, h⟩ (Nat.le_of_ble_eq_true rfl) (Nat.le_of_ble_eq_true rfl) dL_act_641)
                                      · have h := h2 hc
                                        clear h1 h2
                                        refine zr_iload C 2 dL_act_629 rfl ?_
                                        refine zr_bipush C 99 dL_act_631 (by decide) ?_
                                        obtain ⟨h1, h2⟩ := h
                                        refine zr_icmp_ne C 640 dL_act_633 (by decide) (fun hc => ?_) (fun hc => ?_)
                                        · have h := h1 hc
                                          clear h1 h2
                                          refine zr_iconst C 0 dL_act_640 (by decide) ?_
                                          exact zr_X (zr_zret C rfl (Or.inl rfl) ⟨_, rfl, h⟩ (Nat.le_of_ble_eq_true rfl) (Nat.le_of_ble_eq_true rfl) dL_act_641)
                                        · have h := h2 hc
                                          clear h1 h2
                                          refine zr_iconst C 1 dL_act_636 (by decide) ?_
                                          refine zr_goto C 641 dL_act_637 (by decide) ?_
                                          exact zr_X (zr_zret C rfl (Or.inr rfl) ⟨_, rfl, h⟩ (Nat.le_of_ble_eq_true rfl) (Nat.le_of_ble_eq_true rfl) dL_act_641)
                    · obtain ⟨r838, rfl, rfl, h⟩ := hq
                      refine zr_iload C 1 dL_act_453 rfl ?_
                      obtain ⟨h1, h2⟩ := h
                      refine zr_icmp_le C 462 dL_act_455 (by decide) (fun hc => ?_) (fun hc => ?_)
                      · have h := h1 hc
                        clear h1 h2
                        refine zr_iconst C 0 dL_act_462 (by decide) ?_
                        exact zr_X (zr_zret C rfl (Or.inl rfl) ⟨_, rfl, h⟩ (Nat.le_of_ble_eq_true rfl) (Nat.le_of_ble_eq_true rfl) dL_act_463)
                      · have h := h2 hc
                        clear h1 h2
                        refine zr_iconst C 1 dL_act_458 (by decide) ?_
                        refine zr_goto C 463 dL_act_459 (by decide) ?_
                        exact zr_X (zr_zret C rfl (Or.inr rfl) ⟨_, rfl, h⟩ (Nat.le_of_ble_eq_true rfl) (Nat.le_of_ble_eq_true rfl) dL_act_463)
              by_cases hk9 : r7 = 9
              · have h := hs903 hk9
                refine zr_tableIn C 464 dL_act_47 (by rw [hk9]; decide) (by rw [hk9]; decide) (by rw [hk9]; rfl) (by decide) ?_
                refine zr_aload_n C 4 dL_act_464 rfl rfl ?_
                refine zr_iload_n C 5 dL_act_465 rfl rfl ?_
                refine zr_iconst C 4 dL_act_466 (by decide) ?_
                refine zr_ishr C dL_act_467 ?_
                refine zr_iconst C 2 dL_act_468 (by decide) ?_
                refine zr_callS (As := [.int (p1 >>> (4 &&& 31)), .int 2]) C (k_L_below h) ok_L_22 zq_677 rfl ⟨by decide, (Nat.le_of_ble_eq_true rfl)⟩ ⟨(Nat.le_of_ble_eq_true rfl), (Nat.le_of_ble_eq_true rfl)⟩ (Nat.le_of_ble_eq_true rfl) dL_act_469 (fun v900 U901 G902 hq => ?_)
                clear h
                · obtain ⟨r870, rfl, rfl, rfl, h⟩ := hq
                  refine zr_iload_n C 2 dL_act_472 rfl rfl ?_
                  refine zr_iload_n C 5 dL_act_473 rfl rfl ?_
                  refine zr_iconst C 2 dL_act_474 (by decide) ?_
                  refine zr_ishr C dL_act_475 ?_
                  refine zr_sipush C 1024 dL_act_476 (by decide) ?_
                  refine zr_callS (As := [.int (p1 >>> (2 &&& 31)), .int 1024]) C (k_L_below h) ok_L_22 zq_677 rfl ⟨by decide, (Nat.le_of_ble_eq_true rfl)⟩ ⟨(Nat.le_of_ble_eq_true rfl), (Nat.le_of_ble_eq_true rfl)⟩ (Nat.le_of_ble_eq_true rfl) dL_act_479 (fun v897 U898 G899 hq => ?_)
                  clear h
                  · obtain ⟨r871, rfl, rfl, rfl, h⟩ := hq
                    refine zr_callVX (As := [.int r870, .int r2, .int r871]) (r := (RX4, TX4, 4)) C (k_X4_groups h) ok_L_100 zq_781 zq_782 hT3 (by decide) rfl rfl ⟨by decide, (Nat.le_of_ble_eq_true rfl)⟩ ⟨(Nat.le_of_ble_eq_true rfl), (Nat.le_of_ble_eq_true rfl)⟩ (Nat.le_of_ble_eq_true rfl) dL_act_482 ?_ (fun v894 U895 G896 hq => ?_)
                    · clear h
                      intro E9 T9 F9 hq
                      obtain ⟨rfl, hq⟩ := hq
                      rcases hq with hq | hq
                      · obtain ⟨rfl, h⟩ := hq
                        refine zr_catch C "java/lang/IndexOutOfBoundsException" _ [⟨41, 125, 568, 109⟩, ⟨126, 151, 568, 109⟩, ⟨152, 283, 568, 109⟩, ⟨284, 328, 568, 109⟩, ⟨329, 394, 568, 109⟩, ⟨395, 431, 568, 109⟩, ⟨432, 463, 568, 109⟩] ⟨464, 496, 568, 109⟩ [⟨497, 567, 568, 109⟩, ⟨41, 125, 584, 111⟩, ⟨126, 151, 584, 111⟩, ⟨152, 283, 584, 111⟩, ⟨284, 328, 584, 111⟩, ⟨329, 394, 584, 111⟩, ⟨395, 431, 584, 111⟩, ⟨432, 463, 584, 111⟩, ⟨464, 496, 584, 111⟩, ⟨497, 567, 584, 111⟩] 568 hxt rfl (List.forall_mem_cons.mpr ⟨Or.inl (by decide), (List.forall_mem_cons.mpr ⟨Or.inl (by decide), (List.forall_mem_cons.mpr ⟨Or.inl (by decide), (List.forall_mem_cons.mpr ⟨Or.inl (by decide), (List.forall_mem_cons.mpr ⟨Or.inl (by decide), (List.forall_mem_cons.mpr ⟨Or.inl (by decide), (List.forall_mem_cons.mpr ⟨Or.inl (by decide), (fun _ h9 => nomatch h9)⟩)⟩)⟩)⟩)⟩)⟩)⟩) (by decide) (by decide) zq_687 zq_275 rfl (fun q9 => ?_)
                        refine zr_astore C [(6, .ref q9), (5, .int r6), (4, .int r4), (3, .int r2), (2, .int r1), (0, .ref a0), (1, .int p1)] dL_act_568 (by decide) rfl ?_
                        refine zr_aload_n C 5 dL_act_570 rfl rfl ?_
                        refine zr_iconst C 2 dL_act_571 (by decide) ?_
                        refine zr_callV (As := [.int 2]) (r := (RX4, TX4, 4)) C (k_X4_many0 h) ok_L_36 zq_393 zq_394 hT3 (by decide) rfl rfl ⟨by decide, (Nat.le_of_ble_eq_true rfl)⟩ ⟨(Nat.le_of_ble_eq_true rfl), (Nat.le_of_ble_eq_true rfl)⟩ (Nat.le_of_ble_eq_true rfl) dL_act_572 (fun v875 U876 G877 hq => ?_)
                        clear h
                        · obtain ⟨r874, rfl, rfl, rfl, h⟩ := hq
                          obtain ⟨h1, h2⟩ := h
                          refine zr_if_ne C 582 dL_act_575 (by decide) (fun hc => ?_) (fun hc => ?_)
                          · have h := h1 hc
                            clear h1 h2
                            refine zr_iconst C 0 dL_act_582 (by decide) ?_
                            exact zr_X (zr_zret C rfl (Or.inl rfl) ⟨_, rfl, h⟩ (Nat.le_of_ble_eq_true rfl) (Nat.le_of_ble_eq_true rfl) dL_act_583)
                          · have h := h2 hc
                            clear h1 h2
                            refine zr_iconst C 1 dL_act_578 (by decide) ?_
                            refine zr_goto C 583 dL_act_579 (by decide) ?_
                            exact zr_X (zr_zret C rfl (Or.inr rfl) ⟨_, rfl, h⟩ (Nat.le_of_ble_eq_true rfl) (Nat.le_of_ble_eq_true rfl) dL_act_583)
                      · obtain ⟨rfl, h⟩ := hq
                        refine zr_catch C "java/lang/IllegalStateException" _ [⟨41, 125, 568, 109⟩, ⟨126, 151, 568, 109⟩, ⟨152, 283, 568, 109⟩, ⟨284, 328, 568, 109⟩, ⟨329, 394, 568, 109⟩, ⟨395, 431, 568, 109⟩, ⟨432, 463, 568, 109⟩, ⟨464, 496, 568, 109⟩, ⟨497, 567, 568, 109⟩, ⟨41, 125, 584, 111⟩, ⟨126, 151, 584, 111⟩, ⟨152, 283, 584, 111⟩, ⟨284, 328, 584, 111⟩, ⟨329, 394, 584, 111⟩, ⟨395, 431, 584, 111⟩, ⟨432, 463, 584, 111⟩] ⟨464, 496, 584, 111⟩ [⟨497, 567, 584, 111⟩] 584 hxt rfl (List.forall_mem_cons.mpr ⟨Or.inl (by decide), (List.forall_mem_cons.mpr ⟨Or.inl (by decide), (List.forall_mem_cons.mpr ⟨Or.inl (by decide), (List.forall_mem_cons.mpr ⟨Or.inl (by decide), (List.forall_mem_cons.mpr ⟨Or.inl (by decide), (List.forall_mem_cons.mpr ⟨Or.inl (by decide), (List.forall_mem_cons.mpr ⟨Or.inl (by decide), (List.forall_mem_cons.mpr ⟨Or.inr ⟨by decide, "java/lang/IndexOutOfBoundsException", zq_687, by decide +kernel⟩, (List.forall_mem_cons.mpr ⟨Or.inl (by decide), (List.forall_mem_cons.mpr ⟨Or.inl (by decide), (List.forall_mem_cons.mpr ⟨Or.inl (by decide), (List.forall_mem_cons.mpr ⟨Or.inl (by decide), (List.forall_mem_cons.mpr ⟨Or.inl (by decide), (List.forall_mem_cons.mpr ⟨Or.inl (by decide), (List.forall_mem_cons.mpr ⟨Or.inl (by decide), (List.forall_mem_cons.mpr ⟨Or.inl (by decide), (fun _ h9 => nomatch h9)⟩)⟩)⟩)⟩)⟩)⟩)⟩)⟩)⟩)⟩)⟩)⟩)⟩)⟩)⟩)⟩) (by decide) (by decide) zq_688 zq_117 rfl (fun q9 => ?_)
                        refine zr_astore C [(6, .ref q9), (5, .int r6), (4, .int r4), (3, .int r2), (2, .int r1), (0, .ref a0), (1, .int p1)] dL_act_584 (by decide) rfl ?_
                        refine zr_iload_n C 6 dL_act_586 rfl rfl ?_
                        refine zr_bipush C 13 dL_act_587 (by decide) ?_
                        refine zr_callS (As := [.int p1, .int 13]) C (k_L_below h) ok_L_22 zq_677 rfl ⟨by decide, (Nat.le_of_ble_eq_true rfl)⟩ ⟨(Nat.le_of_ble_eq_true rfl), (Nat.le_of_ble_eq_true rfl)⟩ (Nat.le_of_ble_eq_true rfl) dL_act_589 (fun v891 U892 G893 hq => ?_)
                        clear h
                        · obtain ⟨r878, rfl, rfl, rfl, h⟩ := hq
                          refine zr_iconst C 2 dL_act_592 (by decide) ?_
                          obtain ⟨h1, h2⟩ := h
                          refine zr_icmp_eq C 640 dL_act_593 (by decide) (fun hc => ?_) (fun hc => ?_)
                          · have h := h1 hc
                            clear h1 h2
                            refine zr_iconst C 0 dL_act_640 (by decide) ?_
                            exact zr_X (zr_zret C rfl (Or.inl rfl) ⟨_, rfl, h⟩ (Nat.le_of_ble_eq_true rfl) (Nat.le_of_ble_eq_true rfl) dL_act_641)
                          · have h := h2 hc
                            clear h1 h2
                            refine zr_iload_n C 6 dL_act_596 rfl rfl ?_
                            refine zr_bipush C 13 dL_act_597 (by decide) ?_
                            refine zr_callS (As := [.int p1, .int 13]) C (k_L_below h) ok_L_22 zq_677 rfl ⟨by decide, (Nat.le_of_ble_eq_true rfl)⟩ ⟨(Nat.le_of_ble_eq_true rfl), (Nat.le_of_ble_eq_true rfl)⟩ (Nat.le_of_ble_eq_true rfl) dL_act_599 (fun v888 U889 G890 hq => ?_)
                            clear h
                            · obtain ⟨r879, rfl, rfl, rfl, h⟩ := hq
                              refine zr_bipush C 6 dL_act_602 (by decide) ?_
                              obtain ⟨h1, h2⟩ := h
                              refine zr_icmp_eq C 640 dL_act_604 (by decide) (fun hc => ?_) (fun hc => ?_)
                              · have h := h1 hc
                                clear h1 h2
                                refine zr_iconst C 0 dL_act_640 (by decide) ?_
                                exact zr_X (zr_zret C rfl (Or.inl rfl) ⟨_, rfl, h⟩ (Nat.le_of_ble_eq_true rfl) (Nat.le_of_ble_eq_true rfl) dL_act_641)
                              · have h := h2 hc
                                clear h1 h2
                                refine zr_iload_n C 6 dL_act_607 rfl rfl ?_
                                refine zr_bipush C 13 dL_act_608 (by decide) ?_
                                refine zr_callS (As := [.int p1, .int 13]) C (k_L_below h) ok_L_22 zq_677 rfl ⟨by decide, (Nat.le_of_ble_eq_true rfl)⟩ ⟨(Nat.le_of_ble_eq_true rfl), (Nat.le_of_ble_eq_true rfl)⟩ (Nat.le_of_ble_eq_true rfl) dL_act_610 (fun v885 U886 G887 hq => ?_)
                                clear h
                                · obtain ⟨r880, rfl, rfl, rfl, h⟩ := hq
                                  refine zr_bipush C 9 dL_act_613 (by decide) ?_
                                  obtain ⟨h1, h2⟩ := h
                                  refine zr_icmp_eq C 640 dL_act_615 (by decide) (fun hc => ?_) (fun hc => ?_)
                                  · have h := h1 hc
                                    clear h1 h2
                                    refine zr_iconst C 0 dL_act_640 (by decide) ?_
                                    exact zr_X (zr_zret C rfl (Or.inl rfl) ⟨_, rfl, h⟩ (Nat.le_of_ble_eq_true rfl) (Nat.le_of_ble_eq_true rfl) dL_act_641)
                                  · have h := h2 hc
                                    clear h1 h2
                                    refine zr_iload_n C 6 dL_act_618 rfl rfl ?_
                                    refine zr_bipush C 13 dL_act_619 (by decide) ?_
                                    refine zr_callS (As := [.int p1, .int 13]) C (k_L_below h) ok_L_22 zq_677 rfl ⟨by decide, (Nat.le_of_ble_eq_true rfl)⟩ ⟨(Nat.le_of_ble_eq_true rfl), (Nat.le_of_ble_eq_true rfl)⟩ (Nat.le_of_ble_eq_true rfl) dL_act_621 (fun v882 U883 G884 hq => ?_)
                                    clear h
                                    · obtain ⟨r881, rfl, rfl, rfl, h⟩ := hq
                                      refine zr_bipush C 10 dL_act_624 (by decide) ?_
                                      obtain ⟨h1, h2⟩ := h
                                      refine zr_icmp_lt C 636 dL_act_626 (by decide) (fun hc => ?_) (fun hc => ?_)
                                      · have h := h1 hc
                                        clear h1 h2
                                        refine zr_iconst C 1 dL_act_636 (by decide) ?_
                                        refine zr_goto C 641 dL_act_637 (by decide) ?_
                                        exact zr_X (zr_zret C rfl (Or.inr rfl) ⟨_, rfl, h⟩ (Nat.le_of_ble_eq_true rfl) (Nat.le_of_ble_eq_true rfl) dL_act_641)
                                      · have h := h2 hc
                                        clear h1 h2
                                        refine zr_iload C 2 dL_act_629 rfl ?_
                                        refine zr_bipush C 99 dL_act_631 (by decide) ?_
                                        obtain ⟨h1, h2⟩ := h
                                        refine zr_icmp_ne C 640 dL_act_633 (by decide) (fun hc => ?_) (fun hc => ?_)
                                        · have h := h1 hc
                                          clear h1 h2
                                          refine zr_iconst C 0 dL_act_640 (by decide) ?_
                                          exact zr_X (zr_zret C rfl (Or.inl rfl) ⟨_, rfl, h⟩ (Nat.le_of_ble_eq_true rfl) (Nat.le_of_ble_eq_true rfl) dL_act_641)
                                        · have h := h2 hc
                                          clear h1 h2
                                          refine zr_iconst C 1 dL_act_636 (by decide) ?_
                                          refine zr_goto C 641 dL_act_637 (by decide) ?_
                                          exact zr_X (zr_zret C rfl (Or.inr rfl) ⟨_, rfl, h⟩ (Nat.le_of_ble_eq_true rfl) (Nat.le_of_ble_eq_true rfl) dL_act_641)
                    · obtain ⟨r872, rfl, rfl, h⟩ := hq
                      refine zr_sipush C 1024 dL_act_485 (by decide) ?_
                      obtain ⟨h1, h2⟩ := h
                      refine zr_icmp_ge C 495 dL_act_488 (by decide) (fun hc => ?_) (fun hc => ?_)
                      · have h := h1 hc
                        clear h1 h2
                        refine zr_iconst C 0 dL_act_495 (by decide) ?_
                        exact zr_X (zr_zret C rfl (Or.inl rfl) ⟨_, rfl, h⟩ (Nat.le_of_ble_eq_true rfl) (Nat.le_of_ble_eq_true rfl) dL_act_496)
                      · have h := h2 hc
                        clear h1 h2
                        refine zr_iconst C 1 dL_act_491 (by decide) ?_
                        refine zr_goto C 496 dL_act_492 (by decide) ?_
                        exact zr_X (zr_zret C rfl (Or.inr rfl) ⟨_, rfl, h⟩ (Nat.le_of_ble_eq_true rfl) (Nat.le_of_ble_eq_true rfl) dL_act_496)
              obtain ⟨j9, hj9, e9⟩ := z_sw 9 hw
              have hc9 : j9 = 0 ∨ j9 = 1 ∨ j9 = 2 ∨ j9 = 3 ∨ j9 = 4 ∨ j9 = 5 ∨ j9 = 6 ∨ j9 = 7 ∨ j9 = 8 ∨ j9 = 9 := by omega
              rcases hc9 with rfl | rfl | rfl | rfl | rfl | rfl | rfl | rfl | rfl | rfl
              · exact absurd (e9.trans (by decide)) hk0
              · exact absurd (e9.trans (by decide)) hk1
              · exact absurd (e9.trans (by decide)) hk2
              · exact absurd (e9.trans (by decide)) hk3
              · exact absurd (e9.trans (by decide)) hk4
              · exact absurd (e9.trans (by decide)) hk5
              · exact absurd (e9.trans (by decide)) hk6
              · exact absurd (e9.trans (by decide)) hk7
              · exact absurd (e9.trans (by decide)) hk8
              · exact absurd (e9.trans (by decide)) hk9
theorem dL_areBookingsRight_0 : decode cL_areBookingsRight 0 = .ok (.aload_n 0, 1) := by decide +kernel
theorem dL_areBookingsRight_1 : decode cL_areBookingsRight 1 = .ok (.bipush 10, 2) := by decide +kernel
theorem dL_areBookingsRight_6 : decode cL_areBookingsRight 6 = .ok (.istore_n 1, 1) := by decide +kernel
theorem dL_areBookingsRight_7 : decode cL_areBookingsRight 7 = .ok (.iconst 5, 1) := by decide +kernel
theorem dL_areBookingsRight_8 : decode cL_areBookingsRight 8 = .ok (.newarray .int, 2) := by decide +kernel
theorem dL_areBookingsRight_10 : decode cL_areBookingsRight 10 = .ok (.astore_n 2, 1) := by decide +kernel
theorem dL_areBookingsRight_11 : decode cL_areBookingsRight 11 = .ok (.iconst 0, 1) := by decide +kernel
theorem dL_areBookingsRight_12 : decode cL_areBookingsRight 12 = .ok (.istore_n 3, 1) := by decide +kernel
theorem dL_areBookingsRight_13 : decode cL_areBookingsRight 13 = .ok (.iconst 0, 1) := by decide +kernel
theorem dL_areBookingsRight_14 : decode cL_areBookingsRight 14 = .ok (.istore 4, 2) := by decide +kernel
theorem dL_areBookingsRight_16 : decode cL_areBookingsRight 16 = .ok (.iconst 0, 1) := by decide +kernel
theorem dL_areBookingsRight_17 : decode cL_areBookingsRight 17 = .ok (.istore 5, 2) := by decide +kernel
theorem dL_areBookingsRight_19 : decode cL_areBookingsRight 19 = .ok (.iload 5, 2) := by decide +kernel
theorem dL_areBookingsRight_21 : decode cL_areBookingsRight 21 = .ok (.aload_n 0, 1) := by decide +kernel
theorem dL_areBookingsRight_22 : decode cL_areBookingsRight 22 = .ok (.iconst 2, 1) := by decide +kernel
theorem dL_areBookingsRight_26 : decode cL_areBookingsRight 26 = .ok (.if_icmp .ge 339, 3) := by decide +kernel
theorem dL_areBookingsRight_365 : decode cL_areBookingsRight 365 = .ok (.iconst 0, 1) := by decide +kernel
theorem dL_areBookingsRight_366 : decode cL_areBookingsRight 366 = .ok (.istore 5, 2) := by decide +kernel
theorem dL_areBookingsRight_368 : decode cL_areBookingsRight 368 = .ok (.iload 5, 2) := by decide +kernel
theorem dL_areBookingsRight_370 : decode cL_areBookingsRight 370 = .ok (.iconst 5, 1) := by decide +kernel
theorem dL_areBookingsRight_371 : decode cL_areBookingsRight 371 = .ok (.if_icmp .ge 26, 3) := by decide +kernel
theorem dL_areBookingsRight_397 : decode cL_areBookingsRight 397 = .ok (.aload_n 0, 1) := by decide +kernel
theorem dL_areBookingsRight_398 : decode cL_areBookingsRight 398 = .ok (.bipush 8, 2) := by decide +kernel
theorem dL_areBookingsRight_403 : decode cL_areBookingsRight 403 = .ok (.iload_n 3, 1) := by decide +kernel
theorem dL_areBookingsRight_404 : decode cL_areBookingsRight 404 = .ok (.if_icmp .ne 18, 3) := by decide +kernel
theorem dL_areBookingsRight_422 : decode cL_areBookingsRight 422 = .ok (.iconst 0, 1) := by decide +kernel
theorem dL_areBookingsRight_423 : decode cL_areBookingsRight 423 = .ok (.ireturn, 1) := by decide +kernel
theorem dL_areBookingsRight_407 : decode cL_areBookingsRight 407 = .ok (.aload_n 0, 1) := by decide +kernel
theorem dL_areBookingsRight_408 : decode cL_areBookingsRight 408 = .ok (.bipush 9, 2) := by decide +kernel
theorem dL_areBookingsRight_413 : decode cL_areBookingsRight 413 = .ok (.iload 4, 2) := by decide +kernel
theorem dL_areBookingsRight_415 : decode cL_areBookingsRight 415 = .ok (.if_icmp .ne 7, 3) := by decide +kernel
theorem dL_areBookingsRight_418 : decode cL_areBookingsRight 418 = .ok (.iconst 1, 1) := by decide +kernel
theorem dL_areBookingsRight_419 : decode cL_areBookingsRight 419 = .ok (.goto 4, 3) := by decide +kernel
theorem dL_areBookingsRight_410 : decode cL_areBookingsRight 410 = .ok (.invokevirtual 36, 3) := by decide +kernel
theorem dL_areBookingsRight_400 : decode cL_areBookingsRight 400 = .ok (.invokevirtual 36, 3) := by decide +kernel
theorem dL_areBookingsRight_374 : decode cL_areBookingsRight 374 = .ok (.aload_n 0, 1) := by decide +kernel
theorem dL_areBookingsRight_375 : decode cL_areBookingsRight 375 = .ok (.iconst 3, 1) := by decide +kernel
theorem dL_areBookingsRight_376 : decode cL_areBookingsRight 376 = .ok (.iload 5, 2) := by decide +kernel
theorem dL_areBookingsRight_378 : decode cL_areBookingsRight 378 = .ok (.iadd, 1) := by decide +kernel
theorem dL_areBookingsRight_382 : decode cL_areBookingsRight 382 = .ok (.aload_n 2, 1) := by decide +kernel
theorem dL_areBookingsRight_383 : decode cL_areBookingsRight 383 = .ok (.iload 5, 2) := by decide +kernel
theorem dL_areBookingsRight_385 : decode cL_areBookingsRight 385 = .ok (.iaload, 1) := by decide +kernel
theorem dL_areBookingsRight_386 : decode cL_areBookingsRight 386 = .ok (.if_icmp .eq 5, 3) := by decide +kernel
theorem dL_areBookingsRight_391 : decode cL_areBookingsRight 391 = .ok (.iinc 5 1, 3) := by decide +kernel
theorem dL_areBookingsRight_394 : decode cL_areBookingsRight 394 = .ok (.goto (-26), 3) := by decide +kernel
theorem dL_areBookingsRight_389 : decode cL_areBookingsRight 389 = .ok (.iconst 0, 1) := by decide +kernel
theorem dL_areBookingsRight_390 : decode cL_areBookingsRight 390 = .ok (.ireturn, 1) := by decide +kernel
theorem dL_areBookingsRight_379 : decode cL_areBookingsRight 379 = .ok (.invokevirtual 36, 3) := by decide +kernel
theorem dL_areBookingsRight_29 : decode cL_areBookingsRight 29 = .ok (.aload_n 0, 1) := by decide +kernel
theorem dL_areBookingsRight_30 : decode cL_areBookingsRight 30 = .ok (.iload 5, 2) := by decide +kernel
theorem dL_areBookingsRight_32 : decode cL_areBookingsRight 32 = .ok (.iconst 5, 1) := by decide +kernel
theorem dL_areBookingsRight_36 : decode cL_areBookingsRight 36 = .ok (.istore 6, 2) := by decide +kernel
theorem dL_areBookingsRight_38 : decode cL_areBookingsRight 38 = .ok (.aload_n 0, 1) := by decide +kernel
theorem dL_areBookingsRight_39 : decode cL_areBookingsRight 39 = .ok (.iload 5, 2) := by decide +kernel
theorem dL_areBookingsRight_41 : decode cL_areBookingsRight 41 = .ok (.iconst 3, 1) := by decide +kernel
theorem dL_areBookingsRight_45 : decode cL_areBookingsRight 45 = .ok (.istore 7, 2) := by decide +kernel
theorem dL_areBookingsRight_47 : decode cL_areBookingsRight 47 = .ok (.aload_n 0, 1) := by decide +kernel
theorem dL_areBookingsRight_48 : decode cL_areBookingsRight 48 = .ok (.iload 5, 2) := by decide +kernel
theorem dL_areBookingsRight_50 : decode cL_areBookingsRight 50 = .ok (.iconst 4, 1) := by decide +kernel
theorem dL_areBookingsRight_54 : decode cL_areBookingsRight 54 = .ok (.istore 8, 2) := by decide +kernel
theorem dL_areBookingsRight_56 : decode cL_areBookingsRight 56 = .ok (.aload_n 2, 1) := by decide +kernel
theorem dL_areBookingsRight_57 : decode cL_areBookingsRight 57 = .ok (.iload 6, 2) := by decide +kernel
theorem dL_areBookingsRight_59 : decode cL_areBookingsRight 59 = .ok (.dup2, 1) := by decide +kernel
theorem dL_areBookingsRight_60 : decode cL_areBookingsRight 60 = .ok (.iaload, 1) := by decide +kernel
theorem dL_areBookingsRight_61 : decode cL_areBookingsRight 61 = .ok (.iconst 1, 1) := by decide +kernel
theorem dL_areBookingsRight_62 : decode cL_areBookingsRight 62 = .ok (.iadd, 1) := by decide +kernel
theorem dL_areBookingsRight_63 : decode cL_areBookingsRight 63 = .ok (.iastore, 1) := by decide +kernel
theorem dL_areBookingsRight_64 : decode cL_areBookingsRight 64 = .ok (.iload_n 3, 1) := by decide +kernel
theorem dL_areBookingsRight_65 : decode cL_areBookingsRight 65 = .ok (.aload_n 0, 1) := by decide +kernel
theorem dL_areBookingsRight_66 : decode cL_areBookingsRight 66 = .ok (.iload 5, 2) := by decide +kernel
theorem dL_areBookingsRight_68 : decode cL_areBookingsRight 68 = .ok (.bipush 10, 2) := by decide +kernel
theorem dL_areBookingsRight_73 : decode cL_areBookingsRight 73 = .ok (.iadd, 1) := by decide +kernel
theorem dL_areBookingsRight_74 : decode cL_areBookingsRight 74 = .ok (.istore_n 3, 1) := by decide +kernel
theorem dL_areBookingsRight_75 : decode cL_areBookingsRight 75 = .ok (.iload 4, 2) := by decide +kernel
theorem dL_areBookingsRight_77 : decode cL_areBookingsRight 77 = .ok (.aload_n 0, 1) := by decide +kernel
theorem dL_areBookingsRight_78 : decode cL_areBookingsRight 78 = .ok (.iload 5, 2) := by decide +kernel
theorem dL_areBookingsRight_80 : decode cL_areBookingsRight 80 = .ok (.bipush 7, 2) := by decide +kernel
theorem dL_areBookingsRight_85 : decode cL_areBookingsRight 85 = .ok (.iadd, 1) := by decide +kernel
theorem dL_areBookingsRight_86 : decode cL_areBookingsRight 86 = .ok (.istore 4, 2) := by decide +kernel
theorem dL_areBookingsRight_88 : decode cL_areBookingsRight 88 = .ok (.aload_n 0, 1) := by decide +kernel
theorem dL_areBookingsRight_89 : decode cL_areBookingsRight 89 = .ok (.iload 5, 2) := by decide +kernel
theorem dL_areBookingsRight_91 : decode cL_areBookingsRight 91 = .ok (.bipush 6, 2) := by decide +kernel
theorem dL_areBookingsRight_96 : decode cL_areBookingsRight 96 = .ok (.iload 8, 2) := by decide +kernel
theorem dL_areBookingsRight_98 : decode cL_areBookingsRight 98 = .ok (.iload 7, 2) := by decide +kernel
theorem dL_areBookingsRight_100 : decode cL_areBookingsRight 100 = .ok (.isub, 1) := by decide +kernel
theorem dL_areBookingsRight_101 : decode cL_areBookingsRight 101 = .ok (.iconst 1, 1) := by decide +kernel
theorem dL_areBookingsRight_102 : decode cL_areBookingsRight 102 = .ok (.iadd, 1) := by decide +kernel
theorem dL_areBookingsRight_103 : decode cL_areBookingsRight 103 = .ok (.idiv, 1) := by decide +kernel
theorem dL_areBookingsRight_104 : decode cL_areBookingsRight 104 = .ok (.istore 9, 2) := by decide +kernel
theorem dL_areBookingsRight_106 : decode cL_areBookingsRight 106 = .ok (.iload 6, 2) := by decide +kernel
theorem dL_areBookingsRight_108 : decode cL_areBookingsRight 108 = .ok (.ifCond .ne 9, 3) := by decide +kernel
theorem dL_areBookingsRight_111 : decode cL_areBookingsRight 111 = .ok (.iload 7, 2) := by decide +kernel
theorem dL_areBookingsRight_113 : decode cL_areBookingsRight 113 = .ok (.iload_n 1, 1) := by decide +kernel
theorem dL_areBookingsRight_114 : decode cL_areBookingsRight 114 = .ok (.if_icmp .le 57, 3) := by decide +kernel
theorem dL_areBookingsRight_171 : decode cL_areBookingsRight 171 = .ok (.iconst 0, 1) := by decide +kernel
theorem dL_areBookingsRight_172 : decode cL_areBookingsRight 172 = .ok (.ireturn, 1) := by decide +kernel
theorem dL_areBookingsRight_117 : decode cL_areBookingsRight 117 = .ok (.iload 6, 2) := by decide +kernel
theorem dL_areBookingsRight_119 : decode cL_areBookingsRight 119 = .ok (.iconst 1, 1) := by decide +kernel
theorem dL_areBookingsRight_120 : decode cL_areBookingsRight 120 = .ok (.if_icmp .ne 15, 3) := by decide +kernel
theorem dL_areBookingsRight_123 : decode cL_areBookingsRight 123 = .ok (.iload 7, 2) := by decide +kernel
theorem dL_areBookingsRight_125 : decode cL_areBookingsRight 125 = .ok (.iload_n 1, 1) := by decide +kernel
theorem dL_areBookingsRight_126 : decode cL_areBookingsRight 126 = .ok (.if_icmp .gt 45, 3) := by decide +kernel
theorem dL_areBookingsRight_129 : decode cL_areBookingsRight 129 = .ok (.iload 8, 2) := by decide +kernel
theorem dL_areBookingsRight_131 : decode cL_areBookingsRight 131 = .ok (.iload_n 1, 1) := by decide +kernel
theorem dL_areBookingsRight_132 : decode cL_areBookingsRight 132 = .ok (.if_icmp .lt 39, 3) := by decide +kernel
theorem dL_areBookingsRight_135 : decode cL_areBookingsRight 135 = .ok (.iload 6, 2) := by decide +kernel
theorem dL_areBookingsRight_137 : decode cL_areBookingsRight 137 = .ok (.iconst 2, 1) := by decide +kernel
theorem dL_areBookingsRight_138 : decode cL_areBookingsRight 138 = .ok (.if_icmp .ne 9, 3) := by decide +kernel
theorem dL_areBookingsRight_141 : decode cL_areBookingsRight 141 = .ok (.iload 8, 2) := by decide +kernel
theorem dL_areBookingsRight_143 : decode cL_areBookingsRight 143 = .ok (.iload_n 1, 1) := by decide +kernel
theorem dL_areBookingsRight_144 : decode cL_areBookingsRight 144 = .ok (.if_icmp .ge 27, 3) := by decide +kernel
theorem dL_areBookingsRight_147 : decode cL_areBookingsRight 147 = .ok (.iload 6, 2) := by decide +kernel
theorem dL_areBookingsRight_149 : decode cL_areBookingsRight 149 = .ok (.iconst 1, 1) := by decide +kernel
theorem dL_areBookingsRight_150 : decode cL_areBookingsRight 150 = .ok (.if_icmp .eq 14, 3) := by decide +kernel
theorem dL_areBookingsRight_153 : decode cL_areBookingsRight 153 = .ok (.aload_n 0, 1) := by decide +kernel
theorem dL_areBookingsRight_154 : decode cL_areBookingsRight 154 = .ok (.iload 5, 2) := by decide +kernel
theorem dL_areBookingsRight_156 : decode cL_areBookingsRight 156 = .ok (.bipush 10, 2) := by decide +kernel
theorem dL_areBookingsRight_161 : decode cL_areBookingsRight 161 = .ok (.ifCond .ne 10, 3) := by decide +kernel
theorem dL_areBookingsRight_158 : decode cL_areBookingsRight 158 = .ok (.invokevirtual 40, 3) := by decide +kernel
theorem dL_areBookingsRight_164 : decode cL_areBookingsRight 164 = .ok (.iload 8, 2) := by decide +kernel
theorem dL_areBookingsRight_166 : decode cL_areBookingsRight 166 = .ok (.bipush 99, 2) := by decide +kernel
theorem dL_areBookingsRight_168 : decode cL_areBookingsRight 168 = .ok (.if_icmp .le 5, 3) := by decide +kernel
theorem dL_areBookingsRight_173 : decode cL_areBookingsRight 173 = .ok (.iload 6, 2) := by decide +kernel
theorem dL_areBookingsRight_175 : decode cL_areBookingsRight 175 = .ok (.iconst 3, 1) := by decide +kernel
theorem dL_areBookingsRight_176 : decode cL_areBookingsRight 176 = .ok (.if_icmp .ge 34, 3) := by decide +kernel
theorem dL_areBookingsRight_179 : decode cL_areBookingsRight 179 = .ok (.aload_n 0, 1) := by decide +kernel
theorem dL_areBookingsRight_180 : decode cL_areBookingsRight 180 = .ok (.iload 5, 2) := by decide +kernel
theorem dL_areBookingsRight_182 : decode cL_areBookingsRight 182 = .ok (.bipush 7, 2) := by decide +kernel
theorem dL_areBookingsRight_187 : decode cL_areBookingsRight 187 = .ok (.aload_n 0, 1) := by decide +kernel
theorem dL_areBookingsRight_188 : decode cL_areBookingsRight 188 = .ok (.iload 5, 2) := by decide +kernel
theorem dL_areBookingsRight_190 : decode cL_areBookingsRight 190 = .ok (.bipush 6, 2) := by decide +kernel
theorem dL_areBookingsRight_195 : decode cL_areBookingsRight 195 = .ok (.iload 9, 2) := by decide +kernel
theorem dL_areBookingsRight_197 : decode cL_areBookingsRight 197 = .ok (.aload_n 0, 1) := by decide +kernel
theorem dL_areBookingsRight_198 : decode cL_areBookingsRight 198 = .ok (.iload 5, 2) := by decide +kernel
theorem dL_areBookingsRight_200 : decode cL_areBookingsRight 200 = .ok (.bipush 9, 2) := by decide +kernel
theorem dL_areBookingsRight_205 : decode cL_areBookingsRight 205 = .ok (.imul, 1) := by decide +kernel
theorem dL_areBookingsRight_206 : decode cL_areBookingsRight 206 = .ok (.isub, 1) := by decide +kernel
theorem dL_areBookingsRight_207 : decode cL_areBookingsRight 207 = .ok (.if_icmp .ne 32, 3) := by decide +kernel
theorem dL_areBookingsRight_239 : decode cL_areBookingsRight 239 = .ok (.iconst 0, 1) := by decide +kernel
theorem dL_areBookingsRight_240 : decode cL_areBookingsRight 240 = .ok (.ireturn, 1) := by decide +kernel
theorem dL_areBookingsRight_202 : decode cL_areBookingsRight 202 = .ok (.invokevirtual 40, 3) := by decide +kernel
theorem dL_areBookingsRight_192 : decode cL_areBookingsRight 192 = .ok (.invokevirtual 40, 3) := by decide +kernel
theorem dL_areBookingsRight_184 : decode cL_areBookingsRight 184 = .ok (.invokevirtual 40, 3) := by decide +kernel
theorem dL_areBookingsRight_210 : decode cL_areBookingsRight 210 = .ok (.iload 6, 2) := by decide +kernel
theorem dL_areBookingsRight_212 : decode cL_areBookingsRight 212 = .ok (.iconst 4, 1) := by decide +kernel
theorem dL_areBookingsRight_213 : decode cL_areBookingsRight 213 = .ok (.if_icmp .ne 14, 3) := by decide +kernel
theorem dL_areBookingsRight_216 : decode cL_areBookingsRight 216 = .ok (.aload_n 0, 1) := by decide +kernel
theorem dL_areBookingsRight_217 : decode cL_areBookingsRight 217 = .ok (.iload 5, 2) := by decide +kernel
theorem dL_areBookingsRight_219 : decode cL_areBookingsRight 219 = .ok (.bipush 7, 2) := by decide +kernel
theorem dL_areBookingsRight_224 : decode cL_areBookingsRight 224 = .ok (.ifCond .ne 15, 3) := by decide +kernel
theorem dL_areBookingsRight_221 : decode cL_areBookingsRight 221 = .ok (.invokevirtual 40, 3) := by decide +kernel
theorem dL_areBookingsRight_227 : decode cL_areBookingsRight 227 = .ok (.aload_n 0, 1) := by decide +kernel
theorem dL_areBookingsRight_228 : decode cL_areBookingsRight 228 = .ok (.iload 5, 2) := by decide +kernel
theorem dL_areBookingsRight_230 : decode cL_areBookingsRight 230 = .ok (.bipush 8, 2) := by decide +kernel
theorem dL_areBookingsRight_235 : decode cL_areBookingsRight 235 = .ok (.iconst 3, 1) := by decide +kernel
theorem dL_areBookingsRight_236 : decode cL_areBookingsRight 236 = .ok (.if_icmp .le 5, 3) := by decide +kernel
theorem dL_areBookingsRight_241 : decode cL_areBookingsRight 241 = .ok (.aload_n 0, 1) := by decide +kernel
theorem dL_areBookingsRight_242 : decode cL_areBookingsRight 242 = .ok (.iload 5, 2) := by decide +kernel
theorem dL_areBookingsRight_244 : decode cL_areBookingsRight 244 = .ok (.bipush 9, 2) := by decide +kernel
theorem dL_areBookingsRight_249 : decode cL_areBookingsRight 249 = .ok (.iconst 0, 1) := by decide +kernel
theorem dL_areBookingsRight_250 : decode cL_areBookingsRight 250 = .ok (.iload_n 1, 1) := by decide +kernel
theorem dL_areBookingsRight_251 : decode cL_areBookingsRight 251 = .ok (.iload 8, 2) := by decide +kernel
theorem dL_areBookingsRight_253 : decode cL_areBookingsRight 253 = .ok (.invokestatic 77, 3) := by decide +kernel
theorem dL_areBookingsRight_256 : decode cL_areBookingsRight 256 = .ok (.iload 7, 2) := by decide +kernel
theorem dL_areBookingsRight_258 : decode cL_areBookingsRight 258 = .ok (.isub, 1) := by decide +kernel
theorem dL_areBookingsRight_259 : decode cL_areBookingsRight 259 = .ok (.iconst 1, 1) := by decide +kernel
theorem dL_areBookingsRight_260 : decode cL_areBookingsRight 260 = .ok (.iadd, 1) := by decide +kernel
theorem dL_areBookingsRight_261 : decode cL_areBookingsRight 261 = .ok (.invokestatic 61, 3) := by decide +kernel
theorem dL_areBookingsRight_264 : decode cL_areBookingsRight 264 = .ok (.if_icmp .gt 27, 3) := by decide +kernel
theorem dL_areBookingsRight_291 : decode cL_areBookingsRight 291 = .ok (.iconst 0, 1) := by decide +kernel
theorem dL_areBookingsRight_292 : decode cL_areBookingsRight 292 = .ok (.ireturn, 1) := by decide +kernel
theorem dL_areBookingsRight_267 : decode cL_areBookingsRight 267 = .ok (.aload_n 0, 1) := by decide +kernel
theorem dL_areBookingsRight_268 : decode cL_areBookingsRight 268 = .ok (.iload 5, 2) := by decide +kernel
theorem dL_areBookingsRight_273 : decode cL_areBookingsRight 273 = .ok (.iconst 0, 1) := by decide +kernel
theorem dL_areBookingsRight_274 : decode cL_areBookingsRight 274 = .ok (.iload 8, 2) := by decide +kernel
theorem dL_areBookingsRight_276 : decode cL_areBookingsRight 276 = .ok (.iload_n 1, 1) := by decide +kernel
theorem dL_areBookingsRight_277 : decode cL_areBookingsRight 277 = .ok (.iload 7, 2) := by decide +kernel
theorem dL_areBookingsRight_279 : decode cL_areBookingsRight 279 = .ok (.invokestatic 61, 3) := by decide +kernel
theorem dL_areBookingsRight_282 : decode cL_areBookingsRight 282 = .ok (.isub, 1) := by decide +kernel
theorem dL_areBookingsRight_283 : decode cL_areBookingsRight 283 = .ok (.iconst 1, 1) := by decide +kernel
theorem dL_areBookingsRight_284 : decode cL_areBookingsRight 284 = .ok (.iadd, 1) := by decide +kernel
theorem dL_areBookingsRight_285 : decode cL_areBookingsRight 285 = .ok (.invokestatic 61, 3) := by decide +kernel
theorem dL_areBookingsRight_288 : decode cL_areBookingsRight 288 = .ok (.if_icmp .le 5, 3) := by decide +kernel
theorem dL_areBookingsRight_293 : decode cL_areBookingsRight 293 = .ok (.aload_n 0, 1) := by decide +kernel
theorem dL_areBookingsRight_294 : decode cL_areBookingsRight 294 = .ok (.iload 5, 2) := by decide +kernel
theorem dL_areBookingsRight_299 : decode cL_areBookingsRight 299 = .ok (.istore 10, 2) := by decide +kernel
theorem dL_areBookingsRight_301 : decode cL_areBookingsRight 301 = .ok (.iload 10, 2) := by decide +kernel
theorem dL_areBookingsRight_303 : decode cL_areBookingsRight 303 = .ok (.ifCond .lt 56, 3) := by decide +kernel
theorem dL_areBookingsRight_306 : decode cL_areBookingsRight 306 = .ok (.iload 10, 2) := by decide +kernel
theorem dL_areBookingsRight_308 : decode cL_areBookingsRight 308 = .ok (.aload_n 0, 1) := by decide +kernel
theorem dL_areBookingsRight_309 : decode cL_areBookingsRight 309 = .ok (.iload 5, 2) := by decide +kernel
theorem dL_areBookingsRight_311 : decode cL_areBookingsRight 311 = .ok (.iconst 0, 1) := by decide +kernel
theorem dL_areBookingsRight_315 : decode cL_areBookingsRight 315 = .ok (.if_icmp .eq 42, 3) := by decide +kernel
theorem dL_areBookingsRight_357 : decode cL_areBookingsRight 357 = .ok (.iconst 0, 1) := by decide +kernel
theorem dL_areBookingsRight_358 : decode cL_areBookingsRight 358 = .ok (.ireturn, 1) := by decide +kernel
theorem dL_areBookingsRight_318 : decode cL_areBookingsRight 318 = .ok (.aload_n 0, 1) := by decide +kernel
theorem dL_areBookingsRight_319 : decode cL_areBookingsRight 319 = .ok (.iload 10, 2) := by decide +kernel
theorem dL_areBookingsRight_321 : decode cL_areBookingsRight 321 = .ok (.iconst 0, 1) := by decide +kernel
theorem dL_areBookingsRight_325 : decode cL_areBookingsRight 325 = .ok (.aload_n 0, 1) := by decide +kernel
theorem dL_areBookingsRight_326 : decode cL_areBookingsRight 326 = .ok (.aload_n 0, 1) := by decide +kernel
theorem dL_areBookingsRight_327 : decode cL_areBookingsRight 327 = .ok (.iload 5, 2) := by decide +kernel
theorem dL_areBookingsRight_329 : decode cL_areBookingsRight 329 = .ok (.iconst 0, 1) := by decide +kernel
theorem dL_areBookingsRight_333 : decode cL_areBookingsRight 333 = .ok (.iconst 0, 1) := by decide +kernel
theorem dL_areBookingsRight_337 : decode cL_areBookingsRight 337 = .ok (.if_icmp .ne 20, 3) := by decide +kernel
theorem dL_areBookingsRight_340 : decode cL_areBookingsRight 340 = .ok (.aload_n 0, 1) := by decide +kernel
theorem dL_areBookingsRight_341 : decode cL_areBookingsRight 341 = .ok (.iload 10, 2) := by decide +kernel
theorem dL_areBookingsRight_343 : decode cL_areBookingsRight 343 = .ok (.aload_n 0, 1) := by decide +kernel
theorem dL_areBookingsRight_344 : decode cL_areBookingsRight 344 = .ok (.iload 5, 2) := by decide +kernel
theorem dL_areBookingsRight_346 : decode cL_areBookingsRight 346 = .ok (.iconst 1, 1) := by decide +kernel
theorem dL_areBookingsRight_350 : decode cL_areBookingsRight 350 = .ok (.iload_n 1, 1) := by decide +kernel
theorem dL_areBookingsRight_354 : decode cL_areBookingsRight 354 = .ok (.ifCond .ne 5, 3) := by decide +kernel
theorem dL_areBookingsRight_351 : decode cL_areBookingsRight 351 = .ok (.invokevirtual 70, 3) := by decide +kernel
theorem dL_areBookingsRight_347 : decode cL_areBookingsRight 347 = .ok (.invokevirtual 40, 3) := by decide +kernel
theorem dL_areBookingsRight_334 : decode cL_areBookingsRight 334 = .ok (.invokevirtual 116, 3) := by decide +kernel
theorem dL_areBookingsRight_330 : decode cL_areBookingsRight 330 = .ok (.invokevirtual 40, 3) := by decide +kernel
theorem dL_areBookingsRight_322 : decode cL_areBookingsRight 322 = .ok (.invokevirtual 116, 3) := by decide +kernel
theorem dL_areBookingsRight_312 : decode cL_areBookingsRight 312 = .ok (.invokevirtual 40, 3) := by decide +kernel
theorem dL_areBookingsRight_359 : decode cL_areBookingsRight 359 = .ok (.iinc 5 1, 3) := by decide +kernel
theorem dL_areBookingsRight_362 : decode cL_areBookingsRight 362 = .ok (.goto (-343), 3) := by decide +kernel
theorem dL_areBookingsRight_296 : decode cL_areBookingsRight 296 = .ok (.invokevirtual 91, 3) := by decide +kernel
theorem dL_areBookingsRight_270 : decode cL_areBookingsRight 270 = .ok (.invokevirtual 113, 3) := by decide +kernel
theorem dL_areBookingsRight_246 : decode cL_areBookingsRight 246 = .ok (.invokevirtual 40, 3) := by decide +kernel
theorem dL_areBookingsRight_232 : decode cL_areBookingsRight 232 = .ok (.invokevirtual 40, 3) := by decide +kernel
theorem dL_areBookingsRight_93 : decode cL_areBookingsRight 93 = .ok (.invokevirtual 40, 3) := by decide +kernel
theorem dL_areBookingsRight_82 : decode cL_areBookingsRight 82 = .ok (.invokevirtual 40, 3) := by decide +kernel
theorem dL_areBookingsRight_70 : decode cL_areBookingsRight 70 = .ok (.invokevirtual 40, 3) := by decide +kernel
theorem dL_areBookingsRight_51 : decode cL_areBookingsRight 51 = .ok (.invokevirtual 40, 3) := by decide +kernel
theorem dL_areBookingsRight_42 : decode cL_areBookingsRight 42 = .ok (.invokevirtual 40, 3) := by decide +kernel
theorem dL_areBookingsRight_33 : decode cL_areBookingsRight 33 = .ok (.invokevirtual 40, 3) := by decide +kernel
theorem dL_areBookingsRight_23 : decode cL_areBookingsRight 23 = .ok (.invokevirtual 36, 3) := by decide +kernel
theorem dL_areBookingsRight_3 : decode cL_areBookingsRight 3 = .ok (.invokevirtual 36, 3) := by decide +kernel
def v_L_areBookingsRight (a0 : Nat) (T : zT) (F : zF) (Post : Int32 → zT → zF → Prop) : Prop :=
  (T a0 = some (5, 4) ∧ (v_X4_many a0 10 T F (fun (r2 : Int32) => (∀ q3 : Nat, (∀ b, q3 ≤ b → T b = none) → (∃ I5 : Nat → Int32 → Int32 → Int32 → zF → Prop, (∃ n7 : Nat, I5 n7 0 0 0 (zm F q3 (fun _ => .int 0))) ∧ (∀ (n6 : Nat) (y8 : Int32) (y9 : Int32) (y10 : Int32) (F11 : zF), I5 n6 y8 y9 y10 F11 → (zn T q3 (100, 5) a0 = some (5, 4) ∧ (v_X4_many a0 2 (zn T q3 (100, 5)) F11 (fun (r15 : Int32) => ((r15 ≤ y10 → (∃ I16 : Nat → Int32 → Prop, (∃ n18 : Nat, I16 n18 0) ∧ (∀ (n17 : Nat) (y19 : Int32), I16 n17 y19 → ((5 ≤ y19 → (v_X4_many a0 8 (zn T q3 (100, 5)) F11 (fun (r22 : Int32) => ((¬ r22 = y8 → Post 0 (zn T q3 (100, 5)) F11) ∧ (r22 = y8 → (v_X4_many a0 9 (zn T q3 (100, 5)) F11 (fun (r23 : Int32) => ((¬ r23 = y9 → Post 0 (zn T q3 (100, 5)) F11) ∧ (r23 = y9 → Post 1 (zn T q3 (100, 5)) F11))) (fun _ => False))))) (fun _ => False))) ∧ (¬ 5 ≤ y19 → (v_X4_many a0 ((3 : Int32) + y19) (zn T q3 (100, 5)) F11 (fun (r30 : Int32) => (vp_in y19 5 ∧ ∃ x32 : Int32, F11 q3 (y19).toNatClampNeg = .int x32 ∧ ((r30 = x32 → (∃ n34 : Nat, n34 < n17 ∧ I16 n34 (y19 + 1))) ∧ (¬ r30 = x32 → Post 0 (zn T q3 (100, 5)) F11)))) (fun _ => False))))))) ∧ (¬ r15 ≤ y10 → (v_X4_ofBooking a0 y10 5 (zn T q3 (100, 5)) F11 (fun (r41 : Int32) => (v_X4_ofBooking a0 y10 3 (zn T q3 (100, 5)) F11 (fun (r42 : Int32) => (v_X4_ofBooking a0 y10 4 (zn T q3 (100, 5)) F11 (fun (r43 : Int32) => (vp_in r41 5 ∧ ∃ x45 : Int32, F11 q3 (r41).toNatClampNeg = .int x45 ∧ vp_in r41 5 ∧ (v_X4_ofBooking a0 y10 10 (zn T q3 (100, 5)) (zu F11 q3 (r41).toNatClampNeg (.int (x45 + 1))) (fun (r48 : Int32) => (v_X4_ofBooking a0 y10 7 (zn T q3 (100, 5)) (zu F11 q3 (r41).toNatClampNeg (.int (x45 + 1))) (fun (r49 : Int32) => (v_X4_ofBooking a0 y10 6 (zn T q3 (100, 5)) (zu F11 q3 (r41).toNatClampNeg (.int (x45 + 1))) (fun (r50 : Int32) => (¬ ((r43 - r42) + 1) = 0 ∧ (∃ J2705 : Prop, (J2705  → (∃ J4033 : Prop, (J4033  → (∃ J4697 : Prop, (J4697  → (∃ J5029 : Prop, (J5029  → ((r43 ≤ 99 → (∃ J5193 : Prop, (J5193  → (∃ J5269 : Prop, (J5269  → (v_X4_ofBooking a0 y10 8 (zn T q3 (100, 5)) (zu F11 q3 (r41).toNatClampNeg (.int (x45 + 1))) (fun (r5272 : Int32) => ((r5272 ≤ 3 → (v_X4_ofBooking a0 y10 9 (zn T q3 (100, 5)) (zu F11 q3 (r41).toNatClampNeg (.int (x45 + 1))) (fun (r5273 : Int32) => (((if (0 : Int32) < (((if r43 < r2 then r43 else r2) - r42) + 1) then (((if r43 < r2 then r43 else r2) - r42) + 1) else (0 : Int32)) < r5273 → Post 0 (zn T q3 (100, 5)) (zu F11 q3 (r41).toNatClampNeg (.int (x45 + 1)))) ∧ (¬ (if (0 : Int32) < (((if r43 < r2 then r43 else r2) - r42) + 1) then (((if r43 < r2 then r43 else r2) - r42) + 1) else (0 : Int32)) < r5273 → (v_X4_offIn a0 y10 (zn T q3 (100, 5)) (zu F11 q3 (r41).toNatClampNeg (.int (x45 + 1))) (fun (r5274 : Int32) => ((r5274 ≤ (if (0 : Int32) < ((r43 - (if r2 < r42 then r42 else r2)) + 1) then ((r43 - (if r2 < r42 then r42 else r2)) + 1) else (0 : Int32)) → (v_X4_swapFor a0 y10 (zn T q3 (100, 5)) (zu F11 q3 (r41).toNatClampNeg (.int (x45 + 1))) (fun (r5275 : Int32) => (∃ J5301 : Prop, (J5301  → (∃ n5304 : Nat, n5304 < n6 ∧ I5 n5304 (y8 + r48) (y9 + r49) (y10 + 1) (zu F11 q3 (r41).toNatClampNeg (.int (x45 + 1))))) ∧ ((r5275 < 0 → (J5301)) ∧ (¬ r5275 < 0 → (v_X4_ofBooking a0 y10 0 (zn T q3 (100, 5)) (zu F11 q3 (r41).toNatClampNeg (.int (x45 + 1))) (fun (r5305 : Int32) => ((r5275 = r5305 → Post 0 (zn T q3 (100, 5)) (zu F11 q3 (r41).toNatClampNeg (.int (x45 + 1)))) ∧ (¬ r5275 = r5305 → (v_X4_ofPiece a0 r5275 0 (zn T q3 (100, 5)) (zu F11 q3 (r41).toNatClampNeg (.int (x45 + 1))) (fun (r5306 : Int32) => (v_X4_ofBooking a0 y10 0 (zn T q3 (100, 5)) (zu F11 q3 (r41).toNatClampNeg (.int (x45 + 1))) (fun (r5307 : Int32) => (v_X4_ofPiece a0 r5307 0 (zn T q3 (100, 5)) (zu F11 q3 (r41).toNatClampNeg (.int (x45 + 1))) (fun (r5308 : Int32) => ((¬ r5306 = r5308 → Post 0 (zn T q3 (100, 5)) (zu F11 q3 (r41).toNatClampNeg (.int (x45 + 1)))) ∧ (r5306 = r5308 → (v_X4_ofBooking a0 y10 1 (zn T q3 (100, 5)) (zu F11 q3 (r41).toNatClampNeg (.int (x45 + 1))) (fun (r5309 : Int32) => (v_X4_isFit a0 r5275 r5309 r2 (zn T q3 (100, 5)) (zu F11 q3 (r41).toNatClampNeg (.int (x45 + 1))) (fun (r5310 : Int32) => ((¬ r5310 = 0 → (J5301)) ∧ (r5310 = 0 → Post 0 (zn T q3 (100, 5)) (zu F11 q3 (r41).toNatClampNeg (.int (x45 + 1)))))) (fun _ => False))) (fun _ => False))))) (fun _ => False))) (fun _ => False))) (fun _ => False))))) (fun _ => False)))))) (fun _ => False))) ∧ (¬ r5274 ≤ (if (0 : Int32) < ((r43 - (if r2 < r42 then r42 else r2)) + 1) then ((r43 - (if r2 < r42 then r42 else r2)) + 1) else (0 : Int32)) → Post 0 (zn T q3 (100, 5)) (zu F11 q3 (r41).toNatClampNeg (.int (x45 + 1)))))) (fun _ => False))))) (fun _ => False))) ∧ (¬ r5272 ≤ 3 → Post 0 (zn T q3 (100, 5)) (zu F11 q3 (r41).toNatClampNeg (.int (x45 + 1)))))) (fun _ => False))) ∧ ((¬ r41 = 4 → (J5269)) ∧ (r41 = 4 → (v_X4_ofBooking a0 y10 7 (zn T q3 (100, 5)) (zu F11 q3 (r41).toNatClampNeg (.int (x45 + 1))) (fun (r5341 : Int32) => ((¬ r5341 = 0 → Post 0 (zn T q3 (100, 5)) (zu F11 q3 (r41).toNatClampNeg (.int (x45 + 1)))) ∧ (r5341 = 0 → (J5269)))) (fun _ => False)))))) ∧ ((3 ≤ r41 → (J5193)) ∧ (¬ 3 ≤ r41 → (v_X4_ofBooking a0 y10 7 (zn T q3 (100, 5)) (zu F11 q3 (r41).toNatClampNeg (.int (x45 + 1))) (fun (r5345 : Int32) => (v_X4_ofBooking a0 y10 6 (zn T q3 (100, 5)) (zu F11 q3 (r41).toNatClampNeg (.int (x45 + 1))) (fun (r5346 : Int32) => (v_X4_ofBooking a0 y10 9 (zn T q3 (100, 5)) (zu F11 q3 (r41).toNatClampNeg (.int (x45 + 1))) (fun (r5347 : Int32) => ((¬ r5345 = (r5346 - ((r50 / ((r43 - r42) + 1)) * r5347)) → Post 0 (zn T q3 (100, 5)) (zu F11 q3 (r41).toNatClampNeg (.int (x45 + 1)))) ∧ (r5345 = (r5346 - ((r50 / ((r43 - r42) + 1)) * r5347)) → (J5193)))) (fun _ => False))) (fun _ => False))) (fun _ => False)))))) ∧ (¬ r43 ≤ 99 → Post 0 (zn T q3 (100, 5)) (zu F11 q3 (r41).toNatClampNeg (.int (x45 + 1)))))) ∧ ((r41 = 1 → (J5029)) ∧ (¬ r41 = 1 → (v_X4_ofBooking a0 y10 10 (zn T q3 (100, 5)) (zu F11 q3 (r41).toNatClampNeg (.int (x45 + 1))) (fun (r5357 : Int32) => ((¬ r5357 = 0 → Post 0 (zn T q3 (100, 5)) (zu F11 q3 (r41).toNatClampNeg (.int (x45 + 1)))) ∧ (r5357 = 0 → (J5029)))) (fun _ => False)))))) ∧ ((¬ r41 = 2 → (J4697)) ∧ (r41 = 2 → ((r2 ≤ r43 → Post 0 (zn T q3 (100, 5)) (zu F11 q3 (r41).toNatClampNeg (.int (x45 + 1)))) ∧ (¬ r2 ≤ r43 → (J4697))))))) ∧ ((¬ r41 = 1 → (J4033)) ∧ (r41 = 1 → ((r2 < r42 → Post 0 (zn T q3 (100, 5)) (zu F11 q3 (r41).toNatClampNeg (.int (x45 + 1)))) ∧ (¬ r2 < r42 → ((r43 < r2 → Post 0 (zn T q3 (100, 5)) (zu F11 q3 (r41).toNatClampNeg (.int (x45 + 1)))) ∧ (¬ r43 < r2 → (J4033))))))))) ∧ ((¬ r41 = 0 → (J2705)) ∧ (r41 = 0 → ((r42 ≤ r2 → Post 0 (zn T q3 (100, 5)) (zu F11 q3 (r41).toNatClampNeg (.int (x45 + 1)))) ∧ (¬ r42 ≤ r2 → (J2705)))))))) (fun _ => False))) (fun _ => False))) (fun _ => False)))) (fun _ => False))) (fun _ => False))) (fun _ => False))))) (fun _ => False))))))) (fun _ => False)))
set_option maxRecDepth 100000 in
set_option maxHeartbeats 4000000 in
theorem k_L_areBookingsRight {l : Launch} {D : va_G} {cA : Nat → ClassId} {N0 zE : Nat} {a0 : Nat} {T : zT} {F : zF} {Post : Int32 → zT → zF → Prop} (h : v_L_areBookingsRight a0 T F Post) : z_Mt l D cA N0 zE yL_areBookingsRight cL_areBookingsRight 11 (some .boolean) ({ frames := 7, cells := 1, slots := 5, locals := 155 } : Room) [.ref a0] T F (fun v T' F' => ∃ r : Int32, v = some (.int r) ∧ Post r T' F') := by
  unfold v_L_areBookingsRight at h
  refine z_bodyT (by decide) (Nat.le_of_ble_eq_true rfl) ?_
  intro p e s m args below meth c C hnm
  have C : z_C p l s m args meth c RL cL_areBookingsRight 11 (some .boolean) D cA N0 zE := C
  show z_w p l e ({ frames := 7, cells := 1, slots := 5, locals := 155 } : Room) s m args below meth c D cA N0 11 0 0 (MQ below (z_Qc D cA N0 (fun v T' F' => ∃ r : Int32, v = some (.int r) ∧ Post r T' F')) args s 1 5 (fun q => N0 ≤ q)) 0 [(0, .ref a0)] [] T F
  refine zr_aload_n C 0 dL_areBookingsRight_0 rfl rfl ?_
  refine zr_bipush C 10 dL_areBookingsRight_1 (by decide) ?_
  obtain ⟨hT1, h⟩ := h
  refine zr_callV (As := [.int 10]) (r := (RX4, TX4, 4)) C (k_X4_many0 h) ok_L_36 zq_393 zq_394 hT1 (by decide) rfl rfl ⟨by decide, (Nat.le_of_ble_eq_true rfl)⟩ ⟨(Nat.le_of_ble_eq_true rfl), (Nat.le_of_ble_eq_true rfl)⟩ (Nat.le_of_ble_eq_true rfl) dL_areBookingsRight_3 (fun v5385 U5386 G5387 hq => ?_)
  clear h
  · obtain ⟨r2, rfl, rfl, rfl, h⟩ := hq
    refine zr_istore_n C [(1, .int r2), (0, .ref a0)] dL_areBookingsRight_6 rfl (by decide) rfl ?_
    refine zr_iconst C 5 dL_areBookingsRight_7 (by decide) ?_
    refine zr_newarr (n := 5) (atype := .int) C 0 rfl zq_93 (by decide) (by decide) (Nat.le_of_ble_eq_true rfl) (Nat.le_of_ble_eq_true rfl) dL_areBookingsRight_8 (fun q3 hq4 => ?_)
    have h := h q3 hq4
    refine zr_astore_n C [(2, .ref q3), (1, .int r2), (0, .ref a0)] dL_areBookingsRight_10 rfl (by decide) rfl ?_
    refine zr_iconst C 0 dL_areBookingsRight_11 (by decide) ?_
    refine zr_istore_n C [(3, .int 0), (2, .ref q3), (1, .int r2), (0, .ref a0)] dL_areBookingsRight_12 rfl (by decide) rfl ?_
    refine zr_iconst C 0 dL_areBookingsRight_13 (by decide) ?_
    refine zr_istore C [(4, .int 0), (3, .int 0), (2, .ref q3), (1, .int r2), (0, .ref a0)] dL_areBookingsRight_14 (by decide) rfl ?_
    refine zr_iconst C 0 dL_areBookingsRight_16 (by decide) ?_
    refine zr_istore C [(5, .int 0), (4, .int 0), (3, .int 0), (2, .ref q3), (1, .int r2), (0, .ref a0)] dL_areBookingsRight_17 (by decide) rfl ?_
    obtain ⟨I5, ⟨n7, h05383⟩, hI5382⟩ := h
    have ky5384 : ∀ (n6 : Nat) (y8 : Int32) (y9 : Int32) (y10 : Int32) (F11 : zF), I5 n6 y8 y9 y10 F11 → z_w p l e ({ frames := 7, cells := 1, slots := 5, locals := 155 } : Room) s m args below meth c D cA N0 11 1 5 (MQ below (z_Qc D cA N0 (fun v T' F' => ∃ r : Int32, v = some (.int r) ∧ Post r T' F')) args s 1 5 (fun q => N0 ≤ q)) 19 [(0, .ref a0), (1, .int r2), (2, .ref q3), (3, .int y8), (4, .int y9), (5, .int y10)] [] (zn T q3 (100, 5)) F11 := by
      intro n6
      induction n6 using Nat.strongRecOn with
      | _ n6 ih12 =>
        intro y8 y9 y10 F11 hin
        have h := hI5382 n6 y8 y9 y10 F11 hin
        refine zr_iload C 5 dL_areBookingsRight_19 rfl ?_
        refine zr_aload_n C 0 dL_areBookingsRight_21 rfl rfl ?_
        refine zr_iconst C 2 dL_areBookingsRight_22 (by decide) ?_
        obtain ⟨hT14, h⟩ := h
        refine zr_callV (As := [.int 2]) (r := (RX4, TX4, 4)) C (k_X4_many0 h) ok_L_36 zq_393 zq_394 hT14 (by decide) rfl rfl ⟨by decide, (Nat.le_of_ble_eq_true rfl)⟩ ⟨(Nat.le_of_ble_eq_true rfl), (Nat.le_of_ble_eq_true rfl)⟩ (Nat.le_of_ble_eq_true rfl) dL_areBookingsRight_23 (fun v5379 U5380 G5381 hq => ?_)
        clear h
        · obtain ⟨r15, rfl, rfl, rfl, h⟩ := hq
          obtain ⟨h1, h2⟩ := h
          refine zr_icmp_ge C 365 dL_areBookingsRight_26 (by decide) (fun hc => ?_) (fun hc => ?_)
          · have h := h1 hc
            clear h1 h2
            refine zr_iconst C 0 dL_areBookingsRight_365 (by decide) ?_
            refine zr_istore C [(5, .int 0), (0, .ref a0), (1, .int r2), (2, .ref q3), (3, .int y8), (4, .int y9)] dL_areBookingsRight_366 (by decide) rfl ?_
            obtain ⟨I16, ⟨n18, h039⟩, hI38⟩ := h
            have ky40 : ∀ (n17 : Nat) (y19 : Int32), I16 n17 y19 → z_w p l e ({ frames := 7, cells := 1, slots := 5, locals := 155 } : Room) s m args below meth c D cA N0 11 1 5 (MQ below (z_Qc D cA N0 (fun v T' F' => ∃ r : Int32, v = some (.int r) ∧ Post r T' F')) args s 1 5 (fun q => N0 ≤ q)) 368 [(0, .ref a0), (1, .int r2), (2, .ref q3), (3, .int y8), (4, .int y9), (5, .int y19)] [] (zn T q3 (100, 5)) F11 := by
              intro n17
              induction n17 using Nat.strongRecOn with
              | _ n17 ih20 =>
                intro y19 hin
                have h := hI38 n17 y19 hin
                refine zr_iload C 5 dL_areBookingsRight_368 rfl ?_
                refine zr_iconst C 5 dL_areBookingsRight_370 (by decide) ?_
                obtain ⟨h1, h2⟩ := h
                refine zr_icmp_ge C 397 dL_areBookingsRight_371 (by decide) (fun hc => ?_) (fun hc => ?_)
                · have h := h1 hc
                  clear h1 h2
                  refine zr_aload_n C 0 dL_areBookingsRight_397 rfl rfl ?_
                  refine zr_bipush C 8 dL_areBookingsRight_398 (by decide) ?_
                  refine zr_callV (As := [.int 8]) (r := (RX4, TX4, 4)) C (k_X4_many0 h) ok_L_36 zq_393 zq_394 hT14 (by decide) rfl rfl ⟨by decide, (Nat.le_of_ble_eq_true rfl)⟩ ⟨(Nat.le_of_ble_eq_true rfl), (Nat.le_of_ble_eq_true rfl)⟩ (Nat.le_of_ble_eq_true rfl) dL_areBookingsRight_400 (fun v27 U28 G29 hq => ?_)
                  clear h
                  · obtain ⟨r22, rfl, rfl, rfl, h⟩ := hq
                    refine zr_iload_n C 3 dL_areBookingsRight_403 rfl rfl ?_
                    obtain ⟨h1, h2⟩ := h
                    refine zr_icmp_ne C 422 dL_areBookingsRight_404 (by decide) (fun hc => ?_) (fun hc => ?_)
                    · have h := h1 hc
                      clear h1 h2
                      refine zr_iconst C 0 dL_areBookingsRight_422 (by decide) ?_
                      exact zr_zret C rfl (Or.inl rfl) ⟨_, rfl, h⟩ (Nat.le_of_ble_eq_true rfl) (Nat.le_of_ble_eq_true rfl) dL_areBookingsRight_423
                    · have h := h2 hc
                      clear h1 h2
                      refine zr_aload_n C 0 dL_areBookingsRight_407 rfl rfl ?_
                      refine zr_bipush C 9 dL_areBookingsRight_408 (by decide) ?_
                      refine zr_callV (As := [.int 9]) (r := (RX4, TX4, 4)) C (k_X4_many0 h) ok_L_36 zq_393 zq_394 hT14 (by decide) rfl rfl ⟨by decide, (Nat.le_of_ble_eq_true rfl)⟩ ⟨(Nat.le_of_ble_eq_true rfl), (Nat.le_of_ble_eq_true rfl)⟩ (Nat.le_of_ble_eq_true rfl) dL_areBookingsRight_410 (fun v24 U25 G26 hq => ?_)
                      clear h
                      · obtain ⟨r23, rfl, rfl, rfl, h⟩ := hq
                        refine zr_iload C 4 dL_areBookingsRight_413 rfl ?_
                        obtain ⟨h1, h2⟩ := h
                        refine zr_icmp_ne C 422 dL_areBookingsRight_415 (by decide) (fun hc => ?_) (fun hc => ?_)
                        · have h := h1 hc
                          clear h1 h2
                          refine zr_iconst C 0 dL_areBookingsRight_422 (by decide) ?_
                          exact zr_zret C rfl (Or.inl rfl) ⟨_, rfl, h⟩ (Nat.le_of_ble_eq_true rfl) (Nat.le_of_ble_eq_true rfl) dL_areBookingsRight_423
                        · have h := h2 hc
                          clear h1 h2
                          refine zr_iconst C 1 dL_areBookingsRight_418 (by decide) ?_
                          refine zr_goto C 423 dL_areBookingsRight_419 (by decide) ?_
                          exact zr_zret C rfl (Or.inr rfl) ⟨_, rfl, h⟩ (Nat.le_of_ble_eq_true rfl) (Nat.le_of_ble_eq_true rfl) dL_areBookingsRight_423
                · have h := h2 hc
                  clear h1 h2
                  refine zr_aload_n C 0 dL_areBookingsRight_374 rfl rfl ?_
                  refine zr_iconst C 3 dL_areBookingsRight_375 (by decide) ?_
                  refine zr_iload C 5 dL_areBookingsRight_376 rfl ?_
                  refine zr_iadd C dL_areBookingsRight_378 ?_
                  refine zr_callV (As := [.int ((3 : Int32) + y19)]) (r := (RX4, TX4, 4)) C (k_X4_many0 h) ok_L_36 zq_393 zq_394 hT14 (by decide) rfl rfl ⟨by decide, (Nat.le_of_ble_eq_true rfl)⟩ ⟨(Nat.le_of_ble_eq_true rfl), (Nat.le_of_ble_eq_true rfl)⟩ (Nat.le_of_ble_eq_true rfl) dL_areBookingsRight_379 (fun v35 U36 G37 hq => ?_)
                  clear h
                  · obtain ⟨r30, rfl, rfl, rfl, h⟩ := hq
                    refine zr_aload_n C 2 dL_areBookingsRight_382 rfl rfl ?_
                    refine zr_iload C 5 dL_areBookingsRight_383 rfl ?_
                    obtain ⟨hi31, x32, hv33, h⟩ := h
                    refine zr_iald C rfl z_nq hi31 hv33 dL_areBookingsRight_385 ?_
                    obtain ⟨h1, h2⟩ := h
                    refine zr_icmp_eq C 391 dL_areBookingsRight_386 (by decide) (fun hc => ?_) (fun hc => ?_)
                    · have h := h1 hc
                      clear h1 h2
                      refine zr_iinc C [(5, .int (y19 + 1)), (0, .ref a0), (1, .int r2), (2, .ref q3), (3, .int y8), (4, .int y9)] 5 dL_areBookingsRight_391 rfl rfl (by decide) rfl ?_
                      refine zr_goto C 368 dL_areBookingsRight_394 (by decide) ?_
                      obtain ⟨n34, hlt, h⟩ := h
                      exact zr_sub [1, 2, 3, 4, 5, 0] rfl (ih20 n34 hlt (y19 + 1) h)
                    · have h := h2 hc
                      clear h1 h2
                      refine zr_iconst C 0 dL_areBookingsRight_389 (by decide) ?_
                      exact zr_zret C rfl (Or.inl rfl) ⟨_, rfl, h⟩ (Nat.le_of_ble_eq_true rfl) (Nat.le_of_ble_eq_true rfl) dL_areBookingsRight_390
            exact zr_sub [1, 2, 3, 4, 5, 0] rfl (ky40 n18 0 h039)
          · have h := h2 hc
            clear h1 h2
            refine zr_aload_n C 0 dL_areBookingsRight_29 rfl rfl ?_
            refine zr_iload C 5 dL_areBookingsRight_30 rfl ?_
            refine zr_iconst C 5 dL_areBookingsRight_32 (by decide) ?_
            refine zr_callV (As := [.int y10, .int 5]) (r := (RX4, TX4, 4)) C (k_X4_ofBooking0 h) ok_L_40 zq_378 zq_379 hT14 (by decide) rfl rfl ⟨by decide, (Nat.le_of_ble_eq_true rfl)⟩ ⟨(Nat.le_of_ble_eq_true rfl), (Nat.le_of_ble_eq_true rfl)⟩ (Nat.le_of_ble_eq_true rfl) dL_areBookingsRight_33 (fun v5376 U5377 G5378 hq => ?_)
            clear h
            · obtain ⟨r41, rfl, rfl, rfl, h⟩ := hq
              refine zr_istore C [(6, .int r41), (0, .ref a0), (1, .int r2), (2, .ref q3), (3, .int y8), (4, .int y9), (5, .int y10)] dL_areBookingsRight_36 (by decide) rfl ?_
              refine zr_aload_n C 1 dL_areBookingsRight_38 rfl rfl ?_
              refine zr_iload C 6 dL_areBookingsRight_39 rfl ?_
              refine zr_iconst C 3 dL_areBookingsRight_41 (by decide) ?_
              refine zr_callV (As := [.int y10, .int 3]) (r := (RX4, TX4, 4)) C (k_X4_ofBooking0 h) ok_L_40 zq_378 zq_379 hT14 (by decide) rfl rfl ⟨by decide, (Nat.le_of_ble_eq_true rfl)⟩ ⟨(Nat.le_of_ble_eq_true rfl), (Nat.le_of_ble_eq_true rfl)⟩ (Nat.le_of_ble_eq_true rfl) dL_areBookingsRight_42 (fun v5373 U5374 G5375 hq => ?_)
              clear h
              · obtain ⟨r42, rfl, rfl, rfl, h⟩ := hq
                refine zr_istore C [(7, .int r42), (6, .int r41), (0, .ref a0), (1, .int r2), (2, .ref q3), (3, .int y8), (4, .int y9), (5, .int y10)] dL_areBookingsRight_45 (by decide) rfl ?_
                refine zr_aload_n C 2 dL_areBookingsRight_47 rfl rfl ?_
                refine zr_iload C 7 dL_areBookingsRight_48 rfl ?_
                refine zr_iconst C 4 dL_areBookingsRight_50 (by decide) ?_
                refine zr_callV (As := [.int y10, .int 4]) (r := (RX4, TX4, 4)) C (k_X4_ofBooking0 h) ok_L_40 zq_378 zq_379 hT14 (by decide) rfl rfl ⟨by decide, (Nat.le_of_ble_eq_true rfl)⟩ ⟨(Nat.le_of_ble_eq_true rfl), (Nat.le_of_ble_eq_true rfl)⟩ (Nat.le_of_ble_eq_true rfl) dL_areBookingsRight_51 (fun v5370 U5371 G5372 hq => ?_)
                clear h
                · obtain ⟨r43, rfl, rfl, rfl, h⟩ := hq
                  refine zr_istore C [(8, .int r43), (7, .int r42), (6, .int r41), (0, .ref a0), (1, .int r2), (2, .ref q3), (3, .int y8), (4, .int y9), (5, .int y10)] dL_areBookingsRight_54 (by decide) rfl ?_
                  refine zr_aload_n C 5 dL_areBookingsRight_56 rfl rfl ?_
                  refine zr_iload C 2 dL_areBookingsRight_57 rfl ?_
                  refine zr_dup2 C dL_areBookingsRight_59 rfl rfl ?_
                  obtain ⟨hi44, x45, hv46, h⟩ := h
                  refine zr_iald C rfl z_nq hi44 hv46 dL_areBookingsRight_60 ?_
                  refine zr_iconst C 1 dL_areBookingsRight_61 (by decide) ?_
                  refine zr_iadd C dL_areBookingsRight_62 ?_
                  obtain ⟨hi47, h⟩ := h
                  refine zr_iast C rfl z_nq hi47 dL_areBookingsRight_63 ?_
                  refine zr_iload_n C 6 dL_areBookingsRight_64 rfl rfl ?_
                  refine zr_aload_n C 3 dL_areBookingsRight_65 rfl rfl ?_
                  refine zr_iload C 8 dL_areBookingsRight_66 rfl ?_
                  refine zr_bipush C 10 dL_areBookingsRight_68 (by decide) ?_
                  refine zr_callV (As := [.int y10, .int 10]) (r := (RX4, TX4, 4)) C (k_X4_ofBooking0 h) ok_L_40 zq_378 zq_379 hT14 (by decide) rfl rfl ⟨by decide, (Nat.le_of_ble_eq_true rfl)⟩ ⟨(Nat.le_of_ble_eq_true rfl), (Nat.le_of_ble_eq_true rfl)⟩ (Nat.le_of_ble_eq_true rfl) dL_areBookingsRight_70 (fun v5367 U5368 G5369 hq => ?_)
                  clear h
                  · obtain ⟨r48, rfl, rfl, rfl, h⟩ := hq
                    refine zr_iadd C dL_areBookingsRight_73 ?_
                    refine zr_istore_n C [(3, .int (y8 + r48)), (8, .int r43), (7, .int r42), (6, .int r41), (0, .ref a0), (1, .int r2), (2, .ref q3), (4, .int y9), (5, .int y10)] dL_areBookingsRight_74 rfl (by decide) rfl ?_
                    refine zr_iload C 7 dL_areBookingsRight_75 rfl ?_
                    refine zr_aload_n C 4 dL_areBookingsRight_77 rfl rfl ?_
                    refine zr_iload C 8 dL_areBookingsRight_78 rfl ?_
                    refine zr_bipush C 7 dL_areBookingsRight_80 (by decide) ?_
                    refine zr_callV (As := [.int y10, .int 7]) (r := (RX4, TX4, 4)) C (k_X4_ofBooking0 h) ok_L_40 zq_378 zq_379 hT14 (by decide) rfl rfl ⟨by decide, (Nat.le_of_ble_eq_true rfl)⟩ ⟨(Nat.le_of_ble_eq_true rfl), (Nat.le_of_ble_eq_true rfl)⟩ (Nat.le_of_ble_eq_true rfl) dL_areBookingsRight_82 (fun v5364 U5365 G5366 hq => ?_)
                    clear h
                    · obtain ⟨r49, rfl, rfl, rfl, h⟩ := hq
                      refine zr_iadd C dL_areBookingsRight_85 ?_
                      refine zr_istore C [(4, .int (y9 + r49)), (3, .int (y8 + r48)), (8, .int r43), (7, .int r42), (6, .int r41), (0, .ref a0), (1, .int r2), (2, .ref q3), (5, .int y10)] dL_areBookingsRight_86 (by decide) rfl ?_
                      refine zr_aload_n C 5 dL_areBookingsRight_88 rfl rfl ?_
                      refine zr_iload C 8 dL_areBookingsRight_89 rfl ?_
                      refine zr_bipush C 6 dL_areBookingsRight_91 (by decide) ?_
                      refine zr_callV (As := [.int y10, .int 6]) (r := (RX4, TX4, 4)) C (k_X4_ofBooking0 h) ok_L_40 zq_378 zq_379 hT14 (by decide) rfl rfl ⟨by decide, (Nat.le_of_ble_eq_true rfl)⟩ ⟨(Nat.le_of_ble_eq_true rfl), (Nat.le_of_ble_eq_true rfl)⟩ (Nat.le_of_ble_eq_true rfl) dL_areBookingsRight_93 (fun v5361 U5362 G5363 hq => ?_)
                      clear h
                      · obtain ⟨r50, rfl, rfl, rfl, h⟩ := hq
                        refine zr_iload C 2 dL_areBookingsRight_96 rfl ?_
                        refine zr_iload C 3 dL_areBookingsRight_98 rfl ?_
                        refine zr_isub C dL_areBookingsRight_100 ?_
                        refine zr_iconst C 1 dL_areBookingsRight_101 (by decide) ?_
                        refine zr_iadd C dL_areBookingsRight_102 ?_
                        obtain ⟨hz51, h⟩ := h
                        refine zr_idiv C dL_areBookingsRight_103 hz51 ?_
                        refine zr_istore C [(9, .int (r50 / ((r43 - r42) + 1))), (4, .int (y9 + r49)), (3, .int (y8 + r48)), (8, .int r43), (7, .int r42), (6, .int r41), (0, .ref a0), (1, .int r2), (2, .ref q3), (5, .int y10)] dL_areBookingsRight_104 (by decide) rfl ?_
                        refine zr_iload C 5 dL_areBookingsRight_106 rfl ?_
                        obtain ⟨J2705, hJ2706, h⟩ := h
                        have kj2707 : J2705  → z_w p l e ({ frames := 7, cells := 1, slots := 5, locals := 155 } : Room) s m args below meth c D cA N0 11 1 5 (MQ below (z_Qc D cA N0 (fun v T' F' => ∃ r : Int32, v = some (.int r) ∧ Post r T' F')) args s 1 5 (fun q => N0 ≤ q)) 117 [(0, .ref a0), (1, .int r2), (2, .ref q3), (3, .int (y8 + r48)), (4, .int (y9 + r49)), (5, .int y10), (6, .int r41), (7, .int r42), (8, .int r43), (9, .int (r50 / ((r43 - r42) + 1)))] [] (zn T q3 (100, 5)) (zu F11 q3 (r41).toNatClampNeg (.int (x45 + 1))) := by
                          clear h
                          intro  h
                          have h := hJ2706  h
                          refine zr_iload C 6 dL_areBookingsRight_117 rfl ?_
                          refine zr_iconst C 1 dL_areBookingsRight_119 (by decide) ?_
                          obtain ⟨J4033, hJ4034, h⟩ := h
                          have kj4035 : J4033  → z_w p l e ({ frames := 7, cells := 1, slots := 5, locals := 155 } : Room) s m args below meth c D cA N0 11 1 5 (MQ below (z_Qc D cA N0 (fun v T' F' => ∃ r : Int32, v = some (.int r) ∧ Post r T' F')) args s 1 5 (fun q => N0 ≤ q)) 135 [(0, .ref a0), (1, .int r2), (2, .ref q3), (3, .int (y8 + r48)), (4, .int (y9 + r49)), (5, .int y10), (6, .int r41), (7, .int r42), (8, .int r43), (9, .int (r50 / ((r43 - r42) + 1)))] [] (zn T q3 (100, 5)) (zu F11 q3 (r41).toNatClampNeg (.int (x45 + 1))) := by
                            clear h
                            intro  h
                            have h := hJ4034  h
                            refine zr_iload C 6 dL_areBookingsRight_135 rfl ?_
                            refine zr_iconst C 2 dL_areBookingsRight_137 (by decide) ?_
                            obtain ⟨J4697, hJ4698, h⟩ := h
                            have kj4699 : J4697  → z_w p l e ({ frames := 7, cells := 1, slots := 5, locals := 155 } : Room) s m args below meth c D cA N0 11 1 5 (MQ below (z_Qc D cA N0 (fun v T' F' => ∃ r : Int32, v = some (.int r) ∧ Post r T' F')) args s 1 5 (fun q => N0 ≤ q)) 147 [(0, .ref a0), (1, .int r2), (2, .ref q3), (3, .int (y8 + r48)), (4, .int (y9 + r49)), (5, .int y10), (6, .int r41), (7, .int r42), (8, .int r43), (9, .int (r50 / ((r43 - r42) + 1)))] [] (zn T q3 (100, 5)) (zu F11 q3 (r41).toNatClampNeg (.int (x45 + 1))) := by
                              clear h
                              intro  h
                              have h := hJ4698  h
                              refine zr_iload C 6 dL_areBookingsRight_147 rfl ?_
                              refine zr_iconst C 1 dL_areBookingsRight_149 (by decide) ?_
                              obtain ⟨J5029, hJ5030, h⟩ := h
                              have kj5031 : J5029  → z_w p l e ({ frames := 7, cells := 1, slots := 5, locals := 155 } : Room) s m args below meth c D cA N0 11 1 5 (MQ below (z_Qc D cA N0 (fun v T' F' => ∃ r : Int32, v = some (.int r) ∧ Post r T' F')) args s 1 5 (fun q => N0 ≤ q)) 164 [(0, .ref a0), (1, .int r2), (2, .ref q3), (3, .int (y8 + r48)), (4, .int (y9 + r49)), (5, .int y10), (6, .int r41), (7, .int r42), (8, .int r43), (9, .int (r50 / ((r43 - r42) + 1)))] [] (zn T q3 (100, 5)) (zu F11 q3 (r41).toNatClampNeg (.int (x45 + 1))) := by
                                clear h
                                intro  h
                                have h := hJ5030  h
                                refine zr_iload C 8 dL_areBookingsRight_164 rfl ?_
                                refine zr_bipush C 99 dL_areBookingsRight_166 (by decide) ?_
                                obtain ⟨h1, h2⟩ := h
                                refine zr_icmp_le C 173 dL_areBookingsRight_168 (by decide) (fun hc => ?_) (fun hc => ?_)
                                · have h := h1 hc
                                  clear h1 h2
                                  refine zr_iload C 6 dL_areBookingsRight_173 rfl ?_
                                  refine zr_iconst C 3 dL_areBookingsRight_175 (by decide) ?_
                                  obtain ⟨J5193, hJ5194, h⟩ := h
                                  have kj5195 : J5193  → z_w p l e ({ frames := 7, cells := 1, slots := 5, locals := 155 } : Room) s m args below meth c D cA N0 11 1 5 (MQ below (z_Qc D cA N0 (fun v T' F' => ∃ r : Int32, v = some (.int r) ∧ Post r T' F')) args s 1 5 (fun q => N0 ≤ q)) 210 [(0, .ref a0), (1, .int r2), (2, .ref q3), (3, .int (y8 + r48)), (4, .int (y9 + r49)), (5, .int y10), (6, .int r41), (7, .int r42), (8, .int r43), (9, .int (r50 / ((r43 - r42) + 1)))] [] (zn T q3 (100, 5)) (zu F11 q3 (r41).toNatClampNeg (.int (x45 + 1))) := by
                                    clear h
                                    intro  h
                                    have h := hJ5194  h
                                    refine zr_iload C 6 dL_areBookingsRight_210 rfl ?_
                                    refine zr_iconst C 4 dL_areBookingsRight_212 (by decide) ?_
                                    obtain ⟨J5269, hJ5270, h⟩ := h
                                    have kj5271 : J5269  → z_w p l e ({ frames := 7, cells := 1, slots := 5, locals := 155 } : Room) s m args below meth c D cA N0 11 1 5 (MQ below (z_Qc D cA N0 (fun v T' F' => ∃ r : Int32, v = some (.int r) ∧ Post r T' F')) args s 1 5 (fun q => N0 ≤ q)) 227 [(0, .ref a0), (1, .int r2), (2, .ref q3), (3, .int (y8 + r48)), (4, .int (y9 + r49)), (5, .int y10), (6, .int r41), (7, .int r42), (8, .int r43), (9, .int (r50 / ((r43 - r42) + 1)))] [] (zn T q3 (100, 5)) (zu F11 q3 (r41).toNatClampNeg (.int (x45 + 1))) := by
                                      clear h
                                      intro  h
                                      have h := hJ5270  h
                                      refine zr_aload_n C 0 dL_areBookingsRight_227 rfl rfl ?_
                                      refine zr_iload C 5 dL_areBookingsRight_228 rfl ?_
                                      refine zr_bipush C 8 dL_areBookingsRight_230 (by decide) ?_
                                      refine zr_callV (As := [.int y10, .int 8]) (r := (RX4, TX4, 4)) C (k_X4_ofBooking0 h) ok_L_40 zq_378 zq_379 hT14 (by decide) rfl rfl ⟨by decide, (Nat.le_of_ble_eq_true rfl)⟩ ⟨(Nat.le_of_ble_eq_true rfl), (Nat.le_of_ble_eq_true rfl)⟩ (Nat.le_of_ble_eq_true rfl) dL_areBookingsRight_232 (fun v5338 U5339 G5340 hq => ?_)
                                      clear h
                                      · obtain ⟨r5272, rfl, rfl, rfl, h⟩ := hq
                                        refine zr_iconst C 3 dL_areBookingsRight_235 (by decide) ?_
                                        obtain ⟨h1, h2⟩ := h
                                        refine zr_icmp_le C 241 dL_areBookingsRight_236 (by decide) (fun hc => ?_) (fun hc => ?_)
                                        · have h := h1 hc
                                          clear h1 h2
                                          refine zr_aload_n C 0 dL_areBookingsRight_241 rfl rfl ?_
                                          refine zr_iload C 5 dL_areBookingsRight_242 rfl ?_
                                          refine zr_bipush C 9 dL_areBookingsRight_244 (by decide) ?_
                                          refine zr_callV (As := [.int y10, .int 9]) (r := (RX4, TX4, 4)) C (k_X4_ofBooking0 h) ok_L_40 zq_378 zq_379 hT14 (by decide) rfl rfl ⟨by decide, (Nat.le_of_ble_eq_true rfl)⟩ ⟨(Nat.le_of_ble_eq_true rfl), (Nat.le_of_ble_eq_true rfl)⟩ (Nat.le_of_ble_eq_true rfl) dL_areBookingsRight_246 (fun v5335 U5336 G5337 hq => ?_)
                                          clear h
                                          · obtain ⟨r5273, rfl, rfl, rfl, h⟩ := hq
                                            refine zr_iconst C 0 dL_areBookingsRight_249 (by decide) ?_
                                            refine zr_iload_n C 1 dL_areBookingsRight_250 rfl rfl ?_
                                            refine zr_iload C 8 dL_areBookingsRight_251 rfl ?_
                                            refine zr_min C zq_713 zq_258 zq_29 zq_259 (by decide) (Nat.le_of_ble_eq_true rfl) (Nat.le_of_ble_eq_true rfl) (Nat.le_of_ble_eq_true rfl) dL_areBookingsRight_253 ?_
                                            refine zr_iload C 7 dL_areBookingsRight_256 rfl ?_
                                            refine zr_isub C dL_areBookingsRight_258 ?_
                                            refine zr_iconst C 1 dL_areBookingsRight_259 (by decide) ?_
                                            refine zr_iadd C dL_areBookingsRight_260 ?_
                                            refine zr_max C zq_689 zq_229 zq_29 zq_230 (by decide) (Nat.le_of_ble_eq_true rfl) (Nat.le_of_ble_eq_true rfl) (Nat.le_of_ble_eq_true rfl) dL_areBookingsRight_261 ?_
                                            obtain ⟨h1, h2⟩ := h
                                            refine zr_icmp_gt C 291 dL_areBookingsRight_264 (by decide) (fun hc => ?_) (fun hc => ?_)
                                            · have h := h1 hc
                                              clear h1 h2
                                              refine zr_iconst C 0 dL_areBookingsRight_291 (by decide) ?_
                                              exact zr_zret C rfl (Or.inl rfl) ⟨_, rfl, h⟩ (Nat.le_of_ble_eq_true rfl) (Nat.le_of_ble_eq_true rfl) dL_areBookingsRight_292
                                            · have h := h2 hc
                                              clear h1 h2
                                              refine zr_aload_n C 0 dL_areBookingsRight_267 rfl rfl ?_
                                              refine zr_iload C 5 dL_areBookingsRight_268 rfl ?_
                                              refine zr_callV (As := [.int y10]) (r := (RX4, TX4, 4)) C (k_X4_offIn0 h) ok_L_113 zq_524 zq_525 hT14 (by decide) rfl rfl ⟨by decide, (Nat.le_of_ble_eq_true rfl)⟩ ⟨(Nat.le_of_ble_eq_true rfl), (Nat.le_of_ble_eq_true rfl)⟩ (Nat.le_of_ble_eq_true rfl) dL_areBookingsRight_270 (fun v5332 U5333 G5334 hq => ?_)
                                              clear h
                                              · obtain ⟨r5274, rfl, rfl, rfl, h⟩ := hq
                                                refine zr_iconst C 0 dL_areBookingsRight_273 (by decide) ?_
                                                refine zr_iload C 8 dL_areBookingsRight_274 rfl ?_
                                                refine zr_iload_n C 1 dL_areBookingsRight_276 rfl rfl ?_
                                                refine zr_iload C 7 dL_areBookingsRight_277 rfl ?_
                                                refine zr_max C zq_689 zq_229 zq_29 zq_230 (by decide) (Nat.le_of_ble_eq_true rfl) (Nat.le_of_ble_eq_true rfl) (Nat.le_of_ble_eq_true rfl) dL_areBookingsRight_279 ?_
                                                refine zr_isub C dL_areBookingsRight_282 ?_
                                                refine zr_iconst C 1 dL_areBookingsRight_283 (by decide) ?_
                                                refine zr_iadd C dL_areBookingsRight_284 ?_
                                                refine zr_max C zq_689 zq_229 zq_29 zq_230 (by decide) (Nat.le_of_ble_eq_true rfl) (Nat.le_of_ble_eq_true rfl) (Nat.le_of_ble_eq_true rfl) dL_areBookingsRight_285 ?_
                                                obtain ⟨h1, h2⟩ := h
                                                refine zr_icmp_le C 293 dL_areBookingsRight_288 (by decide) (fun hc => ?_) (fun hc => ?_)
                                                · have h := h1 hc
                                                  clear h1 h2
                                                  refine zr_aload_n C 0 dL_areBookingsRight_293 rfl rfl ?_
                                                  refine zr_iload C 5 dL_areBookingsRight_294 rfl ?_
                                                  refine zr_callV (As := [.int y10]) (r := (RX4, TX4, 4)) C (k_X4_swapFor0 h) ok_L_91 zq_505 zq_506 hT14 (by decide) rfl rfl ⟨by decide, (Nat.le_of_ble_eq_true rfl)⟩ ⟨(Nat.le_of_ble_eq_true rfl), (Nat.le_of_ble_eq_true rfl)⟩ (Nat.le_of_ble_eq_true rfl) dL_areBookingsRight_296 (fun v5329 U5330 G5331 hq => ?_)
                                                  clear h
                                                  · obtain ⟨r5275, rfl, rfl, rfl, h⟩ := hq
                                                    refine zr_istore C [(10, .int r5275), (0, .ref a0), (1, .int r2), (2, .ref q3), (3, .int (y8 + r48)), (4, .int (y9 + r49)), (5, .int y10), (6, .int r41), (7, .int r42), (8, .int r43), (9, .int (r50 / ((r43 - r42) + 1)))] dL_areBookingsRight_299 (by decide) rfl ?_
                                                    refine zr_iload C 0 dL_areBookingsRight_301 rfl ?_
                                                    obtain ⟨J5301, hJ5302, h⟩ := h
                                                    have kj5303 : J5301  → z_w p l e ({ frames := 7, cells := 1, slots := 5, locals := 155 } : Room) s m args below meth c D cA N0 11 1 5 (MQ below (z_Qc D cA N0 (fun v T' F' => ∃ r : Int32, v = some (.int r) ∧ Post r T' F')) args s 1 5 (fun q => N0 ≤ q)) 359 [(0, .ref a0), (1, .int r2), (2, .ref q3), (3, .int (y8 + r48)), (4, .int (y9 + r49)), (5, .int y10), (6, .int r41), (7, .int r42), (8, .int r43), (9, .int (r50 / ((r43 - r42) + 1))), (10, .int r5275)] [] (zn T q3 (100, 5)) (zu F11 q3 (r41).toNatClampNeg (.int (x45 + 1))) := by
                                                      clear h
                                                      intro  h
                                                      have h := hJ5302  h
                                                      refine zr_iinc C [(5, .int (y10 + 1)), (0, .ref a0), (1, .int r2), (2, .ref q3), (3, .int (y8 + r48)), (4, .int (y9 + r49)), (6, .int r41), (7, .int r42), (8, .int r43), (9, .int (r50 / ((r43 - r42) + 1))), (10, .int r5275)] 5 dL_areBookingsRight_359 rfl rfl (by decide) rfl ?_
                                                      refine zr_goto C 19 dL_areBookingsRight_362 (by decide) ?_
                                                      obtain ⟨n5304, hlt, h⟩ := h
                                                      exact zr_sub [1, 2, 3, 4, 5, 0] rfl (ih12 n5304 hlt (y8 + r48) (y9 + r49) (y10 + 1) (zu F11 q3 (r41).toNatClampNeg (.int (x45 + 1))) h)
                                                    obtain ⟨h1, h2⟩ := h
                                                    refine zr_if_lt C 359 dL_areBookingsRight_303 (by decide) (fun hc => ?_) (fun hc => ?_)
                                                    · have h := h1 hc
                                                      clear h1 h2
                                                      exact zr_sub [1, 2, 3, 4, 5, 6, 7, 8, 9, 10, 0] rfl (kj5303  h)
                                                    · have h := h2 hc
                                                      clear h1 h2
                                                      refine zr_iload C 0 dL_areBookingsRight_306 rfl ?_
                                                      refine zr_aload_n C 1 dL_areBookingsRight_308 rfl rfl ?_
                                                      refine zr_iload C 6 dL_areBookingsRight_309 rfl ?_
                                                      refine zr_iconst C 0 dL_areBookingsRight_311 (by decide) ?_
                                                      refine zr_callV (As := [.int y10, .int 0]) (r := (RX4, TX4, 4)) C (k_X4_ofBooking0 h) ok_L_40 zq_378 zq_379 hT14 (by decide) rfl rfl ⟨by decide, (Nat.le_of_ble_eq_true rfl)⟩ ⟨(Nat.le_of_ble_eq_true rfl), (Nat.le_of_ble_eq_true rfl)⟩ (Nat.le_of_ble_eq_true rfl) dL_areBookingsRight_312 (fun v5326 U5327 G5328 hq => ?_)
                                                      clear h
                                                      · obtain ⟨r5305, rfl, rfl, rfl, h⟩ := hq
                                                        obtain ⟨h1, h2⟩ := h
                                                        refine zr_icmp_eq C 357 dL_areBookingsRight_315 (by decide) (fun hc => ?_) (fun hc => ?_)
                                                        · have h := h1 hc
                                                          clear h1 h2
                                                          refine zr_iconst C 0 dL_areBookingsRight_357 (by decide) ?_
                                                          exact zr_zret C rfl (Or.inl rfl) ⟨_, rfl, h⟩ (Nat.le_of_ble_eq_true rfl) (Nat.le_of_ble_eq_true rfl) dL_areBookingsRight_358
                                                        · have h := h2 hc
                                                          clear h1 h2
                                                          refine zr_aload_n C 1 dL_areBookingsRight_318 rfl rfl ?_
                                                          refine zr_iload C 0 dL_areBookingsRight_319 rfl ?_
                                                          refine zr_iconst C 0 dL_areBookingsRight_321 (by decide) ?_
                                                          refine zr_callV (As := [.int r5275, .int 0]) (r := (RX4, TX4, 4)) C (k_X4_ofPiece0 h) ok_L_116 zq_433 zq_434 hT14 (by decide) rfl rfl ⟨by decide, (Nat.le_of_ble_eq_true rfl)⟩ ⟨(Nat.le_of_ble_eq_true rfl), (Nat.le_of_ble_eq_true rfl)⟩ (Nat.le_of_ble_eq_true rfl) dL_areBookingsRight_322 (fun v5323 U5324 G5325 hq => ?_)
                                                          clear h
                                                          · obtain ⟨r5306, rfl, rfl, rfl, h⟩ := hq
                                                            refine zr_aload_n C 1 dL_areBookingsRight_325 rfl rfl ?_
                                                            refine zr_aload_n C 1 dL_areBookingsRight_326 rfl rfl ?_
                                                            refine zr_iload C 6 dL_areBookingsRight_327 rfl ?_
                                                            refine zr_iconst C 0 dL_areBookingsRight_329 (by decide) ?_
                                                            refine zr_callV (As := [.int y10, .int 0]) (r := (RX4, TX4, 4)) C (k_X4_ofBooking0 h) ok_L_40 zq_378 zq_379 hT14 (by decide) rfl rfl ⟨by decide, (Nat.le_of_ble_eq_true rfl)⟩ ⟨(Nat.le_of_ble_eq_true rfl), (Nat.le_of_ble_eq_true rfl)⟩ (Nat.le_of_ble_eq_true rfl) dL_areBookingsRight_330 (fun v5320 U5321 G5322 hq => ?_)
                                                            clear h
                                                            · obtain ⟨r5307, rfl, rfl, rfl, h⟩ := hq
                                                              refine zr_iconst C 0 dL_areBookingsRight_333 (by decide) ?_
                                                              refine zr_callV (As := [.int r5307, .int 0]) (r := (RX4, TX4, 4)) C (k_X4_ofPiece0 h) ok_L_116 zq_433 zq_434 hT14 (by decide) rfl rfl ⟨by decide, (Nat.le_of_ble_eq_true rfl)⟩ ⟨(Nat.le_of_ble_eq_true rfl), (Nat.le_of_ble_eq_true rfl)⟩ (Nat.le_of_ble_eq_true rfl) dL_areBookingsRight_334 (fun v5317 U5318 G5319 hq => ?_)
                                                              clear h
                                                              · obtain ⟨r5308, rfl, rfl, rfl, h⟩ := hq
                                                                obtain ⟨h1, h2⟩ := h
                                                                refine zr_icmp_ne C 357 dL_areBookingsRight_337 (by decide) (fun hc => ?_) (fun hc => ?_)
                                                                · have h := h1 hc
                                                                  clear h1 h2
                                                                  refine zr_iconst C 0 dL_areBookingsRight_357 (by decide) ?_
                                                                  exact zr_zret C rfl (Or.inl rfl) ⟨_, rfl, h⟩ (Nat.le_of_ble_eq_true rfl) (Nat.le_of_ble_eq_true rfl) dL_areBookingsRight_358
                                                                · have h := h2 hc
                                                                  clear h1 h2
                                                                  refine zr_aload_n C 1 dL_areBookingsRight_340 rfl rfl ?_
                                                                  refine zr_iload C 0 dL_areBookingsRight_341 rfl ?_
                                                                  refine zr_aload_n C 1 dL_areBookingsRight_343 rfl rfl ?_
                                                                  refine zr_iload C 6 dL_areBookingsRight_344 rfl ?_
                                                                  refine zr_iconst C 1 dL_areBookingsRight_346 (by decide) ?_
                                                                  refine zr_callV (As := [.int y10, .int 1]) (r := (RX4, TX4, 4)) C (k_X4_ofBooking0 h) ok_L_40 zq_378 zq_379 hT14 (by decide) rfl rfl ⟨by decide, (Nat.le_of_ble_eq_true rfl)⟩ ⟨(Nat.le_of_ble_eq_true rfl), (Nat.le_of_ble_eq_true rfl)⟩ (Nat.le_of_ble_eq_true rfl) dL_areBookingsRight_347 (fun v5314 U5315 G5316 hq => ?_)
                                                                  clear h
                                                                  · obtain ⟨r5309, rfl, rfl, rfl, h⟩ := hq
                                                                    refine zr_iload_n C 2 dL_areBookingsRight_350 rfl rfl ?_
                                                                    refine zr_callV (As := [.int r5275, .int r5309, .int r2]) (r := (RX4, TX4, 4)) C (k_X4_isFit0 h) ok_L_70 zq_702 zq_703 hT14 (by decide) rfl rfl ⟨by decide, (Nat.le_of_ble_eq_true rfl)⟩ ⟨(Nat.le_of_ble_eq_true rfl), (Nat.le_of_ble_eq_true rfl)⟩ (Nat.le_of_ble_eq_true rfl) dL_areBookingsRight_351 (fun v5311 U5312 G5313 hq => ?_)
                                                                    clear h
                                                                    · obtain ⟨r5310, rfl, rfl, rfl, h⟩ := hq
                                                                      obtain ⟨h1, h2⟩ := h
                                                                      refine zr_if_ne C 359 dL_areBookingsRight_354 (by decide) (fun hc => ?_) (fun hc => ?_)
                                                                      · have h := h1 hc
                                                                        clear h1 h2
                                                                        exact zr_sub [1, 2, 3, 4, 5, 6, 7, 8, 9, 10, 0] rfl (kj5303  h)
                                                                      · have h := h2 hc
                                                                        clear h1 h2
                                                                        refine zr_iconst C 0 dL_areBookingsRight_357 (by decide) ?_
                                                                        exact zr_zret C rfl (Or.inl rfl) ⟨_, rfl, h⟩ (Nat.le_of_ble_eq_true rfl) (Nat.le_of_ble_eq_true rfl) dL_areBookingsRight_358
                                                · have h := h2 hc
                                                  clear h1 h2
                                                  refine zr_iconst C 0 dL_areBookingsRight_291 (by decide) ?_
                                                  exact zr_zret C rfl (Or.inl rfl) ⟨_, rfl, h⟩ (Nat.le_of_ble_eq_true rfl) (Nat.le_of_ble_eq_true rfl) dL_areBookingsRight_292
                                        · have h := h2 hc
                                          clear h1 h2
                                          refine zr_iconst C 0 dL_areBookingsRight_239 (by decide) ?_
                                          exact zr_zret C rfl (Or.inl rfl) ⟨_, rfl, h⟩ (Nat.le_of_ble_eq_true rfl) (Nat.le_of_ble_eq_true rfl) dL_areBookingsRight_240
                                    obtain ⟨h1, h2⟩ := h
                                    refine zr_icmp_ne C 227 dL_areBookingsRight_213 (by decide) (fun hc => ?_) (fun hc => ?_)
                                    · have h := h1 hc
                                      clear h1 h2
                                      exact zr_sub [0, 1, 2, 3, 4, 5, 6, 7, 8, 9] rfl (kj5271  h)
                                    · have h := h2 hc
                                      clear h1 h2
                                      refine zr_aload_n C 0 dL_areBookingsRight_216 rfl rfl ?_
                                      refine zr_iload C 5 dL_areBookingsRight_217 rfl ?_
                                      refine zr_bipush C 7 dL_areBookingsRight_219 (by decide) ?_
                                      refine zr_callV (As := [.int y10, .int 7]) (r := (RX4, TX4, 4)) C (k_X4_ofBooking0 h) ok_L_40 zq_378 zq_379 hT14 (by decide) rfl rfl ⟨by decide, (Nat.le_of_ble_eq_true rfl)⟩ ⟨(Nat.le_of_ble_eq_true rfl), (Nat.le_of_ble_eq_true rfl)⟩ (Nat.le_of_ble_eq_true rfl) dL_areBookingsRight_221 (fun v5342 U5343 G5344 hq => ?_)
                                      clear h
                                      · obtain ⟨r5341, rfl, rfl, rfl, h⟩ := hq
                                        obtain ⟨h1, h2⟩ := h
                                        refine zr_if_ne C 239 dL_areBookingsRight_224 (by decide) (fun hc => ?_) (fun hc => ?_)
                                        · have h := h1 hc
                                          clear h1 h2
                                          refine zr_iconst C 0 dL_areBookingsRight_239 (by decide) ?_
                                          exact zr_zret C rfl (Or.inl rfl) ⟨_, rfl, h⟩ (Nat.le_of_ble_eq_true rfl) (Nat.le_of_ble_eq_true rfl) dL_areBookingsRight_240
                                        · have h := h2 hc
                                          clear h1 h2
                                          exact zr_sub [0, 1, 2, 3, 4, 5, 6, 7, 8, 9] rfl (kj5271  h)
                                  obtain ⟨h1, h2⟩ := h
                                  refine zr_icmp_ge C 210 dL_areBookingsRight_176 (by decide) (fun hc => ?_) (fun hc => ?_)
                                  · have h := h1 hc
                                    clear h1 h2
                                    exact zr_sub [0, 1, 2, 3, 4, 5, 6, 7, 8, 9] rfl (kj5195  h)
                                  · have h := h2 hc
                                    clear h1 h2
                                    refine zr_aload_n C 0 dL_areBookingsRight_179 rfl rfl ?_
                                    refine zr_iload C 5 dL_areBookingsRight_180 rfl ?_
                                    refine zr_bipush C 7 dL_areBookingsRight_182 (by decide) ?_
                                    refine zr_callV (As := [.int y10, .int 7]) (r := (RX4, TX4, 4)) C (k_X4_ofBooking0 h) ok_L_40 zq_378 zq_379 hT14 (by decide) rfl rfl ⟨by decide, (Nat.le_of_ble_eq_true rfl)⟩ ⟨(Nat.le_of_ble_eq_true rfl), (Nat.le_of_ble_eq_true rfl)⟩ (Nat.le_of_ble_eq_true rfl) dL_areBookingsRight_184 (fun v5354 U5355 G5356 hq => ?_)
                                    clear h
                                    · obtain ⟨r5345, rfl, rfl, rfl, h⟩ := hq
                                      refine zr_aload_n C 0 dL_areBookingsRight_187 rfl rfl ?_
                                      refine zr_iload C 5 dL_areBookingsRight_188 rfl ?_
                                      refine zr_bipush C 6 dL_areBookingsRight_190 (by decide) ?_
                                      refine zr_callV (As := [.int y10, .int 6]) (r := (RX4, TX4, 4)) C (k_X4_ofBooking0 h) ok_L_40 zq_378 zq_379 hT14 (by decide) rfl rfl ⟨by decide, (Nat.le_of_ble_eq_true rfl)⟩ ⟨(Nat.le_of_ble_eq_true rfl), (Nat.le_of_ble_eq_true rfl)⟩ (Nat.le_of_ble_eq_true rfl) dL_areBookingsRight_192 (fun v5351 U5352 G5353 hq => ?_)
                                      clear h
                                      · obtain ⟨r5346, rfl, rfl, rfl, h⟩ := hq
                                        refine zr_iload C 9 dL_areBookingsRight_195 rfl ?_
                                        refine zr_aload_n C 0 dL_areBookingsRight_197 rfl rfl ?_
                                        refine zr_iload C 5 dL_areBookingsRight_198 rfl ?_
                                        refine zr_bipush C 9 dL_areBookingsRight_200 (by decide) ?_
                                        refine zr_callV (As := [.int y10, .int 9]) (r := (RX4, TX4, 4)) C (k_X4_ofBooking0 h) ok_L_40 zq_378 zq_379 hT14 (by decide) rfl rfl ⟨by decide, (Nat.le_of_ble_eq_true rfl)⟩ ⟨(Nat.le_of_ble_eq_true rfl), (Nat.le_of_ble_eq_true rfl)⟩ (Nat.le_of_ble_eq_true rfl) dL_areBookingsRight_202 (fun v5348 U5349 G5350 hq => ?_)
                                        clear h
                                        · obtain ⟨r5347, rfl, rfl, rfl, h⟩ := hq
                                          refine zr_imul C dL_areBookingsRight_205 ?_
                                          refine zr_isub C dL_areBookingsRight_206 ?_
                                          obtain ⟨h1, h2⟩ := h
                                          refine zr_icmp_ne C 239 dL_areBookingsRight_207 (by decide) (fun hc => ?_) (fun hc => ?_)
                                          · have h := h1 hc
                                            clear h1 h2
                                            refine zr_iconst C 0 dL_areBookingsRight_239 (by decide) ?_
                                            exact zr_zret C rfl (Or.inl rfl) ⟨_, rfl, h⟩ (Nat.le_of_ble_eq_true rfl) (Nat.le_of_ble_eq_true rfl) dL_areBookingsRight_240
                                          · have h := h2 hc
                                            clear h1 h2
                                            exact zr_sub [0, 1, 2, 3, 4, 5, 6, 7, 8, 9] rfl (kj5195  h)
                                · have h := h2 hc
                                  clear h1 h2
                                  refine zr_iconst C 0 dL_areBookingsRight_171 (by decide) ?_
                                  exact zr_zret C rfl (Or.inl rfl) ⟨_, rfl, h⟩ (Nat.le_of_ble_eq_true rfl) (Nat.le_of_ble_eq_true rfl) dL_areBookingsRight_172
                              obtain ⟨h1, h2⟩ := h
                              refine zr_icmp_eq C 164 dL_areBookingsRight_150 (by decide) (fun hc => ?_) (fun hc => ?_)
                              · have h := h1 hc
                                clear h1 h2
                                exact zr_sub [0, 1, 2, 3, 4, 5, 6, 7, 8, 9] rfl (kj5031  h)
                              · have h := h2 hc
                                clear h1 h2
                                refine zr_aload_n C 0 dL_areBookingsRight_153 rfl rfl ?_
                                refine zr_iload C 5 dL_areBookingsRight_154 rfl ?_
                                refine zr_bipush C 10 dL_areBookingsRight_156 (by decide) ?_
                                refine zr_callV (As := [.int y10, .int 10]) (r := (RX4, TX4, 4)) C (k_X4_ofBooking0 h) ok_L_40 zq_378 zq_379 hT14 (by decide) rfl rfl ⟨by decide, (Nat.le_of_ble_eq_true rfl)⟩ ⟨(Nat.le_of_ble_eq_true rfl), (Nat.le_of_ble_eq_true rfl)⟩ (Nat.le_of_ble_eq_true rfl) dL_areBookingsRight_158 (fun v5358 U5359 G5360 hq => ?_)
                                clear h
                                · obtain ⟨r5357, rfl, rfl, rfl, h⟩ := hq
                                  obtain ⟨h1, h2⟩ := h
                                  refine zr_if_ne C 171 dL_areBookingsRight_161 (by decide) (fun hc => ?_) (fun hc => ?_)
                                  · have h := h1 hc
                                    clear h1 h2
                                    refine zr_iconst C 0 dL_areBookingsRight_171 (by decide) ?_
                                    exact zr_zret C rfl (Or.inl rfl) ⟨_, rfl, h⟩ (Nat.le_of_ble_eq_true rfl) (Nat.le_of_ble_eq_true rfl) dL_areBookingsRight_172
                                  · have h := h2 hc
                                    clear h1 h2
                                    exact zr_sub [0, 1, 2, 3, 4, 5, 6, 7, 8, 9] rfl (kj5031  h)
                            obtain ⟨h1, h2⟩ := h
                            refine zr_icmp_ne C 147 dL_areBookingsRight_138 (by decide) (fun hc => ?_) (fun hc => ?_)
                            · have h := h1 hc
                              clear h1 h2
                              exact zr_sub [0, 1, 2, 3, 4, 5, 6, 7, 8, 9] rfl (kj4699  h)
                            · have h := h2 hc
                              clear h1 h2
                              refine zr_iload C 8 dL_areBookingsRight_141 rfl ?_
                              refine zr_iload_n C 1 dL_areBookingsRight_143 rfl rfl ?_
                              obtain ⟨h1, h2⟩ := h
                              refine zr_icmp_ge C 171 dL_areBookingsRight_144 (by decide) (fun hc => ?_) (fun hc => ?_)
                              · have h := h1 hc
                                clear h1 h2
                                refine zr_iconst C 0 dL_areBookingsRight_171 (by decide) ?_
                                exact zr_zret C rfl (Or.inl rfl) ⟨_, rfl, h⟩ (Nat.le_of_ble_eq_true rfl) (Nat.le_of_ble_eq_true rfl) dL_areBookingsRight_172
                              · have h := h2 hc
                                clear h1 h2
                                exact zr_sub [0, 1, 2, 3, 4, 5, 6, 7, 8, 9] rfl (kj4699  h)
                          obtain ⟨h1, h2⟩ := h
                          refine zr_icmp_ne C 135 dL_areBookingsRight_120 (by decide) (fun hc => ?_) (fun hc => ?_)
                          · have h := h1 hc
                            clear h1 h2
                            exact zr_sub [0, 1, 2, 3, 4, 5, 6, 7, 8, 9] rfl (kj4035  h)
                          · have h := h2 hc
                            clear h1 h2
                            refine zr_iload C 7 dL_areBookingsRight_123 rfl ?_
                            refine zr_iload_n C 1 dL_areBookingsRight_125 rfl rfl ?_
                            obtain ⟨h1, h2⟩ := h
                            refine zr_icmp_gt C 171 dL_areBookingsRight_126 (by decide) (fun hc => ?_) (fun hc => ?_)
                            · have h := h1 hc
                              clear h1 h2
                              refine zr_iconst C 0 dL_areBookingsRight_171 (by decide) ?_
                              exact zr_zret C rfl (Or.inl rfl) ⟨_, rfl, h⟩ (Nat.le_of_ble_eq_true rfl) (Nat.le_of_ble_eq_true rfl) dL_areBookingsRight_172
                            · have h := h2 hc
                              clear h1 h2
                              refine zr_iload C 8 dL_areBookingsRight_129 rfl ?_
                              refine zr_iload_n C 1 dL_areBookingsRight_131 rfl rfl ?_
                              obtain ⟨h1, h2⟩ := h
                              refine zr_icmp_lt C 171 dL_areBookingsRight_132 (by decide) (fun hc => ?_) (fun hc => ?_)
                              · have h := h1 hc
                                clear h1 h2
                                refine zr_iconst C 0 dL_areBookingsRight_171 (by decide) ?_
                                exact zr_zret C rfl (Or.inl rfl) ⟨_, rfl, h⟩ (Nat.le_of_ble_eq_true rfl) (Nat.le_of_ble_eq_true rfl) dL_areBookingsRight_172
                              · have h := h2 hc
                                clear h1 h2
                                exact zr_sub [0, 1, 2, 3, 4, 5, 6, 7, 8, 9] rfl (kj4035  h)
                        obtain ⟨h1, h2⟩ := h
                        refine zr_if_ne C 117 dL_areBookingsRight_108 (by decide) (fun hc => ?_) (fun hc => ?_)
                        · have h := h1 hc
                          clear h1 h2
                          exact zr_sub [6, 7, 8, 2, 1, 9, 5, 4, 3, 0] rfl (kj2707  h)
                        · have h := h2 hc
                          clear h1 h2
                          refine zr_iload C 4 dL_areBookingsRight_111 rfl ?_
                          refine zr_iload_n C 7 dL_areBookingsRight_113 rfl rfl ?_
                          obtain ⟨h1, h2⟩ := h
                          refine zr_icmp_le C 171 dL_areBookingsRight_114 (by decide) (fun hc => ?_) (fun hc => ?_)
                          · have h := h1 hc
                            clear h1 h2
                            refine zr_iconst C 0 dL_areBookingsRight_171 (by decide) ?_
                            exact zr_zret C rfl (Or.inl rfl) ⟨_, rfl, h⟩ (Nat.le_of_ble_eq_true rfl) (Nat.le_of_ble_eq_true rfl) dL_areBookingsRight_172
                          · have h := h2 hc
                            clear h1 h2
                            exact zr_sub [6, 7, 8, 2, 1, 9, 5, 4, 3, 0] rfl (kj2707  h)
    exact zr_sub [5, 4, 3, 2, 1, 0] rfl (ky5384 n7 0 0 0 (zm F q3 (fun _ => .int 0)) h05383)
theorem dL_arePiecesRight_0 : decode cL_arePiecesRight 0 = .ok (.iconst 0, 1) := by decide +kernel
theorem dL_arePiecesRight_1 : decode cL_arePiecesRight 1 = .ok (.istore_n 2, 1) := by decide +kernel
theorem dL_arePiecesRight_2 : decode cL_arePiecesRight 2 = .ok (.iload_n 2, 1) := by decide +kernel
theorem dL_arePiecesRight_3 : decode cL_arePiecesRight 3 = .ok (.iconst 5, 1) := by decide +kernel
theorem dL_arePiecesRight_4 : decode cL_arePiecesRight 4 = .ok (.if_icmp .ge 259, 3) := by decide +kernel
theorem dL_arePiecesRight_263 : decode cL_arePiecesRight 263 = .ok (.iconst 1, 1) := by decide +kernel
theorem dL_arePiecesRight_264 : decode cL_arePiecesRight 264 = .ok (.ireturn, 1) := by decide +kernel
theorem dL_arePiecesRight_7 : decode cL_arePiecesRight 7 = .ok (.aload_n 0, 1) := by decide +kernel
theorem dL_arePiecesRight_8 : decode cL_arePiecesRight 8 = .ok (.iload_n 2, 1) := by decide +kernel
theorem dL_arePiecesRight_9 : decode cL_arePiecesRight 9 = .ok (.iconst 4, 1) := by decide +kernel
theorem dL_arePiecesRight_13 : decode cL_arePiecesRight 13 = .ok (.istore_n 3, 1) := by decide +kernel
theorem dL_arePiecesRight_14 : decode cL_arePiecesRight 14 = .ok (.iconst 0, 1) := by decide +kernel
theorem dL_arePiecesRight_15 : decode cL_arePiecesRight 15 = .ok (.istore 4, 2) := by decide +kernel
theorem dL_arePiecesRight_17 : decode cL_arePiecesRight 17 = .ok (.iconst 0, 1) := by decide +kernel
theorem dL_arePiecesRight_18 : decode cL_arePiecesRight 18 = .ok (.istore 5, 2) := by decide +kernel
theorem dL_arePiecesRight_20 : decode cL_arePiecesRight 20 = .ok (.iload 5, 2) := by decide +kernel
theorem dL_arePiecesRight_22 : decode cL_arePiecesRight 22 = .ok (.aload_n 0, 1) := by decide +kernel
theorem dL_arePiecesRight_23 : decode cL_arePiecesRight 23 = .ok (.iconst 2, 1) := by decide +kernel
theorem dL_arePiecesRight_27 : decode cL_arePiecesRight 27 = .ok (.if_icmp .ge 41, 3) := by decide +kernel
theorem dL_arePiecesRight_68 : decode cL_arePiecesRight 68 = .ok (.aload_n 0, 1) := by decide +kernel
theorem dL_arePiecesRight_69 : decode cL_arePiecesRight 69 = .ok (.iload_n 2, 1) := by decide +kernel
theorem dL_arePiecesRight_70 : decode cL_arePiecesRight 70 = .ok (.iconst 3, 1) := by decide +kernel
theorem dL_arePiecesRight_74 : decode cL_arePiecesRight 74 = .ok (.iload 4, 2) := by decide +kernel
theorem dL_arePiecesRight_76 : decode cL_arePiecesRight 76 = .ok (.if_icmp .eq 5, 3) := by decide +kernel
theorem dL_arePiecesRight_81 : decode cL_arePiecesRight 81 = .ok (.iconst 0, 1) := by decide +kernel
theorem dL_arePiecesRight_82 : decode cL_arePiecesRight 82 = .ok (.istore 5, 2) := by decide +kernel
theorem dL_arePiecesRight_84 : decode cL_arePiecesRight 84 = .ok (.iload 5, 2) := by decide +kernel
theorem dL_arePiecesRight_86 : decode cL_arePiecesRight 86 = .ok (.iconst 4, 1) := by decide +kernel
theorem dL_arePiecesRight_87 : decode cL_arePiecesRight 87 = .ok (.if_icmp .ge 170, 3) := by decide +kernel
theorem dL_arePiecesRight_257 : decode cL_arePiecesRight 257 = .ok (.iinc 2 1, 3) := by decide +kernel
theorem dL_arePiecesRight_260 : decode cL_arePiecesRight 260 = .ok (.goto (-258), 3) := by decide +kernel
theorem dL_arePiecesRight_90 : decode cL_arePiecesRight 90 = .ok (.iload_n 1, 1) := by decide +kernel
theorem dL_arePiecesRight_91 : decode cL_arePiecesRight 91 = .ok (.iload 5, 2) := by decide +kernel
theorem dL_arePiecesRight_93 : decode cL_arePiecesRight 93 = .ok (.ishr, 1) := by decide +kernel
theorem dL_arePiecesRight_94 : decode cL_arePiecesRight 94 = .ok (.bipush 100, 2) := by decide +kernel
theorem dL_arePiecesRight_99 : decode cL_arePiecesRight 99 = .ok (.istore 6, 2) := by decide +kernel
theorem dL_arePiecesRight_101 : decode cL_arePiecesRight 101 = .ok (.aload_n 0, 1) := by decide +kernel
theorem dL_arePiecesRight_102 : decode cL_arePiecesRight 102 = .ok (.iload_n 2, 1) := by decide +kernel
theorem dL_arePiecesRight_103 : decode cL_arePiecesRight 103 = .ok (.iload 5, 2) := by decide +kernel
theorem dL_arePiecesRight_105 : decode cL_arePiecesRight 105 = .ok (.iload 6, 2) := by decide +kernel
theorem dL_arePiecesRight_110 : decode cL_arePiecesRight 110 = .ok (.istore 7, 2) := by decide +kernel
theorem dL_arePiecesRight_112 : decode cL_arePiecesRight 112 = .ok (.iconst 1, 1) := by decide +kernel
theorem dL_arePiecesRight_113 : decode cL_arePiecesRight 113 = .ok (.istore 8, 2) := by decide +kernel
theorem dL_arePiecesRight_115 : decode cL_arePiecesRight 115 = .ok (.iconst 0, 1) := by decide +kernel
theorem dL_arePiecesRight_116 : decode cL_arePiecesRight 116 = .ok (.istore 9, 2) := by decide +kernel
theorem dL_arePiecesRight_118 : decode cL_arePiecesRight 118 = .ok (.iload 9, 2) := by decide +kernel
theorem dL_arePiecesRight_120 : decode cL_arePiecesRight 120 = .ok (.iconst 3, 1) := by decide +kernel
theorem dL_arePiecesRight_121 : decode cL_arePiecesRight 121 = .ok (.if_icmp .ge 46, 3) := by decide +kernel
theorem dL_arePiecesRight_167 : decode cL_arePiecesRight 167 = .ok (.aload_n 0, 1) := by decide +kernel
theorem dL_arePiecesRight_168 : decode cL_arePiecesRight 168 = .ok (.iload_n 2, 1) := by decide +kernel
theorem dL_arePiecesRight_169 : decode cL_arePiecesRight 169 = .ok (.iload 5, 2) := by decide +kernel
theorem dL_arePiecesRight_171 : decode cL_arePiecesRight 171 = .ok (.iload 6, 2) := by decide +kernel
theorem dL_arePiecesRight_176 : decode cL_arePiecesRight 176 = .ok (.istore 9, 2) := by decide +kernel
theorem dL_arePiecesRight_178 : decode cL_arePiecesRight 178 = .ok (.iload 7, 2) := by decide +kernel
theorem dL_arePiecesRight_180 : decode cL_arePiecesRight 180 = .ok (.iconst 1, 1) := by decide +kernel
theorem dL_arePiecesRight_181 : decode cL_arePiecesRight 181 = .ok (.if_icmp .ne 7, 3) := by decide +kernel
theorem dL_arePiecesRight_188 : decode cL_arePiecesRight 188 = .ok (.iconst 0, 1) := by decide +kernel
theorem dL_arePiecesRight_184 : decode cL_arePiecesRight 184 = .ok (.iconst 1, 1) := by decide +kernel
theorem dL_arePiecesRight_185 : decode cL_arePiecesRight 185 = .ok (.goto 4, 3) := by decide +kernel
theorem dL_arePiecesRight_189 : decode cL_arePiecesRight 189 = .ok (.iload_n 3, 1) := by decide +kernel
theorem dL_arePiecesRight_190 : decode cL_arePiecesRight 190 = .ok (.ifCond .lt 9, 3) := by decide +kernel
theorem dL_arePiecesRight_193 : decode cL_arePiecesRight 193 = .ok (.iload 6, 2) := by decide +kernel
theorem dL_arePiecesRight_195 : decode cL_arePiecesRight 195 = .ok (.iload_n 3, 1) := by decide +kernel
theorem dL_arePiecesRight_196 : decode cL_arePiecesRight 196 = .ok (.if_icmp .ge 7, 3) := by decide +kernel
theorem dL_arePiecesRight_203 : decode cL_arePiecesRight 203 = .ok (.iconst 0, 1) := by decide +kernel
theorem dL_arePiecesRight_199 : decode cL_arePiecesRight 199 = .ok (.iconst 1, 1) := by decide +kernel
theorem dL_arePiecesRight_200 : decode cL_arePiecesRight 200 = .ok (.goto 4, 3) := by decide +kernel
theorem dL_arePiecesRight_204 : decode cL_arePiecesRight 204 = .ok (.if_icmp .ne 45, 3) := by decide +kernel
theorem dL_arePiecesRight_249 : decode cL_arePiecesRight 249 = .ok (.iconst 0, 1) := by decide +kernel
theorem dL_arePiecesRight_250 : decode cL_arePiecesRight 250 = .ok (.ireturn, 1) := by decide +kernel
theorem dL_arePiecesRight_207 : decode cL_arePiecesRight 207 = .ok (.iload 7, 2) := by decide +kernel
theorem dL_arePiecesRight_209 : decode cL_arePiecesRight 209 = .ok (.iconst 2, 1) := by decide +kernel
theorem dL_arePiecesRight_210 : decode cL_arePiecesRight 210 = .ok (.if_icmp .ne 8, 3) := by decide +kernel
theorem dL_arePiecesRight_213 : decode cL_arePiecesRight 213 = .ok (.iload 8, 2) := by decide +kernel
theorem dL_arePiecesRight_215 : decode cL_arePiecesRight 215 = .ok (.ifCond .ne 34, 3) := by decide +kernel
theorem dL_arePiecesRight_218 : decode cL_arePiecesRight 218 = .ok (.iload 7, 2) := by decide +kernel
theorem dL_arePiecesRight_220 : decode cL_arePiecesRight 220 = .ok (.iconst 3, 1) := by decide +kernel
theorem dL_arePiecesRight_221 : decode cL_arePiecesRight 221 = .ok (.if_icmp .ne 13, 3) := by decide +kernel
theorem dL_arePiecesRight_224 : decode cL_arePiecesRight 224 = .ok (.iload 8, 2) := by decide +kernel
theorem dL_arePiecesRight_226 : decode cL_arePiecesRight 226 = .ok (.ifCond .eq 23, 3) := by decide +kernel
theorem dL_arePiecesRight_229 : decode cL_arePiecesRight 229 = .ok (.iload 9, 2) := by decide +kernel
theorem dL_arePiecesRight_231 : decode cL_arePiecesRight 231 = .ok (.ifCond .ne 18, 3) := by decide +kernel
theorem dL_arePiecesRight_234 : decode cL_arePiecesRight 234 = .ok (.iload 7, 2) := by decide +kernel
theorem dL_arePiecesRight_236 : decode cL_arePiecesRight 236 = .ok (.ifCond .ne 15, 3) := by decide +kernel
theorem dL_arePiecesRight_239 : decode cL_arePiecesRight 239 = .ok (.iload 8, 2) := by decide +kernel
theorem dL_arePiecesRight_241 : decode cL_arePiecesRight 241 = .ok (.ifCond .eq 8, 3) := by decide +kernel
theorem dL_arePiecesRight_244 : decode cL_arePiecesRight 244 = .ok (.iload 9, 2) := by decide +kernel
theorem dL_arePiecesRight_246 : decode cL_arePiecesRight 246 = .ok (.ifCond .ne 5, 3) := by decide +kernel
theorem dL_arePiecesRight_251 : decode cL_arePiecesRight 251 = .ok (.iinc 5 1, 3) := by decide +kernel
theorem dL_arePiecesRight_254 : decode cL_arePiecesRight 254 = .ok (.goto (-170), 3) := by decide +kernel
theorem dL_arePiecesRight_173 : decode cL_arePiecesRight 173 = .ok (.invokevirtual 70, 3) := by decide +kernel
theorem dL_arePiecesRight_124 : decode cL_arePiecesRight 124 = .ok (.iload 8, 2) := by decide +kernel
theorem dL_arePiecesRight_126 : decode cL_arePiecesRight 126 = .ok (.aload_n 0, 1) := by decide +kernel
theorem dL_arePiecesRight_127 : decode cL_arePiecesRight 127 = .ok (.iload_n 2, 1) := by decide +kernel
theorem dL_arePiecesRight_128 : decode cL_arePiecesRight 128 = .ok (.iconst 1, 1) := by decide +kernel
theorem dL_arePiecesRight_132 : decode cL_arePiecesRight 132 = .ok (.iload 9, 2) := by decide +kernel
theorem dL_arePiecesRight_134 : decode cL_arePiecesRight 134 = .ok (.ishr, 1) := by decide +kernel
theorem dL_arePiecesRight_135 : decode cL_arePiecesRight 135 = .ok (.iconst 1, 1) := by decide +kernel
theorem dL_arePiecesRight_136 : decode cL_arePiecesRight 136 = .ok (.iand, 1) := by decide +kernel
theorem dL_arePiecesRight_137 : decode cL_arePiecesRight 137 = .ok (.ifCond .eq 16, 3) := by decide +kernel
theorem dL_arePiecesRight_140 : decode cL_arePiecesRight 140 = .ok (.aload_n 0, 1) := by decide +kernel
theorem dL_arePiecesRight_141 : decode cL_arePiecesRight 141 = .ok (.iload 9, 2) := by decide +kernel
theorem dL_arePiecesRight_143 : decode cL_arePiecesRight 143 = .ok (.iload 5, 2) := by decide +kernel
theorem dL_arePiecesRight_145 : decode cL_arePiecesRight 145 = .ok (.iload 6, 2) := by decide +kernel
theorem dL_arePiecesRight_150 : decode cL_arePiecesRight 150 = .ok (.ifCond .eq 7, 3) := by decide +kernel
theorem dL_arePiecesRight_157 : decode cL_arePiecesRight 157 = .ok (.iconst 0, 1) := by decide +kernel
theorem dL_arePiecesRight_147 : decode cL_arePiecesRight 147 = .ok (.invokevirtual 122, 3) := by decide +kernel
theorem dL_arePiecesRight_153 : decode cL_arePiecesRight 153 = .ok (.iconst 1, 1) := by decide +kernel
theorem dL_arePiecesRight_154 : decode cL_arePiecesRight 154 = .ok (.goto 4, 3) := by decide +kernel
theorem dL_arePiecesRight_158 : decode cL_arePiecesRight 158 = .ok (.iand, 1) := by decide +kernel
theorem dL_arePiecesRight_159 : decode cL_arePiecesRight 159 = .ok (.istore 8, 2) := by decide +kernel
theorem dL_arePiecesRight_161 : decode cL_arePiecesRight 161 = .ok (.iinc 9 1, 3) := by decide +kernel
theorem dL_arePiecesRight_164 : decode cL_arePiecesRight 164 = .ok (.goto (-46), 3) := by decide +kernel
theorem dL_arePiecesRight_129 : decode cL_arePiecesRight 129 = .ok (.invokevirtual 116, 3) := by decide +kernel
theorem dL_arePiecesRight_107 : decode cL_arePiecesRight 107 = .ok (.invokevirtual 119, 3) := by decide +kernel
theorem dL_arePiecesRight_96 : decode cL_arePiecesRight 96 = .ok (.invokestatic 22, 3) := by decide +kernel
theorem dL_arePiecesRight_79 : decode cL_arePiecesRight 79 = .ok (.iconst 0, 1) := by decide +kernel
theorem dL_arePiecesRight_80 : decode cL_arePiecesRight 80 = .ok (.ireturn, 1) := by decide +kernel
theorem dL_arePiecesRight_71 : decode cL_arePiecesRight 71 = .ok (.invokevirtual 116, 3) := by decide +kernel
theorem dL_arePiecesRight_30 : decode cL_arePiecesRight 30 = .ok (.iload 4, 2) := by decide +kernel
theorem dL_arePiecesRight_32 : decode cL_arePiecesRight 32 = .ok (.aload_n 0, 1) := by decide +kernel
theorem dL_arePiecesRight_33 : decode cL_arePiecesRight 33 = .ok (.iload 5, 2) := by decide +kernel
theorem dL_arePiecesRight_35 : decode cL_arePiecesRight 35 = .ok (.iconst 5, 1) := by decide +kernel
theorem dL_arePiecesRight_39 : decode cL_arePiecesRight 39 = .ok (.iconst 2, 1) := by decide +kernel
theorem dL_arePiecesRight_40 : decode cL_arePiecesRight 40 = .ok (.if_icmp .ge 18, 3) := by decide +kernel
theorem dL_arePiecesRight_43 : decode cL_arePiecesRight 43 = .ok (.aload_n 0, 1) := by decide +kernel
theorem dL_arePiecesRight_44 : decode cL_arePiecesRight 44 = .ok (.iload 5, 2) := by decide +kernel
theorem dL_arePiecesRight_46 : decode cL_arePiecesRight 46 = .ok (.iconst 0, 1) := by decide +kernel
theorem dL_arePiecesRight_50 : decode cL_arePiecesRight 50 = .ok (.iload_n 2, 1) := by decide +kernel
theorem dL_arePiecesRight_51 : decode cL_arePiecesRight 51 = .ok (.if_icmp .ne 7, 3) := by decide +kernel
theorem dL_arePiecesRight_54 : decode cL_arePiecesRight 54 = .ok (.iconst 1, 1) := by decide +kernel
theorem dL_arePiecesRight_55 : decode cL_arePiecesRight 55 = .ok (.goto 4, 3) := by decide +kernel
theorem dL_arePiecesRight_47 : decode cL_arePiecesRight 47 = .ok (.invokevirtual 40, 3) := by decide +kernel
theorem dL_arePiecesRight_58 : decode cL_arePiecesRight 58 = .ok (.iconst 0, 1) := by decide +kernel
theorem dL_arePiecesRight_59 : decode cL_arePiecesRight 59 = .ok (.iadd, 1) := by decide +kernel
theorem dL_arePiecesRight_60 : decode cL_arePiecesRight 60 = .ok (.istore 4, 2) := by decide +kernel
theorem dL_arePiecesRight_62 : decode cL_arePiecesRight 62 = .ok (.iinc 5 1, 3) := by decide +kernel
theorem dL_arePiecesRight_65 : decode cL_arePiecesRight 65 = .ok (.goto (-45), 3) := by decide +kernel
theorem dL_arePiecesRight_36 : decode cL_arePiecesRight 36 = .ok (.invokevirtual 40, 3) := by decide +kernel
theorem dL_arePiecesRight_24 : decode cL_arePiecesRight 24 = .ok (.invokevirtual 36, 3) := by decide +kernel
theorem dL_arePiecesRight_10 : decode cL_arePiecesRight 10 = .ok (.invokevirtual 116, 3) := by decide +kernel
def v_L_arePiecesRight (a0 : Nat) (p1 : Int32) (T : zT) (F : zF) (Post : Int32 → Prop) : Prop :=
  (∃ I1 : Nat → Int32 → Prop, (∃ n3 : Nat, I1 n3 0) ∧ (∀ (n2 : Nat) (y4 : Int32), I1 n2 y4 → ((5 ≤ y4 → Post 1) ∧ (¬ 5 ≤ y4 → (T a0 = some (5, 4) ∧ (v_X4_ofPiece a0 y4 4 T F (fun (r8 : Int32) => (∃ I9 : Nat → Int32 → Int32 → Prop, (∃ n11 : Nat, I9 n11 0 0) ∧ (∀ (n10 : Nat) (y12 : Int32) (y13 : Int32), I9 n10 y12 y13 → (v_X4_many a0 2 T F (fun (r16 : Int32) => ((r16 ≤ y13 → (v_X4_ofPiece a0 y4 3 T F (fun (r17 : Int32) => ((r17 = y12 → (∃ I18 : Nat → Int32 → Prop, (∃ n20 : Nat, I18 n20 0) ∧ (∀ (n19 : Nat) (y21 : Int32), I18 n19 y21 → ((4 ≤ y21 → (∃ n24 : Nat, n24 < n2 ∧ I1 n24 (y4 + 1))) ∧ (¬ 4 ≤ y21 → (v_L_below (p1 >>> (y21 &&& 31)) 100 T F (fun (r25 : Int32) => (v_X4_reason a0 y4 y21 r25 T F (fun (r26 : Int32) => (∃ I27 : Nat → Int32 → Int32 → Prop, (∃ n29 : Nat, I27 n29 1 0) ∧ (∀ (n28 : Nat) (y30 : Int32) (y31 : Int32), I27 n28 y30 y31 → ((3 ≤ y31 → (v_X4_isFit a0 y4 y21 r25 T F (fun (r34 : Int32) => (∃ J101 : Int32 → Prop, (∀ (y35 : Int32), J101 y35 → (∃ J134 : Int32 → Prop, (∀ (y104 : Int32), J134 y104 → ((¬ y35 = y104 → Post 0) ∧ (y35 = y104 → (∃ J150 : Prop, (J150  → (∃ J158 : Prop, (J158  → (∃ J162 : Prop, (J162  → (∃ n165 : Nat, n165 < n19 ∧ I18 n165 (y21 + 1))) ∧ ((¬ r26 = 0 → (J162)) ∧ (r26 = 0 → ((y30 = 0 → Post 0) ∧ (¬ y30 = 0 → ((¬ r34 = 0 → (J162)) ∧ (r34 = 0 → Post 0)))))))) ∧ ((¬ r26 = 3 → (J158)) ∧ (r26 = 3 → ((y30 = 0 → Post 0) ∧ (¬ y30 = 0 → ((¬ r34 = 0 → Post 0) ∧ (r34 = 0 → (J158))))))))) ∧ ((¬ r26 = 2 → (J150)) ∧ (r26 = 2 → ((¬ y30 = 0 → Post 0) ∧ (y30 = 0 → (J150))))))))) ∧ ∃ J166 : Prop, (J166  → (J134 1)) ∧ ((r8 < 0 → (J166)) ∧ (¬ r8 < 0 → ((r8 ≤ r25 → (J134 0)) ∧ (¬ r8 ≤ r25 → (J166))))))) ∧ ((¬ r26 = 1 → (J101 0)) ∧ (r26 = 1 → (J101 1))))) (fun _ => False))) ∧ (¬ 3 ≤ y31 → (v_X4_ofPiece a0 y4 1 T F (fun (r172 : Int32) => (∃ J179 : Int32 → Prop, (∀ (y177 : Int32), J179 y177 → (∃ n182 : Nat, n182 < n28 ∧ I27 n182 (y30 &&& y177) (y31 + 1))) ∧ ∃ J183 : Prop, (J183  → (J179 1)) ∧ ((((r172 >>> (y31 &&& 31)) &&& 1) = 0 → (J183)) ∧ (¬ ((r172 >>> (y31 &&& 31)) &&& 1) = 0 → (v_X4_hasRights a0 y31 y21 r25 T F (fun (r186 : Int32) => ((r186 = 0 → (J179 0)) ∧ (¬ r186 = 0 → (J183)))) (fun _ => False)))))) (fun _ => False))))))) (fun _ => False))))))))) ∧ (¬ r17 = y12 → Post 0))) (fun _ => False))) ∧ (¬ r16 ≤ y13 → (v_X4_ofBooking a0 y13 5 T F (fun (r208 : Int32) => (∃ J215 : Int32 → Prop, (∀ (y213 : Int32), J215 y213 → (∃ n218 : Nat, n218 < n10 ∧ I9 n218 (y12 + y213) (y13 + 1))) ∧ ∃ J219 : Prop, (J219  → (J215 0)) ∧ ((2 ≤ r208 → (J219)) ∧ (¬ 2 ≤ r208 → (v_X4_ofBooking a0 y13 0 T F (fun (r222 : Int32) => ((¬ r222 = y4 → (J219)) ∧ (r222 = y4 → (J215 1)))) (fun _ => False)))))) (fun _ => False))))) (fun _ => False))))) (fun _ => False)))))))
set_option maxRecDepth 100000 in
set_option maxHeartbeats 4000000 in
theorem k_L_arePiecesRight {l : Launch} {D : va_G} {cA : Nat → ClassId} {N0 zE : Nat} {a0 : Nat} {p1 : Int32} {T : zT} {F : zF} {Post : Int32 → Prop} (h : v_L_arePiecesRight a0 p1 T F Post) : z_Mt l D cA N0 zE yL_arePiecesRight cL_arePiecesRight 10 (some .boolean) ({ frames := 6, cells := 0, slots := 0, locals := 135 } : Room) [.ref a0, .int p1] T F (fun v T' F' => ∃ r : Int32, v = some (.int r) ∧ T = T' ∧ F = F' ∧ Post r) := by
  unfold v_L_arePiecesRight at h
  refine z_bodyT (by decide) (Nat.le_of_ble_eq_true rfl) ?_
  intro p e s m args below meth c C hnm
  have C : z_C p l s m args meth c RL cL_arePiecesRight 10 (some .boolean) D cA N0 zE := C
  show z_w p l e ({ frames := 6, cells := 0, slots := 0, locals := 135 } : Room) s m args below meth c D cA N0 10 0 0 (MQ below (z_Qc D cA N0 (fun v T' F' => ∃ r : Int32, v = some (.int r) ∧ T = T' ∧ F = F' ∧ Post r)) args s 0 0 (fun q => N0 ≤ q)) 0 [(0, .ref a0), (1, .int p1)] [] T F
  refine zr_iconst C 0 dL_arePiecesRight_0 (by decide) ?_
  refine zr_istore_n C [(2, .int 0), (0, .ref a0), (1, .int p1)] dL_arePiecesRight_1 rfl (by decide) rfl ?_
  obtain ⟨I1, ⟨n3, h0239⟩, hI238⟩ := h
  have ky240 : ∀ (n2 : Nat) (y4 : Int32), I1 n2 y4 → z_w p l e ({ frames := 6, cells := 0, slots := 0, locals := 135 } : Room) s m args below meth c D cA N0 10 0 0 (MQ below (z_Qc D cA N0 (fun v T' F' => ∃ r : Int32, v = some (.int r) ∧ T = T' ∧ F = F' ∧ Post r)) args s 0 0 (fun q => N0 ≤ q)) 2 [(0, .ref a0), (1, .int p1), (2, .int y4)] [] T F := by
    intro n2
    induction n2 using Nat.strongRecOn with
    | _ n2 ih5 =>
      intro y4 hin
      have h := hI238 n2 y4 hin
      refine zr_iload_n C 2 dL_arePiecesRight_2 rfl rfl ?_
      refine zr_iconst C 5 dL_arePiecesRight_3 (by decide) ?_
      obtain ⟨h1, h2⟩ := h
      refine zr_icmp_ge C 263 dL_arePiecesRight_4 (by decide) (fun hc => ?_) (fun hc => ?_)
      · have h := h1 hc
        clear h1 h2
        refine zr_iconst C 1 dL_arePiecesRight_263 (by decide) ?_
        exact zr_zret C rfl (Or.inr rfl) ⟨_, rfl, rfl, rfl, h⟩ (Nat.le_of_ble_eq_true rfl) (Nat.le_of_ble_eq_true rfl) dL_arePiecesRight_264
      · have h := h2 hc
        clear h1 h2
        refine zr_aload_n C 0 dL_arePiecesRight_7 rfl rfl ?_
        refine zr_iload_n C 2 dL_arePiecesRight_8 rfl rfl ?_
        refine zr_iconst C 4 dL_arePiecesRight_9 (by decide) ?_
        obtain ⟨hT7, h⟩ := h
        refine zr_callV (As := [.int y4, .int 4]) (r := (RX4, TX4, 4)) C (k_X4_ofPiece0 h) ok_L_116 zq_433 zq_434 hT7 (by decide) rfl rfl ⟨by decide, (Nat.le_of_ble_eq_true rfl)⟩ ⟨(Nat.le_of_ble_eq_true rfl), (Nat.le_of_ble_eq_true rfl)⟩ (Nat.le_of_ble_eq_true rfl) dL_arePiecesRight_10 (fun v235 U236 G237 hq => ?_)
        clear h
        · obtain ⟨r8, rfl, rfl, rfl, h⟩ := hq
          refine zr_istore_n C [(3, .int r8), (0, .ref a0), (1, .int p1), (2, .int y4)] dL_arePiecesRight_13 rfl (by decide) rfl ?_
          refine zr_iconst C 0 dL_arePiecesRight_14 (by decide) ?_
          refine zr_istore C [(4, .int 0), (3, .int r8), (0, .ref a0), (1, .int p1), (2, .int y4)] dL_arePiecesRight_15 (by decide) rfl ?_
          refine zr_iconst C 0 dL_arePiecesRight_17 (by decide) ?_
          refine zr_istore C [(5, .int 0), (4, .int 0), (3, .int r8), (0, .ref a0), (1, .int p1), (2, .int y4)] dL_arePiecesRight_18 (by decide) rfl ?_
          obtain ⟨I9, ⟨n11, h0233⟩, hI232⟩ := h
          have ky234 : ∀ (n10 : Nat) (y12 : Int32) (y13 : Int32), I9 n10 y12 y13 → z_w p l e ({ frames := 6, cells := 0, slots := 0, locals := 135 } : Room) s m args below meth c D cA N0 10 0 0 (MQ below (z_Qc D cA N0 (fun v T' F' => ∃ r : Int32, v = some (.int r) ∧ T = T' ∧ F = F' ∧ Post r)) args s 0 0 (fun q => N0 ≤ q)) 20 [(0, .ref a0), (1, .int p1), (2, .int y4), (3, .int r8), (4, .int y12), (5, .int y13)] [] T F := by
            intro n10
            induction n10 using Nat.strongRecOn with
            | _ n10 ih14 =>
              intro y12 y13 hin
              have h := hI232 n10 y12 y13 hin
              refine zr_iload C 5 dL_arePiecesRight_20 rfl ?_
              refine zr_aload_n C 0 dL_arePiecesRight_22 rfl rfl ?_
              refine zr_iconst C 2 dL_arePiecesRight_23 (by decide) ?_
              refine zr_callV (As := [.int 2]) (r := (RX4, TX4, 4)) C (k_X4_many0 h) ok_L_36 zq_393 zq_394 hT7 (by decide) rfl rfl ⟨by decide, (Nat.le_of_ble_eq_true rfl)⟩ ⟨(Nat.le_of_ble_eq_true rfl), (Nat.le_of_ble_eq_true rfl)⟩ (Nat.le_of_ble_eq_true rfl) dL_arePiecesRight_24 (fun v229 U230 G231 hq => ?_)
              clear h
              · obtain ⟨r16, rfl, rfl, rfl, h⟩ := hq
                obtain ⟨h1, h2⟩ := h
                refine zr_icmp_ge C 68 dL_arePiecesRight_27 (by decide) (fun hc => ?_) (fun hc => ?_)
                · have h := h1 hc
                  clear h1 h2
                  refine zr_aload_n C 0 dL_arePiecesRight_68 rfl rfl ?_
                  refine zr_iload_n C 2 dL_arePiecesRight_69 rfl rfl ?_
                  refine zr_iconst C 3 dL_arePiecesRight_70 (by decide) ?_
                  refine zr_callV (As := [.int y4, .int 3]) (r := (RX4, TX4, 4)) C (k_X4_ofPiece0 h) ok_L_116 zq_433 zq_434 hT7 (by decide) rfl rfl ⟨by decide, (Nat.le_of_ble_eq_true rfl)⟩ ⟨(Nat.le_of_ble_eq_true rfl), (Nat.le_of_ble_eq_true rfl)⟩ (Nat.le_of_ble_eq_true rfl) dL_arePiecesRight_71 (fun v205 U206 G207 hq => ?_)
                  clear h
                  · obtain ⟨r17, rfl, rfl, rfl, h⟩ := hq
                    refine zr_iload C 4 dL_arePiecesRight_74 rfl ?_
                    obtain ⟨h1, h2⟩ := h
                    refine zr_icmp_eq C 81 dL_arePiecesRight_76 (by decide) (fun hc => ?_) (fun hc => ?_)
                    · have h := h1 hc
                      clear h1 h2
                      refine zr_iconst C 0 dL_arePiecesRight_81 (by decide) ?_
                      refine zr_istore C [(5, .int 0), (0, .ref a0), (1, .int p1), (2, .int y4), (3, .int r8), (4, .int y12)] dL_arePiecesRight_82 (by decide) rfl ?_
                      obtain ⟨I18, ⟨n20, h0203⟩, hI202⟩ := h
                      have ky204 : ∀ (n19 : Nat) (y21 : Int32), I18 n19 y21 → z_w p l e ({ frames := 6, cells := 0, slots := 0, locals := 135 } : Room) s m args below meth c D cA N0 10 0 0 (MQ below (z_Qc D cA N0 (fun v T' F' => ∃ r : Int32, v = some (.int r) ∧ T = T' ∧ F = F' ∧ Post r)) args s 0 0 (fun q => N0 ≤ q)) 84 [(0, .ref a0), (1, .int p1), (2, .int y4), (3, .int r8), (4, .int y12), (5, .int y21)] [] T F := by
                        intro n19
                        induction n19 using Nat.strongRecOn with
                        | _ n19 ih22 =>
                          intro y21 hin
                          have h := hI202 n19 y21 hin
                          refine zr_iload C 5 dL_arePiecesRight_84 rfl ?_
                          refine zr_iconst C 4 dL_arePiecesRight_86 (by decide) ?_
                          obtain ⟨h1, h2⟩ := h
                          refine zr_icmp_ge C 257 dL_arePiecesRight_87 (by decide) (fun hc => ?_) (fun hc => ?_)
                          · have h := h1 hc
                            clear h1 h2
                            refine zr_iinc C [(2, .int (y4 + 1)), (0, .ref a0), (1, .int p1), (3, .int r8), (4, .int y12), (5, .int y21)] 2 dL_arePiecesRight_257 rfl rfl (by decide) rfl ?_
                            refine zr_goto C 2 dL_arePiecesRight_260 (by decide) ?_
                            obtain ⟨n24, hlt, h⟩ := h
                            exact zr_sub [1, 2, 0] rfl (ih5 n24 hlt (y4 + 1) h)
                          · have h := h2 hc
                            clear h1 h2
                            refine zr_iload_n C 1 dL_arePiecesRight_90 rfl rfl ?_
                            refine zr_iload C 5 dL_arePiecesRight_91 rfl ?_
                            refine zr_ishr C dL_arePiecesRight_93 ?_
                            refine zr_bipush C 100 dL_arePiecesRight_94 (by decide) ?_
                            refine zr_callS (As := [.int (p1 >>> (y21 &&& 31)), .int 100]) C (k_L_below h) ok_L_22 zq_677 rfl ⟨by decide, (Nat.le_of_ble_eq_true rfl)⟩ ⟨(Nat.le_of_ble_eq_true rfl), (Nat.le_of_ble_eq_true rfl)⟩ (Nat.le_of_ble_eq_true rfl) dL_arePiecesRight_96 (fun v199 U200 G201 hq => ?_)
                            clear h
                            · obtain ⟨r25, rfl, rfl, rfl, h⟩ := hq
                              refine zr_istore C [(6, .int r25), (0, .ref a0), (1, .int p1), (2, .int y4), (3, .int r8), (4, .int y12), (5, .int y21)] dL_arePiecesRight_99 (by decide) rfl ?_
                              refine zr_aload_n C 1 dL_arePiecesRight_101 rfl rfl ?_
                              refine zr_iload_n C 3 dL_arePiecesRight_102 rfl rfl ?_
                              refine zr_iload C 6 dL_arePiecesRight_103 rfl ?_
                              refine zr_iload C 0 dL_arePiecesRight_105 rfl ?_
                              refine zr_callV (As := [.int y4, .int y21, .int r25]) (r := (RX4, TX4, 4)) C (k_X4_reason0 h) ok_L_119 zq_473 zq_474 hT7 (by decide) rfl rfl ⟨by decide, (Nat.le_of_ble_eq_true rfl)⟩ ⟨(Nat.le_of_ble_eq_true rfl), (Nat.le_of_ble_eq_true rfl)⟩ (Nat.le_of_ble_eq_true rfl) dL_arePiecesRight_107 (fun v196 U197 G198 hq => ?_)
                              clear h
                              · obtain ⟨r26, rfl, rfl, rfl, h⟩ := hq
                                refine zr_istore C [(7, .int r26), (6, .int r25), (0, .ref a0), (1, .int p1), (2, .int y4), (3, .int r8), (4, .int y12), (5, .int y21)] dL_arePiecesRight_110 (by decide) rfl ?_
                                refine zr_iconst C 1 dL_arePiecesRight_112 (by decide) ?_
                                refine zr_istore C [(8, .int 1), (7, .int r26), (6, .int r25), (0, .ref a0), (1, .int p1), (2, .int y4), (3, .int r8), (4, .int y12), (5, .int y21)] dL_arePiecesRight_113 (by decide) rfl ?_
                                refine zr_iconst C 0 dL_arePiecesRight_115 (by decide) ?_
                                refine zr_istore C [(9, .int 0), (8, .int 1), (7, .int r26), (6, .int r25), (0, .ref a0), (1, .int p1), (2, .int y4), (3, .int r8), (4, .int y12), (5, .int y21)] dL_arePiecesRight_116 (by decide) rfl ?_
                                obtain ⟨I27, ⟨n29, h0194⟩, hI193⟩ := h
                                have ky195 : ∀ (n28 : Nat) (y30 : Int32) (y31 : Int32), I27 n28 y30 y31 → z_w p l e ({ frames := 6, cells := 0, slots := 0, locals := 135 } : Room) s m args below meth c D cA N0 10 0 0 (MQ below (z_Qc D cA N0 (fun v T' F' => ∃ r : Int32, v = some (.int r) ∧ T = T' ∧ F = F' ∧ Post r)) args s 0 0 (fun q => N0 ≤ q)) 118 [(0, .ref a0), (1, .int p1), (2, .int y4), (3, .int r8), (4, .int y12), (5, .int y21), (6, .int r25), (7, .int r26), (8, .int y30), (9, .int y31)] [] T F := by
                                  intro n28
                                  induction n28 using Nat.strongRecOn with
                                  | _ n28 ih32 =>
                                    intro y30 y31 hin
                                    have h := hI193 n28 y30 y31 hin
                                    refine zr_iload C 9 dL_arePiecesRight_118 rfl ?_
                                    refine zr_iconst C 3 dL_arePiecesRight_120 (by decide) ?_
                                    obtain ⟨h1, h2⟩ := h
                                    refine zr_icmp_ge C 167 dL_arePiecesRight_121 (by decide) (fun hc => ?_) (fun hc => ?_)
                                    · have h := h1 hc
                                      clear h1 h2
                                      refine zr_aload_n C 0 dL_arePiecesRight_167 rfl rfl ?_
                                      refine zr_iload_n C 2 dL_arePiecesRight_168 rfl rfl ?_
                                      refine zr_iload C 5 dL_arePiecesRight_169 rfl ?_
                                      refine zr_iload C 6 dL_arePiecesRight_171 rfl ?_
                                      refine zr_callV (As := [.int y4, .int y21, .int r25]) (r := (RX4, TX4, 4)) C (k_X4_isFit0 h) ok_L_70 zq_702 zq_703 hT7 (by decide) rfl rfl ⟨by decide, (Nat.le_of_ble_eq_true rfl)⟩ ⟨(Nat.le_of_ble_eq_true rfl), (Nat.le_of_ble_eq_true rfl)⟩ (Nat.le_of_ble_eq_true rfl) dL_arePiecesRight_173 (fun v169 U170 G171 hq => ?_)
                                      clear h
                                      · obtain ⟨r34, rfl, rfl, rfl, h⟩ := hq
                                        refine zr_istore C [(9, .int r34), (0, .ref a0), (1, .int p1), (2, .int y4), (3, .int r8), (4, .int y12), (5, .int y21), (6, .int r25), (7, .int r26), (8, .int y30)] dL_arePiecesRight_176 (by decide) rfl ?_
                                        refine zr_iload C 8 dL_arePiecesRight_178 rfl ?_
                                        refine zr_iconst C 1 dL_arePiecesRight_180 (by decide) ?_
                                        obtain ⟨J101, hJ102, h⟩ := h
                                        have kj103 : ∀ (y35 : Int32), J101 y35 → z_w p l e ({ frames := 6, cells := 0, slots := 0, locals := 135 } : Room) s m args below meth c D cA N0 10 0 0 (MQ below (z_Qc D cA N0 (fun v T' F' => ∃ r : Int32, v = some (.int r) ∧ T = T' ∧ F = F' ∧ Post r)) args s 0 0 (fun q => N0 ≤ q)) 189 [(0, .ref a0), (1, .int p1), (2, .int y4), (3, .int r8), (4, .int y12), (5, .int y21), (6, .int r25), (7, .int r26), (8, .int y30), (9, .int r34)] [.int y35] T F := by
                                          clear h
                                          intro y35 h
                                          have h := hJ102 y35 h
                                          refine zr_iload_n C 3 dL_arePiecesRight_189 rfl rfl ?_
                                          obtain ⟨J134, hJ135, h⟩ := h
                                          have kj136 : ∀ (y104 : Int32), J134 y104 → z_w p l e ({ frames := 6, cells := 0, slots := 0, locals := 135 } : Room) s m args below meth c D cA N0 10 0 0 (MQ below (z_Qc D cA N0 (fun v T' F' => ∃ r : Int32, v = some (.int r) ∧ T = T' ∧ F = F' ∧ Post r)) args s 0 0 (fun q => N0 ≤ q)) 204 [(0, .ref a0), (1, .int p1), (2, .int y4), (3, .int r8), (4, .int y12), (5, .int y21), (6, .int r25), (7, .int r26), (8, .int y30), (9, .int r34)] [.int y104, .int y35] T F := by
                                            clear h
                                            intro y104 h
                                            have h := hJ135 y104 h
                                            obtain ⟨h1, h2⟩ := h
                                            refine zr_icmp_ne C 249 dL_arePiecesRight_204 (by decide) (fun hc => ?_) (fun hc => ?_)
                                            · have h := h1 hc
                                              clear h1 h2
                                              refine zr_iconst C 0 dL_arePiecesRight_249 (by decide) ?_
                                              exact zr_zret C rfl (Or.inl rfl) ⟨_, rfl, rfl, rfl, h⟩ (Nat.le_of_ble_eq_true rfl) (Nat.le_of_ble_eq_true rfl) dL_arePiecesRight_250
                                            · have h := h2 hc
                                              clear h1 h2
                                              refine zr_iload C 7 dL_arePiecesRight_207 rfl ?_
                                              refine zr_iconst C 2 dL_arePiecesRight_209 (by decide) ?_
                                              obtain ⟨J150, hJ151, h⟩ := h
                                              have kj152 : J150  → z_w p l e ({ frames := 6, cells := 0, slots := 0, locals := 135 } : Room) s m args below meth c D cA N0 10 0 0 (MQ below (z_Qc D cA N0 (fun v T' F' => ∃ r : Int32, v = some (.int r) ∧ T = T' ∧ F = F' ∧ Post r)) args s 0 0 (fun q => N0 ≤ q)) 218 [(0, .ref a0), (1, .int p1), (2, .int y4), (3, .int r8), (4, .int y12), (5, .int y21), (6, .int r25), (7, .int r26), (8, .int y30), (9, .int r34)] [] T F := by
                                                clear h
                                                intro  h
                                                have h := hJ151  h
                                                refine zr_iload C 7 dL_arePiecesRight_218 rfl ?_
                                                refine zr_iconst C 3 dL_arePiecesRight_220 (by decide) ?_
                                                obtain ⟨J158, hJ159, h⟩ := h
                                                have kj160 : J158  → z_w p l e ({ frames := 6, cells := 0, slots := 0, locals := 135 } : Room) s m args below meth c D cA N0 10 0 0 (MQ below (z_Qc D cA N0 (fun v T' F' => ∃ r : Int32, v = some (.int r) ∧ T = T' ∧ F = F' ∧ Post r)) args s 0 0 (fun q => N0 ≤ q)) 234 [(0, .ref a0), (1, .int p1), (2, .int y4), (3, .int r8), (4, .int y12), (5, .int y21), (6, .int r25), (7, .int r26), (8, .int y30), (9, .int r34)] [] T F := by
                                                  clear h
                                                  intro  h
                                                  have h := hJ159  h
                                                  refine zr_iload C 7 dL_arePiecesRight_234 rfl ?_
                                                  obtain ⟨J162, hJ163, h⟩ := h
                                                  have kj164 : J162  → z_w p l e ({ frames := 6, cells := 0, slots := 0, locals := 135 } : Room) s m args below meth c D cA N0 10 0 0 (MQ below (z_Qc D cA N0 (fun v T' F' => ∃ r : Int32, v = some (.int r) ∧ T = T' ∧ F = F' ∧ Post r)) args s 0 0 (fun q => N0 ≤ q)) 251 [(0, .ref a0), (1, .int p1), (2, .int y4), (3, .int r8), (4, .int y12), (5, .int y21), (6, .int r25), (7, .int r26), (8, .int y30), (9, .int r34)] [] T F := by
                                                    clear h
                                                    intro  h
                                                    have h := hJ163  h
                                                    refine zr_iinc C [(5, .int (y21 + 1)), (0, .ref a0), (1, .int p1), (2, .int y4), (3, .int r8), (4, .int y12), (6, .int r25), (7, .int r26), (8, .int y30), (9, .int r34)] 5 dL_arePiecesRight_251 rfl rfl (by decide) rfl ?_
                                                    refine zr_goto C 84 dL_arePiecesRight_254 (by decide) ?_
                                                    obtain ⟨n165, hlt, h⟩ := h
                                                    exact zr_sub [1, 2, 3, 4, 5, 0] rfl (ih22 n165 hlt (y21 + 1) h)
                                                  obtain ⟨h1, h2⟩ := h
                                                  refine zr_if_ne C 251 dL_arePiecesRight_236 (by decide) (fun hc => ?_) (fun hc => ?_)
                                                  · have h := h1 hc
                                                    clear h1 h2
                                                    exact zr_sub [0, 1, 2, 3, 4, 5, 6, 7, 8, 9] rfl (kj164  h)
                                                  · have h := h2 hc
                                                    clear h1 h2
                                                    refine zr_iload C 8 dL_arePiecesRight_239 rfl ?_
                                                    obtain ⟨h1, h2⟩ := h
                                                    refine zr_if_eq C 249 dL_arePiecesRight_241 (by decide) (fun hc => ?_) (fun hc => ?_)
                                                    · have h := h1 hc
                                                      clear h1 h2
                                                      refine zr_iconst C 0 dL_arePiecesRight_249 (by decide) ?_
                                                      exact zr_zret C rfl (Or.inl rfl) ⟨_, rfl, rfl, rfl, h⟩ (Nat.le_of_ble_eq_true rfl) (Nat.le_of_ble_eq_true rfl) dL_arePiecesRight_250
                                                    · have h := h2 hc
                                                      clear h1 h2
                                                      refine zr_iload C 9 dL_arePiecesRight_244 rfl ?_
                                                      obtain ⟨h1, h2⟩ := h
                                                      refine zr_if_ne C 251 dL_arePiecesRight_246 (by decide) (fun hc => ?_) (fun hc => ?_)
                                                      · have h := h1 hc
                                                        clear h1 h2
                                                        exact zr_sub [0, 1, 2, 3, 4, 5, 6, 7, 8, 9] rfl (kj164  h)
                                                      · have h := h2 hc
                                                        clear h1 h2
                                                        refine zr_iconst C 0 dL_arePiecesRight_249 (by decide) ?_
                                                        exact zr_zret C rfl (Or.inl rfl) ⟨_, rfl, rfl, rfl, h⟩ (Nat.le_of_ble_eq_true rfl) (Nat.le_of_ble_eq_true rfl) dL_arePiecesRight_250
                                                obtain ⟨h1, h2⟩ := h
                                                refine zr_icmp_ne C 234 dL_arePiecesRight_221 (by decide) (fun hc => ?_) (fun hc => ?_)
                                                · have h := h1 hc
                                                  clear h1 h2
                                                  exact zr_sub [0, 1, 2, 3, 4, 5, 6, 7, 8, 9] rfl (kj160  h)
                                                · have h := h2 hc
                                                  clear h1 h2
                                                  refine zr_iload C 8 dL_arePiecesRight_224 rfl ?_
                                                  obtain ⟨h1, h2⟩ := h
                                                  refine zr_if_eq C 249 dL_arePiecesRight_226 (by decide) (fun hc => ?_) (fun hc => ?_)
                                                  · have h := h1 hc
                                                    clear h1 h2
                                                    refine zr_iconst C 0 dL_arePiecesRight_249 (by decide) ?_
                                                    exact zr_zret C rfl (Or.inl rfl) ⟨_, rfl, rfl, rfl, h⟩ (Nat.le_of_ble_eq_true rfl) (Nat.le_of_ble_eq_true rfl) dL_arePiecesRight_250
                                                  · have h := h2 hc
                                                    clear h1 h2
                                                    refine zr_iload C 9 dL_arePiecesRight_229 rfl ?_
                                                    obtain ⟨h1, h2⟩ := h
                                                    refine zr_if_ne C 249 dL_arePiecesRight_231 (by decide) (fun hc => ?_) (fun hc => ?_)
                                                    · have h := h1 hc
                                                      clear h1 h2
                                                      refine zr_iconst C 0 dL_arePiecesRight_249 (by decide) ?_
                                                      exact zr_zret C rfl (Or.inl rfl) ⟨_, rfl, rfl, rfl, h⟩ (Nat.le_of_ble_eq_true rfl) (Nat.le_of_ble_eq_true rfl) dL_arePiecesRight_250
                                                    · have h := h2 hc
                                                      clear h1 h2
                                                      exact zr_sub [0, 1, 2, 3, 4, 5, 6, 7, 8, 9] rfl (kj160  h)
                                              obtain ⟨h1, h2⟩ := h
                                              refine zr_icmp_ne C 218 dL_arePiecesRight_210 (by decide) (fun hc => ?_) (fun hc => ?_)
                                              · have h := h1 hc
                                                clear h1 h2
                                                exact zr_sub [0, 1, 2, 3, 4, 5, 6, 7, 8, 9] rfl (kj152  h)
                                              · have h := h2 hc
                                                clear h1 h2
                                                refine zr_iload C 8 dL_arePiecesRight_213 rfl ?_
                                                obtain ⟨h1, h2⟩ := h
                                                refine zr_if_ne C 249 dL_arePiecesRight_215 (by decide) (fun hc => ?_) (fun hc => ?_)
                                                · have h := h1 hc
                                                  clear h1 h2
                                                  refine zr_iconst C 0 dL_arePiecesRight_249 (by decide) ?_
                                                  exact zr_zret C rfl (Or.inl rfl) ⟨_, rfl, rfl, rfl, h⟩ (Nat.le_of_ble_eq_true rfl) (Nat.le_of_ble_eq_true rfl) dL_arePiecesRight_250
                                                · have h := h2 hc
                                                  clear h1 h2
                                                  exact zr_sub [0, 1, 2, 3, 4, 5, 6, 7, 8, 9] rfl (kj152  h)
                                          obtain ⟨J166, hJ167, h⟩ := h
                                          have kj168 : J166  → z_w p l e ({ frames := 6, cells := 0, slots := 0, locals := 135 } : Room) s m args below meth c D cA N0 10 0 0 (MQ below (z_Qc D cA N0 (fun v T' F' => ∃ r : Int32, v = some (.int r) ∧ T = T' ∧ F = F' ∧ Post r)) args s 0 0 (fun q => N0 ≤ q)) 199 [(0, .ref a0), (1, .int p1), (2, .int y4), (3, .int r8), (4, .int y12), (5, .int y21), (6, .int r25), (7, .int r26), (8, .int y30), (9, .int r34)] [.int y35] T F := by
                                            clear h
                                            intro  h
                                            have h := hJ167  h
                                            refine zr_iconst C 1 dL_arePiecesRight_199 (by decide) ?_
                                            refine zr_goto C 204 dL_arePiecesRight_200 (by decide) ?_
                                            exact zr_sub [0, 1, 2, 3, 4, 5, 6, 7, 8, 9] rfl (kj136 1 h)
                                          obtain ⟨h1, h2⟩ := h
                                          refine zr_if_lt C 199 dL_arePiecesRight_190 (by decide) (fun hc => ?_) (fun hc => ?_)
                                          · have h := h1 hc
                                            clear h1 h2
                                            exact zr_sub [0, 1, 2, 3, 4, 5, 6, 7, 8, 9] rfl (kj168  h)
                                          · have h := h2 hc
                                            clear h1 h2
                                            refine zr_iload C 6 dL_arePiecesRight_193 rfl ?_
                                            refine zr_iload_n C 3 dL_arePiecesRight_195 rfl rfl ?_
                                            obtain ⟨h1, h2⟩ := h
                                            refine zr_icmp_ge C 203 dL_arePiecesRight_196 (by decide) (fun hc => ?_) (fun hc => ?_)
                                            · have h := h1 hc
                                              clear h1 h2
                                              refine zr_iconst C 0 dL_arePiecesRight_203 (by decide) ?_
                                              exact zr_sub [0, 1, 2, 3, 4, 5, 6, 7, 8, 9] rfl (kj136 0 h)
                                            · have h := h2 hc
                                              clear h1 h2
                                              exact zr_sub [0, 1, 2, 3, 4, 5, 6, 7, 8, 9] rfl (kj168  h)
                                        obtain ⟨h1, h2⟩ := h
                                        refine zr_icmp_ne C 188 dL_arePiecesRight_181 (by decide) (fun hc => ?_) (fun hc => ?_)
                                        · have h := h1 hc
                                          clear h1 h2
                                          refine zr_iconst C 0 dL_arePiecesRight_188 (by decide) ?_
                                          exact zr_sub [1, 2, 3, 4, 5, 6, 7, 8, 9, 0] rfl (kj103 0 h)
                                        · have h := h2 hc
                                          clear h1 h2
                                          refine zr_iconst C 1 dL_arePiecesRight_184 (by decide) ?_
                                          refine zr_goto C 189 dL_arePiecesRight_185 (by decide) ?_
                                          exact zr_sub [1, 2, 3, 4, 5, 6, 7, 8, 9, 0] rfl (kj103 1 h)
                                    · have h := h2 hc
                                      clear h1 h2
                                      refine zr_iload C 8 dL_arePiecesRight_124 rfl ?_
                                      refine zr_aload_n C 0 dL_arePiecesRight_126 rfl rfl ?_
                                      refine zr_iload_n C 2 dL_arePiecesRight_127 rfl rfl ?_
                                      refine zr_iconst C 1 dL_arePiecesRight_128 (by decide) ?_
                                      refine zr_callV (As := [.int y4, .int 1]) (r := (RX4, TX4, 4)) C (k_X4_ofPiece0 h) ok_L_116 zq_433 zq_434 hT7 (by decide) rfl rfl ⟨by decide, (Nat.le_of_ble_eq_true rfl)⟩ ⟨(Nat.le_of_ble_eq_true rfl), (Nat.le_of_ble_eq_true rfl)⟩ (Nat.le_of_ble_eq_true rfl) dL_arePiecesRight_129 (fun v190 U191 G192 hq => ?_)
                                      clear h
                                      · obtain ⟨r172, rfl, rfl, rfl, h⟩ := hq
                                        refine zr_iload C 9 dL_arePiecesRight_132 rfl ?_
                                        refine zr_ishr C dL_arePiecesRight_134 ?_
                                        refine zr_iconst C 1 dL_arePiecesRight_135 (by decide) ?_
                                        refine zr_iand C dL_arePiecesRight_136 ?_
                                        obtain ⟨J179, hJ180, h⟩ := h
                                        have kj181 : ∀ (y177 : Int32), J179 y177 → z_w p l e ({ frames := 6, cells := 0, slots := 0, locals := 135 } : Room) s m args below meth c D cA N0 10 0 0 (MQ below (z_Qc D cA N0 (fun v T' F' => ∃ r : Int32, v = some (.int r) ∧ T = T' ∧ F = F' ∧ Post r)) args s 0 0 (fun q => N0 ≤ q)) 158 [(0, .ref a0), (1, .int p1), (2, .int y4), (3, .int r8), (4, .int y12), (5, .int y21), (6, .int r25), (7, .int r26), (8, .int y30), (9, .int y31)] [.int y177, .int y30] T F := by
                                          clear h
                                          intro y177 h
                                          have h := hJ180 y177 h
                                          refine zr_iand C dL_arePiecesRight_158 ?_
                                          refine zr_istore C [(8, .int (y30 &&& y177)), (0, .ref a0), (1, .int p1), (2, .int y4), (3, .int r8), (4, .int y12), (5, .int y21), (6, .int r25), (7, .int r26), (9, .int y31)] dL_arePiecesRight_159 (by decide) rfl ?_
                                          refine zr_iinc C [(9, .int (y31 + 1)), (8, .int (y30 &&& y177)), (0, .ref a0), (1, .int p1), (2, .int y4), (3, .int r8), (4, .int y12), (5, .int y21), (6, .int r25), (7, .int r26)] 9 dL_arePiecesRight_161 rfl rfl (by decide) rfl ?_
                                          refine zr_goto C 118 dL_arePiecesRight_164 (by decide) ?_
                                          obtain ⟨n182, hlt, h⟩ := h
                                          exact zr_sub [2, 3, 4, 5, 6, 7, 8, 9, 1, 0] rfl (ih32 n182 hlt (y30 &&& y177) (y31 + 1) h)
                                        obtain ⟨J183, hJ184, h⟩ := h
                                        have kj185 : J183  → z_w p l e ({ frames := 6, cells := 0, slots := 0, locals := 135 } : Room) s m args below meth c D cA N0 10 0 0 (MQ below (z_Qc D cA N0 (fun v T' F' => ∃ r : Int32, v = some (.int r) ∧ T = T' ∧ F = F' ∧ Post r)) args s 0 0 (fun q => N0 ≤ q)) 153 [(0, .ref a0), (1, .int p1), (2, .int y4), (3, .int r8), (4, .int y12), (5, .int y21), (6, .int r25), (7, .int r26), (8, .int y30), (9, .int y31)] [.int y30] T F := by
                                          clear h
                                          intro  h
                                          have h := hJ184  h
                                          refine zr_iconst C 1 dL_arePiecesRight_153 (by decide) ?_
                                          refine zr_goto C 158 dL_arePiecesRight_154 (by decide) ?_
                                          exact zr_sub [0, 1, 2, 3, 4, 5, 6, 7, 8, 9] rfl (kj181 1 h)
                                        obtain ⟨h1, h2⟩ := h
                                        refine zr_if_eq C 153 dL_arePiecesRight_137 (by decide) (fun hc => ?_) (fun hc => ?_)
                                        · have h := h1 hc
                                          clear h1 h2
                                          exact zr_sub [0, 1, 2, 3, 4, 5, 6, 7, 8, 9] rfl (kj185  h)
                                        · have h := h2 hc
                                          clear h1 h2
                                          refine zr_aload_n C 0 dL_arePiecesRight_140 rfl rfl ?_
                                          refine zr_iload C 9 dL_arePiecesRight_141 rfl ?_
                                          refine zr_iload C 5 dL_arePiecesRight_143 rfl ?_
                                          refine zr_iload C 6 dL_arePiecesRight_145 rfl ?_
                                          refine zr_callV (As := [.int y31, .int y21, .int r25]) (r := (RX4, TX4, 4)) C (k_X4_hasRights0 h) ok_L_122 zq_801 zq_802 hT7 (by decide) rfl rfl ⟨by decide, (Nat.le_of_ble_eq_true rfl)⟩ ⟨(Nat.le_of_ble_eq_true rfl), (Nat.le_of_ble_eq_true rfl)⟩ (Nat.le_of_ble_eq_true rfl) dL_arePiecesRight_147 (fun v187 U188 G189 hq => ?_)
                                          clear h
                                          · obtain ⟨r186, rfl, rfl, rfl, h⟩ := hq
                                            obtain ⟨h1, h2⟩ := h
                                            refine zr_if_eq C 157 dL_arePiecesRight_150 (by decide) (fun hc => ?_) (fun hc => ?_)
                                            · have h := h1 hc
                                              clear h1 h2
                                              refine zr_iconst C 0 dL_arePiecesRight_157 (by decide) ?_
                                              exact zr_sub [0, 1, 2, 3, 4, 5, 6, 7, 8, 9] rfl (kj181 0 h)
                                            · have h := h2 hc
                                              clear h1 h2
                                              exact zr_sub [0, 1, 2, 3, 4, 5, 6, 7, 8, 9] rfl (kj185  h)
                                exact zr_sub [4, 5, 6, 7, 8, 9, 3, 2, 1, 0] rfl (ky195 n29 1 0 h0194)
                      exact zr_sub [1, 2, 3, 4, 5, 0] rfl (ky204 n20 0 h0203)
                    · have h := h2 hc
                      clear h1 h2
                      refine zr_iconst C 0 dL_arePiecesRight_79 (by decide) ?_
                      exact zr_zret C rfl (Or.inl rfl) ⟨_, rfl, rfl, rfl, h⟩ (Nat.le_of_ble_eq_true rfl) (Nat.le_of_ble_eq_true rfl) dL_arePiecesRight_80
                · have h := h2 hc
                  clear h1 h2
                  refine zr_iload C 4 dL_arePiecesRight_30 rfl ?_
                  refine zr_aload_n C 0 dL_arePiecesRight_32 rfl rfl ?_
                  refine zr_iload C 5 dL_arePiecesRight_33 rfl ?_
                  refine zr_iconst C 5 dL_arePiecesRight_35 (by decide) ?_
                  refine zr_callV (As := [.int y13, .int 5]) (r := (RX4, TX4, 4)) C (k_X4_ofBooking0 h) ok_L_40 zq_378 zq_379 hT7 (by decide) rfl rfl ⟨by decide, (Nat.le_of_ble_eq_true rfl)⟩ ⟨(Nat.le_of_ble_eq_true rfl), (Nat.le_of_ble_eq_true rfl)⟩ (Nat.le_of_ble_eq_true rfl) dL_arePiecesRight_36 (fun v226 U227 G228 hq => ?_)
                  clear h
                  · obtain ⟨r208, rfl, rfl, rfl, h⟩ := hq
                    refine zr_iconst C 2 dL_arePiecesRight_39 (by decide) ?_
                    obtain ⟨J215, hJ216, h⟩ := h
                    have kj217 : ∀ (y213 : Int32), J215 y213 → z_w p l e ({ frames := 6, cells := 0, slots := 0, locals := 135 } : Room) s m args below meth c D cA N0 10 0 0 (MQ below (z_Qc D cA N0 (fun v T' F' => ∃ r : Int32, v = some (.int r) ∧ T = T' ∧ F = F' ∧ Post r)) args s 0 0 (fun q => N0 ≤ q)) 59 [(0, .ref a0), (1, .int p1), (2, .int y4), (3, .int r8), (4, .int y12), (5, .int y13)] [.int y213, .int y12] T F := by
                      clear h
                      intro y213 h
                      have h := hJ216 y213 h
                      refine zr_iadd C dL_arePiecesRight_59 ?_
                      refine zr_istore C [(4, .int (y12 + y213)), (0, .ref a0), (1, .int p1), (2, .int y4), (3, .int r8), (5, .int y13)] dL_arePiecesRight_60 (by decide) rfl ?_
                      refine zr_iinc C [(5, .int (y13 + 1)), (4, .int (y12 + y213)), (0, .ref a0), (1, .int p1), (2, .int y4), (3, .int r8)] 5 dL_arePiecesRight_62 rfl rfl (by decide) rfl ?_
                      refine zr_goto C 20 dL_arePiecesRight_65 (by decide) ?_
                      obtain ⟨n218, hlt, h⟩ := h
                      exact zr_sub [2, 3, 4, 5, 1, 0] rfl (ih14 n218 hlt (y12 + y213) (y13 + 1) h)
                    obtain ⟨J219, hJ220, h⟩ := h
                    have kj221 : J219  → z_w p l e ({ frames := 6, cells := 0, slots := 0, locals := 135 } : Room) s m args below meth c D cA N0 10 0 0 (MQ below (z_Qc D cA N0 (fun v T' F' => ∃ r : Int32, v = some (.int r) ∧ T = T' ∧ F = F' ∧ Post r)) args s 0 0 (fun q => N0 ≤ q)) 58 [(0, .ref a0), (1, .int p1), (2, .int y4), (3, .int r8), (4, .int y12), (5, .int y13)] [.int y12] T F := by
                      clear h
                      intro  h
                      have h := hJ220  h
                      refine zr_iconst C 0 dL_arePiecesRight_58 (by decide) ?_
                      exact zr_sub [0, 1, 2, 3, 4, 5] rfl (kj217 0 h)
                    obtain ⟨h1, h2⟩ := h
                    refine zr_icmp_ge C 58 dL_arePiecesRight_40 (by decide) (fun hc => ?_) (fun hc => ?_)
                    · have h := h1 hc
                      clear h1 h2
                      exact zr_sub [0, 1, 2, 3, 4, 5] rfl (kj221  h)
                    · have h := h2 hc
                      clear h1 h2
                      refine zr_aload_n C 0 dL_arePiecesRight_43 rfl rfl ?_
                      refine zr_iload C 5 dL_arePiecesRight_44 rfl ?_
                      refine zr_iconst C 0 dL_arePiecesRight_46 (by decide) ?_
                      refine zr_callV (As := [.int y13, .int 0]) (r := (RX4, TX4, 4)) C (k_X4_ofBooking0 h) ok_L_40 zq_378 zq_379 hT7 (by decide) rfl rfl ⟨by decide, (Nat.le_of_ble_eq_true rfl)⟩ ⟨(Nat.le_of_ble_eq_true rfl), (Nat.le_of_ble_eq_true rfl)⟩ (Nat.le_of_ble_eq_true rfl) dL_arePiecesRight_47 (fun v223 U224 G225 hq => ?_)
                      clear h
                      · obtain ⟨r222, rfl, rfl, rfl, h⟩ := hq
                        refine zr_iload_n C 2 dL_arePiecesRight_50 rfl rfl ?_
                        obtain ⟨h1, h2⟩ := h
                        refine zr_icmp_ne C 58 dL_arePiecesRight_51 (by decide) (fun hc => ?_) (fun hc => ?_)
                        · have h := h1 hc
                          clear h1 h2
                          exact zr_sub [0, 1, 2, 3, 4, 5] rfl (kj221  h)
                        · have h := h2 hc
                          clear h1 h2
                          refine zr_iconst C 1 dL_arePiecesRight_54 (by decide) ?_
                          refine zr_goto C 59 dL_arePiecesRight_55 (by decide) ?_
                          exact zr_sub [0, 1, 2, 3, 4, 5] rfl (kj217 1 h)
          exact zr_sub [3, 4, 5, 2, 1, 0] rfl (ky234 n11 0 0 h0233)
  exact zr_sub [1, 2, 0] rfl (ky240 n3 0 h0239)
theorem dL_arePlacesRight_0 : decode cL_arePlacesRight 0 = .ok (.aload_n 0, 1) := by decide +kernel
theorem dL_arePlacesRight_1 : decode cL_arePlacesRight 1 = .ok (.iconst 2, 1) := by decide +kernel
theorem dL_arePlacesRight_5 : decode cL_arePlacesRight 5 = .ok (.istore_n 2, 1) := by decide +kernel
theorem dL_arePlacesRight_6 : decode cL_arePlacesRight 6 = .ok (.iload_n 2, 1) := by decide +kernel
theorem dL_arePlacesRight_7 : decode cL_arePlacesRight 7 = .ok (.bipush 6, 2) := by decide +kernel
theorem dL_arePlacesRight_9 : decode cL_arePlacesRight 9 = .ok (.multianewarray 125 2, 4) := by decide +kernel
theorem dL_arePlacesRight_13 : decode cL_arePlacesRight 13 = .ok (.astore_n 3, 1) := by decide +kernel
theorem dL_arePlacesRight_14 : decode cL_arePlacesRight 14 = .ok (.iconst 0, 1) := by decide +kernel
theorem dL_arePlacesRight_15 : decode cL_arePlacesRight 15 = .ok (.istore 4, 2) := by decide +kernel
theorem dL_arePlacesRight_17 : decode cL_arePlacesRight 17 = .ok (.iload 4, 2) := by decide +kernel
theorem dL_arePlacesRight_19 : decode cL_arePlacesRight 19 = .ok (.iload_n 2, 1) := by decide +kernel
theorem dL_arePlacesRight_20 : decode cL_arePlacesRight 20 = .ok (.if_icmp .ge 40, 3) := by decide +kernel
theorem dL_arePlacesRight_60 : decode cL_arePlacesRight 60 = .ok (.iconst 0, 1) := by decide +kernel
theorem dL_arePlacesRight_61 : decode cL_arePlacesRight 61 = .ok (.istore 4, 2) := by decide +kernel
theorem dL_arePlacesRight_63 : decode cL_arePlacesRight 63 = .ok (.iload 4, 2) := by decide +kernel
theorem dL_arePlacesRight_65 : decode cL_arePlacesRight 65 = .ok (.iconst 4, 1) := by decide +kernel
theorem dL_arePlacesRight_66 : decode cL_arePlacesRight 66 = .ok (.if_icmp .ge 175, 3) := by decide +kernel
theorem dL_arePlacesRight_241 : decode cL_arePlacesRight 241 = .ok (.iconst 1, 1) := by decide +kernel
theorem dL_arePlacesRight_242 : decode cL_arePlacesRight 242 = .ok (.ireturn, 1) := by decide +kernel
theorem dL_arePlacesRight_69 : decode cL_arePlacesRight 69 = .ok (.aload_n 0, 1) := by decide +kernel
theorem dL_arePlacesRight_70 : decode cL_arePlacesRight 70 = .ok (.iload 4, 2) := by decide +kernel
theorem dL_arePlacesRight_75 : decode cL_arePlacesRight 75 = .ok (.ifCond .lt 14, 3) := by decide +kernel
theorem dL_arePlacesRight_89 : decode cL_arePlacesRight 89 = .ok (.iconst 0, 1) := by decide +kernel
theorem dL_arePlacesRight_90 : decode cL_arePlacesRight 90 = .ok (.ireturn, 1) := by decide +kernel
theorem dL_arePlacesRight_78 : decode cL_arePlacesRight 78 = .ok (.aload_n 0, 1) := by decide +kernel
theorem dL_arePlacesRight_79 : decode cL_arePlacesRight 79 = .ok (.iload 4, 2) := by decide +kernel
theorem dL_arePlacesRight_84 : decode cL_arePlacesRight 84 = .ok (.bipush 10, 2) := by decide +kernel
theorem dL_arePlacesRight_86 : decode cL_arePlacesRight 86 = .ok (.if_icmp .le 5, 3) := by decide +kernel
theorem dL_arePlacesRight_91 : decode cL_arePlacesRight 91 = .ok (.iconst 0, 1) := by decide +kernel
theorem dL_arePlacesRight_92 : decode cL_arePlacesRight 92 = .ok (.istore 5, 2) := by decide +kernel
theorem dL_arePlacesRight_94 : decode cL_arePlacesRight 94 = .ok (.iload 5, 2) := by decide +kernel
theorem dL_arePlacesRight_96 : decode cL_arePlacesRight 96 = .ok (.iconst 2, 1) := by decide +kernel
theorem dL_arePlacesRight_97 : decode cL_arePlacesRight 97 = .ok (.if_icmp .ge 138, 3) := by decide +kernel
theorem dL_arePlacesRight_235 : decode cL_arePlacesRight 235 = .ok (.iinc 4 1, 3) := by decide +kernel
theorem dL_arePlacesRight_238 : decode cL_arePlacesRight 238 = .ok (.goto (-175), 3) := by decide +kernel
theorem dL_arePlacesRight_100 : decode cL_arePlacesRight 100 = .ok (.iload_n 1, 1) := by decide +kernel
theorem dL_arePlacesRight_101 : decode cL_arePlacesRight 101 = .ok (.istore 6, 2) := by decide +kernel
theorem dL_arePlacesRight_103 : decode cL_arePlacesRight 103 = .ok (.iload 6, 2) := by decide +kernel
theorem dL_arePlacesRight_105 : decode cL_arePlacesRight 105 = .ok (.bipush 100, 2) := by decide +kernel
theorem dL_arePlacesRight_107 : decode cL_arePlacesRight 107 = .ok (.if_icmp .ge 122, 3) := by decide +kernel
theorem dL_arePlacesRight_229 : decode cL_arePlacesRight 229 = .ok (.iinc 5 1, 3) := by decide +kernel
theorem dL_arePlacesRight_232 : decode cL_arePlacesRight 232 = .ok (.goto (-138), 3) := by decide +kernel
theorem dL_arePlacesRight_110 : decode cL_arePlacesRight 110 = .ok (.iconst 0, 1) := by decide +kernel
theorem dL_arePlacesRight_111 : decode cL_arePlacesRight 111 = .ok (.istore 7, 2) := by decide +kernel
theorem dL_arePlacesRight_113 : decode cL_arePlacesRight 113 = .ok (.aload_n 3, 1) := by decide +kernel
theorem dL_arePlacesRight_114 : decode cL_arePlacesRight 114 = .ok (.astore 8, 2) := by decide +kernel
theorem dL_arePlacesRight_116 : decode cL_arePlacesRight 116 = .ok (.aload 8, 2) := by decide +kernel
theorem dL_arePlacesRight_118 : decode cL_arePlacesRight 118 = .ok (.arraylength, 1) := by decide +kernel
theorem dL_arePlacesRight_119 : decode cL_arePlacesRight 119 = .ok (.istore 9, 2) := by decide +kernel
theorem dL_arePlacesRight_121 : decode cL_arePlacesRight 121 = .ok (.iconst 0, 1) := by decide +kernel
theorem dL_arePlacesRight_122 : decode cL_arePlacesRight 122 = .ok (.istore 10, 2) := by decide +kernel
theorem dL_arePlacesRight_124 : decode cL_arePlacesRight 124 = .ok (.iload 10, 2) := by decide +kernel
theorem dL_arePlacesRight_126 : decode cL_arePlacesRight 126 = .ok (.iload 9, 2) := by decide +kernel
theorem dL_arePlacesRight_128 : decode cL_arePlacesRight 128 = .ok (.if_icmp .ge 70, 3) := by decide +kernel
theorem dL_arePlacesRight_198 : decode cL_arePlacesRight 198 = .ok (.iload 7, 2) := by decide +kernel
theorem dL_arePlacesRight_200 : decode cL_arePlacesRight 200 = .ok (.aload_n 0, 1) := by decide +kernel
theorem dL_arePlacesRight_201 : decode cL_arePlacesRight 201 = .ok (.iload 4, 2) := by decide +kernel
theorem dL_arePlacesRight_203 : decode cL_arePlacesRight 203 = .ok (.iload 5, 2) := by decide +kernel
theorem dL_arePlacesRight_205 : decode cL_arePlacesRight 205 = .ok (.iload 6, 2) := by decide +kernel
theorem dL_arePlacesRight_210 : decode cL_arePlacesRight 210 = .ok (.ifCond .ge 7, 3) := by decide +kernel
theorem dL_arePlacesRight_217 : decode cL_arePlacesRight 217 = .ok (.iconst 1, 1) := by decide +kernel
theorem dL_arePlacesRight_213 : decode cL_arePlacesRight 213 = .ok (.iconst 0, 1) := by decide +kernel
theorem dL_arePlacesRight_214 : decode cL_arePlacesRight 214 = .ok (.goto 4, 3) := by decide +kernel
theorem dL_arePlacesRight_218 : decode cL_arePlacesRight 218 = .ok (.if_icmp .eq 5, 3) := by decide +kernel
theorem dL_arePlacesRight_223 : decode cL_arePlacesRight 223 = .ok (.iinc 6 9, 3) := by decide +kernel
theorem dL_arePlacesRight_226 : decode cL_arePlacesRight 226 = .ok (.goto (-123), 3) := by decide +kernel
theorem dL_arePlacesRight_221 : decode cL_arePlacesRight 221 = .ok (.iconst 0, 1) := by decide +kernel
theorem dL_arePlacesRight_222 : decode cL_arePlacesRight 222 = .ok (.ireturn, 1) := by decide +kernel
theorem dL_arePlacesRight_207 : decode cL_arePlacesRight 207 = .ok (.invokevirtual 130, 3) := by decide +kernel
theorem dL_arePlacesRight_131 : decode cL_arePlacesRight 131 = .ok (.aload 8, 2) := by decide +kernel
theorem dL_arePlacesRight_133 : decode cL_arePlacesRight 133 = .ok (.iload 10, 2) := by decide +kernel
theorem dL_arePlacesRight_135 : decode cL_arePlacesRight 135 = .ok (.aaload, 1) := by decide +kernel
theorem dL_arePlacesRight_136 : decode cL_arePlacesRight 136 = .ok (.astore 11, 2) := by decide +kernel
theorem dL_arePlacesRight_138 : decode cL_arePlacesRight 138 = .ok (.iload 7, 2) := by decide +kernel
theorem dL_arePlacesRight_140 : decode cL_arePlacesRight 140 = .ok (.aload 11, 2) := by decide +kernel
theorem dL_arePlacesRight_142 : decode cL_arePlacesRight 142 = .ok (.iconst 5, 1) := by decide +kernel
theorem dL_arePlacesRight_143 : decode cL_arePlacesRight 143 = .ok (.iaload, 1) := by decide +kernel
theorem dL_arePlacesRight_144 : decode cL_arePlacesRight 144 = .ok (.iconst 3, 1) := by decide +kernel
theorem dL_arePlacesRight_145 : decode cL_arePlacesRight 145 = .ok (.if_icmp .ge 43, 3) := by decide +kernel
theorem dL_arePlacesRight_148 : decode cL_arePlacesRight 148 = .ok (.aload 11, 2) := by decide +kernel
theorem dL_arePlacesRight_150 : decode cL_arePlacesRight 150 = .ok (.iconst 1, 1) := by decide +kernel
theorem dL_arePlacesRight_151 : decode cL_arePlacesRight 151 = .ok (.iaload, 1) := by decide +kernel
theorem dL_arePlacesRight_152 : decode cL_arePlacesRight 152 = .ok (.iload 4, 2) := by decide +kernel
theorem dL_arePlacesRight_154 : decode cL_arePlacesRight 154 = .ok (.if_icmp .ne 34, 3) := by decide +kernel
theorem dL_arePlacesRight_157 : decode cL_arePlacesRight 157 = .ok (.aload 11, 2) := by decide +kernel
theorem dL_arePlacesRight_159 : decode cL_arePlacesRight 159 = .ok (.iconst 2, 1) := by decide +kernel
theorem dL_arePlacesRight_160 : decode cL_arePlacesRight 160 = .ok (.iaload, 1) := by decide +kernel
theorem dL_arePlacesRight_161 : decode cL_arePlacesRight 161 = .ok (.iload 5, 2) := by decide +kernel
theorem dL_arePlacesRight_163 : decode cL_arePlacesRight 163 = .ok (.if_icmp .ne 25, 3) := by decide +kernel
theorem dL_arePlacesRight_166 : decode cL_arePlacesRight 166 = .ok (.aload 11, 2) := by decide +kernel
theorem dL_arePlacesRight_168 : decode cL_arePlacesRight 168 = .ok (.iconst 3, 1) := by decide +kernel
theorem dL_arePlacesRight_169 : decode cL_arePlacesRight 169 = .ok (.iaload, 1) := by decide +kernel
theorem dL_arePlacesRight_170 : decode cL_arePlacesRight 170 = .ok (.iload 6, 2) := by decide +kernel
theorem dL_arePlacesRight_172 : decode cL_arePlacesRight 172 = .ok (.if_icmp .gt 16, 3) := by decide +kernel
theorem dL_arePlacesRight_175 : decode cL_arePlacesRight 175 = .ok (.iload 6, 2) := by decide +kernel
theorem dL_arePlacesRight_177 : decode cL_arePlacesRight 177 = .ok (.aload 11, 2) := by decide +kernel
theorem dL_arePlacesRight_179 : decode cL_arePlacesRight 179 = .ok (.iconst 4, 1) := by decide +kernel
theorem dL_arePlacesRight_180 : decode cL_arePlacesRight 180 = .ok (.iaload, 1) := by decide +kernel
theorem dL_arePlacesRight_181 : decode cL_arePlacesRight 181 = .ok (.if_icmp .gt 7, 3) := by decide +kernel
theorem dL_arePlacesRight_184 : decode cL_arePlacesRight 184 = .ok (.iconst 1, 1) := by decide +kernel
theorem dL_arePlacesRight_185 : decode cL_arePlacesRight 185 = .ok (.goto 4, 3) := by decide +kernel
theorem dL_arePlacesRight_188 : decode cL_arePlacesRight 188 = .ok (.iconst 0, 1) := by decide +kernel
theorem dL_arePlacesRight_189 : decode cL_arePlacesRight 189 = .ok (.iadd, 1) := by decide +kernel
theorem dL_arePlacesRight_190 : decode cL_arePlacesRight 190 = .ok (.istore 7, 2) := by decide +kernel
theorem dL_arePlacesRight_192 : decode cL_arePlacesRight 192 = .ok (.iinc 10 1, 3) := by decide +kernel
theorem dL_arePlacesRight_195 : decode cL_arePlacesRight 195 = .ok (.goto (-71), 3) := by decide +kernel
theorem dL_arePlacesRight_81 : decode cL_arePlacesRight 81 = .ok (.invokevirtual 127, 3) := by decide +kernel
theorem dL_arePlacesRight_72 : decode cL_arePlacesRight 72 = .ok (.invokevirtual 127, 3) := by decide +kernel
theorem dL_arePlacesRight_23 : decode cL_arePlacesRight 23 = .ok (.iconst 1, 1) := by decide +kernel
theorem dL_arePlacesRight_24 : decode cL_arePlacesRight 24 = .ok (.istore 5, 2) := by decide +kernel
theorem dL_arePlacesRight_26 : decode cL_arePlacesRight 26 = .ok (.iload 5, 2) := by decide +kernel
theorem dL_arePlacesRight_28 : decode cL_arePlacesRight 28 = .ok (.bipush 6, 2) := by decide +kernel
theorem dL_arePlacesRight_30 : decode cL_arePlacesRight 30 = .ok (.if_icmp .ge 24, 3) := by decide +kernel
theorem dL_arePlacesRight_54 : decode cL_arePlacesRight 54 = .ok (.iinc 4 1, 3) := by decide +kernel
theorem dL_arePlacesRight_57 : decode cL_arePlacesRight 57 = .ok (.goto (-40), 3) := by decide +kernel
theorem dL_arePlacesRight_33 : decode cL_arePlacesRight 33 = .ok (.aload_n 3, 1) := by decide +kernel
theorem dL_arePlacesRight_34 : decode cL_arePlacesRight 34 = .ok (.iload 4, 2) := by decide +kernel
theorem dL_arePlacesRight_36 : decode cL_arePlacesRight 36 = .ok (.aaload, 1) := by decide +kernel
theorem dL_arePlacesRight_37 : decode cL_arePlacesRight 37 = .ok (.iload 5, 2) := by decide +kernel
theorem dL_arePlacesRight_39 : decode cL_arePlacesRight 39 = .ok (.aload_n 0, 1) := by decide +kernel
theorem dL_arePlacesRight_40 : decode cL_arePlacesRight 40 = .ok (.iload 4, 2) := by decide +kernel
theorem dL_arePlacesRight_42 : decode cL_arePlacesRight 42 = .ok (.iload 5, 2) := by decide +kernel
theorem dL_arePlacesRight_47 : decode cL_arePlacesRight 47 = .ok (.iastore, 1) := by decide +kernel
theorem dL_arePlacesRight_48 : decode cL_arePlacesRight 48 = .ok (.iinc 5 1, 3) := by decide +kernel
theorem dL_arePlacesRight_51 : decode cL_arePlacesRight 51 = .ok (.goto (-25), 3) := by decide +kernel
theorem dL_arePlacesRight_44 : decode cL_arePlacesRight 44 = .ok (.invokevirtual 40, 3) := by decide +kernel
theorem dL_arePlacesRight_2 : decode cL_arePlacesRight 2 = .ok (.invokevirtual 36, 3) := by decide +kernel
def v_L_arePlacesRight (a0 : Nat) (p1 : Int32) (T : zT) (F : zF) (Post : Int32 → zT → zF → Prop) : Prop :=
  (T a0 = some (5, 4) ∧ (v_X4_many a0 2 T F (fun (r2 : Int32) => (¬ r2 < 0 ∧ r2.toNatClampNeg ≤ 16 ∧ (∀ q5 : Nat, (∀ b, q5 ≤ b → T b = none) → (∃ I7 : Nat → Int32 → zF → Prop, (∃ n9 : Nat, I7 n9 0 (zmm F q5 r2.toNatClampNeg)) ∧ (∀ (n8 : Nat) (y10 : Int32) (F11 : zF), I7 n8 y10 F11 → ((r2 ≤ y10 → (∃ I14 : Nat → Int32 → Prop, (∃ n16 : Nat, I14 n16 0) ∧ (∀ (n15 : Nat) (y17 : Int32), I14 n15 y17 → ((4 ≤ y17 → Post 1 (znm T q5 r2.toNatClampNeg 6) F11) ∧ (¬ 4 ≤ y17 → (znm T q5 r2.toNatClampNeg 6 a0 = some (5, 4) ∧ (v_X4_reach a0 y17 (znm T q5 r2.toNatClampNeg 6) F11 (fun (r21 : Int32) => ((r21 < 0 → Post 0 (znm T q5 r2.toNatClampNeg 6) F11) ∧ (¬ r21 < 0 → (v_X4_reach a0 y17 (znm T q5 r2.toNatClampNeg 6) F11 (fun (r22 : Int32) => ((r22 ≤ 10 → (∃ I23 : Nat → Int32 → Prop, (∃ n25 : Nat, I23 n25 0) ∧ (∀ (n24 : Nat) (y26 : Int32), I23 n24 y26 → ((2 ≤ y26 → (∃ n29 : Nat, n29 < n15 ∧ I14 n29 (y17 + 1))) ∧ (¬ 2 ≤ y26 → (∃ I30 : Nat → Int32 → Prop, (∃ n32 : Nat, I30 n32 p1) ∧ (∀ (n31 : Nat) (y33 : Int32), I30 n31 y33 → ((100 ≤ y33 → (∃ n36 : Nat, n36 < n24 ∧ I23 n36 (y26 + 1))) ∧ (¬ 100 ≤ y33 → (∃ I37 : Nat → Int32 → Int32 → Prop, (∃ n39 : Nat, I37 n39 0 0) ∧ (∀ (n38 : Nat) (y40 : Int32) (y41 : Int32), I37 n38 y40 y41 → (((nI r2.toNatClampNeg) ≤ y41 → (v_X4_at a0 y17 y26 y33 (znm T q5 r2.toNatClampNeg 6) F11 (fun (r44 : Int32) => (∃ J47 : Int32 → Prop, (∀ (y45 : Int32), J47 y45 → ((y40 = y45 → (∃ n50 : Nat, n50 < n31 ∧ I30 n50 (y33 + 9))) ∧ (¬ y40 = y45 → Post 0 (znm T q5 r2.toNatClampNeg 6) F11))) ∧ ((0 ≤ r44 → (J47 1)) ∧ (¬ 0 ≤ r44 → (J47 0))))) (fun _ => False))) ∧ (¬ (nI r2.toNatClampNeg) ≤ y41 → (vp_in y41 r2.toNatClampNeg ∧ ∃ x55 : Nat, F11 q5 (y41).toNatClampNeg = .ref x55 ∧ ∃ n57 : Nat, znm T q5 r2.toNatClampNeg 6 x55 = some (100, n57) ∧ vp_in 5 n57 ∧ ∃ x60 : Int32, F11 x55 (5 : Int32).toNatClampNeg = .int x60 ∧ (∃ J76 : Int32 → Prop, (∀ (y74 : Int32), J76 y74 → (∃ n79 : Nat, n79 < n38 ∧ I37 n79 (y40 + y74) (y41 + 1))) ∧ ∃ J80 : Prop, (J80  → (J76 0)) ∧ ((3 ≤ x60 → (J80)) ∧ (¬ 3 ≤ x60 → (vp_in 1 n57 ∧ ∃ x84 : Int32, F11 x55 (1 : Int32).toNatClampNeg = .int x84 ∧ ((¬ x84 = y17 → (J80)) ∧ (x84 = y17 → (vp_in 2 n57 ∧ ∃ x87 : Int32, F11 x55 (2 : Int32).toNatClampNeg = .int x87 ∧ ((¬ x87 = y26 → (J80)) ∧ (x87 = y26 → (vp_in 3 n57 ∧ ∃ x90 : Int32, F11 x55 (3 : Int32).toNatClampNeg = .int x90 ∧ ((y33 < x90 → (J80)) ∧ (¬ y33 < x90 → (vp_in 4 n57 ∧ ∃ x93 : Int32, F11 x55 (4 : Int32).toNatClampNeg = .int x93 ∧ ((x93 < y33 → (J80)) ∧ (¬ x93 < y33 → (J76 1)))))))))))))))))))))))))))))) ∧ (¬ r22 ≤ 10 → Post 0 (znm T q5 r2.toNatClampNeg 6) F11))) (fun _ => False))))) (fun _ => False)))))))) ∧ (¬ r2 ≤ y10 → (∃ I113 : Nat → Int32 → zF → Prop, (∃ n115 : Nat, I113 n115 1 F11) ∧ (∀ (n114 : Nat) (y116 : Int32) (F117 : zF), I113 n114 y116 F117 → ((6 ≤ y116 → (∃ n120 : Nat, n120 < n8 ∧ I7 n120 (y10 + 1) F117)) ∧ (¬ 6 ≤ y116 → (vp_in y10 r2.toNatClampNeg ∧ ∃ x122 : Nat, F117 q5 (y10).toNatClampNeg = .ref x122 ∧ znm T q5 r2.toNatClampNeg 6 a0 = some (5, 4) ∧ (v_X4_ofBooking a0 y10 y116 (znm T q5 r2.toNatClampNeg 6) F117 (fun (r125 : Int32) => (∃ n126 : Nat, znm T q5 r2.toNatClampNeg 6 x122 = some (100, n126) ∧ vp_in y116 n126 ∧ (∃ n129 : Nat, n129 < n114 ∧ I113 n129 (y116 + 1) (zu F117 x122 (y116).toNatClampNeg (.int r125))))) (fun _ => False)))))))))))))) (fun _ => False)))
set_option maxRecDepth 100000 in
set_option maxHeartbeats 4000000 in
theorem k_L_arePlacesRight {l : Launch} {D : va_G} {cA : Nat → ClassId} {N0 zE : Nat} {a0 : Nat} {p1 : Int32} {T : zT} {F : zF} {Post : Int32 → zT → zF → Prop} (h : v_L_arePlacesRight a0 p1 T F Post) : z_Mt l D cA N0 zE yL_arePlacesRight cL_arePlacesRight 12 (some .boolean) ({ frames := 5, cells := 17, slots := 112, locals := 112 } : Room) [.ref a0, .int p1] T F (fun v T' F' => ∃ r : Int32, v = some (.int r) ∧ Post r T' F') := by
  unfold v_L_arePlacesRight at h
  refine z_bodyT (by decide) (Nat.le_of_ble_eq_true rfl) ?_
  intro p e s m args below meth c C hnm
  have C : z_C p l s m args meth c RL cL_arePlacesRight 12 (some .boolean) D cA N0 zE := C
  show z_w p l e ({ frames := 5, cells := 17, slots := 112, locals := 112 } : Room) s m args below meth c D cA N0 12 0 0 (MQ below (z_Qc D cA N0 (fun v T' F' => ∃ r : Int32, v = some (.int r) ∧ Post r T' F')) args s 17 112 (fun q => N0 ≤ q)) 0 [(0, .ref a0), (1, .int p1)] [] T F
  refine zr_aload_n C 0 dL_arePlacesRight_0 rfl rfl ?_
  refine zr_iconst C 2 dL_arePlacesRight_1 (by decide) ?_
  obtain ⟨hT1, h⟩ := h
  refine zr_callV (As := [.int 2]) (r := (RX4, TX4, 4)) C (k_X4_many0 h) ok_L_36 zq_393 zq_394 hT1 (by decide) rfl rfl ⟨by decide, (Nat.le_of_ble_eq_true rfl)⟩ ⟨(Nat.le_of_ble_eq_true rfl), (Nat.le_of_ble_eq_true rfl)⟩ (Nat.le_of_ble_eq_true rfl) dL_arePlacesRight_2 (fun v139 U140 G141 hq => ?_)
  clear h
  · obtain ⟨r2, rfl, rfl, rfl, h⟩ := hq
    refine zr_istore_n C [(2, .int r2), (0, .ref a0), (1, .int p1)] dL_arePlacesRight_5 rfl (by decide) rfl ?_
    refine zr_iload_n C 0 dL_arePlacesRight_6 rfl rfl ?_
    refine zr_bipush C 6 dL_arePlacesRight_7 (by decide) ?_
    obtain ⟨hz3, hB4, h⟩ := h
    refine zr_multiB (k := 6) C 16 hB4 rfl rfl zq_808 zq_93 hz3 (by decide) (by decide) (Nat.le_of_ble_eq_true rfl) (Nat.le_of_ble_eq_true rfl) dL_arePlacesRight_9 (fun q5 hq6 => ?_)
    have h := h q5 hq6
    refine zr_astore_n C [(3, .ref q5), (2, .int r2), (0, .ref a0), (1, .int p1)] dL_arePlacesRight_13 rfl (by decide) rfl ?_
    refine zr_iconst C 0 dL_arePlacesRight_14 (by decide) ?_
    refine zr_istore C [(4, .int 0), (3, .ref q5), (2, .int r2), (0, .ref a0), (1, .int p1)] dL_arePlacesRight_15 (by decide) rfl ?_
    obtain ⟨I7, ⟨n9, h0137⟩, hI136⟩ := h
    have ky138 : ∀ (n8 : Nat) (y10 : Int32) (F11 : zF), I7 n8 y10 F11 → z_w p l e ({ frames := 5, cells := 17, slots := 112, locals := 112 } : Room) s m args below meth c D cA N0 12 17 112 (MQ below (z_Qc D cA N0 (fun v T' F' => ∃ r : Int32, v = some (.int r) ∧ Post r T' F')) args s 17 112 (fun q => N0 ≤ q)) 17 [(0, .ref a0), (1, .int p1), (2, .int r2), (3, .ref q5), (4, .int y10)] [] (znm T q5 r2.toNatClampNeg 6) F11 := by
      intro n8
      induction n8 using Nat.strongRecOn with
      | _ n8 ih12 =>
        intro y10 F11 hin
        have h := hI136 n8 y10 F11 hin
        refine zr_iload C 4 dL_arePlacesRight_17 rfl ?_
        refine zr_iload_n C 2 dL_arePlacesRight_19 rfl rfl ?_
        obtain ⟨h1, h2⟩ := h
        refine zr_icmp_ge C 60 dL_arePlacesRight_20 (by decide) (fun hc => ?_) (fun hc => ?_)
        · have h := h1 hc
          clear h1 h2
          refine zr_iconst C 0 dL_arePlacesRight_60 (by decide) ?_
          refine zr_istore C [(4, .int 0), (0, .ref a0), (1, .int p1), (2, .int r2), (3, .ref q5)] dL_arePlacesRight_61 (by decide) rfl ?_
          obtain ⟨I14, ⟨n16, h0111⟩, hI110⟩ := h
          have ky112 : ∀ (n15 : Nat) (y17 : Int32), I14 n15 y17 → z_w p l e ({ frames := 5, cells := 17, slots := 112, locals := 112 } : Room) s m args below meth c D cA N0 12 17 112 (MQ below (z_Qc D cA N0 (fun v T' F' => ∃ r : Int32, v = some (.int r) ∧ Post r T' F')) args s 17 112 (fun q => N0 ≤ q)) 63 [(0, .ref a0), (1, .int p1), (2, .int r2), (3, .ref q5), (4, .int y17)] [] (znm T q5 r2.toNatClampNeg 6) F11 := by
            intro n15
            induction n15 using Nat.strongRecOn with
            | _ n15 ih18 =>
              intro y17 hin
              have h := hI110 n15 y17 hin
              refine zr_iload C 4 dL_arePlacesRight_63 rfl ?_
              refine zr_iconst C 4 dL_arePlacesRight_65 (by decide) ?_
              obtain ⟨h1, h2⟩ := h
              refine zr_icmp_ge C 241 dL_arePlacesRight_66 (by decide) (fun hc => ?_) (fun hc => ?_)
              · have h := h1 hc
                clear h1 h2
                refine zr_iconst C 1 dL_arePlacesRight_241 (by decide) ?_
                exact zr_zret C rfl (Or.inr rfl) ⟨_, rfl, h⟩ (Nat.le_of_ble_eq_true rfl) (Nat.le_of_ble_eq_true rfl) dL_arePlacesRight_242
              · have h := h2 hc
                clear h1 h2
                refine zr_aload_n C 0 dL_arePlacesRight_69 rfl rfl ?_
                refine zr_iload C 4 dL_arePlacesRight_70 rfl ?_
                obtain ⟨hT20, h⟩ := h
                refine zr_callV (As := [.int y17]) (r := (RX4, TX4, 4)) C (k_X4_reach0 h) ok_L_127 zq_529 zq_530 hT20 (by decide) rfl rfl ⟨by decide, (Nat.le_of_ble_eq_true rfl)⟩ ⟨(Nat.le_of_ble_eq_true rfl), (Nat.le_of_ble_eq_true rfl)⟩ (Nat.le_of_ble_eq_true rfl) dL_arePlacesRight_72 (fun v107 U108 G109 hq => ?_)
                clear h
                · obtain ⟨r21, rfl, rfl, rfl, h⟩ := hq
                  obtain ⟨h1, h2⟩ := h
                  refine zr_if_lt C 89 dL_arePlacesRight_75 (by decide) (fun hc => ?_) (fun hc => ?_)
                  · have h := h1 hc
                    clear h1 h2
                    refine zr_iconst C 0 dL_arePlacesRight_89 (by decide) ?_
                    exact zr_zret C rfl (Or.inl rfl) ⟨_, rfl, h⟩ (Nat.le_of_ble_eq_true rfl) (Nat.le_of_ble_eq_true rfl) dL_arePlacesRight_90
                  · have h := h2 hc
                    clear h1 h2
                    refine zr_aload_n C 0 dL_arePlacesRight_78 rfl rfl ?_
                    refine zr_iload C 4 dL_arePlacesRight_79 rfl ?_
                    refine zr_callV (As := [.int y17]) (r := (RX4, TX4, 4)) C (k_X4_reach0 h) ok_L_127 zq_529 zq_530 hT20 (by decide) rfl rfl ⟨by decide, (Nat.le_of_ble_eq_true rfl)⟩ ⟨(Nat.le_of_ble_eq_true rfl), (Nat.le_of_ble_eq_true rfl)⟩ (Nat.le_of_ble_eq_true rfl) dL_arePlacesRight_81 (fun v104 U105 G106 hq => ?_)
                    clear h
                    · obtain ⟨r22, rfl, rfl, rfl, h⟩ := hq
                      refine zr_bipush C 10 dL_arePlacesRight_84 (by decide) ?_
                      obtain ⟨h1, h2⟩ := h
                      refine zr_icmp_le C 91 dL_arePlacesRight_86 (by decide) (fun hc => ?_) (fun hc => ?_)
                      · have h := h1 hc
                        clear h1 h2
                        refine zr_iconst C 0 dL_arePlacesRight_91 (by decide) ?_
                        refine zr_istore C [(5, .int 0), (0, .ref a0), (1, .int p1), (2, .int r2), (3, .ref q5), (4, .int y17)] dL_arePlacesRight_92 (by decide) rfl ?_
                        obtain ⟨I23, ⟨n25, h0102⟩, hI101⟩ := h
                        have ky103 : ∀ (n24 : Nat) (y26 : Int32), I23 n24 y26 → z_w p l e ({ frames := 5, cells := 17, slots := 112, locals := 112 } : Room) s m args below meth c D cA N0 12 17 112 (MQ below (z_Qc D cA N0 (fun v T' F' => ∃ r : Int32, v = some (.int r) ∧ Post r T' F')) args s 17 112 (fun q => N0 ≤ q)) 94 [(0, .ref a0), (1, .int p1), (2, .int r2), (3, .ref q5), (4, .int y17), (5, .int y26)] [] (znm T q5 r2.toNatClampNeg 6) F11 := by
                          intro n24
                          induction n24 using Nat.strongRecOn with
                          | _ n24 ih27 =>
                            intro y26 hin
                            have h := hI101 n24 y26 hin
                            refine zr_iload C 5 dL_arePlacesRight_94 rfl ?_
                            refine zr_iconst C 2 dL_arePlacesRight_96 (by decide) ?_
                            obtain ⟨h1, h2⟩ := h
                            refine zr_icmp_ge C 235 dL_arePlacesRight_97 (by decide) (fun hc => ?_) (fun hc => ?_)
                            · have h := h1 hc
                              clear h1 h2
                              refine zr_iinc C [(4, .int (y17 + 1)), (0, .ref a0), (1, .int p1), (2, .int r2), (3, .ref q5), (5, .int y26)] 4 dL_arePlacesRight_235 rfl rfl (by decide) rfl ?_
                              refine zr_goto C 63 dL_arePlacesRight_238 (by decide) ?_
                              obtain ⟨n29, hlt, h⟩ := h
                              exact zr_sub [1, 2, 3, 4, 0] rfl (ih18 n29 hlt (y17 + 1) h)
                            · have h := h2 hc
                              clear h1 h2
                              refine zr_iload_n C 1 dL_arePlacesRight_100 rfl rfl ?_
                              refine zr_istore C [(6, .int p1), (0, .ref a0), (1, .int p1), (2, .int r2), (3, .ref q5), (4, .int y17), (5, .int y26)] dL_arePlacesRight_101 (by decide) rfl ?_
                              obtain ⟨I30, ⟨n32, h099⟩, hI98⟩ := h
                              have ky100 : ∀ (n31 : Nat) (y33 : Int32), I30 n31 y33 → z_w p l e ({ frames := 5, cells := 17, slots := 112, locals := 112 } : Room) s m args below meth c D cA N0 12 17 112 (MQ below (z_Qc D cA N0 (fun v T' F' => ∃ r : Int32, v = some (.int r) ∧ Post r T' F')) args s 17 112 (fun q => N0 ≤ q)) 103 [(0, .ref a0), (1, .int p1), (2, .int r2), (3, .ref q5), (4, .int y17), (5, .int y26), (6, .int y33)] [] (znm T q5 r2.toNatClampNeg 6) F11 := by
                                intro n31
                                induction n31 using Nat.strongRecOn with
                                | _ n31 ih34 =>
                                  intro y33 hin
                                  have h := hI98 n31 y33 hin
                                  refine zr_iload C 6 dL_arePlacesRight_103 rfl ?_
                                  refine zr_bipush C 100 dL_arePlacesRight_105 (by decide) ?_
                                  obtain ⟨h1, h2⟩ := h
                                  refine zr_icmp_ge C 229 dL_arePlacesRight_107 (by decide) (fun hc => ?_) (fun hc => ?_)
                                  · have h := h1 hc
                                    clear h1 h2
                                    refine zr_iinc C [(5, .int (y26 + 1)), (0, .ref a0), (1, .int p1), (2, .int r2), (3, .ref q5), (4, .int y17), (6, .int y33)] 5 dL_arePlacesRight_229 rfl rfl (by decide) rfl ?_
                                    refine zr_goto C 94 dL_arePlacesRight_232 (by decide) ?_
                                    obtain ⟨n36, hlt, h⟩ := h
                                    exact zr_sub [1, 2, 3, 4, 5, 0] rfl (ih27 n36 hlt (y26 + 1) h)
                                  · have h := h2 hc
                                    clear h1 h2
                                    refine zr_iconst C 0 dL_arePlacesRight_110 (by decide) ?_
                                    refine zr_istore C [(7, .int 0), (0, .ref a0), (1, .int p1), (2, .int r2), (3, .ref q5), (4, .int y17), (5, .int y26), (6, .int y33)] dL_arePlacesRight_111 (by decide) rfl ?_
                                    refine zr_aload_n C 4 dL_arePlacesRight_113 rfl rfl ?_
                                    refine zr_astore C [(8, .ref q5), (7, .int 0), (0, .ref a0), (1, .int p1), (2, .int r2), (3, .ref q5), (4, .int y17), (5, .int y26), (6, .int y33)] dL_arePlacesRight_114 (by decide) rfl ?_
                                    refine zr_aload C 0 dL_arePlacesRight_116 rfl ?_
                                    refine zr_alen C z_mq (by decide) rfl dL_arePlacesRight_118 ?_
                                    refine zr_istore C [(9, .int (nI r2.toNatClampNeg)), (8, .ref q5), (7, .int 0), (0, .ref a0), (1, .int p1), (2, .int r2), (3, .ref q5), (4, .int y17), (5, .int y26), (6, .int y33)] dL_arePlacesRight_119 (by decide) rfl ?_
                                    refine zr_iconst C 0 dL_arePlacesRight_121 (by decide) ?_
                                    refine zr_istore C [(10, .int 0), (9, .int (nI r2.toNatClampNeg)), (8, .ref q5), (7, .int 0), (0, .ref a0), (1, .int p1), (2, .int r2), (3, .ref q5), (4, .int y17), (5, .int y26), (6, .int y33)] dL_arePlacesRight_122 (by decide) rfl ?_
                                    obtain ⟨I37, ⟨n39, h096⟩, hI95⟩ := h
                                    have ky97 : ∀ (n38 : Nat) (y40 : Int32) (y41 : Int32), I37 n38 y40 y41 → z_w p l e ({ frames := 5, cells := 17, slots := 112, locals := 112 } : Room) s m args below meth c D cA N0 12 17 112 (MQ below (z_Qc D cA N0 (fun v T' F' => ∃ r : Int32, v = some (.int r) ∧ Post r T' F')) args s 17 112 (fun q => N0 ≤ q)) 124 [(0, .ref a0), (1, .int p1), (2, .int r2), (3, .ref q5), (4, .int y17), (5, .int y26), (6, .int y33), (7, .int y40), (8, .ref q5), (9, .int (nI r2.toNatClampNeg)), (10, .int y41)] [] (znm T q5 r2.toNatClampNeg 6) F11 := by
                                      intro n38
                                      induction n38 using Nat.strongRecOn with
                                      | _ n38 ih42 =>
                                        intro y40 y41 hin
                                        have h := hI95 n38 y40 y41 hin
                                        refine zr_iload C 10 dL_arePlacesRight_124 rfl ?_
                                        refine zr_iload C 9 dL_arePlacesRight_126 rfl ?_
                                        obtain ⟨h1, h2⟩ := h
                                        refine zr_icmp_ge C 198 dL_arePlacesRight_128 (by decide) (fun hc => ?_) (fun hc => ?_)
                                        · have h := h1 hc
                                          clear h1 h2
                                          refine zr_iload C 7 dL_arePlacesRight_198 rfl ?_
                                          refine zr_aload_n C 0 dL_arePlacesRight_200 rfl rfl ?_
                                          refine zr_iload C 4 dL_arePlacesRight_201 rfl ?_
                                          refine zr_iload C 5 dL_arePlacesRight_203 rfl ?_
                                          refine zr_iload C 6 dL_arePlacesRight_205 rfl ?_
                                          refine zr_callV (As := [.int y17, .int y26, .int y33]) (r := (RX4, TX4, 4)) C (k_X4_at0 h) ok_L_130 zq_811 zq_812 hT20 (by decide) rfl rfl ⟨by decide, (Nat.le_of_ble_eq_true rfl)⟩ ⟨(Nat.le_of_ble_eq_true rfl), (Nat.le_of_ble_eq_true rfl)⟩ (Nat.le_of_ble_eq_true rfl) dL_arePlacesRight_207 (fun v51 U52 G53 hq => ?_)
                                          clear h
                                          · obtain ⟨r44, rfl, rfl, rfl, h⟩ := hq
                                            obtain ⟨J47, hJ48, h⟩ := h
                                            have kj49 : ∀ (y45 : Int32), J47 y45 → z_w p l e ({ frames := 5, cells := 17, slots := 112, locals := 112 } : Room) s m args below meth c D cA N0 12 17 112 (MQ below (z_Qc D cA N0 (fun v T' F' => ∃ r : Int32, v = some (.int r) ∧ Post r T' F')) args s 17 112 (fun q => N0 ≤ q)) 218 [(0, .ref a0), (1, .int p1), (2, .int r2), (3, .ref q5), (4, .int y17), (5, .int y26), (6, .int y33), (7, .int y40), (8, .ref q5), (9, .int (nI r2.toNatClampNeg)), (10, .int y41)] [.int y45, .int y40] (znm T q5 r2.toNatClampNeg 6) F11 := by
                                              clear h
                                              intro y45 h
                                              have h := hJ48 y45 h
                                              obtain ⟨h1, h2⟩ := h
                                              refine zr_icmp_eq C 223 dL_arePlacesRight_218 (by decide) (fun hc => ?_) (fun hc => ?_)
                                              · have h := h1 hc
                                                clear h1 h2
                                                refine zr_iinc C [(6, .int (y33 + 9)), (0, .ref a0), (1, .int p1), (2, .int r2), (3, .ref q5), (4, .int y17), (5, .int y26), (7, .int y40), (8, .ref q5), (9, .int (nI r2.toNatClampNeg)), (10, .int y41)] 6 dL_arePlacesRight_223 rfl rfl (by decide) rfl ?_
                                                refine zr_goto C 103 dL_arePlacesRight_226 (by decide) ?_
                                                obtain ⟨n50, hlt, h⟩ := h
                                                exact zr_sub [1, 2, 3, 4, 5, 6, 0] rfl (ih34 n50 hlt (y33 + 9) h)
                                              · have h := h2 hc
                                                clear h1 h2
                                                refine zr_iconst C 0 dL_arePlacesRight_221 (by decide) ?_
                                                exact zr_zret C rfl (Or.inl rfl) ⟨_, rfl, h⟩ (Nat.le_of_ble_eq_true rfl) (Nat.le_of_ble_eq_true rfl) dL_arePlacesRight_222
                                            obtain ⟨h1, h2⟩ := h
                                            refine zr_if_ge C 217 dL_arePlacesRight_210 (by decide) (fun hc => ?_) (fun hc => ?_)
                                            · have h := h1 hc
                                              clear h1 h2
                                              refine zr_iconst C 1 dL_arePlacesRight_217 (by decide) ?_
                                              exact zr_sub [0, 1, 2, 3, 4, 5, 6, 7, 8, 9, 10] rfl (kj49 1 h)
                                            · have h := h2 hc
                                              clear h1 h2
                                              refine zr_iconst C 0 dL_arePlacesRight_213 (by decide) ?_
                                              refine zr_goto C 218 dL_arePlacesRight_214 (by decide) ?_
                                              exact zr_sub [0, 1, 2, 3, 4, 5, 6, 7, 8, 9, 10] rfl (kj49 0 h)
                                        · have h := h2 hc
                                          clear h1 h2
                                          refine zr_aload C 8 dL_arePlacesRight_131 rfl ?_
                                          refine zr_iload C 10 dL_arePlacesRight_133 rfl ?_
                                          obtain ⟨hi54, x55, hv56, h⟩ := h
                                          refine zr_aald C z_mq (by decide) rfl rfl hi54 hv56 dL_arePlacesRight_135 ?_
                                          refine zr_astore C [(11, .ref x55), (0, .ref a0), (1, .int p1), (2, .int r2), (3, .ref q5), (4, .int y17), (5, .int y26), (6, .int y33), (7, .int y40), (8, .ref q5), (9, .int (nI r2.toNatClampNeg)), (10, .int y41)] dL_arePlacesRight_136 (by decide) rfl ?_
                                          refine zr_iload C 8 dL_arePlacesRight_138 rfl ?_
                                          refine zr_aload C 0 dL_arePlacesRight_140 rfl ?_
                                          refine zr_iconst C 5 dL_arePlacesRight_142 (by decide) ?_
                                          obtain ⟨n57, hT58, hi59, x60, hv61, h⟩ := h
                                          refine zr_iald C rfl hT58 hi59 hv61 dL_arePlacesRight_143 ?_
                                          refine zr_iconst C 3 dL_arePlacesRight_144 (by decide) ?_
                                          obtain ⟨J76, hJ77, h⟩ := h
                                          have kj78 : ∀ (y74 : Int32), J76 y74 → z_w p l e ({ frames := 5, cells := 17, slots := 112, locals := 112 } : Room) s m args below meth c D cA N0 12 17 112 (MQ below (z_Qc D cA N0 (fun v T' F' => ∃ r : Int32, v = some (.int r) ∧ Post r T' F')) args s 17 112 (fun q => N0 ≤ q)) 189 [(0, .ref a0), (1, .int p1), (2, .int r2), (3, .ref q5), (4, .int y17), (5, .int y26), (6, .int y33), (7, .int y40), (8, .ref q5), (9, .int (nI r2.toNatClampNeg)), (10, .int y41), (11, .ref x55)] [.int y74, .int y40] (znm T q5 r2.toNatClampNeg 6) F11 := by
                                            clear h
                                            intro y74 h
                                            have h := hJ77 y74 h
                                            refine zr_iadd C dL_arePlacesRight_189 ?_
                                            refine zr_istore C [(7, .int (y40 + y74)), (0, .ref a0), (1, .int p1), (2, .int r2), (3, .ref q5), (4, .int y17), (5, .int y26), (6, .int y33), (8, .ref q5), (9, .int (nI r2.toNatClampNeg)), (10, .int y41), (11, .ref x55)] dL_arePlacesRight_190 (by decide) rfl ?_
                                            refine zr_iinc C [(10, .int (y41 + 1)), (7, .int (y40 + y74)), (0, .ref a0), (1, .int p1), (2, .int r2), (3, .ref q5), (4, .int y17), (5, .int y26), (6, .int y33), (8, .ref q5), (9, .int (nI r2.toNatClampNeg)), (11, .ref x55)] 10 dL_arePlacesRight_192 rfl rfl (by decide) rfl ?_
                                            refine zr_goto C 124 dL_arePlacesRight_195 (by decide) ?_
                                            obtain ⟨n79, hlt, h⟩ := h
                                            exact zr_sub [2, 3, 4, 5, 6, 7, 8, 1, 9, 10, 0] rfl (ih42 n79 hlt (y40 + y74) (y41 + 1) h)
                                          obtain ⟨J80, hJ81, h⟩ := h
                                          have kj82 : J80  → z_w p l e ({ frames := 5, cells := 17, slots := 112, locals := 112 } : Room) s m args below meth c D cA N0 12 17 112 (MQ below (z_Qc D cA N0 (fun v T' F' => ∃ r : Int32, v = some (.int r) ∧ Post r T' F')) args s 17 112 (fun q => N0 ≤ q)) 188 [(0, .ref a0), (1, .int p1), (2, .int r2), (3, .ref q5), (4, .int y17), (5, .int y26), (6, .int y33), (7, .int y40), (8, .ref q5), (9, .int (nI r2.toNatClampNeg)), (10, .int y41), (11, .ref x55)] [.int y40] (znm T q5 r2.toNatClampNeg 6) F11 := by
                                            clear h
                                            intro  h
                                            have h := hJ81  h
                                            refine zr_iconst C 0 dL_arePlacesRight_188 (by decide) ?_
                                            exact zr_sub [0, 1, 2, 3, 4, 5, 6, 7, 8, 9, 10, 11] rfl (kj78 0 h)
                                          obtain ⟨h1, h2⟩ := h
                                          refine zr_icmp_ge C 188 dL_arePlacesRight_145 (by decide) (fun hc => ?_) (fun hc => ?_)
                                          · have h := h1 hc
                                            clear h1 h2
                                            exact zr_sub [1, 2, 3, 4, 5, 6, 7, 8, 9, 10, 11, 0] rfl (kj82  h)
                                          · have h := h2 hc
                                            clear h1 h2
                                            refine zr_aload C 0 dL_arePlacesRight_148 rfl ?_
                                            refine zr_iconst C 1 dL_arePlacesRight_150 (by decide) ?_
                                            obtain ⟨hi83, x84, hv85, h⟩ := h
                                            refine zr_iald C rfl hT58 hi83 hv85 dL_arePlacesRight_151 ?_
                                            refine zr_iload C 5 dL_arePlacesRight_152 rfl ?_
                                            obtain ⟨h1, h2⟩ := h
                                            refine zr_icmp_ne C 188 dL_arePlacesRight_154 (by decide) (fun hc => ?_) (fun hc => ?_)
                                            · have h := h1 hc
                                              clear h1 h2
                                              exact zr_sub [1, 2, 3, 4, 5, 6, 7, 8, 9, 10, 11, 0] rfl (kj82  h)
                                            · have h := h2 hc
                                              clear h1 h2
                                              refine zr_aload C 0 dL_arePlacesRight_157 rfl ?_
                                              refine zr_iconst C 2 dL_arePlacesRight_159 (by decide) ?_
                                              obtain ⟨hi86, x87, hv88, h⟩ := h
                                              refine zr_iald C rfl hT58 hi86 hv88 dL_arePlacesRight_160 ?_
                                              refine zr_iload C 6 dL_arePlacesRight_161 rfl ?_
                                              obtain ⟨h1, h2⟩ := h
                                              refine zr_icmp_ne C 188 dL_arePlacesRight_163 (by decide) (fun hc => ?_) (fun hc => ?_)
                                              · have h := h1 hc
                                                clear h1 h2
                                                exact zr_sub [1, 2, 3, 4, 5, 6, 7, 8, 9, 10, 11, 0] rfl (kj82  h)
                                              · have h := h2 hc
                                                clear h1 h2
                                                refine zr_aload C 0 dL_arePlacesRight_166 rfl ?_
                                                refine zr_iconst C 3 dL_arePlacesRight_168 (by decide) ?_
                                                obtain ⟨hi89, x90, hv91, h⟩ := h
                                                refine zr_iald C rfl hT58 hi89 hv91 dL_arePlacesRight_169 ?_
                                                refine zr_iload C 7 dL_arePlacesRight_170 rfl ?_
                                                obtain ⟨h1, h2⟩ := h
                                                refine zr_icmp_gt C 188 dL_arePlacesRight_172 (by decide) (fun hc => ?_) (fun hc => ?_)
                                                · have h := h1 hc
                                                  clear h1 h2
                                                  exact zr_sub [1, 2, 3, 4, 5, 6, 7, 8, 9, 10, 11, 0] rfl (kj82  h)
                                                · have h := h2 hc
                                                  clear h1 h2
                                                  refine zr_iload C 7 dL_arePlacesRight_175 rfl ?_
                                                  refine zr_aload C 0 dL_arePlacesRight_177 rfl ?_
                                                  refine zr_iconst C 4 dL_arePlacesRight_179 (by decide) ?_
                                                  obtain ⟨hi92, x93, hv94, h⟩ := h
                                                  refine zr_iald C rfl hT58 hi92 hv94 dL_arePlacesRight_180 ?_
                                                  obtain ⟨h1, h2⟩ := h
                                                  refine zr_icmp_gt C 188 dL_arePlacesRight_181 (by decide) (fun hc => ?_) (fun hc => ?_)
                                                  · have h := h1 hc
                                                    clear h1 h2
                                                    exact zr_sub [1, 2, 3, 4, 5, 6, 7, 8, 9, 10, 11, 0] rfl (kj82  h)
                                                  · have h := h2 hc
                                                    clear h1 h2
                                                    refine zr_iconst C 1 dL_arePlacesRight_184 (by decide) ?_
                                                    refine zr_goto C 189 dL_arePlacesRight_185 (by decide) ?_
                                                    exact zr_sub [1, 2, 3, 4, 5, 6, 7, 8, 9, 10, 11, 0] rfl (kj78 1 h)
                                    exact zr_sub [4, 5, 6, 7, 8, 9, 10, 3, 2, 1, 0] rfl (ky97 n39 0 0 h096)
                              exact zr_sub [1, 2, 3, 4, 5, 6, 0] rfl (ky100 n32 p1 h099)
                        exact zr_sub [1, 2, 3, 4, 5, 0] rfl (ky103 n25 0 h0102)
                      · have h := h2 hc
                        clear h1 h2
                        refine zr_iconst C 0 dL_arePlacesRight_89 (by decide) ?_
                        exact zr_zret C rfl (Or.inl rfl) ⟨_, rfl, h⟩ (Nat.le_of_ble_eq_true rfl) (Nat.le_of_ble_eq_true rfl) dL_arePlacesRight_90
          exact zr_sub [1, 2, 3, 4, 0] rfl (ky112 n16 0 h0111)
        · have h := h2 hc
          clear h1 h2
          refine zr_iconst C 1 dL_arePlacesRight_23 (by decide) ?_
          refine zr_istore C [(5, .int 1), (0, .ref a0), (1, .int p1), (2, .int r2), (3, .ref q5), (4, .int y10)] dL_arePlacesRight_24 (by decide) rfl ?_
          obtain ⟨I113, ⟨n115, h0134⟩, hI133⟩ := h
          have ky135 : ∀ (n114 : Nat) (y116 : Int32) (F117 : zF), I113 n114 y116 F117 → z_w p l e ({ frames := 5, cells := 17, slots := 112, locals := 112 } : Room) s m args below meth c D cA N0 12 17 112 (MQ below (z_Qc D cA N0 (fun v T' F' => ∃ r : Int32, v = some (.int r) ∧ Post r T' F')) args s 17 112 (fun q => N0 ≤ q)) 26 [(0, .ref a0), (1, .int p1), (2, .int r2), (3, .ref q5), (4, .int y10), (5, .int y116)] [] (znm T q5 r2.toNatClampNeg 6) F117 := by
            intro n114
            induction n114 using Nat.strongRecOn with
            | _ n114 ih118 =>
              intro y116 F117 hin
              have h := hI133 n114 y116 F117 hin
              refine zr_iload C 5 dL_arePlacesRight_26 rfl ?_
              refine zr_bipush C 6 dL_arePlacesRight_28 (by decide) ?_
              obtain ⟨h1, h2⟩ := h
              refine zr_icmp_ge C 54 dL_arePlacesRight_30 (by decide) (fun hc => ?_) (fun hc => ?_)
              · have h := h1 hc
                clear h1 h2
                refine zr_iinc C [(4, .int (y10 + 1)), (0, .ref a0), (1, .int p1), (2, .int r2), (3, .ref q5), (5, .int y116)] 4 dL_arePlacesRight_54 rfl rfl (by decide) rfl ?_
                refine zr_goto C 17 dL_arePlacesRight_57 (by decide) ?_
                obtain ⟨n120, hlt, h⟩ := h
                exact zr_sub [1, 2, 3, 4, 0] rfl (ih12 n120 hlt (y10 + 1) F117 h)
              · have h := h2 hc
                clear h1 h2
                refine zr_aload_n C 3 dL_arePlacesRight_33 rfl rfl ?_
                refine zr_iload C 4 dL_arePlacesRight_34 rfl ?_
                obtain ⟨hi121, x122, hv123, h⟩ := h
                refine zr_aald C z_mq (by decide) rfl rfl hi121 hv123 dL_arePlacesRight_36 ?_
                refine zr_iload C 5 dL_arePlacesRight_37 rfl ?_
                refine zr_aload_n C 0 dL_arePlacesRight_39 rfl rfl ?_
                refine zr_iload C 4 dL_arePlacesRight_40 rfl ?_
                refine zr_iload C 5 dL_arePlacesRight_42 rfl ?_
                obtain ⟨hT124, h⟩ := h
                refine zr_callV (As := [.int y10, .int y116]) (r := (RX4, TX4, 4)) C (k_X4_ofBooking0 h) ok_L_40 zq_378 zq_379 hT124 (by decide) rfl rfl ⟨by decide, (Nat.le_of_ble_eq_true rfl)⟩ ⟨(Nat.le_of_ble_eq_true rfl), (Nat.le_of_ble_eq_true rfl)⟩ (Nat.le_of_ble_eq_true rfl) dL_arePlacesRight_44 (fun v130 U131 G132 hq => ?_)
                clear h
                · obtain ⟨r125, rfl, rfl, rfl, h⟩ := hq
                  obtain ⟨n126, hT127, hi128, h⟩ := h
                  refine zr_iast C rfl hT127 hi128 dL_arePlacesRight_47 ?_
                  refine zr_iinc C [(5, .int (y116 + 1)), (0, .ref a0), (1, .int p1), (2, .int r2), (3, .ref q5), (4, .int y10)] 5 dL_arePlacesRight_48 rfl rfl (by decide) rfl ?_
                  refine zr_goto C 26 dL_arePlacesRight_51 (by decide) ?_
                  obtain ⟨n129, hlt, h⟩ := h
                  exact zr_sub [1, 2, 3, 4, 5, 0] rfl (ih118 n129 hlt (y116 + 1) (zu F117 x122 (y116).toNatClampNeg (.int r125)) h)
          exact zr_sub [1, 2, 3, 4, 5, 0] rfl (ky135 n115 1 F11 h0134)
    exact zr_sub [3, 4, 2, 1, 0] rfl (ky138 n9 0 (zmm F q5 r2.toNatClampNeg) h0137)
