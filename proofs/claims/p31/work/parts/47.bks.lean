/-! the law's look at the bookings -/
section BKS
variable {T : zT} {F : zF} {zE : Nat} {Q : Nat → Nat} {W : Nat → Nat → Nat → Nat} {fm as : Nat → Int32} {r : Nat → Nat → Nat} {V : Nat → Nat → Nat → Int32} {CC AA : Nat → Nat → Int32} {G : Nat → Int32} {n : Nat} {bp : Nat → Nat} {B : Nat → Nat → Int32} {td : Int32} {e te nt : Nat} {ba ra : Nat → Nat} {t0 : Nat}
/-- more cells beside it -/
theorem RmX.ext {np : Nat} {T' : zT} {F' : zF} (h : RmX T F zE Q W np fm as r V CC AA G n bp B td e te nt ba ra) (k : yE (fun _ => False) T F T' F') : RmX T' F' zE Q W np fm as r V CC AA G n bp B td e te nt ba ra := by
  obtain ⟨s1, s2, s3, s4, s5, s6, s7⟩ := h.2.2.2.2.2.2
  refine h.kp k (fun _ _ g => g) (h.2.2.2.2.2.1.1.kp k (fun g => g) (fun g => g) (fun g => g) (fun _ _ g => g)) h.2.2.2.2.2.1.2.1 ⟨fun a ha g => s1 a ha ?_, s2, fun z => s3 fun w => z (k _ _ w).1, s4, s5, s6, s7⟩
  rcases g with g | g | ⟨g, g2⟩ | g
  · exact Or.inl g
  · exact Or.inr (Or.inl g)
  · exact Or.inr (Or.inr (Or.inl ⟨g, fun w => g2 (k _ _ w).1⟩))
  · exact Or.inr (Or.inr (Or.inr g))
theorem off_le {g : Int32 → Int32} {s : Int32} : ∀ k : Nat, k ≤ 500 → 0 ≤ (f_off g s k).toInt ∧ (f_off g s k).toInt ≤ k
  | 0, _ => ⟨by show 0 ≤ (0 : Int32).toInt; decide, by show (0 : Int32).toInt ≤ 0; decide⟩
  | k + 1, hk => by
    have ih := off_le (g := g) (s := s) k (by omega)
    have e : f_off g s (k + 1) = if g (s + nI k) = 0 then f_off g s k else f_off g s k + 1 := rfl
    rw [e]
    by_cases z : g (s + nI k) = 0
    · rw [if_pos z]
      omega
    · rw [if_neg z]
      have := y_add (x := f_off g s k) (k := 1) (by decide) (by omega) (by omega)
      rw [show f_off g s k + 1 = f_off g s k + nI 1 from rfl, this]
      omega
theorem sum_on {b : Nat → Nat → Int32} : ∀ m : Nat, (∀ i : Nat, i < m → b i 10 = 0 ∨ b i 10 = 1) → f_cnt (fun i => ¬ b i 10 = 0) 0 m = f_sum (fun i => b i 10) m
  | 0, _ => rfl
  | k + 1, h => by
    have ih := sum_on k fun i hi => h i (by omega)
    have e : f_sum (fun i => b i 10) (k + 1) = f_sum (fun i => b i 10) k + b k 10 := rfl
    rw [e, ← ih]
    rcases h k (by omega) with g | g
    · rw [show f_cnt (fun i => ¬ b i 10 = 0) 0 (k + 1) = f_cnt (fun i => ¬ b i 10 = 0) 0 k from f_if_f (fun z => z g), g]
      exact (Int32.add_zero _).symm
    · rw [show f_cnt (fun i => ¬ b i 10 = 0) 0 (k + 1) = f_cnt (fun i => ¬ b i 10 = 0) 0 k + 1 from f_if_t (show ¬ b k 10 = 0 by rw [g]; decide), g]
theorem s_bookings (h : RmX T F zE Q W 5 fm as r V CC AA G n bp B td e te nt ba ra) (iv : Inv n B td G CC t0) (ht : t0 ≤ 60) {Post : Int32 → zT → zF → Prop} (hp : ∀ (T' : zT) (F' : zF), yE (fun _ => False) T F T' F' → Post 1 T' F') : v_L_areBookingsRight (Q 0) T F Post := by
  have h0 := iv.1
  have hn16 := h.pl.2.2.2.2.2.1
  refine ⟨h.1.1, s_many h (j := 10) (by decide) fun q hq => ?_⟩
  rw [show f_many 5 n B td 10 = td from rfl]
  have hTq : T q = none := hq q (Nat.le_refl _)
  have kA : yE (fun _ => False) T F (zn T q (100, 5)) (zm F q (fun _ => .int 0)) := yE.nn hq
  refine ⟨fun m on cost y F1 => ∃ k : Nat, k ≤ n ∧ m = n - k ∧ y.toInt = k ∧ yE (fun _ => False) T F (zn T q (100, 5)) F1 ∧ on = f_sum (fun i => B i 10) k ∧ cost = f_sum (fun i => f_cost (B i)) k ∧ ∀ s : Nat, s < 5 → F1 q s = .int (f_cnt (fun i => B i 6 = nI s) 0 k), ⟨n, 0, Nat.zero_le _, rfl, by decide, kA, rfl, rfl, fun s _ => if_pos rfl⟩, ?_⟩
  rintro m on cost y F1 ⟨k, hk, rfl, hy, k1, rfl, rfl, hs⟩
  have e0 : y = nI k := y_nI hy (by omega)
  subst e0
  obtain ⟨L1, L2⟩ := y_lp hk (by omega)
  have r1 := h.ext k1
  refine ⟨r1.1.1, s_many r1 (j := 2) (by decide) ⟨fun hge => ?_, fun hlt => ?_⟩⟩
  · have ek := L1 hge
    subst ek
    refine ⟨fun m y => ∃ s : Nat, s ≤ 5 ∧ m = 5 - s ∧ y.toInt = s, ⟨5, 0, by decide, rfl, by decide⟩, ?_⟩
    rintro m y ⟨s, hs5, rfl, hy2⟩
    have e0 : y = nI s := y_nI hy2 (by omega)
    subst e0
    obtain ⟨M1, M2⟩ := y_lp (n := 5) hs5 (by omega)
    refine ⟨fun _ => s_many r1 (j := 8) (by decide) ⟨fun z => absurd ?_ z, fun _ => s_many r1 (j := 9) (by decide) ⟨fun z => absurd rfl z, fun _ => hp _ _ k1⟩⟩, fun hlt => ?_⟩
    · exact sum_on k fun i hi => (iv.2.1 i hi).2.2.2.2.2.2.2.1.2
    · have s5 := M2 hlt
      have e3 : (3 : Int32) + nI s = nI (3 + s) := by
        rcases (show s = 0 ∨ s = 1 ∨ s = 2 ∨ s = 3 ∨ s = 4 by omega) with rfl | rfl | rfl | rfl | rfl <;> decide
      have e4 : nI (3 + s) - 3 = nI s := by
        rcases (show s = 0 ∨ s = 1 ∨ s = 2 ∨ s = 3 ∨ s = 4 by omega) with rfl | rfl | rfl | rfl | rfl <;> decide
      rw [e3]
      refine s_many r1 (j := 3 + s) (by omega) ⟨vp_in_nI s5 (by omega), _, by rw [y_nIn (by omega)]; exact hs s s5, fun _ => ⟨5 - (s + 1), by omega, s + 1, by omega, rfl, y_inc hy2 (by omega)⟩, fun z => absurd ?_ z⟩
      unfold f_many
      rw [if_neg (by omega), if_neg (by omega), if_neg (by omega), if_pos (by omega), e4]
  · have k1n := L2 hlt
    have hb := iv.2.1 k k1n
    obtain ⟨⟨hl, hm⟩, b2, b3, b4, b5, b6, b7, b8, b9, b10⟩ := id hb
    obtain ⟨st, st5, est⟩ : ∃ st : Nat, st < 5 ∧ B k 6 = nI st := by
      rcases b4 with g | g | g | g | g
      · exact ⟨0, by decide, g⟩
      · exact ⟨1, by decide, g⟩
      · exact ⟨2, by decide, g⟩
      · exact ⟨3, by decide, g⟩
      · exact ⟨4, by decide, g⟩
    have es : (B k 4 - B k 3).toInt = (B k 4).toInt - (B k 3).toInt := by
      rw [Int32.toInt_sub, Int.bmod_def]
      omega
    have ed : ((B k 4 - B k 3) + 1).toInt = (B k 4).toInt - (B k 3).toInt + 1 := by
      rw [Int32.toInt_add, es, show (1 : Int32).toInt = 1 by decide, Int.bmod_def]
      omega
    have d0 : 0 < (B k 4 - B k 3) + 1 := by
      rw [Int32.lt_iff_toInt_lt, y_toInt0, ed]
      omega
    refine s_ofBooking r1 (j := 5) k1n (by decide) (s_ofBooking r1 (j := 3) k1n (by decide) (s_ofBooking r1 (j := 4) k1n (by decide) ?_))
    have hin : vp_in (nI st) 5 := vp_in_nI st5 (by omega)
    rw [show f_ofB bp B k 5 = nI st from est, show f_ofB bp B k 3 = B k 3 from rfl, show f_ofB bp B k 4 = B k 4 from rfl, y_nIn (show st < 1000 by omega)]
    refine ⟨hin, f_cnt (fun i => B i 6 = nI st) 0 k, hs st st5, hin, ?_⟩
    have k2 : yE (fun _ => False) T F (zn T q (100, 5)) (zu F1 q st (.int (f_cnt (fun i => B i 6 = nI st) 0 k + 1))) := k1.un hTq
    have r2 := h.ext k2
    have hs2 : ∀ s : Nat, s < 5 → zu F1 q st (.int (f_cnt (fun i => B i 6 = nI st) 0 k + 1)) q s = .int (f_cnt (fun i => B i 6 = nI s) 0 (k + 1)) := fun s s5 => by
      rw [y_zu]
      by_cases g : s = st
      · rw [if_pos ⟨rfl, g⟩, g]
        exact congrArg Value.int (f_if_t (by exact est)).symm
      · rw [if_neg (fun z => g z.2), hs s s5]
        exact congrArg Value.int (f_if_f (fun z => g ((nI_eq (by omega) (by omega)).mp (z.symm.trans est)))).symm
    generalize zu F1 q st (.int (f_cnt (fun i => B i 6 = nI st) 0 k + 1)) = F2 at k2 r2 hs2 ⊢
    refine s_ofBooking r2 (j := 10) k1n (by decide) (s_ofBooking r2 (j := 7) k1n (by decide) (s_ofBooking r2 (j := 6) k1n (by decide) ⟨fun z => ?_, True, fun _ => ⟨True, fun _ => ⟨True, fun _ => ⟨True, fun _ => ⟨fun _ => ⟨True, fun _ => ⟨True, fun _ => ?_, fun _ => trivial, fun z => s_ofBooking r2 (j := 7) k1n (by decide) ⟨fun z2 => absurd ?_ z2, fun _ => trivial⟩⟩, fun _ => trivial, fun z => s_ofBooking r2 (j := 7) k1n (by decide) (s_ofBooking r2 (j := 6) k1n (by decide) (s_ofBooking r2 (j := 9) k1n (by decide) ⟨fun z2 => absurd ?_ z2, fun _ => trivial⟩))⟩, fun z => absurd ?_ z⟩, fun _ => trivial, fun z => s_ofBooking r2 (j := 10) k1n (by decide) ⟨fun z2 => absurd ?_ z2, fun _ => trivial⟩⟩, fun _ => trivial, fun z => ⟨fun z2 => absurd z2 ?_, fun _ => trivial⟩⟩, fun _ => trivial, fun z => ⟨fun z2 => absurd z2 ?_, fun _ => ⟨fun z2 => absurd z2 ?_, fun _ => trivial⟩⟩⟩, fun _ => trivial, fun z => ⟨fun z2 => absurd z2 ?_, fun _ => trivial⟩⟩))
    · rw [z] at d0
      exact absurd d0 (by decide)
    · have n99 : (td).toInt ≤ 99 := by omega
      refine s_ofBooking r2 (j := 8) k1n (by decide) ⟨fun _ => s_ofBooking r2 (j := 9) k1n (by decide) ⟨fun z => absurd z ?_, fun _ => s_offIn r2 k1n hl ⟨by omega, by omega⟩ ⟨by omega, by omega⟩ ⟨by omega, by omega⟩ ⟨fun _ => s_swapFor r2 k1n hl ⟨True, fun _ => ⟨n - (k + 1), by omega, k + 1, by omega, rfl, y_inc hy (by omega), k2, rfl, rfl, hs2⟩, fun _ => trivial, fun z => ?_⟩, fun z => absurd ?_ z⟩⟩, fun z => absurd ?_ z⟩
      · show ¬ _ < B k 8
        have em : (if B k 4 < td then B k 4 else td).toInt ≤ (B k 4).toInt ∧ (if B k 4 < td then B k 4 else td).toInt ≤ td.toInt ∧ ((if B k 4 < td then B k 4 else td).toInt = (B k 4).toInt ∨ (if B k 4 < td then B k 4 else td).toInt = td.toInt) := by
          by_cases g : B k 4 < td
          · rw [if_pos g]
            rw [Int32.lt_iff_toInt_lt] at g
            omega
          · rw [if_neg g]
            rw [Int32.lt_iff_toInt_lt] at g
            omega
        generalize (if B k 4 < td then B k 4 else td) = mm at em ⊢
        have e1 : ((mm - B k 3) + 1).toInt = mm.toInt - (B k 3).toInt + 1 := by
          rw [Int32.toInt_add, Int32.toInt_sub, show (1 : Int32).toInt = 1 by decide, Int.bmod_def, Int.bmod_def]
          omega
        by_cases g : (0 : Int32) < (mm - B k 3) + 1
        · rw [if_pos g, Int32.lt_iff_toInt_lt, e1]
          rw [Int32.lt_iff_toInt_lt, e1, y_toInt0] at g
          omega
        · rw [if_neg g, Int32.lt_iff_toInt_lt, y_toInt0]
          rw [Int32.lt_iff_toInt_lt, e1, y_toInt0] at g
          omega
      · cases hsw : f_sw n 5 W fm r V CC AA bp B td k with
        | none =>
          rw [hsw] at z
          exact absurd (show (-1 : Int32) < 0 by decide) z
        | some o =>
          obtain ⟨ho, hc, -⟩ := f_fst_i hsw
          have hbi := (h.pl.2.2.2.2.2.2.1 k k1n).2
          obtain ⟨j4, ej⟩ := y_ld hl
          refine s_ofBooking r2 (j := 0) k1n (by decide) ⟨fun z2 => absurd ((nI_eq (by omega) (by omega)).mp z2) hc.1, fun _ => s_ofPiece r2 ho (j := 0) (by decide) (s_ofBooking r2 (j := 0) k1n (by decide) (s_ofPiece r2 hbi (j := 0) (by decide) ⟨fun z2 => absurd hc.2.1 z2, fun _ => s_ofBooking r2 (j := 1) k1n (by decide) ?_⟩))⟩
          rw [show f_ofB bp B k 1 = nI (ld (B k)) from ej]
          exact s_isFit r2 ho j4 (by omega) (by omega) (fun _ => ⟨fun _ => trivial, fun z => absurd z (by decide)⟩) (fun g => absurd hc.2.2.1 g)
      · unfold f_ofn
        have es0 : (if B k 3 < td then td else B k 3).toInt = (if td < B k 3 then B k 3 else td).toInt := by
          by_cases g : B k 3 < td
          · rw [if_pos g]
            rw [Int32.lt_iff_toInt_lt] at g
            rw [if_neg (by rw [Int32.lt_iff_toInt_lt]; omega)]
          · rw [if_neg g]
            rw [Int32.lt_iff_toInt_lt] at g
            by_cases g2 : td < B k 3
            · rw [if_pos g2]
            · rw [if_neg g2]
              rw [Int32.lt_iff_toInt_lt] at g2
              omega
        have em : 0 ≤ (if td < B k 3 then B k 3 else td).toInt ∧ (if td < B k 3 then B k 3 else td).toInt ≤ 99 := by
          by_cases g : td < B k 3
          · rw [if_pos g]; omega
          · rw [if_neg g]; omega
        generalize (if td < B k 3 then B k 3 else td) = mm at es0 em ⊢
        generalize (if B k 3 < td then td else B k 3) = s0 at es0 ⊢
        have o1 := off_le (g := fun d => f_rs (W 4 (bp k) 0) (fun q => CC (r (bp k) q)) (fun q => AA (r (bp k) q)) (V (bp k) (ld (B k))) (B k 1) d) (s := s0) ((B k 4).toInt - s0.toInt + 1).toNat (by omega)
        generalize f_off (fun d => f_rs (W 4 (bp k) 0) (fun q => CC (r (bp k) q)) (fun q => AA (r (bp k) q)) (V (bp k) (ld (B k))) (B k 1) d) s0 ((B k 4).toInt - s0.toInt + 1).toNat = oo at o1 ⊢
        have e1 : ((B k 4 - mm) + 1).toInt = (B k 4).toInt - mm.toInt + 1 := by
          rw [Int32.toInt_add, Int32.toInt_sub, show (1 : Int32).toInt = 1 by decide, Int.bmod_def, Int.bmod_def]
          omega
        by_cases g : (0 : Int32) < (B k 4 - mm) + 1
        · rw [if_pos g, Int32.le_iff_toInt_le, e1]
          rw [Int32.lt_iff_toInt_lt, e1, y_toInt0] at g
          omega
        · rw [if_neg g, Int32.le_iff_toInt_le, y_toInt0]
          rw [Int32.lt_iff_toInt_lt, e1, y_toInt0] at g
          omega
      · show B k 7 ≤ 3
        rw [Int32.le_iff_toInt_le, show (3 : Int32).toInt = 3 by decide]
        exact b3.2
    · show f_cost (B k) = 0
      have h6 : B k 6 = 4 := est.trans z
      unfold f_cost
      by_cases g : ¬ B k 11 = 0
      · rw [if_pos g]
      · rw [if_neg g, if_pos h6]
    · show f_cost (B k) = B k 5 - (B k 5 / ((B k 4 - B k 3) + 1)) * B k 8
      have s3 : st < 3 := Nat.lt_of_not_le fun w => z ((nI_leI (a := 3) (b := st) (by omega) (by omega)).mpr w)
      have h6 : B k 6 = 0 ∨ B k 6 = 1 ∨ B k 6 = 2 := by
        rw [est]
        rcases (show st = 0 ∨ st = 1 ∨ st = 2 by omega) with rfl | rfl | rfl
        · exact Or.inl rfl
        · exact Or.inr (Or.inl rfl)
        · exact Or.inr (Or.inr rfl)
      have h4 : ¬ B k 6 = 4 := by
        rcases h6 with g | g | g <;> rw [g] <;> decide
      unfold f_cost
      rw [if_neg (fun w => w (b10 h6)), if_neg h4, if_pos d0, Int32.mul_comm]
    · rw [Int32.le_iff_toInt_le, show (99 : Int32).toInt = 99 by decide]
      omega
    · exact b8.1 fun w => z (est.symm.trans w)
    · have := b7 (est.trans z)
      rw [Int32.le_iff_toInt_le]
      omega
    · have := b6 (est.trans z)
      rw [Int32.lt_iff_toInt_lt]
      omega
    · have := b6 (est.trans z)
      rw [Int32.lt_iff_toInt_lt]
      omega
    · have := b5 (est.trans z)
      rw [Int32.le_iff_toInt_le]
      omega
end BKS
