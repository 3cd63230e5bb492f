/-! what is told of a plan's bookings -/
section CNT
variable {T : zT} {F : zF} {P l e n : Nat} {ba : Nat → Nat} {W : Nat → Nat → Nat → Nat} {np lp ep : Nat} {bp : Nat → Nat} {B : Nat → Nat → Int32} {td : Int32} {fm as : Nat → Int32} {V C A : Nat → Nat → Nat → Int32}
/-- a loop over the bookings that adds to a number: its frame -/
theorem y_lp {n k : Nat} (hk : k ≤ n) (hn : n < 1000) : (nI n ≤ nI k → k = n) ∧ (¬ nI n ≤ nI k → k < n) := ⟨fun h => by
    have := (nI_leI (a := n) (b := k) (by omega) (by omega)).mp h
    omega, fun h => Nat.lt_of_not_le fun q => h ((nI_leI (a := n) (b := k) (by omega) (by omega)).mpr q)⟩
theorem s_openBookingsOf (h : zPl T F P l e n ba W np lp bp B td) (hW : zPW T F lp ep np W fm as V C A) {q : Nat} (hq : q < np) {Post : Int32 → Prop} (hk : Post (f_cnt (fun i => p_op (B i) ∧ bp i = q) 0 n)) : v_X3_openBookingsOf P (W 0 q 0) T F Post := by
  obtain ⟨g0, g1, -, -, g4, g5, g6, g7⟩ := id h
  refine ⟨fun m s y => ∃ k : Nat, k ≤ n ∧ m = n - k ∧ y.toInt = k ∧ s = f_cnt (fun i => p_op (B i) ∧ bp i = q) 0 k, ⟨n, 0, Nat.zero_le _, rfl, by decide, rfl⟩, ?_⟩
  rintro m s y ⟨k, hkn, rfl, hy, rfl⟩
  have e0 : y = nI k := y_nI hy (by omega)
  subst e0
  obtain ⟨L1, L2⟩ := y_lp hkn (by omega)
  refine ⟨g0, l, g1, g4.1, s_size g4 ⟨fun hge => by rw [L1 hge] at *; exact hk, fun hlt => ?_⟩⟩
  have hk1 := L2 hlt
  have hb := h.at hk1
  have st : ∀ v : Int32, f_cnt (fun i => p_op (B i) ∧ bp i = q) 0 (k + 1) = v → ∃ n16 : Nat, n16 < n - k ∧ ∃ k' : Nat, k' ≤ n ∧ n16 = n - k' ∧ (nI k + 1).toInt = k' ∧ v = f_cnt (fun i => p_op (B i) ∧ bp i = q) 0 k' := fun v hv => ⟨n - (k + 1), by omega, k + 1, by omega, rfl, y_inc hy (by omega), hv.symm⟩
  refine s_get g4 hk1 ⟨hb.1, s_isOpen hb (fun q1 => ⟨fun z => absurd z (by decide), fun _ => ⟨W 0 (bp k) 0, hb.2.1, fun ne => st _ (f_if_f fun z => ne (by rw [z.2])), fun eq => st _ (f_if_t ⟨q1, hW.2.2.2 _ _ (g6 k hk1).2 hq (Option.some.inj eq)⟩)⟩⟩) (fun q1 => ⟨fun _ => st _ (f_if_f fun z => q1 z.1), fun z => absurd rfl z⟩)⟩
theorem s_countInState (h : zPl T F P l e n ba W np lp bp B td) {v : Int32} {Post : Int32 → Prop} (hk : Post (f_cnt (fun i => B i 6 = v) 0 n)) : v_X3_countInState P v T F Post := by
  obtain ⟨g0, g1, -, -, g4, g5, g6, g7⟩ := id h
  refine ⟨fun m s y => ∃ k : Nat, k ≤ n ∧ m = n - k ∧ y.toInt = k ∧ s = f_cnt (fun i => B i 6 = v) 0 k, ⟨n, 0, Nat.zero_le _, rfl, by decide, rfl⟩, ?_⟩
  rintro m s y ⟨k, hkn, rfl, hy, rfl⟩
  have e0 : y = nI k := y_nI hy (by omega)
  subst e0
  obtain ⟨L1, L2⟩ := y_lp hkn (by omega)
  refine ⟨g0, l, g1, g4.1, s_size g4 ⟨fun hge => by rw [L1 hge] at *; exact hk, fun hlt => ?_⟩⟩
  have hk1 := L2 hlt
  have hb := h.at hk1
  exact s_get g4 hk1 ⟨hb.1, B k 6, hb.i 6, fun ne => ⟨n - (k + 1), by omega, k + 1, by omega, rfl, y_inc hy (by omega), (f_if_f ne).symm⟩, fun eq => ⟨n - (k + 1), by omega, k + 1, by omega, rfl, y_inc hy (by omega), (f_if_t eq).symm⟩⟩
theorem s_countOn (h : zPl T F P l e n ba W np lp bp B td) {Post : Int32 → Prop} (hk : Post (f_cnt (fun i => ¬ B i 10 = 0) 0 n)) : v_X3_countOn P T F Post := by
  obtain ⟨g0, g1, -, -, g4, g5, g6, g7⟩ := id h
  refine ⟨fun m s y => ∃ k : Nat, k ≤ n ∧ m = n - k ∧ y.toInt = k ∧ s = f_cnt (fun i => ¬ B i 10 = 0) 0 k, ⟨n, 0, Nat.zero_le _, rfl, by decide, rfl⟩, ?_⟩
  rintro m s y ⟨k, hkn, rfl, hy, rfl⟩
  have e0 : y = nI k := y_nI hy (by omega)
  subst e0
  obtain ⟨L1, L2⟩ := y_lp hkn (by omega)
  refine ⟨g0, l, g1, g4.1, s_size g4 ⟨fun hge => by rw [L1 hge] at *; exact hk, fun hlt => ?_⟩⟩
  have hk1 := L2 hlt
  have hb := h.at hk1
  exact s_get g4 hk1 ⟨hb.1, B k 10, hb.i 10, fun eq => ⟨n - (k + 1), by omega, k + 1, by omega, rfl, y_inc hy (by omega), (f_if_f fun z => z eq).symm⟩, fun ne => ⟨n - (k + 1), by omega, k + 1, by omega, rfl, y_inc hy (by omega), (f_if_t ne).symm⟩⟩
theorem s_costOfAll (h : zPl T F P l e n ba W np lp bp B td) {Post : Int32 → Prop} (hk : Post (f_sum (fun i => f_cost (B i)) n)) : v_X3_costOfAll P T F Post := by
  obtain ⟨g0, g1, -, -, g4, g5, g6, g7⟩ := id h
  refine ⟨fun m s y => ∃ k : Nat, k ≤ n ∧ m = n - k ∧ y.toInt = k ∧ s = f_sum (fun i => f_cost (B i)) k, ⟨n, 0, Nat.zero_le _, rfl, by decide, rfl⟩, ?_⟩
  rintro m s y ⟨k, hkn, rfl, hy, rfl⟩
  have e0 : y = nI k := y_nI hy (by omega)
  subst e0
  obtain ⟨L1, L2⟩ := y_lp hkn (by omega)
  refine ⟨g0, l, g1, g4.1, s_size g4 ⟨fun hge => by rw [L1 hge] at *; exact hk, fun hlt => ?_⟩⟩
  have hk1 := L2 hlt
  have hb := h.at hk1
  exact s_get g4 hk1 ⟨hb.1, s_costNow hb ⟨n - (k + 1), by omega, k + 1, by omega, rfl, y_inc hy (by omega), rfl⟩⟩
/-- a booking that is told at a place on a day: it is booked, runs, or is over -/
def p_sh (B : Nat → Int32) (land med d : Int32) : Prop := (p_op B ∨ B 6 = 2) ∧ p_in B land med ∧ p_dy B d d
noncomputable def f_at (n : Nat) (B : Nat → Nat → Int32) (land med d : Int32) : Int32 := match f_fst (fun i => p_sh (B i) land med d) n with
  | some k => nI k
  | none => -1
theorem s_bookingShownAt (h : zPl T F P l e n ba W np lp bp B td) {land med d : Int32} {Post : Int32 → Prop} (hk : Post (f_at n B land med d)) : v_X3_bookingShownAt P land med d T F Post := by
  obtain ⟨g0, g1, -, -, g4, g5, g6, g7⟩ := id h
  unfold f_at at hk
  refine ⟨fun m y => ∃ k : Nat, k ≤ n ∧ m = n - k ∧ y.toInt = k ∧ ∀ i : Nat, i < k → ¬ p_sh (B i) land med d, ⟨n, 0, Nat.zero_le _, rfl, by decide, fun i hi => by omega⟩, ?_⟩
  rintro m y ⟨k, hkn, rfl, hy, hv⟩
  have e0 : y = nI k := y_nI hy (by omega)
  subst e0
  obtain ⟨L1, L2⟩ := y_lp hkn (by omega)
  refine ⟨g0, l, g1, g4.1, s_size g4 ⟨fun hge => ?_, fun hlt => ?_⟩⟩
  · have := L1 hge
    subst this
    rw [f_fst_n hv] at hk
    exact hk
  · have hk1 := L2 hlt
    have hb := h.at hk1
    have go : ¬ p_sh (B k) land med d → ∃ n16 : Nat, n16 < n - k ∧ ∃ k' : Nat, k' ≤ n ∧ n16 = n - k' ∧ (nI k + 1).toInt = k' ∧ ∀ i : Nat, i < k' → ¬ p_sh (B i) land med d := fun q => ⟨n - (k + 1), by omega, k + 1, by omega, rfl, y_inc hy (by omega), fun i hi => by
      by_cases g : i = k
      · rw [g]; exact q
      · exact hv i (by omega)⟩
    have ok : p_sh (B k) land med d → Post (nI k) := fun q => by
      rw [f_fst_s hv q hk1] at hk
      exact hk
    refine s_get g4 hk1 ⟨hb.1, s_isOpen hb (fun q1 => ⟨fun _ => s_isIn hb (fun q2 => ⟨fun z => absurd z (by decide), fun _ => s_hasDayIn hb (fun q3 => ⟨fun z => absurd z (by decide), fun _ => ok ⟨Or.inl q1, q2, q3⟩⟩) (fun q3 => ⟨fun _ => go fun z => q3 z.2.2, fun z => absurd rfl z⟩)⟩) (fun q2 => ⟨fun _ => go fun z => q2 z.2.1, fun z => absurd rfl z⟩), fun z => absurd z (by decide)⟩) (fun q1 => ⟨fun z => absurd rfl z, fun _ => ⟨B k 6, hb.i 6, fun ne => go fun z => z.1.elim q1 ne, fun eq => s_isIn hb (fun q2 => ⟨fun z => absurd z (by decide), fun _ => s_hasDayIn hb (fun q3 => ⟨fun z => absurd z (by decide), fun _ => ok ⟨Or.inr eq, q2, q3⟩⟩) (fun q3 => ⟨fun _ => go fun z => q3 z.2.2, fun z => absurd rfl z⟩)⟩) (fun q2 => ⟨fun _ => go fun z => q2 z.2.1, fun z => absurd rfl z⟩)⟩⟩)⟩
def f_price (td p4 p5 p6 : Int32) : Int32 := (p6 * ((p5 - p4) + 1)) + ((if (0 : Int32) < (td - (p4 - 10)) then (td - (p4 - 10)) else (0 : Int32)) * ((p6 * ((p5 - p4) + 1)) / 10))
theorem s_priceToday (h0 : T P = some (4, 3)) (h2 : F P 2 = .int td) {p4 p5 p6 : Int32} {Post : Int32 → Prop} (hk : Post (f_price td p4 p5 p6)) : v_X3_priceToday P p4 p5 p6 T F Post := by
  refine ⟨h0, td, h2, fun y hy => ?_⟩
  subst hy
  exact hk
end CNT
