/-! what holds of a booking between calls; how a day keeps it -/
def bkP (x1 x2 x3 x4 x6 x7 x8 xa xb : Int32) (s t u : Int) : Prop :=
  ((∃ j : Nat, j < 4 ∧ x1 = nI j) ∧ ∃ j : Nat, j < 4 ∧ x2 = nI j) ∧
  (1 ≤ x3.toInt ∧ x3.toInt ≤ x4.toInt ∧ x4.toInt ≤ 99) ∧
  (0 ≤ x7.toInt ∧ x7.toInt ≤ 3) ∧
  (x6 = 0 ∨ x6 = 1 ∨ x6 = 2 ∨ x6 = 3 ∨ x6 = 4) ∧
  (x6 = 0 → s ≤ x3.toInt) ∧ (x6 = 1 → x3.toInt ≤ t ∧ t ≤ x4.toInt) ∧ (x6 = 2 → x4.toInt < t) ∧
  ((¬ x6 = 1 → xa = 0) ∧ (xa = 0 ∨ xa = 1)) ∧
  (0 ≤ x8.toInt ∧ (x8.toInt ≤ 0 ∨ (x8.toInt ≤ u - x3.toInt + 1 ∧ x8.toInt ≤ x4.toInt - x3.toInt + 1))) ∧
  ((x6 = 0 ∨ x6 = 1 ∨ x6 = 2) → xb = 0)
/-- one that is booked starts on s or later; one that runs has t within its days, one that is over ended ahead of t; u is the last day of which it is told whether it was pulled -/
def bkI (b : Nat → Int32) (s t u : Int) : Prop := bkP (b 1) (b 2) (b 3) (b 4) (b 6) (b 7) (b 8) (b 10) (b 11) s t u
/-- booked, running or over -/
def p_lv (b : Nat → Int32) : Prop := b 6 = 0 ∨ b 6 = 1 ∨ b 6 = 2
theorem bk_end {b : Nat → Int32} {t : Int32} {t0 : Int} (ht : t.toInt = t0 + 1) (h : bkI b (t0 + 1) t0 t0) : bkI (f_end b t) (t0 + 1) (t0 + 1) t0 := by
  obtain ⟨h1, h2, h3, h4, h5, h6, h7, h8, h9, h10⟩ := h
  unfold f_end
  by_cases q : b 6 = 1 ∧ ¬ t ≤ b 4
  · rw [if_pos q]
    obtain ⟨q1, q2⟩ := q
    rw [Int32.le_iff_toInt_le, ht] at q2
    show bkP (b 1) (b 2) (b 3) (b 4) 2 (b 7) (b 8) 0 (b 11) _ _ _
    exact ⟨h1, h2, h3, Or.inr (Or.inr (Or.inl rfl)), fun z => absurd z (by decide), fun z => absurd z (by decide), fun _ => by omega, ⟨fun _ => rfl, Or.inl rfl⟩, h9, fun _ => h10 (Or.inr (Or.inl q1))⟩
  · rw [if_neg q]
    refine ⟨h1, h2, h3, h4, h5, fun z => ?_, fun z => ?_, h8, h9, h10⟩
    · have g := h6 z
      have q2 : t ≤ b 4 := Classical.byContradiction fun g => q ⟨z, g⟩
      rw [Int32.le_iff_toInt_le, ht] at q2
      omega
    · have g := h7 z
      omega
theorem bk_start {b : Nat → Int32} {t : Int32} {t1 u : Int} (ht : t.toInt = t1) (h : bkI b t1 t1 u) : bkI (f_start b t) (t1 + 1) t1 u := by
  obtain ⟨h1, h2, h3, h4, h5, h6, h7, h8, h9, h10⟩ := h
  unfold f_start
  by_cases q : b 6 = 0 ∧ b 3 = t
  · rw [if_pos q]
    obtain ⟨q1, q2⟩ := q
    have e3 : (b 3).toInt = t1 := by rw [q2]; exact ht
    show bkP (b 1) (b 2) (b 3) (b 4) 1 (b 7) (b 8) (b 10) (b 11) _ _ _
    exact ⟨h1, h2, h3, Or.inr (Or.inl rfl), fun z => absurd z (by decide), fun _ => by omega, fun z => absurd z (by decide), ⟨fun z => absurd rfl z, h8.2⟩, h9, fun _ => h10 (Or.inl q1)⟩
  · rw [if_neg q]
    refine ⟨h1, h2, h3, h4, fun z => ?_, h6, h7, h8, h9, h10⟩
    have g := h5 z
    have ne : ¬ (b 3).toInt = t1 := fun g2 => q ⟨z, Int32.toInt_inj.mp (g2.trans ht.symm)⟩
    omega
theorem bk_show {b : Nat → Int32} {r : Int32} {t0 : Int} (h : bkI b (t0 + 2) (t0 + 1) t0) : bkI (f_show b r) (t0 + 2) (t0 + 1) (t0 + 1) := by
  obtain ⟨h1, h2, h3, h4, h5, h6, h7, h8, h9, h10⟩ := h
  have h9' : 0 ≤ (b 8).toInt ∧ ((b 8).toInt ≤ 0 ∨ ((b 8).toInt ≤ (t0 + 1) - (b 3).toInt + 1 ∧ (b 8).toInt ≤ (b 4).toInt - (b 3).toInt + 1)) := by omega
  unfold f_show
  by_cases q : b 6 = 1
  · rw [if_pos q]
    by_cases r0 : r = 0
    · rw [if_pos r0]
      show bkP (b 1) (b 2) (b 3) (b 4) (b 6) (b 7) (b 8) 1 (b 11) _ _ _
      exact ⟨h1, h2, h3, h4, h5, h6, h7, ⟨fun z => absurd q z, Or.inr rfl⟩, h9', h10⟩
    · rw [if_neg r0]
      show bkP (b 1) (b 2) (b 3) (b 4) (b 6) (b 7) (b 8 + 1) 0 (b 11) _ _ _
      have g := h6 q
      have e8 : (b 8 + 1).toInt = (b 8).toInt + 1 := by
        rw [Int32.toInt_add, show (1 : Int32).toInt = 1 by decide, Int.bmod_def]
        omega
      exact ⟨h1, h2, h3, h4, h5, h6, h7, ⟨fun _ => rfl, Or.inl rfl⟩, by rw [e8]; omega, h10⟩
  · rw [if_neg q]
    exact ⟨h1, h2, h3, h4, h5, h6, h7, h8, h9', h10⟩
theorem y_add {x : Int32} {k : Nat} (hk : k < 1000) (h0 : -1000 ≤ x.toInt) (h1 : x.toInt ≤ 1000) : (x + nI k).toInt = x.toInt + k := by
  rw [Int32.toInt_add, y_nIc hk, Int.bmod_def]
  omega
theorem bk_settle {n : Nat} {bp : Nat → Nat} {B : Nat → Nat → Int32} {i : Nat} {t0 : Int} (s : Option Nat) (h : bkI (B i) (t0 + 1) (t0 + 1) t0) (h0 : B i 6 = 0) : bkI (f_settle n bp B i s).2 (t0 + 1) (t0 + 1) t0 := by
  cases s with
  | some k => exact h
  | none =>
    obtain ⟨h1, h2, h3, h4, h5, h6, h7, h8, h9, h10⟩ := h
    by_cases q : (¬ 3 ≤ B i 7 ∧ ¬ 99 < B i 4 + 2) ∧ ¬ p_tk n B (B i 1) (B i 2) (B i 3 + 2) (B i 4 + 2) (some i)
    · rw [show f_settle n bp B i none = (bp i, f_move (B i)) from f_if_t q]
      have g := h5 h0
      obtain ⟨⟨q7, q4⟩, -⟩ := q
      have e3 : (B i 3 + 2).toInt = (B i 3).toInt + 2 := y_add (k := 2) (by omega) (by omega) (by omega)
      have e4 : (B i 4 + 2).toInt = (B i 4).toInt + 2 := y_add (k := 2) (by omega) (by omega) (by omega)
      have e7 : (B i 7 + 1).toInt = (B i 7).toInt + 1 := y_add (k := 1) (by omega) (by omega) (by omega)
      rw [Int32.le_iff_toInt_le, show (3 : Int32).toInt = 3 by decide] at q7
      rw [Int32.lt_iff_toInt_lt, e4, show (99 : Int32).toInt = 99 by decide] at q4
      show bkP (B i 1) (B i 2) (B i 3 + 2) (B i 4 + 2) (B i 6) (B i 7 + 1) (B i 8) (B i 10) (B i 11) _ _ _
      exact ⟨h1, by rw [e3, e4]; omega, by rw [e7]; omega, h4, fun _ => by rw [e3]; omega, fun z => absurd (h0.symm.trans z) (by decide), fun z => absurd (h0.symm.trans z) (by decide), h8, ⟨h9.1, Or.inl (by omega)⟩, h10⟩
    · rw [show f_settle n bp B i none = (bp i, ub (B i) 6 4) from f_if_f q]
      show bkP (B i 1) (B i 2) (B i 3) (B i 4) 4 (B i 7) (B i 8) (B i 10) (B i 11) _ _ _
      exact ⟨h1, h2, h3, Or.inr (Or.inr (Or.inr (Or.inr rfl))), fun z => absurd z (by decide), fun z => absurd z (by decide), fun z => absurd z (by decide), ⟨fun _ => h8.1 (by rw [h0]; decide), h8.2⟩, h9, fun z => absurd z (by decide)⟩
section INV
variable {n np : Nat} {W : Nat → Nat → Nat → Nat} {fm : Nat → Int32} {V C A : Nat → Nat → Nat → Int32} {td t : Int32} {t0 : Int} {bp : Nat → Nat} {B : Nat → Nat → Int32}
theorem bk_dl {i : Nat} (ht : t.toInt = t0 + 1) (h : bkI (B i) (t0 + 1) (t0 + 1) t0) : bkI (f_dl n np W fm V C A t i bp B).2.1 (t0 + 2) (t0 + 1) t0 := by
  have e2 : t0 + 2 = t0 + 1 + 1 := by omega
  rw [e2]
  unfold f_dl
  by_cases q : p_md (W 4 (bp i) 0) (C (bp i)) (V (bp i)) (B i) (ld (B i)) t
  · rw [f_if_t q]
    exact bk_start ht (bk_settle _ h q.1)
  · rw [f_if_f q]
    exact bk_start ht h
theorem dls_bk (ht : t.toInt = t0 + 1) (h : ∀ i : Nat, i < n → bkI (B i) (t0 + 1) (t0 + 1) t0) : ∀ k : Nat, k ≤ n → ∀ i : Nat, i < n → (i < k → bkI ((f_dls n np W fm V C A t bp B k).2.1 i) (t0 + 2) (t0 + 1) t0) ∧ (k ≤ i → (f_dls n np W fm V C A t bp B k).2.1 i = B i)
  | 0, _, i, _ => ⟨fun z => absurd z (Nat.not_lt_zero _), fun _ => rfl⟩
  | k + 1, hk, i, hi => by
    have ih := dls_bk ht h k (by omega)
    have e : (f_dls n np W fm V C A t bp B (k + 1)).2.1 i = upd1 (f_dls n np W fm V C A t bp B k).2.1 k (f_dl n np W fm V C A t k (f_dls n np W fm V C A t bp B k).1 (f_dls n np W fm V C A t bp B k).2.1).2.1 i := rfl
    rw [e]
    by_cases g : i = k
    · subst g
      rw [upd1_s]
      refine ⟨fun _ => bk_dl ht ?_, fun z => by omega⟩
      rw [(ih i hi).2 (Nat.le_refl _)]
      exact h i hi
    · rw [upd1_n g]
      exact ⟨fun z => (ih i hi).1 (by omega), fun z => (ih i hi).2 (by omega)⟩
/-- no two that are booked, run or are over have the same day at the same place -/
def p_dj (n : Nat) (B : Nat → Nat → Int32) : Prop := ∀ i j : Nat, i < n → j < n → ¬ i = j → p_lv (B i) → p_lv (B j) → B i 1 = B j 1 → B i 2 = B j 2 → (B i 4).toInt < (B j 3).toInt ∨ (B j 4).toInt < (B i 3).toInt
theorem dj_map {B' : Nat → Nat → Int32} (h : p_dj n B) (h' : ∀ i : Nat, i < n → p_lv (B' i) → p_lv (B i) ∧ B' i 1 = B i 1 ∧ B' i 2 = B i 2 ∧ B' i 3 = B i 3 ∧ B' i 4 = B i 4) : p_dj n B' := fun i j hi hj hne li lj e1 e2 => by
  obtain ⟨a0, a1, a2, a3, a4⟩ := h' i hi li
  obtain ⟨b0, b1, b2, b3, b4⟩ := h' j hj lj
  rw [a3, a4, b3, b4]
  exact h i j hi hj hne a0 b0 (a1.symm.trans (e1.trans b1)) (a2.symm.trans (e2.trans b2))
theorem dj_row {k : Nat} {b : Nat → Int32} (h : p_dj n B) (h' : ∀ j : Nat, j < n → ¬ j = k → p_lv b → p_lv (B j) → b 1 = B j 1 → b 2 = B j 2 → (b 4).toInt < (B j 3).toInt ∨ (B j 4).toInt < (b 3).toInt) : p_dj n (upd1 B k b) := fun i j hi hj hne li lj e1 e2 => by
  by_cases gi : i = k
  · have gj : ¬ j = k := fun g => hne (gi.trans g.symm)
    rw [gi, upd1_s] at li e1 e2 ⊢
    rw [upd1_n gj] at lj e1 e2 ⊢
    exact h' j hj gj li lj e1 e2
  · rw [upd1_n gi] at li e1 e2 ⊢
    by_cases gj : j = k
    · rw [gj, upd1_s] at lj e1 e2 ⊢
      exact (h' i hi gi lj li e1.symm e2.symm).symm
    · rw [upd1_n gj] at lj e1 e2 ⊢
      exact h i j hi hj hne li lj e1 e2
theorem lv_end {b : Nat → Int32} {t : Int32} (h : p_lv (f_end b t)) : p_lv b := by
  by_cases q : b 6 = 1 ∧ ¬ t ≤ b 4
  · exact Or.inr (Or.inl q.1)
  · unfold f_end at h
    rw [if_neg q] at h
    exact h
theorem lv_start {b : Nat → Int32} {t : Int32} (h : p_lv (f_start b t)) : p_lv b := by
  by_cases q : b 6 = 0 ∧ b 3 = t
  · exact Or.inl q.1
  · unfold f_start at h
    rw [if_neg q] at h
    exact h
theorem six_start {b : Nat → Int32} {t : Int32} : f_start b t 6 = 4 ↔ b 6 = 4 := by
  unfold f_start
  by_cases q : b 6 = 0 ∧ b 3 = t
  · rw [if_pos q, ub_s, q.1]
    decide
  · rw [if_neg q]
theorem six_end {b : Nat → Int32} {t : Int32} : f_end b t 6 = 4 ↔ b 6 = 4 := by
  unfold f_end
  by_cases q : b 6 = 1 ∧ ¬ t ≤ b 4
  · rw [if_pos q, ub_n (by decide), ub_s, q.1]
    decide
  · rw [if_neg q]
theorem six_show {b : Nat → Int32} {r : Int32} : f_show b r 6 = b 6 := f_show_n (by decide) (by decide)
theorem dj_dl {k : Nat} (h : p_dj n B) (hk : k < n) (hb : bkI (B k) (t0 + 1) (t0 + 1) t0) (ho : ∀ j : Nat, j < n → B j 6 = 2 → (B j 4).toInt < t0 + 1) : p_dj n (upd1 B k (f_dl n np W fm V C A t k bp B).2.1) := by
  unfold f_dl
  have same : ∀ b : Nat → Int32, (p_lv b → p_lv (B k)) → b 1 = B k 1 → b 2 = B k 2 → b 3 = B k 3 → b 4 = B k 4 → p_dj n (upd1 B k b) := fun b l e1 e2 e3 e4 => dj_row h fun j hj hne lb lj f1 f2 => by
    rw [e3, e4]
    exact h k j hk hj (fun g => hne g.symm) (l lb) lj (e1.symm.trans f1) (e2.symm.trans f2)
  by_cases q : p_md (W 4 (bp k) 0) (C (bp k)) (V (bp k)) (B k) (ld (B k)) t
  · rw [f_if_t q]
    have q0 : B k 6 = 0 := q.1
    generalize f_fst (p_cs n W fm V C A bp B t k (ld (B k))) np = s
    show p_dj n (upd1 B k (f_start (f_settle n bp B k s).2 t))
    cases s with
    | some i => exact same _ (fun _ => Or.inl q0) (f_start_n (by decide)) (f_start_n (by decide)) (f_start_n (by decide)) (f_start_n (by decide))
    | none =>
      by_cases p : (¬ 3 ≤ B k 7 ∧ ¬ 99 < B k 4 + 2) ∧ ¬ p_tk n B (B k 1) (B k 2) (B k 3 + 2) (B k 4 + 2) (some k)
      · rw [show f_settle n bp B k none = (bp k, f_move (B k)) from f_if_t p]
        obtain ⟨h1, h2, h3, h4, h5, -⟩ := hb
        have g := h5 q0
        have e3 : (B k 3 + 2).toInt = (B k 3).toInt + 2 := y_add (k := 2) (by omega) (by omega) (by omega)
        have e4 : (B k 4 + 2).toInt = (B k 4).toInt + 2 := y_add (k := 2) (by omega) (by omega) (by omega)
        refine dj_row h fun j hj hne lb lj f1 f2 => ?_
        rw [f_start_n (by decide)] at f1 f2
        rw [f_start_n (by decide), f_start_n (by decide)]
        have f1 : B k 1 = B j 1 := f1
        have f2 : B k 2 = B j 2 := f2
        show (B k 4 + 2).toInt < _ ∨ _ < (B k 3 + 2).toInt
        rcases lj with l | l | l
        · refine Classical.byContradiction fun z => p.2 ⟨j, hj, fun w => hne (Option.some.inj w), Or.inl l, ⟨f1.symm, f2.symm⟩, fun w => z (Or.inl (Int32.lt_iff_toInt_lt.mp w)), fun w => z (Or.inr (Int32.lt_iff_toInt_lt.mp w))⟩
        · refine Classical.byContradiction fun z => p.2 ⟨j, hj, fun w => hne (Option.some.inj w), Or.inr l, ⟨f1.symm, f2.symm⟩, fun w => z (Or.inl (Int32.lt_iff_toInt_lt.mp w)), fun w => z (Or.inr (Int32.lt_iff_toInt_lt.mp w))⟩
        · have := ho j hj l
          rw [e3]
          omega
      · rw [show f_settle n bp B k none = (bp k, ub (B k) 6 4) from f_if_f p]
        exact same _ (fun _ => Or.inl q0) (f_start_n (by decide)) (f_start_n (by decide)) (f_start_n (by decide)) (f_start_n (by decide))
  · rw [f_if_f q]
    exact same _ lv_start (f_start_n (by decide)) (f_start_n (by decide)) (f_start_n (by decide)) (f_start_n (by decide))
/-- how many -/
noncomputable def f_cn (p : Nat → Prop) : Nat → Nat
  | 0 => 0
  | k + 1 => f_if (p k) (f_cn p k + 1) (f_cn p k)
theorem cn_le {p : Nat → Prop} : ∀ n : Nat, f_cn p n ≤ n
  | 0 => Nat.le_refl _
  | k + 1 => by
    have ih := cn_le (p := p) k
    by_cases g : p k
    · rw [show f_cn p (k + 1) = f_cn p k + 1 from f_if_t g]; omega
    · rw [show f_cn p (k + 1) = f_cn p k from f_if_f g]; omega
theorem cnt_cn {p : Nat → Prop} : ∀ n : Nat, f_cnt p 0 n = nI (f_cn p n)
  | 0 => rfl
  | k + 1 => by
    have ih := cnt_cn (p := p) k
    by_cases g : p k
    · rw [show f_cn p (k + 1) = f_cn p k + 1 from f_if_t g, show f_cnt p 0 (k + 1) = f_cnt p 0 k + 1 from f_if_t g, ih, nI_succ]
    · rw [show f_cn p (k + 1) = f_cn p k from f_if_f g, show f_cnt p 0 (k + 1) = f_cnt p 0 k from f_if_f g, ih]
theorem cn_eq {p q : Nat → Prop} : ∀ n : Nat, (∀ i : Nat, i < n → (p i ↔ q i)) → f_cn p n = f_cn q n
  | 0, _ => rfl
  | k + 1, h => by
    have ih := cn_eq k fun i hi => h i (by omega)
    have hk := h k (by omega)
    by_cases g : p k
    · rw [show f_cn p (k + 1) = f_cn p k + 1 from f_if_t g, show f_cn q (k + 1) = f_cn q k + 1 from f_if_t (hk.mp g), ih]
    · rw [show f_cn p (k + 1) = f_cn p k from f_if_f g, show f_cn q (k + 1) = f_cn q k from f_if_f (fun z => g (hk.mpr z)), ih]
theorem cn_one {p q : Nat → Prop} {m : Nat} : ∀ n : Nat, (∀ i : Nat, i < n → ¬ i = m → (p i ↔ q i)) → f_cn p n ≤ f_cn q n + 1
  | 0, _ => Nat.zero_le _
  | k + 1, h => by
    by_cases e : k = m
    · have ih : f_cn p k = f_cn q k := cn_eq k fun i hi => h i (by omega) (by omega)
      have a1 : f_cn p (k + 1) ≤ f_cn p k + 1 := by
        by_cases g : p k
        · rw [show f_cn p (k + 1) = f_cn p k + 1 from f_if_t g]; omega
        · rw [show f_cn p (k + 1) = f_cn p k from f_if_f g]; omega
      have a2 : f_cn q k ≤ f_cn q (k + 1) := by
        by_cases g : q k
        · rw [show f_cn q (k + 1) = f_cn q k + 1 from f_if_t g]; omega
        · rw [show f_cn q (k + 1) = f_cn q k from f_if_f g]; omega
      omega
    · have ih := cn_one k fun i hi => h i (by omega)
      have hk := h k (by omega) e
      by_cases g : p k
      · rw [show f_cn p (k + 1) = f_cn p k + 1 from f_if_t g, show f_cn q (k + 1) = f_cn q k + 1 from f_if_t (hk.mp g)]; omega
      · rw [show f_cn p (k + 1) = f_cn p k from f_if_f g, show f_cn q (k + 1) = f_cn q k from f_if_f (fun z => g (hk.mpr z))]; omega
/-- the price and how often it was moved: as before, or once more and a fifth dearer -/
def p_pm (b b' : Nat → Int32) : Prop := (b' 7 = b 7 ∧ b' 5 = b 5) ∨ (b' 7 = b 7 + 1 ∧ b' 5 = b 5 + b 5 / 5)
theorem pm_dl {k : Nat} : p_pm (B k) (f_dl n np W fm V C A t k bp B).2.1 := by
  unfold f_dl
  by_cases q : p_md (W 4 (bp k) 0) (C (bp k)) (V (bp k)) (B k) (ld (B k)) t
  · rw [f_if_t q]
    generalize f_fst (p_cs n W fm V C A bp B t k (ld (B k))) np = s
    show p_pm (B k) (f_start (f_settle n bp B k s).2 t)
    unfold p_pm
    rw [f_start_n (by decide), f_start_n (by decide)]
    cases s with
    | some i => exact Or.inl ⟨rfl, rfl⟩
    | none =>
      by_cases p : (¬ 3 ≤ B k 7 ∧ ¬ 99 < B k 4 + 2) ∧ ¬ p_tk n B (B k 1) (B k 2) (B k 3 + 2) (B k 4 + 2) (some k)
      · rw [show f_settle n bp B k none = (bp k, f_move (B k)) from f_if_t p]
        exact Or.inr ⟨rfl, rfl⟩
      · rw [show f_settle n bp B k none = (bp k, ub (B k) 6 4) from f_if_f p]
        exact Or.inl ⟨rfl, rfl⟩
  · rw [f_if_f q]
    show p_pm (B k) (f_start (B k) t)
    unfold p_pm
    rw [f_start_n (by decide), f_start_n (by decide)]
    exact Or.inl ⟨rfl, rfl⟩
theorem lv_show {b : Nat → Int32} {r : Int32} (h : p_lv (f_show b r)) : p_lv b := by
  unfold p_lv at h ⊢
  rw [six_show] at h
  exact h
theorem pm_show {b0 b : Nat → Int32} {r : Int32} (h : p_pm b0 b) : p_pm b0 (f_show b r) := by
  unfold p_pm at h ⊢
  rw [f_show_n (j := 7) (by decide) (by decide), f_show_n (j := 5) (by decide) (by decide)]
  exact h
theorem pm_end {b b' : Nat → Int32} {t : Int32} (h : p_pm (f_end b t) b') : p_pm b b' := by
  unfold p_pm at h ⊢
  rw [f_end_n (j := 7) (by decide) (by decide), f_end_n (j := 5) (by decide) (by decide)] at h
  exact h
theorem dls_inv (ht : t.toInt = t0 + 1) (h : ∀ i : Nat, i < n → bkI (B i) (t0 + 1) (t0 + 1) t0) (hd : p_dj n B) : ∀ k : Nat, k ≤ n → p_dj n (f_dls n np W fm V C A t bp B k).2.1 ∧ (∀ i : Nat, i < n → p_pm (B i) ((f_dls n np W fm V C A t bp B k).2.1 i)) ∧ ∃ c : Nat, c ≤ k ∧ (f_dls n np W fm V C A t bp B k).2.2 = nI c ∧ f_cn (fun i => (f_dls n np W fm V C A t bp B k).2.1 i 6 = 4) n ≤ f_cn (fun i => B i 6 = 4) n + c
  | 0, _ => ⟨hd, fun i _ => Or.inl ⟨rfl, rfl⟩, 0, Nat.le_refl _, rfl, Nat.le_refl _⟩
  | k + 1, hk => by
    obtain ⟨i1, i2, c, hc, i3, i4⟩ := dls_inv ht h hd k (by omega)
    have i5 := dls_bk (np := np) (W := W) (fm := fm) (V := V) (C := C) (A := A) (bp := bp) ht h k (by omega)
    have eB : (f_dls n np W fm V C A t bp B (k + 1)).2.1 = upd1 (f_dls n np W fm V C A t bp B k).2.1 k (f_dl n np W fm V C A t k (f_dls n np W fm V C A t bp B k).1 (f_dls n np W fm V C A t bp B k).2.1).2.1 := rfl
    have eC : (f_dls n np W fm V C A t bp B (k + 1)).2.2 = (f_dls n np W fm V C A t bp B k).2.2 + (f_dl n np W fm V C A t k (f_dls n np W fm V C A t bp B k).1 (f_dls n np W fm V C A t bp B k).2.1).2.2 := rfl
    rw [eB, eC, i3]
    generalize hs : f_dls n np W fm V C A t bp B k = s at i1 i2 i3 i4 i5
    have hk1 : k < n := by omega
    have ek : s.2.1 k = B k := (i5 k hk1).2 (Nat.le_refl _)
    have hbk : bkI (s.2.1 k) (t0 + 1) (t0 + 1) t0 := by rw [ek]; exact h k hk1
    have hov : ∀ j : Nat, j < n → s.2.1 j 6 = 2 → (s.2.1 j 4).toInt < t0 + 1 := fun j hj z => by
      by_cases g : j < k
      · exact ((i5 j hj).1 g).2.2.2.2.2.2.1 z
      · rw [(i5 j hj).2 (by omega)] at z ⊢
        exact (h j hj).2.2.2.2.2.2.1 z
    refine ⟨dj_dl i1 hk1 hbk hov, fun i hi => ?_, ?_⟩
    · by_cases g : i = k
      · rw [g, upd1_s]
        have := pm_dl (n := n) (np := np) (W := W) (fm := fm) (V := V) (C := C) (A := A) (t := t) (bp := s.1) (B := s.2.1) (k := k)
        rw [ek] at this
        exact this
      · rw [upd1_n g]
        exact i2 i hi
    · by_cases q : p_md (W 4 (s.1 k) 0) (C (s.1 k)) (V (s.1 k)) (s.2.1 k) (ld (s.2.1 k)) t
      · have e2 : (f_dl n np W fm V C A t k s.1 s.2.1).2.2 = 1 := by
          unfold f_dl
          rw [f_if_t q]
        refine ⟨c + 1, by omega, by rw [e2, nI_succ], ?_⟩
        have := cn_one (p := fun i => upd1 s.2.1 k (f_dl n np W fm V C A t k s.1 s.2.1).2.1 i 6 = 4) (q := fun i => s.2.1 i 6 = 4) (m := k) n fun i hi hne => by
          show upd1 s.2.1 k _ i 6 = 4 ↔ s.2.1 i 6 = 4
          rw [upd1_n hne]
        omega
      · have e2 : (f_dl n np W fm V C A t k s.1 s.2.1).2.2 = 0 := by
          unfold f_dl
          rw [f_if_f q]
        have e3 : (f_dl n np W fm V C A t k s.1 s.2.1).2.1 = f_start (s.2.1 k) t := by
          unfold f_dl
          rw [f_if_f q]
        refine ⟨c, by omega, by rw [e2]; exact Int32.add_zero _, ?_⟩
        have := cn_eq (p := fun i => upd1 s.2.1 k (f_dl n np W fm V C A t k s.1 s.2.1).2.1 i 6 = 4) (q := fun i => s.2.1 i 6 = 4) n fun i hi => by
          show upd1 s.2.1 k _ i 6 = 4 ↔ s.2.1 i 6 = 4
          by_cases g : i = k
          · rw [g, upd1_s, e3]
            exact six_start
          · rw [upd1_n g]
        omega
/-- a day that begins keeps what holds of the bookings -/
theorem day_inv (h0 : td.toInt = t0) (h1 : 0 ≤ t0) (h2 : t0 ≤ 98) (hb : ∀ i : Nat, i < n → bkI (B i) (t0 + 1) t0 t0) (hd : p_dj n B) :
    (∀ i : Nat, i < n → bkI ((f_day n np W fm V C A (td + 1) bp B).2.1 i) (t0 + 2) (t0 + 1) (t0 + 1)) ∧ p_dj n (f_day n np W fm V C A (td + 1) bp B).2.1 ∧ (∀ i : Nat, i < n → p_pm (B i) ((f_day n np W fm V C A (td + 1) bp B).2.1 i)) ∧ ∃ c : Nat, c ≤ n ∧ (f_day n np W fm V C A (td + 1) bp B).2.2 = nI c ∧ f_cn (fun i => (f_day n np W fm V C A (td + 1) bp B).2.1 i 6 = 4) n ≤ f_cn (fun i => B i 6 = 4) n + c := by
  have ht : (td + 1).toInt = t0 + 1 := by
    rw [Int32.toInt_add, h0, show (1 : Int32).toInt = 1 by decide, Int.bmod_def]
    omega
  have b1 : ∀ i : Nat, i < n → bkI (f_end (B i) (td + 1)) (t0 + 1) (t0 + 1) t0 := fun i hi => bk_end ht (hb i hi)
  have d1 : p_dj n (fun i => f_end (B i) (td + 1)) := dj_map hd fun i hi l => ⟨lv_end l, f_end_n (by decide) (by decide), f_end_n (by decide) (by decide), f_end_n (by decide) (by decide), f_end_n (by decide) (by decide)⟩
  obtain ⟨i1, i2, c, hc, i3, i4⟩ := dls_inv (np := np) (W := W) (fm := fm) (V := V) (C := C) (A := A) (bp := bp) ht b1 d1 n (Nat.le_refl _)
  have i5 := dls_bk (np := np) (W := W) (fm := fm) (V := V) (C := C) (A := A) (bp := bp) ht b1 n (Nat.le_refl _)
  have eD : f_day n np W fm V C A (td + 1) bp B = ((f_dls n np W fm V C A (td + 1) bp (fun i => f_end (B i) (td + 1)) n).1, fun i => f_show ((f_dls n np W fm V C A (td + 1) bp (fun i => f_end (B i) (td + 1)) n).2.1 i) (f_rs (W 4 ((f_dls n np W fm V C A (td + 1) bp (fun i => f_end (B i) (td + 1)) n).1 i) 0) (C ((f_dls n np W fm V C A (td + 1) bp (fun i => f_end (B i) (td + 1)) n).1 i)) (A ((f_dls n np W fm V C A (td + 1) bp (fun i => f_end (B i) (td + 1)) n).1 i)) (V ((f_dls n np W fm V C A (td + 1) bp (fun i => f_end (B i) (td + 1)) n).1 i) (ld ((f_dls n np W fm V C A (td + 1) bp (fun i => f_end (B i) (td + 1)) n).2.1 i))) ((f_dls n np W fm V C A (td + 1) bp (fun i => f_end (B i) (td + 1)) n).2.1 i 1) (td + 1)), (f_dls n np W fm V C A (td + 1) bp (fun i => f_end (B i) (td + 1)) n).2.2) := rfl
  rw [eD]
  generalize hs : f_dls n np W fm V C A (td + 1) bp (fun i => f_end (B i) (td + 1)) n = s at i1 i2 i3 i4 i5
  refine ⟨fun i hi => bk_show ((i5 i hi).1 hi), dj_map i1 fun i hi l => ⟨?_, f_show_n (by decide) (by decide), f_show_n (by decide) (by decide), f_show_n (by decide) (by decide), f_show_n (by decide) (by decide)⟩, fun i hi => ?_, c, hc, i3, ?_⟩
  · exact lv_show l
  · exact pm_show (pm_end (i2 i hi))
  · have a1 := cn_eq (p := fun i => f_show (s.2.1 i) (f_rs (W 4 (s.1 i) 0) (C (s.1 i)) (A (s.1 i)) (V (s.1 i) (ld (s.2.1 i))) (s.2.1 i 1) (td + 1)) 6 = 4) (q := fun i => s.2.1 i 6 = 4) n fun i hi => by
      show f_show (s.2.1 i) _ 6 = 4 ↔ s.2.1 i 6 = 4
      rw [six_show]
    have a2 := cn_eq (p := fun i => f_end (B i) (td + 1) 6 = 4) (q := fun i => B i 6 = 4) n fun i hi => six_end
    show f_cn (fun i => f_show (s.2.1 i) (f_rs (W 4 (s.1 i) 0) (C (s.1 i)) (A (s.1 i)) (V (s.1 i) (ld (s.2.1 i))) (s.2.1 i 1) (td + 1)) 6 = 4) n ≤ _
    rw [a1, ← a2]
    exact i4
end INV
