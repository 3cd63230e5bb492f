/-! what a day that begins does, as a function -/
noncomputable def f_rs (n : Nat) (C A : Nat → Nat → Int32) (V : Nat → Int32) (land d : Int32) : Int32 := f_if (p_laid n C d) (f_if (p_grd n A land d d) (f_if (p_fit n C V d) 0 3) 2) 1
theorem f_rs_p {n : Nat} {C A : Nat → Nat → Int32} {V : Nat → Int32} {land d : Int32} : p_rs n C A V land d (f_rs n C A V land d) := by
  unfold f_rs
  by_cases a : p_laid n C d
  · rw [f_if_t a]
    by_cases b : p_grd n A land d d
    · rw [f_if_t b]
      by_cases c : p_fit n C V d
      · rw [f_if_t c]; exact Or.inr (Or.inr (Or.inr ⟨a, b, c, rfl⟩))
      · rw [f_if_f c]; exact Or.inr (Or.inr (Or.inl ⟨a, b, c, rfl⟩))
    · rw [f_if_f b]; exact Or.inr (Or.inl ⟨a, b, rfl⟩)
  · rw [f_if_f a]; exact Or.inl ⟨a, rfl⟩
/-- the land of a booking as a number -/
def ld (b : Nat → Int32) : Nat := (b 1).toNatClampNeg
/-- a booking at its deadline: the piece that it gets, and its numbers -/
noncomputable def f_settle (n : Nat) (bp : Nat → Nat) (B : Nat → Nat → Int32) (i : Nat) (s : Option Nat) : Nat × (Nat → Int32) := match s with
  | some k => (k, ub (B i) 9 (B i 9 + 1))
  | none => f_if ((¬ 3 ≤ B i 7 ∧ ¬ 99 < B i 4 + 2) ∧ ¬ p_tk n B (B i 1) (B i 2) (B i 3 + 2) (B i 4 + 2) (some i)) (bp i, f_move (B i)) (bp i, ub (B i) 6 4)
section DAY
variable {T : zT} {F : zF} {P l e n : Nat} {ba : Nat → Nat} {W : Nat → Nat → Nat → Nat} {np lp ep : Nat} {bp : Nat → Nat} {B : Nat → Nat → Int32} {td : Int32} {fm as : Nat → Int32} {V C A : Nat → Nat → Nat → Int32}
theorem s_settle (h : zPl T F P l e n ba W np lp bp B td) {i : Nat} (hi : i < n) (s : Option Nat) (hs : ∀ k : Nat, s = some k → k < np) {Post : zF → Prop} (hk : ∀ F' : zF, yE (fun a => a = ba i) T F T F' → zBk T F' (ba i) (W 0 (f_settle n bp B i s).1 0) (f_settle n bp B i s).2 → (f_settle n bp B i s).1 < np → Post F') : v_X3_settle P (ba i) (s.map fun k => W 0 k 0) T F Post := by
  have hb := h.at hi
  have hbi := (h.2.2.2.2.2.2.1 i hi).2
  refine ⟨fun hn => ?_, fun y hy => ?_⟩
  · have hn : s = none := by cases s with | none => rfl | some k => cases hn
    subst hn
    have lost : ¬ ((¬ 3 ≤ B i 7 ∧ ¬ 99 < B i 4 + 2) ∧ ¬ p_tk n B (B i 1) (B i 2) (B i 3 + 2) (B i 4 + 2) (some i)) → Post (zu F (ba i) 6 (.int 4)) := fun q => by
      have e : f_settle n bp B i none = (bp i, ub (B i) 6 4) := f_if_f q
      rw [e] at hk
      exact hk _ yE.us (hb.up 6 4) hbi
    refine ⟨hb.1, s_mayMove hb (fun q1 => ⟨fun z => absurd z (by decide), fun _ => ⟨B i 1, hb.i 1, B i 2, hb.i 2, B i 3, hb.i 3, B i 4, hb.i 4, h.1, ?_⟩⟩) (fun q1 => ⟨fun _ => lost fun q => q1 q.1, fun z => absurd rfl z⟩)⟩
    refine s_isTaken h (some i) (fun j hj => by cases hj; exact hi) (fun q2 => ⟨fun _ => lost fun q => q.2 q2, fun z => absurd z (by decide)⟩) (fun q2 => ⟨fun z => absurd rfl z, fun _ => s_moveOn hb fun F' k' hb' => ?_⟩)
    have e : f_settle n bp B i none = (bp i, f_move (B i)) := f_if_t ⟨q1, q2⟩
    rw [e] at hk
    exact hk F' k' hb' hbi
  · obtain ⟨k, rfl, rfl⟩ : ∃ k : Nat, s = some k ∧ W 0 k 0 = y := by
      cases s with
      | none => cases hy
      | some k => exact ⟨k, rfl, Option.some.inj hy⟩
    exact ⟨hb.1, s_takePiece hb fun F' k' hb' => hk F' k' hb' (hs k rfl)⟩
/-- the i-th step of the deadlines -/
noncomputable def f_dl (n np : Nat) (W : Nat → Nat → Nat → Nat) (fm : Nat → Int32) (V C A : Nat → Nat → Nat → Int32) (td : Int32) (i : Nat) (bp : Nat → Nat) (B : Nat → Nat → Int32) : Nat × (Nat → Int32) × Int32 :=
  f_if (p_md (W 4 (bp i) 0) (C (bp i)) (V (bp i)) (B i) (ld (B i)) td)
    ((f_settle n bp B i (f_fst (p_cs n W fm V C A bp B td i (ld (B i))) np)).1, f_start (f_settle n bp B i (f_fst (p_cs n W fm V C A bp B td i (ld (B i))) np)).2 td, 1)
    (bp i, f_start (B i) td, 0)
/-- the deadlines of the first k -/
noncomputable def f_dls (n np : Nat) (W : Nat → Nat → Nat → Nat) (fm : Nat → Int32) (V C A : Nat → Nat → Nat → Int32) (td : Int32) (bp : Nat → Nat) (B : Nat → Nat → Int32) : Nat → (Nat → Nat) × (Nat → Nat → Int32) × Int32
  | 0 => (bp, B, 0)
  | k + 1 =>
    let s := f_dls n np W fm V C A td bp B k
    let r := f_dl n np W fm V C A td k s.1 s.2.1
    (upd1 s.1 k r.1, upd1 s.2.1 k r.2.1, s.2.2 + r.2.2)
/-- the whole day: ends, deadlines and starts, what is shown -/
noncomputable def f_day (n np : Nat) (W : Nat → Nat → Nat → Nat) (fm : Nat → Int32) (V C A : Nat → Nat → Nat → Int32) (td : Int32) (bp : Nat → Nat) (B : Nat → Nat → Int32) : (Nat → Nat) × (Nat → Nat → Int32) × Int32 :=
  let s := f_dls n np W fm V C A td bp (fun i => f_end (B i) td) n
  (s.1, fun i => f_show (s.2.1 i) (f_rs (W 4 (s.1 i) 0) (C (s.1 i)) (A (s.1 i)) (V (s.1 i) (ld (s.2.1 i))) (s.2.1 i 1) td), s.2.2)
theorem f_end_n {b : Nat → Int32} {t : Int32} {j : Nat} (h : j ≠ 6) (h2 : j ≠ 10) : f_end b t j = b j := by
  unfold f_end
  split
  · rw [ub_n h2, ub_n h]
  · rfl
theorem f_start_n {b : Nat → Int32} {t : Int32} {j : Nat} (h : j ≠ 6) : f_start b t j = b j := by
  unfold f_start
  split
  · rw [ub_n h]
  · rfl
theorem f_show_n {b : Nat → Int32} {r : Int32} {j : Nat} (h : j ≠ 10) (h2 : j ≠ 8) : f_show b r j = b j := by
  unfold f_show
  split
  · split
    · rw [ub_n h]
    · rw [ub_n h2, ub_n h]
  · rfl
theorem f_move_n {b : Nat → Int32} {j : Nat} (h : j ≠ 3) (h2 : j ≠ 4) (h3 : j ≠ 5) (h4 : j ≠ 7) : f_move b j = b j := by
  unfold f_move
  rw [ub_n h4, ub_n h3, ub_n h2, ub_n h]
theorem f_settle_n {n : Nat} {bp : Nat → Nat} {B : Nat → Nat → Int32} {i : Nat} {s : Option Nat} {j : Nat} (h : j = 1 ∨ j = 2 ∨ j = 8 ∨ j = 10 ∨ j = 11) : (f_settle n bp B i s).2 j = B i j := by
  cases s with
  | some k => show ub (B i) 9 _ j = _; rw [ub_n (by omega)]
  | none =>
    by_cases q : (¬ 3 ≤ B i 7 ∧ ¬ 99 < B i 4 + 2) ∧ ¬ p_tk n B (B i 1) (B i 2) (B i 3 + 2) (B i 4 + 2) (some i)
    · rw [show f_settle n bp B i none = (bp i, f_move (B i)) from f_if_t q]
      exact f_move_n (by omega) (by omega) (by omega) (by omega)
    · rw [show f_settle n bp B i none = (bp i, ub (B i) 6 4) from f_if_f q]
      exact ub_n (by omega)
theorem f_dl_n {n np : Nat} {W : Nat → Nat → Nat → Nat} {fm : Nat → Int32} {V C A : Nat → Nat → Nat → Int32} {td : Int32} {i : Nat} {bp : Nat → Nat} {B : Nat → Nat → Int32} {j : Nat} (h : j = 1 ∨ j = 2 ∨ j = 8 ∨ j = 10 ∨ j = 11) : (f_dl n np W fm V C A td i bp B).2.1 j = B i j := by
  unfold f_dl
  by_cases q : p_md (W 4 (bp i) 0) (C (bp i)) (V (bp i)) (B i) (ld (B i)) td
  · rw [f_if_t q]
    show f_start _ td j = _
    rw [f_start_n (by omega)]
    exact f_settle_n h
  · rw [f_if_f q]
    exact f_start_n (by omega)
theorem f_dls_n {n np : Nat} {W : Nat → Nat → Nat → Nat} {fm : Nat → Int32} {V C A : Nat → Nat → Nat → Int32} {td : Int32} {bp : Nat → Nat} {B : Nat → Nat → Int32} {j : Nat} (h : j = 1 ∨ j = 2 ∨ j = 8 ∨ j = 10 ∨ j = 11) : ∀ (k i : Nat), (f_dls n np W fm V C A td bp B k).2.1 i j = B i j
  | 0, _ => rfl
  | k + 1, i => by
    show upd1 (f_dls n np W fm V C A td bp B k).2.1 k _ i j = _
    by_cases g : i = k
    · rw [g, upd1_s]
      exact (f_dl_n h).trans (f_dls_n h k k)
    · rw [upd1_n g]
      exact f_dls_n h k i
theorem y_ld {b : Nat → Int32} (h : ∃ j : Nat, j < 4 ∧ b 1 = nI j) : ld b < 4 ∧ b 1 = nI (ld b) := by
  obtain ⟨j, hj, e⟩ := h
  have e2 : ld b = j := by unfold ld; rw [e, y_nIn (by omega)]
  rw [e2]
  exact ⟨hj, e⟩
theorem zPl.td' (h : zPl T F P l e n ba W np lp bp B td) (t' : Int32) : zPl T (zu F P 2 (.int t')) P l e n ba W np lp bp B t' := by
  obtain ⟨h0, h1, h2, h3, h4, h5, h6, h7⟩ := h
  exact ⟨h0, z_une h1 (by decide), z_une h2 (by decide), z_ueq, h4.kp (P := fun a => a = P) yE.us (y_ne h4.1 h0 (by decide)) (by obtain ⟨c, hc, -⟩ := h4.2.2.2.1; exact y_ne hc h0 (by simp)), h5, fun i hi => ⟨(h6 i hi).1.kp (P := fun a => a = P) yE.us (y_ne (h6 i hi).1.1 h0 (by decide)), (h6 i hi).2⟩, h7⟩
/-- a day begins on a plan -/
theorem s_beginDay (h : zPl T F P l e n ba W np lp bp B td) (hW : zPW T F lp ep np W fm as V C A) (hl : ∀ i : Nat, i < n → ∃ j : Nat, j < 4 ∧ B i 1 = nI j) {Post : Int32 → zF → Prop} (hk : ∀ F' : zF, yE (fun a => a = P ∨ ∃ i : Nat, i < n ∧ a = ba i) T F T F' → zPl T F' P l e n ba W np lp (f_day n np W fm V C A (td + 1) bp B).1 (f_day n np W fm V C A (td + 1) bp B).2.1 (td + 1) → Post (f_day n np W fm V C A (td + 1) bp B).2.2 F') : v_X3_beginDay P T F Post := by
  have hP := h.1
  have hn16 := h.2.2.2.2.2.1
  have hp9 : ∀ {F1 : zF}, yE (fun a => a = P ∨ ∃ i : Nat, i < n ∧ a = ba i) T F T F1 → zPW T F1 lp ep np W fm as V C A := fun k => hW.kk k fun a ha => by
    rcases ha with rfl | ⟨i, hi, rfl⟩
    · exact ⟨_, hP, by simp⟩
    · exact ⟨_, (h.at hi).1, by simp⟩
  have h1 := h.td' (td + 1)
  have k1 : yE (fun a => a = P ∨ ∃ i : Nat, i < n ∧ a = ba i) T F T (zu F P 2 (.int (td + 1))) := yE.uu (Or.inl rfl)
  -- the first loop: what is past ends
  refine ⟨hP, td, h.2.2.2.1, fun m y F1 => ∃ k : Nat, k ≤ n ∧ m = n - k ∧ y.toInt = k ∧ yE (fun a => a = P ∨ ∃ i : Nat, i < n ∧ a = ba i) T F T F1 ∧ zPl T F1 P l e n ba W np lp bp (fun i => if i < k then f_end (B i) (td + 1) else B i) (td + 1), ⟨n, 0, Nat.zero_le _, rfl, by decide, k1, by simpa using h1⟩, ?_⟩
  rintro m y F1 ⟨k, hkn, rfl, hy, e1, p1⟩
  have e : y = nI k := y_nI hy (by omega)
  subst e
  obtain ⟨g0, g1, g2, g3, g4, g5, g6, g7⟩ := id p1
  refine ⟨l, g1, g4.1, s_size g4 ⟨fun hge => ?_, fun hlt => ?_⟩⟩
  · have : k = n := by
      have := (nI_leI (a := n) (b := k) (by omega) (by omega)).mp hge
      omega
    subst this
    -- the second loop: deadlines and starts
    have p1' : zPl T F1 P l e k ba W np lp bp (fun i => f_end (B i) (td + 1)) (td + 1) := by
      obtain ⟨q0, q1, q2, q3, q4, q5, q6, q7⟩ := p1
      exact ⟨q0, q1, q2, q3, q4, q5, fun i hi => by have := q6 i hi; simp only [if_pos hi] at this; exact this, q7⟩
    refine ⟨fun m s y F2 => ∃ q : Nat, q ≤ k ∧ m = k - q ∧ y.toInt = q ∧ yE (fun a => a = P ∨ ∃ i : Nat, i < k ∧ a = ba i) T F T F2 ∧ zPl T F2 P l e k ba W np lp (f_dls k np W fm V C A (td + 1) bp (fun i => f_end (B i) (td + 1)) q).1 (f_dls k np W fm V C A (td + 1) bp (fun i => f_end (B i) (td + 1)) q).2.1 (td + 1) ∧ s = (f_dls k np W fm V C A (td + 1) bp (fun i => f_end (B i) (td + 1)) q).2.2, ⟨k, 0, Nat.zero_le _, rfl, by decide, e1, p1', rfl⟩, ?_⟩
    rintro m s y F2 ⟨q, hqn, rfl, hyq, e2, p2, rfl⟩
    have e : y = nI q := y_nI hyq (by omega)
    subst e
    obtain ⟨r0, r1, r2, r3, r4, r5, r6, r7⟩ := id p2
    refine ⟨l, r1, r4.1, s_size r4 ⟨fun hge => ?_, fun hlt => ?_⟩⟩
    · have : q = k := by
        have := (nI_leI (a := k) (b := q) (by omega) (by omega)).mp hge
        omega
      subst this
      -- the third loop: what is shown
      generalize hst : f_dls q np W fm V C A (td + 1) bp (fun i => f_end (B i) (td + 1)) q = st at p2
      have hday : f_day q np W fm V C A (td + 1) bp B = (st.1, fun i => f_show (st.2.1 i) (f_rs (W 4 (st.1 i) 0) (C (st.1 i)) (A (st.1 i)) (V (st.1 i) (ld (st.2.1 i))) (st.2.1 i 1) (td + 1)), st.2.2) := by
        unfold f_day
        rw [hst]
      rw [hday] at hk
      have hland : ∀ i : Nat, i < q → ∃ j : Nat, j < 4 ∧ st.2.1 i 1 = nI j := fun i hi => by
        obtain ⟨j, hj, ej⟩ := hl i hi
        refine ⟨j, hj, ?_⟩
        rw [← hst, f_dls_n (Or.inl rfl), f_end_n (by decide) (by decide)]
        exact ej
      refine ⟨fun m y F3 => ∃ w : Nat, w ≤ q ∧ m = q - w ∧ y.toInt = w ∧ yE (fun a => a = P ∨ ∃ i : Nat, i < q ∧ a = ba i) T F T F3 ∧ zPl T F3 P l e q ba W np lp st.1 (fun i => if i < w then f_show (st.2.1 i) (f_rs (W 4 (st.1 i) 0) (C (st.1 i)) (A (st.1 i)) (V (st.1 i) (ld (st.2.1 i))) (st.2.1 i 1) (td + 1)) else st.2.1 i) (td + 1), ⟨q, 0, Nat.zero_le _, rfl, by decide, e2, by simpa using p2⟩, ?_⟩
      rintro m y F3 ⟨w, hwn, rfl, hyw, e3, p3⟩
      have e : y = nI w := y_nI hyw (by omega)
      subst e
      obtain ⟨t0, t1, t2, t3, t4, t5, t6, t7⟩ := id p3
      refine ⟨l, t1, t4.1, s_size t4 ⟨fun hge => ?_, fun hlt => ?_⟩⟩
      · have : w = q := by
          have := (nI_leI (a := q) (b := w) (by omega) (by omega)).mp hge
          omega
        subst this
        refine hk F3 e3 ?_
        obtain ⟨q0, q1, q2, q3, q4, q5, q6, q7⟩ := p3
        exact ⟨q0, q1, q2, q3, q4, q5, fun i hi => by have := q6 i hi; simp only [if_pos hi] at this; exact this, q7⟩
      · have hw1 : w < q := Nat.lt_of_not_le fun z => hlt ((nI_leI (a := q) (b := w) (by omega) (by omega)).mpr z)
        have hb := p3.at hw1
        simp only [if_neg (Nat.lt_irrefl w)] at hb
        obtain ⟨j4, ej⟩ := y_ld (hland w hw1)
        have hbw := (t6 w hw1).2
        obtain ⟨pc, pa⟩ := (hp9 e3).2.2.1 _ hbw
        refine s_get t4 hw1 ⟨hb.1, td + 1, t3, s_showOrPull hb pc pa j4 ej (by rw [← ej]; exact f_rs_p) fun F4 k4 hb4 => ⟨q - (w + 1), by omega, w + 1, by omega, rfl, y_inc hyw (by omega), e3.tr (k4.wk fun a ha => Or.inr ⟨w, hw1, ha⟩), ?_⟩⟩
        have := p3.row hw1 k4 hb4 hbw
        obtain ⟨q0, q1, q2, q3, q4, q5, q6, q7⟩ := this
        refine ⟨q0, q1, q2, q3, q4, q5, fun i hi => ?_, q7⟩
        have h9 := q6 i hi
        by_cases g : i = w
        · subst g
          simp only [upd1_s] at h9
          simp only [if_pos (Nat.lt_succ_self _)]
          exact h9
        · rw [upd1_n g, upd1_n g] at h9
          by_cases g2 : i < w
          · simp only [if_pos g2] at h9
            simp only [if_pos (show i < w + 1 by omega)]
            exact h9
          · simp only [if_neg g2] at h9
            simp only [if_neg (show ¬ i < w + 1 by omega)]
            exact h9
    · have hq1 : q < k := Nat.lt_of_not_le fun z => hlt ((nI_leI (a := k) (b := q) (by omega) (by omega)).mpr z)
      generalize hst : f_dls k np W fm V C A (td + 1) bp (fun i => f_end (B i) (td + 1)) q = st at p2 r6
      have hst1 : f_dls k np W fm V C A (td + 1) bp (fun i => f_end (B i) (td + 1)) (q + 1) = (upd1 st.1 q (f_dl k np W fm V C A (td + 1) q st.1 st.2.1).1, upd1 st.2.1 q (f_dl k np W fm V C A (td + 1) q st.1 st.2.1).2.1, st.2.2 + (f_dl k np W fm V C A (td + 1) q st.1 st.2.1).2.2) := by rw [← hst]; rfl
      have hb := p2.at hq1
      have hland : ∃ j : Nat, j < 4 ∧ st.2.1 q 1 = nI j := by
        obtain ⟨j, hj, ej⟩ := hl q hq1
        refine ⟨j, hj, ?_⟩
        rw [← hst, f_dls_n (Or.inl rfl), f_end_n (by decide) (by decide)]
        exact ej
      obtain ⟨j4, ej⟩ := y_ld hland
      have hbq := (r6 q hq1).2
      obtain ⟨pc, pa⟩ := (hp9 e2).2.2.1 _ hbq
      refine s_get r4 hq1 ⟨hb.1, td + 1, r3, s_missesDeadline hb pc pa j4 ej (fun md => ⟨fun z => absurd z (by decide), fun _ => s_firstSwap p2 (hp9 e2) hq1 j4 ej ?_⟩) (fun md => ⟨fun _ => s_startIfDue hb fun F3 k3 hb3 => ⟨k - (q + 1), by omega, q + 1, by omega, rfl, y_inc hyq (by omega), e2.tr (k3.wk fun a ha => Or.inr ⟨q, hq1, ha⟩), ?_, ?_⟩, fun z => absurd rfl z⟩)⟩
      · generalize hsw : f_fst (p_cs k W fm V C A st.1 st.2.1 (td + 1) q (ld (st.2.1 q))) np = sw
        have hdl : f_dl k np W fm V C A (td + 1) q st.1 st.2.1 = ((f_settle k st.1 st.2.1 q sw).1, f_start (f_settle k st.1 st.2.1 q sw).2 (td + 1), 1) := by
          rw [← hsw]; exact f_if_t md
        have hswn : ∀ i : Nat, sw = some i → i < np := fun i hi => (f_fst_i (hsw.trans hi)).1
        have fin : ∀ F4 : zF, yE (fun a => a = ba q) T F2 T F4 → zBk T F4 (ba q) (W 0 (f_settle k st.1 st.2.1 q sw).1 0) (f_settle k st.1 st.2.1 q sw).2 → (f_settle k st.1 st.2.1 q sw).1 < np → (∃ x69 : Int32, F4 P 2 = .int x69 ∧ (v_X1_startIfDue (ba q) x69 T F4 (fun (F70 : zF) => (∃ n71 : Nat, n71 < k - q ∧ ∃ q' : Nat, q' ≤ k ∧ n71 = k - q' ∧ (nI q + 1).toInt = q' ∧ yE (fun a => a = P ∨ ∃ i : Nat, i < k ∧ a = ba i) T F T F70 ∧ zPl T F70 P l e k ba W np lp (f_dls k np W fm V C A (td + 1) bp (fun i => f_end (B i) (td + 1)) q').1 (f_dls k np W fm V C A (td + 1) bp (fun i => f_end (B i) (td + 1)) q').2.1 (td + 1) ∧ st.2.2 + 1 = (f_dls k np W fm V C A (td + 1) bp (fun i => f_end (B i) (td + 1)) q').2.2)))) := fun F4 k4 hb4 hq4 => by
          refine ⟨td + 1, ((k4 _ _ hP).2 (y_ne hP hb.1 (by decide)) 2).trans r3, s_startIfDue hb4 fun F5 k5 hb5 => ⟨k - (q + 1), by omega, q + 1, by omega, rfl, y_inc hyq (by omega), e2.tr ((k4.tr k5).wk fun a ha => Or.inr ⟨q, hq1, ha⟩), ?_, ?_⟩⟩
          · rw [hst1, hdl]
            exact p2.row hq1 (k4.tr k5) hb5 hq4
          · rw [hst1, hdl]
        refine ⟨fun hn => ?_, fun y hy => ?_⟩
        · have := s_settle p2 hq1 sw hswn (Post := _) fin
          rw [hn] at this
          exact this
        · have := s_settle p2 hq1 sw hswn (Post := _) fin
          rw [hy] at this
          exact this
      · have hdl : f_dl k np W fm V C A (td + 1) q st.1 st.2.1 = (st.1 q, f_start (st.2.1 q) (td + 1), 0) := f_if_f md
        rw [hst1, hdl]
        exact p2.row hq1 k3 hb3 hbq
      · have hdl : f_dl k np W fm V C A (td + 1) q st.1 st.2.1 = (st.1 q, f_start (st.2.1 q) (td + 1), 0) := f_if_f md
        rw [hst1, hdl]
        exact (Int32.add_zero _).symm
  · have hk1 : k < n := Nat.lt_of_not_le fun z => hlt ((nI_leI (a := n) (b := k) (by omega) (by omega)).mpr z)
    have hb := p1.at hk1
    simp only [if_neg (Nat.lt_irrefl k)] at hb
    refine s_get g4 hk1 ⟨hb.1, td + 1, g3, s_endIfPast hb fun F2 k2 hb2 => ⟨n - (k + 1), by omega, k + 1, by omega, rfl, y_inc hy (by omega), e1.tr (k2.wk fun a ha => Or.inr ⟨k, hk1, ha⟩), ?_⟩⟩
    have := p1.row hk1 k2 hb2 (g6 k hk1).2
    obtain ⟨q0, q1, q2, q3, q4, q5, q6, q7⟩ := this
    refine ⟨q0, q1, q2, q3, q4, q5, fun i hi => ?_, q7⟩
    have h9 := q6 i hi
    by_cases g : i = k
    · subst g
      simp only [upd1_s] at h9
      simp only [if_pos (Nat.lt_succ_self _)]
      exact h9
    · rw [upd1_n g, upd1_n g] at h9
      by_cases g2 : i < k
      · simp only [if_pos g2] at h9
        simp only [if_pos (show i < k + 1 by omega)]
        exact h9
      · simp only [if_neg g2] at h9
        simp only [if_neg (show ¬ i < k + 1 by omega)]
        exact h9
end DAY
