theorem s_landsFitOn {T : zT} {F : zF} {p l e ap n : Nat} {pt cc : Nat → Nat} {num fm as : Int32} {V C A : Nat → Nat → Int32} {d : Int32} {Post : Int32 → Prop} (h : zPc T F p l e ap n pt num fm as V) (hA : zPt T F n pt cc C A) (f : Nat → Int32) (f0 : f 0 = 0) (f1 : ∀ j : Nat, j < 4 → p_fit n C (V j) d → f (j + 1) = f j + 1) (f2 : ∀ j : Nat, j < 4 → ¬ p_fit n C (V j) d → f (j + 1) = f j) (hk : Post (f 4)) : v_X2_landsFitOn p d T F Post := by
  refine ⟨fun m s y => ∃ k : Nat, k ≤ 4 ∧ m = 4 - k ∧ y.toInt = k ∧ s = f k, ⟨4, 0, by decide, rfl, by decide, f0.symm⟩, ?_⟩
  rintro m s y ⟨k, hk4, rfl, hy, rfl⟩
  refine ⟨fun hge => ?_, fun hlt => ⟨h.1, ?_⟩⟩
  · have : k = 4 := by
      rw [Int32.le_iff_toInt_le, show (4 : Int32).toInt = 4 by decide] at hge
      omega
    subst this
    exact hk
  · have hk1 : k < 4 := by
      rw [Int32.le_iff_toInt_le, show (4 : Int32).toInt = 4 by decide] at hlt
      omega
    have e : y = nI k := y_nI hy (by omega)
    rw [e]
    rw [e] at hy
    exact s_isFitOn h hA hk1 (fun q => ⟨fun z => absurd z (by decide), fun _ => ⟨4 - (k + 1), by omega, k + 1, by omega, rfl, y_inc hy (by omega), (f1 k hk1 q).symm⟩⟩) (fun q => ⟨fun _ => ⟨4 - (k + 1), by omega, k + 1, by omega, rfl, y_inc hy (by omega), (f2 k hk1 q).symm⟩, fun z => absurd rfl z⟩)
def f_mx (C : Nat → Nat → Int32) : Nat → Int32
  | 0 => 0
  | k + 1 => if f_mx C k < f_mn (C k) 5 then f_mn (C k) 5 else f_mx C k
def f_fd (n : Nat) (C : Nat → Nat → Int32) : Int32 := if f_mx C n ≤ 99 then f_mx C n else -1
theorem s_firstLaidDay {T : zT} {F : zF} {p l e ap n : Nat} {pt cc : Nat → Nat} {num fm as : Int32} {V C A : Nat → Nat → Int32} {Post : Int32 → Prop} (h : zPc T F p l e ap n pt num fm as V) (hA : zPt T F n pt cc C A) (hk : Post (f_fd n C)) : v_X2_firstLaidDay p T F Post := by
  obtain ⟨g0, -, -, -, g3, -, g5, g6, -⟩ := h
  refine ⟨fun m s y => ∃ k : Nat, k ≤ n ∧ m = n - k ∧ y.toInt = k ∧ s = f_mx C k, ⟨n, 0, Nat.zero_le _, rfl, by decide, rfl⟩, ?_⟩
  rintro m s y ⟨k, hkn, rfl, hy, rfl⟩
  have e : y = nI k := y_nI hy (by omega)
  subst e
  refine ⟨g0, l, g3, g5.1, s_size g5 ⟨fun hge => ?_, fun hlt => ?_⟩⟩
  · have : k = n := by
      have := (nI_leI (a := n) (b := k) (by omega) (by omega)).mp hge
      omega
    subst this
    unfold f_fd at hk
    refine ⟨fun q => ?_, fun q => ?_⟩
    · rw [if_pos q] at hk; exact hk
    · rw [if_neg q] at hk; exact hk
  · have hk1 : k < n := Nat.lt_of_not_le fun q => hlt ((nI_leI (a := n) (b := k) (by omega) (by omega)).mpr q)
    exact s_get g5 hk1 ⟨(hA k hk1).1, s_firstComes (hA k hk1) ⟨n - (k + 1), by omega, k + 1, by omega, rfl, y_inc hy (by omega), rfl⟩⟩
/-! bookings -/
def ub (B : Nat → Int32) (k : Nat) (v : Int32) : Nat → Int32 := fun j => if j = k then v else B j
theorem ub_s {B : Nat → Int32} {k : Nat} {v : Int32} : ub B k v k = v := if_pos rfl
theorem ub_n {B : Nat → Int32} {k j : Nat} {v : Int32} (h : j ≠ k) : ub B k v j = B j := if_neg h
/-- the booking b: its piece is at p, its other places hold B; two of them are true or false -/
def zBk (T : zT) (F : zF) (b p : Nat) (B : Nat → Int32) : Prop := T b = some (2, 12) ∧ F b 0 = .ref p ∧ (∀ j : Nat, 1 ≤ j → j < 12 → F b j = .int (B j)) ∧ (B 10 = 0 ∨ B 10 = 1) ∧ (B 11 = 0 ∨ B 11 = 1)
theorem zBk.kp {P : Nat → Prop} {T T' : zT} {F F' : zF} {b p : Nat} {B : Nat → Int32} (h : zBk T F b p B) (k : yE P T F T' F') (hb : ¬ P b) : zBk T' F' b p B := by
  obtain ⟨h0, h1, h2, h3⟩ := h
  exact ⟨(k _ _ h0).1, ((k _ _ h0).2 hb 0).trans h1, fun j h1 h2' => ((k _ _ h0).2 hb j).trans (h2 j h1 h2'), h3⟩
theorem zBk.i {T : zT} {F : zF} {b p : Nat} {B : Nat → Int32} (h : zBk T F b p B) (j : Nat) (h1 : 1 ≤ j := by decide) (h2 : j < 12 := by decide) : F b j = .int (B j) := h.2.2.1 j h1 h2
/-- a new number at a place of it that isn't true or false -/
theorem zBk.up {T : zT} {F : zF} {b p : Nat} {B : Nat → Int32} (h : zBk T F b p B) (k : Nat) (v : Int32) (h1 : 1 ≤ k := by decide) (h2 : k < 10 := by decide) : zBk T (zu F b k (.int v)) b p (ub B k v) := by
  obtain ⟨g0, g1, g2, g3, g4⟩ := h
  refine ⟨g0, z_une g1 (by omega), fun j a1 a2 => ?_, by rw [ub_n (by omega)]; exact g3, by rw [ub_n (by omega)]; exact g4⟩
  by_cases g : j = k
  · subst g
    rw [ub_s]; exact z_ueq
  · rw [ub_n g]; exact z_une (g2 j a1 a2) g
theorem zBk.u10 {T : zT} {F : zF} {b p : Nat} {B : Nat → Int32} (h : zBk T F b p B) (v : Int32) (hv : v = 0 ∨ v = 1) : zBk T (zu F b 10 (.int v)) b p (ub B 10 v) := by
  obtain ⟨g0, g1, g2, g3, g4⟩ := h
  refine ⟨g0, z_une g1 (by decide), fun j a1 a2 => ?_, by rw [ub_s]; exact hv, by rw [ub_n (by decide)]; exact g4⟩
  by_cases g : j = 10
  · subst g
    rw [ub_s]; exact z_ueq
  · rw [ub_n g]; exact z_une (g2 j a1 a2) g
theorem zBk.u11 {T : zT} {F : zF} {b p : Nat} {B : Nat → Int32} (h : zBk T F b p B) (v : Int32) (hv : v = 0 ∨ v = 1) : zBk T (zu F b 11 (.int v)) b p (ub B 11 v) := by
  obtain ⟨g0, g1, g2, g3, g4⟩ := h
  refine ⟨g0, z_une g1 (by decide), fun j a1 a2 => ?_, by rw [ub_n (by decide)]; exact g3, by rw [ub_s]; exact hv⟩
  by_cases g : j = 11
  · subst g
    rw [ub_s]; exact z_ueq
  · rw [ub_n g]; exact z_une (g2 j a1 a2) g
theorem zBk.u0 {T : zT} {F : zF} {b p p' : Nat} {B : Nat → Int32} (h : zBk T F b p B) : zBk T (zu F b 0 (.ref p')) b p' B := by
  obtain ⟨g0, g1, g2, g3, g4⟩ := h
  exact ⟨g0, z_ueq, fun j a1 a2 => z_une (g2 j a1 a2) (by omega), g3, g4⟩
def p_op (B : Nat → Int32) : Prop := B 6 = 0 ∨ B 6 = 1
theorem s_isOpen {T : zT} {F : zF} {b p : Nat} {B : Nat → Int32} {Post : Int32 → Prop} (h : zBk T F b p B) (h1 : p_op B → Post 1) (h0 : ¬ p_op B → Post 0) : v_X1_isOpen b T F Post :=
  ⟨h.1, B 6, h.i 6, fun e => h1 (Or.inl e), fun n => ⟨fun n1 => h0 fun q => q.elim n n1, fun e => h1 (Or.inr e)⟩⟩
def p_in (B : Nat → Int32) (land med : Int32) : Prop := B 1 = land ∧ B 2 = med
theorem s_isIn {T : zT} {F : zF} {b p : Nat} {B : Nat → Int32} {land med : Int32} {Post : Int32 → Prop} (h : zBk T F b p B) (h1 : p_in B land med → Post 1) (h0 : ¬ p_in B land med → Post 0) : v_X1_isIn b land med T F Post :=
  ⟨h.1, B 1, h.i 1, fun n => h0 fun q => n q.1, fun e => ⟨B 2, h.i 2, fun n => h0 fun q => n q.2, fun e2 => h1 ⟨e, e2⟩⟩⟩
def p_dy (B : Nat → Int32) (d1 d2 : Int32) : Prop := ¬ d2 < B 3 ∧ ¬ B 4 < d1
theorem s_hasDayIn {T : zT} {F : zF} {b p : Nat} {B : Nat → Int32} {d1 d2 : Int32} {Post : Int32 → Prop} (h : zBk T F b p B) (h1 : p_dy B d1 d2 → Post 1) (h0 : ¬ p_dy B d1 d2 → Post 0) : v_X1_hasDayIn b d1 d2 T F Post :=
  ⟨h.1, B 3, h.i 3, fun n => h0 fun q => q.1 n, fun e => ⟨B 4, h.i 4, fun n => h0 fun q => q.2 n, fun e2 => h1 ⟨e, e2⟩⟩⟩
def f_cost (B : Nat → Int32) : Int32 := if ¬ B 11 = 0 then 0 else if B 6 = 4 then 0 else if 0 < (B 4 - B 3) + 1 then B 5 - (B 8 * (B 5 / ((B 4 - B 3) + 1))) else 0
theorem s_costNow {T : zT} {F : zF} {b p : Nat} {B : Nat → Int32} {Post : Int32 → Prop} (h : zBk T F b p B) (hk : Post (f_cost B)) : v_X1_costNow b T F Post := by
  unfold f_cost at hk
  refine ⟨h.1, B 4, h.i 4, B 3, h.i 3, B 11, h.i 11, fun n => ?_, fun e => ⟨B 6, h.i 6, fun e4 => ?_, fun n4 => ⟨fun g => ⟨B 5, h.i 5, B 8, h.i 8, fun z => ?_, ?_⟩, fun g => ?_⟩⟩⟩
  · rw [if_pos n] at hk; exact hk
  · rw [if_neg (fun q => q e), if_pos e4] at hk; exact hk
  · rw [z] at g; exact absurd g (by decide)
  · rw [if_neg (fun q => q e), if_neg n4, if_pos g] at hk; exact hk
  · rw [if_neg (fun q => q e), if_neg n4, if_neg g] at hk; exact hk
def f_give (B : Nat → Int32) : Nat → Int32 := ub (ub (ub B 11 (if B 6 = 0 then 1 else 0)) 6 3) 10 0
theorem s_giveUp {T : zT} {F : zF} {b p : Nat} {B : Nat → Int32} {Post : zF → Prop} (h : zBk T F b p B) (hk : ∀ F' : zF, yE (fun a => a = b) T F T F' → zBk T F' b p (f_give B) → Post F') : v_X1_giveUp b T F Post := by
  refine ⟨h.1, B 6, h.i 6, fun n => hk _ ((yE.us.tr yE.us).tr yE.us) ?_, fun e => hk _ ((yE.us.tr yE.us).tr yE.us) ?_⟩
  · unfold f_give
    rw [if_neg n]
    exact ((h.u11 0 (Or.inl rfl)).up 6 3).u10 0 (Or.inl rfl)
  · unfold f_give
    rw [if_pos e]
    exact ((h.u11 1 (Or.inr rfl)).up 6 3).u10 0 (Or.inl rfl)
theorem s_takePiece {T : zT} {F : zF} {b p p' : Nat} {B : Nat → Int32} {Post : zF → Prop} (h : zBk T F b p B) (hk : ∀ F' : zF, yE (fun a => a = b) T F T F' → zBk T F' b p' (ub B 9 (B 9 + 1)) → Post F') : v_X1_takePiece b p' T F Post :=
  ⟨h.1, B 9, (h.u0 (p' := p')).i 9, hk _ (yE.us.tr yE.us) ((h.u0 (p' := p')).up 9 (B 9 + 1))⟩
def f_end (B : Nat → Int32) (td : Int32) : Nat → Int32 := if B 6 = 1 ∧ ¬ td ≤ B 4 then ub (ub B 6 2) 10 0 else B
theorem s_endIfPast {T : zT} {F : zF} {b p : Nat} {B : Nat → Int32} {td : Int32} {Post : zF → Prop} (h : zBk T F b p B) (hk : ∀ F' : zF, yE (fun a => a = b) T F T F' → zBk T F' b p (f_end B td) → Post F') : v_X1_endIfPast b td T F Post := by
  unfold f_end at hk
  refine ⟨h.1, B 6, h.i 6, fun n => ?_, fun e => ⟨B 4, h.i 4, fun g => ?_, fun g => ?_⟩⟩
  · rw [if_neg (fun q => n q.1)] at hk; exact hk F yE.rf h
  · rw [if_neg (fun q => q.2 g)] at hk; exact hk F yE.rf h
  · rw [if_pos ⟨e, g⟩] at hk; exact hk _ (yE.us.tr yE.us) ((h.up 6 2).u10 0 (Or.inl rfl))
theorem s_mayMove {T : zT} {F : zF} {b p : Nat} {B : Nat → Int32} {Post : Int32 → Prop} (h : zBk T F b p B) (h1 : (¬ 3 ≤ B 7 ∧ ¬ 99 < B 4 + 2) → Post 1) (h0 : ¬ (¬ 3 ≤ B 7 ∧ ¬ 99 < B 4 + 2) → Post 0) : v_X1_mayMove b T F Post :=
  ⟨h.1, B 7, h.i 7, fun g => h0 fun q => q.1 g, fun g => ⟨B 4, h.i 4, fun g2 => h0 fun q => q.2 g2, fun g2 => h1 ⟨g, g2⟩⟩⟩
def f_move (B : Nat → Int32) : Nat → Int32 := ub (ub (ub (ub B 3 (B 3 + 2)) 4 (B 4 + 2)) 5 (B 5 + B 5 / 5)) 7 (B 7 + 1)
theorem s_moveOn {T : zT} {F : zF} {b p : Nat} {B : Nat → Int32} {Post : zF → Prop} (h : zBk T F b p B) (hk : ∀ F' : zF, yE (fun a => a = b) T F T F' → zBk T F' b p (f_move B) → Post F') : v_X1_moveOn b T F Post :=
  ⟨h.1, B 3, h.i 3, B 4, (h.up 3 (B 3 + 2)).i 4, B 5, ((h.up 3 (B 3 + 2)).up 4 (B 4 + 2)).i 5, B 7, (((h.up 3 (B 3 + 2)).up 4 (B 4 + 2)).up 5 (B 5 + B 5 / 5)).i 7, hk _ (((yE.us.tr yE.us).tr yE.us).tr yE.us) ((((h.up 3 (B 3 + 2)).up 4 (B 4 + 2)).up 5 (B 5 + B 5 / 5)).up 7 (B 7 + 1))⟩
def f_start (B : Nat → Int32) (td : Int32) : Nat → Int32 := if B 6 = 0 ∧ B 3 = td then ub B 6 1 else B
theorem s_startIfDue {T : zT} {F : zF} {b p : Nat} {B : Nat → Int32} {td : Int32} {Post : zF → Prop} (h : zBk T F b p B) (hk : ∀ F' : zF, yE (fun a => a = b) T F T F' → zBk T F' b p (f_start B td) → Post F') : v_X1_startIfDue b td T F Post := by
  unfold f_start at hk
  refine ⟨h.1, B 6, h.i 6, fun n => ?_, fun e => ⟨B 3, h.i 3, fun g => ?_, fun g => ?_⟩⟩
  · rw [if_neg (fun q => n q.1)] at hk; exact hk F yE.rf h
  · rw [if_neg (fun q => g q.2)] at hk; exact hk F yE.rf h
  · rw [if_pos ⟨e, g⟩] at hk; exact hk _ yE.us (h.up 6 1)
/-- what a day that begins shows of a booking, r being why its piece can't be shown -/
def f_show (B : Nat → Int32) (r : Int32) : Nat → Int32 := if B 6 = 1 then (if r = 0 then ub B 10 1 else ub (ub B 10 0) 8 (B 8 + 1)) else B
theorem s_showOrPull {T : zT} {F : zF} {b p l e ap n j : Nat} {pt cc : Nat → Nat} {num fm as : Int32} {V C A : Nat → Nat → Int32} {B : Nat → Int32} {td r : Int32} {Post : zF → Prop} (h : zBk T F b p B) (hp : zPc T F p l e ap n pt num fm as V) (hA : zPt T F n pt cc C A) (hj : j < 4) (hl : B 1 = nI j) (hr : p_rs n C A (V j) (nI j) td r) (hk : ∀ F' : zF, yE (fun a => a = b) T F T F' → zBk T F' b p (f_show B r) → Post F') : v_X1_showOrPull b td T F Post := by
  unfold f_show at hk
  refine ⟨h.1, B 6, h.i 6, fun e => ⟨p, h.2.1, B 1, h.i 1, hp.1, ?_⟩, fun n => ?_⟩
  · rw [hl]
    refine s_reasonOn hp hA hj fun r' hr' => ?_
    cases p_rs_one hr hr'
    rw [if_pos e] at hk
    refine ⟨fun g => ⟨B 8, (h.u10 0 (Or.inl rfl)).i 8, ?_⟩, fun g => ?_⟩
    · rw [if_neg g] at hk; exact hk _ (yE.us.tr yE.us) ((h.u10 0 (Or.inl rfl)).up 8 (B 8 + 1))
    · rw [if_pos g] at hk; exact hk _ yE.us (h.u10 1 (Or.inr rfl))
  · rw [if_neg n] at hk; exact hk F yE.rf h
def p_md (n : Nat) (C : Nat → Nat → Int32) (V : Nat → Nat → Int32) (B : Nat → Int32) (j : Nat) (td : Int32) : Prop := B 6 = 0 ∧ td = B 3 - 3 ∧ ¬ p_fit n C (V j) td
theorem s_missesDeadline {T : zT} {F : zF} {b p l e ap n j : Nat} {pt cc : Nat → Nat} {num fm as : Int32} {V C A : Nat → Nat → Int32} {B : Nat → Int32} {td : Int32} {Post : Int32 → Prop} (h : zBk T F b p B) (hp : zPc T F p l e ap n pt num fm as V) (hA : zPt T F n pt cc C A) (hj : j < 4) (hl : B 1 = nI j) (h1 : p_md n C V B j td → Post 1) (h0 : ¬ p_md n C V B j td → Post 0) : v_X1_missesDeadline b td T F Post := by
  refine ⟨h.1, B 6, h.i 6, fun n => h0 fun q => n q.1, fun e => ⟨B 3, h.i 3, fun n => h0 fun q => n q.2.1, fun e3 => ⟨p, h.2.1, B 1, h.i 1, hp.1, ?_⟩⟩⟩
  rw [hl]
  exact s_isFitOn hp hA hj (fun f => ⟨fun _ => h0 fun q => q.2.2 f, fun z => absurd z (by decide)⟩) (fun f => ⟨fun z => absurd rfl z, fun _ => h1 ⟨e, e3, f⟩⟩)
/-- a booking is made the same as another one -/
theorem s_setTo' {T : zT} {F : zF} {a b p : Nat} {B : Nat → Int32} {Post : zF → Prop} (ha : T a = some (2, 12)) (h : zBk T F b p B) (hne : b ≠ a) (hk : ∀ F' : zF, yE (fun q => q = a) T F T F' → zBk T F' a p B → Post F') : v_X1_setTo a b T F Post := by
  have k : ∀ {F1 : zF} {j : Nat} {v : Value}, zBk T F1 b p B → zBk T (zu F1 a j v) b p B := fun g => g.kp (P := fun q => q = a) yE.us hne
  have g0 := k (j := 0) (v := .ref p) h
  have g1 := k (j := 1) (v := .int (B 1)) g0
  have g2 := k (j := 2) (v := .int (B 2)) g1
  have g3 := k (j := 3) (v := .int (B 3)) g2
  have g4 := k (j := 4) (v := .int (B 4)) g3
  have g5 := k (j := 5) (v := .int (B 5)) g4
  have g6 := k (j := 6) (v := .int (B 6)) g5
  have g7 := k (j := 7) (v := .int (B 7)) g6
  have g8 := k (j := 8) (v := .int (B 8)) g7
  have g9 := k (j := 9) (v := .int (B 9)) g8
  have g10 := k (j := 10) (v := .int (B 10)) g9
  refine ⟨h.1, p, h.2.1, ha, B 1, g0.i 1, B 2, g1.i 2, B 3, g2.i 3, B 4, g3.i 4, B 5, g4.i 5, B 6, g5.i 6, B 7, g6.i 7, B 8, g7.i 8, B 9, g8.i 9, B 10, g9.i 10, h.2.2.2.1, B 11, g10.i 11, h.2.2.2.2, hk _ (((((((((((yE.us.tr yE.us).tr yE.us).tr yE.us).tr yE.us).tr yE.us).tr yE.us).tr yE.us).tr yE.us).tr yE.us).tr yE.us).tr yE.us) ?_⟩
  refine ⟨ha, ?_, fun j a1 a2 => ?_, h.2.2.2.1, h.2.2.2.2⟩
  · simp [zu]
  · rcases (show j = 1 ∨ j = 2 ∨ j = 3 ∨ j = 4 ∨ j = 5 ∨ j = 6 ∨ j = 7 ∨ j = 8 ∨ j = 9 ∨ j = 10 ∨ j = 11 by omega) with rfl | rfl | rfl | rfl | rfl | rfl | rfl | rfl | rfl | rfl | rfl <;> simp [zu]
theorem s_setTo {T : zT} {F : zF} {a b p p0 : Nat} {B B0 : Nat → Int32} {Post : zF → Prop} (ha : zBk T F a p0 B0) (h : zBk T F b p B) (hne : b ≠ a) (hk : ∀ F' : zF, yE (fun q => q = a) T F T F' → zBk T F' a p B → Post F') : v_X1_setTo a b T F Post := s_setTo' ha.1 h hne hk
