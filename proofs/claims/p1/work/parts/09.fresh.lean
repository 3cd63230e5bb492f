/-! THE FIRST CALL ON FRESH OBJECTS: what holds of their cells; what calls that make or change cells keep of them -/
theorem y_ne {T : zT} {a b : Nat} {s t : Nat × Nat} (h1 : T a = some s) (h2 : T b = some t) (h : s ≠ t) : a ≠ b := by
  intro e
  subst e
  exact h (Option.some.inj (h1.symm.trans h2))
theorem y_nq {T : zT} {a q : Nat} {t : Nat × Nat} (h1 : T a = some t) (h2 : ∀ b, q ≤ b → T b = none) : a < q := Nat.lt_of_not_le fun h => by
  rw [h2 a h] at h1
  cases h1
/-- the old cells stay, but for those of P nothing is said of their fields -/
def yE (P : Nat → Prop) (T : zT) (F : zF) (T' : zT) (F' : zF) : Prop := ∀ (a : Nat) (t : Nat × Nat), T a = some t → T' a = some t ∧ (¬ P a → ∀ j : Nat, F' a j = F a j)
theorem yE.rf {P : Nat → Prop} {T : zT} {F : zF} : yE P T F T F := fun _ _ h => ⟨h, fun _ _ => rfl⟩
theorem yE.tr {P : Nat → Prop} {T T1 T2 : zT} {F F1 F2 : zF} (h1 : yE P T F T1 F1) (h2 : yE P T1 F1 T2 F2) : yE P T F T2 F2 := fun a t h => ⟨(h2 a t (h1 a t h).1).1, fun hp j => ((h2 a t (h1 a t h).1).2 hp j).trans ((h1 a t h).2 hp j)⟩
theorem yE.wk {P P' : Nat → Prop} {T T1 : zT} {F F1 : zF} (h : yE P T F T1 F1) (hp : ∀ a, P a → P' a) : yE P' T F T1 F1 := fun a t ha => ⟨(h a t ha).1, fun g => (h a t ha).2 fun g2 => g (hp a g2)⟩
theorem yE.w0 {P' : Nat → Prop} {T T1 : zT} {F F1 : zF} (h : yE (fun _ => False) T F T1 F1) : yE P' T F T1 F1 := h.wk fun _ g => g.elim
theorem yE.uu {P : Nat → Prop} {T : zT} {F : zF} {a k : Nat} {v : Value} (hp : P a) : yE P T F T (zu F a k v) := fun b _ h => ⟨h, fun hb j => if_neg fun g => hb (by rw [g.1]; exact hp)⟩
theorem yE.us {T : zT} {F : zF} {a k : Nat} {v : Value} : yE (fun b => b = a) T F T (zu F a k v) := yE.uu rfl
theorem yE.nn {P : Nat → Prop} {T : zT} {F : zF} {q : Nat} {t : Nat × Nat} {V : Nat → Value} (hq : ∀ b, q ≤ b → T b = none) : yE P T F (zn T q t) (zm F q V) := fun _ _ h => ⟨(if_neg (Nat.ne_of_lt (y_nq h hq))).trans h, fun _ _ => if_neg (Nat.ne_of_lt (y_nq h hq))⟩
theorem yE.mm {P : Nat → Prop} {T : zT} {F : zF} {q n k : Nat} (hq : ∀ b, q ≤ b → T b = none) : yE P T F (znm T q n k) (zmm F q n) := fun a _ h => by
  have hl := y_nq h hq
  refine ⟨?_, fun _ j => ?_⟩
  · unfold znm; rw [if_neg (Nat.ne_of_lt hl), if_neg (by omega)]; exact h
  · unfold zmm; rw [if_neg (Nat.ne_of_lt hl), if_neg (by omega)]
/-- a new value of a cell that the old world doesn't know -/
theorem yE.un {P : Nat → Prop} {T T1 : zT} {F F1 : zF} {a k : Nat} {v : Value} (h : yE P T F T1 F1) (ha : T a = none) : yE P T F T1 (zu F1 a k v) := fun b t hb => ⟨(h b t hb).1, fun hp j => by
  have hne : b ≠ a := fun e => by rw [e, ha] at hb; cases hb
  exact (if_neg fun g => hne g.1).trans ((h b t hb).2 hp j)⟩
/-- a fresh list -/
def yL (T : zT) (F : zF) (l zE : Nat) : Prop := T l = some (2, 3) ∧ F l 0 = .int 0 ∧ F l 1 = .ref zE ∧ F l 2 = .int 0
theorem yL.kp {P : Nat → Prop} {T T' : zT} {F F' : zF} {l zE : Nat} (h : yL T F l zE) (e : yE P T F T' F') (hp : ¬ P l) : yL T' F' l zE :=
  ⟨(e l _ h.1).1, ((e l _ h.1).2 hp 0).trans h.2.1, ((e l _ h.1).2 hp 1).trans h.2.2.1, ((e l _ h.1).2 hp 2).trans h.2.2.2⟩
/-- the class, fresh -/
def yX (T : zT) (F : zF) (zE x la gs pl tr lb lp tb tp : Nat) : Prop :=
  T x = some (7, 4) ∧ F x 0 = .ref la ∧ F x 1 = .ref gs ∧ F x 2 = .ref pl ∧ F x 3 = .ref tr ∧ yL T F la zE ∧ T gs = some (100, 16) ∧ (∀ j : Nat, F gs j = .int 0) ∧
  (T pl = some (6, 3) ∧ F pl 0 = .ref lb ∧ F pl 1 = .ref lp ∧ F pl 2 = .int 0 ∧ yL T F lb zE ∧ yL T F lp zE) ∧
  (T tr = some (6, 3) ∧ F tr 0 = .ref tb ∧ F tr 1 = .ref tp ∧ F tr 2 = .int 0 ∧ yL T F tb zE ∧ yL T F tp zE) ∧ pl ≠ tr
/-- the reference, fresh (but for what it threw last, and its sum) -/
def yM (T : zT) (F : zF) (zE m ma mp mg mb ml : Nat) : Prop :=
  T m = some (12, 6) ∧ F m 1 = .ref ma ∧ F m 2 = .ref mp ∧ F m 3 = .ref mg ∧ F m 4 = .ref mb ∧ yL T F ma zE ∧ yL T F mp zE ∧
  T mg = some (102, 4) ∧ (∀ j : Nat, j < 4 → F mg j = .ref (mg + 1 + j)) ∧ (∀ j : Nat, j < 4 → T (mg + 1 + j) = some (100, 4)) ∧ (∀ j k : Nat, j < 4 → F (mg + 1 + j) k = .int 0) ∧
  T mb = some (9, 3) ∧ F mb 0 = .ref ml ∧ F mb 1 = .int 0 ∧ F mb 2 = .ref m ∧ yL T F ml zE
/-- the reference is kept: nothing but its own record, at the places 0 and 5, and cells of other kinds may have changed -/
theorem yM.kp {T T' : zT} {F F' : zF} {zE m ma mp mg mb ml : Nat} {P : Nat → Prop} (h : yM T F zE m ma mp mg mb ml) (e : yE P T F T' F') (hp : ∀ a : Nat, P a → a ≠ ma ∧ a ≠ mp ∧ a ≠ mb ∧ a ≠ ml ∧ a ≠ mg ∧ ∀ j : Nat, j < 4 → a ≠ mg + 1 + j) (hm : ∀ j : Nat, j ≠ 0 → j ≠ 5 → F' m j = F m j) : yM T' F' zE m ma mp mg mb ml := by
  obtain ⟨h0, h1, h2, h3, h4, h5, h6, h7, h8, h9, h10, h11, h12, h13, h14, h15⟩ := h
  have ema := e _ _ h5.1
  have n : ∀ {a : Nat}, a = ma ∨ a = mp ∨ a = mb ∨ a = ml ∨ a = mg ∨ (∃ j : Nat, j < 4 ∧ a = mg + 1 + j) → ¬ P a := by
    rintro a (rfl | rfl | rfl | rfl | rfl | ⟨j, hj, rfl⟩) g
    · exact (hp _ g).1 rfl
    · exact (hp _ g).2.1 rfl
    · exact (hp _ g).2.2.1 rfl
    · exact (hp _ g).2.2.2.1 rfl
    · exact (hp _ g).2.2.2.2.1 rfl
    · exact (hp _ g).2.2.2.2.2 j hj rfl
  refine ⟨(e _ _ h0).1, (hm 1 (by decide) (by decide)).trans h1, (hm 2 (by decide) (by decide)).trans h2, (hm 3 (by decide) (by decide)).trans h3, (hm 4 (by decide) (by decide)).trans h4, h5.kp e (n (by simp)), h6.kp e (n (by simp)), (e _ _ h7).1, ?_, fun j hj => (e _ _ (h9 j hj)).1, ?_, (e _ _ h11).1, ?_, ?_, ?_, h15.kp e (n (by simp))⟩
  · exact fun j hj => ((e _ _ h7).2 (n (by simp)) j).trans (h8 j hj)
  · exact fun j k hj => ((e _ _ (h9 j hj)).2 (n (Or.inr (Or.inr (Or.inr (Or.inr (Or.inr ⟨j, hj, rfl⟩)))))) k).trans (h10 j k hj)
  · exact ((e _ _ h11).2 (n (by simp)) 0).trans h12
  · exact ((e _ _ h11).2 (n (by simp)) 1).trans h13
  · exact ((e _ _ h11).2 (n (by simp)) 2).trans h14
/-- kept where no old cell changed -/
theorem yM.k0 {T T' : zT} {F F' : zF} {zE m ma mp mg mb ml : Nat} (h : yM T F zE m ma mp mg mb ml) (e : yE (fun _ => False) T F T' F') : yM T' F' zE m ma mp mg mb ml :=
  h.kp e (fun _ g => g.elim) (fun j _ _ => (e _ _ h.1).2 (fun g => g) j)
/-- kept where cells of a kind that the reference has none of changed -/
theorem yM.kk {T T' : zT} {F F' : zF} {zE m ma mp mg mb ml q : Nat} {t : Nat × Nat} (h : yM T F zE m ma mp mg mb ml) (e : yE (fun a => a = q) T F T' F') (hq : T q = some t) (h1 : t ≠ (2, 3)) (h2 : t ≠ (9, 3)) (h3 : t ≠ (102, 4)) (h4 : t ≠ (100, 4)) (h5 : t ≠ (12, 6)) : yM T' F' zE m ma mp mg mb ml := by
  refine h.kp e (fun a g => ?_) (fun j _ _ => (e _ _ h.1).2 (fun g => y_ne hq h.1 h5 g.symm) j)
  obtain ⟨-, -, -, -, -, k5, k6, k7, -, k9, -, k11, -, -, -, k15⟩ := h
  subst g
  exact ⟨y_ne hq k5.1 h1, y_ne hq k6.1 h1, y_ne hq k11 h2, y_ne hq k15.1 h1, y_ne hq k7 h3, fun j hj => y_ne hq (k9 j hj) h4⟩
/-- kept under a new value of what was thrown, or of the sum -/
theorem yM.km {T : zT} {F : zF} {zE m ma mp mg mb ml k : Nat} {v : Value} (h : yM T F zE m ma mp mg mb ml) (hk : k = 0 ∨ k = 5) : yM T (zu F m k v) zE m ma mp mg mb ml := by
  refine h.kp (P := fun a => a = m) yE.us (fun a g => ?_) (fun j h0 h5 => if_neg fun g => by rcases hk with hk | hk <;> omega)
  obtain ⟨k0, -, -, -, -, k5, k6, k7, -, k9, -, k11, -, -, -, k15⟩ := h
  subst g
  exact ⟨y_ne k0 k5.1 (by decide), y_ne k0 k6.1 (by decide), y_ne k0 k11 (by decide), y_ne k0 k15.1 (by decide), y_ne k0 k7 (by decide), fun j hj => y_ne k0 (k9 j hj) (by decide)⟩
/-- all, as the first call finds it -/
def yW (T : zT) (F : zF) (xs : Nat → Int32) (zE x m o b la gs pl tr lb lp tb tp ma mp mg mb ml : Nat) : Prop :=
  yX T F zE x la gs pl tr lb lp tb tp ∧ yM T F zE m ma mp mg mb ml ∧ T o = some (103, 1) ∧ T b = some (104, 7) ∧ (∀ j : Nat, j < 7 → F b j = .int (xs j)) ∧ T zE = some (101, 0) ∧ la ≠ ma ∧ la ≠ mp ∧ la ≠ ml ∧ ma ≠ mp ∧ ma ≠ ml
theorem y_m1 (p : Int32) : ((0 : Int32) - 1 < p) ↔ ¬ p < 0 := by
  rw [Int32.lt_iff_toInt_lt, Int32.lt_iff_toInt_lt, show ((0 : Int32) - 1).toInt = -1 by decide, show ((0 : Int32)).toInt = 0 by decide]
  omega
theorem y_m1' (p : Int32) : (-1 < p) ↔ ¬ p < 0 := by
  rw [Int32.lt_iff_toInt_lt, Int32.lt_iff_toInt_lt, show (-1 : Int32).toInt = -1 by decide, show ((0 : Int32)).toInt = 0 by decide]
  omega
theorem y_lt3 (p : Int32) : (2 < p) ↔ ¬ p < 3 := by
  rw [Int32.lt_iff_toInt_lt, Int32.lt_iff_toInt_lt, show (2 : Int32).toInt = 2 by decide, show (3 : Int32).toInt = 3 by decide]
  omega
theorem y_lt4 (p : Int32) : (3 < p) ↔ 4 ≤ p := by
  rw [Int32.lt_iff_toInt_lt, Int32.le_iff_toInt_le, show (3 : Int32).toInt = 3 by decide, show (4 : Int32).toInt = 4 by decide]
  omega
theorem y_lt1 (p : Int32) : (0 < p) ↔ ¬ p < 1 := by
  rw [Int32.lt_iff_toInt_lt, Int32.lt_iff_toInt_lt, show (0 : Int32).toInt = 0 by decide, show (1 : Int32).toInt = 1 by decide]
  omega
theorem y_nle {p q : Int32} : (q < p) ↔ ¬ p ≤ q := by
  rw [Int32.lt_iff_toInt_lt, Int32.le_iff_toInt_le]
  omega
theorem y_in {i : Int32} {k n : Nat} (h : i.toInt = k) (hk : k < n) : vp_in i n := by
  unfold vp_in
  rw [Int32.lt_iff_toInt_lt, h, show (0 : Int32).toInt = 0 by decide]
  have e : i.toNatClampNeg = k := by
    show i.toInt.toNat = k
    rw [h]; rfl
  omega
theorem y_in0 : vp_in 0 1 := y_in (k := 0) (by decide) (by decide)
theorem y_in1 : vp_in 1 7 := y_in (k := 1) (by decide) (by decide)
theorem y_in2 : vp_in 2 7 := y_in (k := 2) (by decide) (by decide)
theorem y_in3 : vp_in 3 7 := y_in (k := 3) (by decide) (by decide)
theorem y_in4 : vp_in 4 7 := y_in (k := 4) (by decide) (by decide)
theorem y_in5 : vp_in 5 7 := y_in (k := 5) (by decide) (by decide)
theorem y_in6 : vp_in 6 7 := y_in (k := 6) (by decide) (by decide)
theorem y_c0 : (0 : Int32).toNatClampNeg = 0 := by decide
theorem y_c1 : (1 : Int32).toNatClampNeg = 1 := by decide
theorem y_c2 : (2 : Int32).toNatClampNeg = 2 := by decide
theorem y_c3 : (3 : Int32).toNatClampNeg = 3 := by decide
theorem y_c4 : (4 : Int32).toNatClampNeg = 4 := by decide
theorem y_c5 : (5 : Int32).toNatClampNeg = 5 := by decide
theorem y_c6 : (6 : Int32).toNatClampNeg = 6 := by decide
theorem y_cmp (v : Int64) : lg_cmp v v = 0 := by
  unfold lg_cmp
  rw [if_neg (by rw [gt_iff_lt, Int64.lt_iff_toInt_lt]; omega), if_pos rfl]
theorem y_zu (F : zF) (a k : Nat) (v : Value) (b j : Nat) : zu F a k v b j = if b = a ∧ j = k then v else F b j := rfl
theorem y_sh (p : Int32) : p >>> ((0 : Int32) &&& 31) = p := by
  rw [show ((0 : Int32) &&& 31) = 0 by decide]
  apply Int32.toBitVec_inj.mp
  rw [Int32.toBitVec_shiftRight]
  simp
/-! loops over a list that holds nothing -/
theorem s_it {l c : Nat} {cv : Int32} {T : zT} {F : zF} {K : zT → zF → Prop} (hl : T l = some (2, 3)) (h0 : F l 0 = .int cv) (h2 : F l 2 = .int 0) (hk : ∀ (T' : zT) (F' : zF), yE (fun _ => False) T F T' F' → K T' F') :
    v_Jx4a65c_iterator_32c93 l T F (fun (r : Nat) (T6 : zT) (F7 : zF) => (T6 r = some (1, 4) ∧ (v_Jx35411_hasNext_aae02 r T6 F7 (fun (r9 : Int32) => ((r9 = 0 → K T6 F7) ∧ (¬ r9 = 0 → False)))))) := by
  intro q hq
  have hlq := y_nq hl hq
  have e1 : zn T q (1, 4) q = some (1, 4) := z_nq
  have e2 : zn T q (1, 4) l = some (2, 3) := (if_neg (Nat.ne_of_lt hlq)).trans hl
  refine ⟨e1, e2, cv, ?_, e1, e1, 0, ?_, l, ?_, e2, 0, ?_, fun _ => ⟨fun _ => hk _ _ ?_, fun h => absurd rfl h⟩, fun h => absurd rfl h⟩
  · simp [zu, zm, Nat.ne_of_lt hlq, h0]
  · simp [zu, zm, tyJx35411, defaultValue]
  · simp [zu, zm]
  · simp [zu, zm, Nat.ne_of_lt hlq, h2]
  · have hn : T q = none := hq q (Nat.le_refl _)
    exact (((yE.nn hq).un hn).un hn).un hn
theorem s_inState {mb ml zE : Nat} {k : Int32} {T : zT} {F : zF} {Post : Int32 → zT → zF → Prop} (hb : T mb = some (9, 3)) (h0 : F mb 0 = .ref ml) (hl : yL T F ml zE) (hk : ∀ (T' : zT) (F' : zF), yE (fun _ => False) T F T' F' → Post 0 T' F') : v_X6_inState mb k T F Post :=
  ⟨hb, ml, h0, hl.1, s_it (c := 0) hl.1 hl.2.1 hl.2.2.2 hk⟩
theorem s_next {mb ml zE : Nat} {t : Int32} {T : zT} {F : zF} {Post : Int32 → zT → zF → Prop} (hb : T mb = some (9, 3)) (h0 : F mb 0 = .ref ml) (h1 : F mb 1 = .int t) (hl : yL T F ml zE) (hk : ∀ (T' : zT) (F' : zF), yE (fun _ => False) T (zu F mb 1 (.int (t + 1))) T' F' → Post 0 T' F') : v_X6_next mb T F Post := by
  have hne : ml ≠ mb := y_ne hl.1 hb (by decide)
  have g0 : (zu F mb 1 (.int (t + 1))) mb 0 = .ref ml := z_une h0 (by decide)
  have gl : yL T (zu F mb 1 (.int (t + 1))) ml zE := hl.kp (P := fun a => a = mb) yE.us hne
  refine ⟨hb, t, h1, ml, g0, gl.1, s_it (c := 0) gl.1 gl.2.1 gl.2.2.2 fun T1 F1 e1 => ?_⟩
  have gl1 := gl.kp e1 (fun g => g)
  refine ⟨(e1 _ _ hb).1, ml, ((e1 _ _ hb).2 (fun g => g) 0).trans g0, gl1.1, s_it (c := 0) gl1.1 gl1.2.1 gl1.2.2.2 fun T2 F2 e2 => ?_⟩
  have e12 := e1.tr e2
  have gl2 := gl.kp e12 (fun g => g)
  refine ⟨(e12 _ _ hb).1, ml, ((e12 _ _ hb).2 (fun g => g) 0).trans g0, gl2.1, s_it (c := 0) gl2.1 gl2.2.1 gl2.2.2.2 fun T3 F3 e3 => ?_⟩
  exact hk T3 F3 (e12.tr e3)
theorem s_manyNow {zE m ma mp mg mb ml : Nat} {p : Int32} {T : zT} {F : zF} {Post : Int32 → zT → zF → Prop} (h : yM T F zE m ma mp mg mb ml) (hk : ∀ (T' : zT) (F' : zF), yE (fun _ => False) T F T' F' → Post 0 T' F') : v_X9_manyNow m p T F Post := by
  obtain ⟨h0, h1, h2, h3, h4, h5, h6, h7, h8, h9, h10, h11, h12, h13, h14, h15⟩ := h
  have hs : ∀ k : Int32, v_X6_inState mb k T F (fun (r5 : Int32) (T6 : zT) (F7 : zF) => Post r5 T6 F7) := fun k => s_inState h11 h12 h15 hk
  have hi := s_it (c := 0) (K := fun T' F' => Post 0 T' F') h15.1 h15.2.1 h15.2.2.2 hk
  refine ⟨fun _ => ⟨h0, mb, h4, h11, hs _⟩, fun _ => ⟨h0, ma, h1, h5.1, h5.1, 0, h5.2.2.2, hk T F yE.rf⟩, fun _ => ⟨h0, mp, h2, h6.1, h6.1, 0, h6.2.2.2, hk T F yE.rf⟩, fun _ => ⟨h0, mb, h4, h11, ml, h12, h15.1, h15.1, 0, h15.2.2.2, hk T F yE.rf⟩, fun _ => ⟨h0, mb, h4, h11, hs _⟩, fun _ => ⟨h0, mb, h4, h11, hs _⟩, fun _ => ⟨h0, mb, h4, h11, hs _⟩, fun _ => ⟨h0, mb, h4, h11, hs _⟩, fun _ => ⟨h0, mb, h4, h11, hs _⟩, fun _ => ⟨h0, mb, h4, h11, ml, h12, h15.1, hi⟩, fun _ => ⟨h0, mb, h4, h11, ml, h12, h15.1, hi⟩, fun _ => ⟨h0, mb, h4, h11, 0, h13, hk T F yE.rf⟩⟩
theorem s_bits {T : zT} {F : zF} {Post : Int32 → Prop} (h : Post 0) : v_J6_bitCount_0f7a4 0 T F Post := by
  intro y1 e1 y3 e3 y5 e5 y7 e7 y9 e9
  have a1 : y1 = 0 := e1.trans (by decide)
  subst a1
  have a3 : y3 = 0 := e3.trans (by decide)
  subst a3
  have a5 : y5 = 0 := e5.trans (by decide)
  subst a5
  have a7 : y7 = 0 := e7.trans (by decide)
  subst a7
  have a9 : y9 = 0 := e9.trans (by decide)
  subst a9
  exact h
theorem s_reachNow {zE m ma mp mg mb ml : Nat} {p : Int32} {T : zT} {F : zF} {Post : Int32 → zT → zF → Prop} (h : yM T F zE m ma mp mg mb ml) (hk : ∀ (T' : zT) (F' : zF), yE (fun _ => False) T F T' F' → Post 0 T' F') : v_X9_reachNow m p T F Post := by
  obtain ⟨h0, h1, h2, h3, h4, h5, h6, h7, h8, h9, h10, h11, h12, h13, h14, h15⟩ := h
  exact ⟨h0, mb, h4, h11, ml, h12, h15.1, s_it (c := 0) h15.1 h15.2.1 h15.2.2.2 fun T' F' e => s_bits (hk T' F' e)⟩
/-- a list that is made -/
theorem s_list {q zE : Nat} {T : zT} {F : zF} {Post : zF → Prop} (hq : ∀ b, q ≤ b → T b = none)
    (hk : ∀ F' : zF, yE (fun _ => False) T F (zn T q (2, 3)) F' → yL (zn T q (2, 3)) F' q zE → Post F') : v_Jx4a65c_init_da8c8 zE q (zn T q (2, 3)) (zm F q (fun j => defaultValue (tyJx4a65c j))) Post := by
  have e1 : zn T q (2, 3) q = some (2, 3) := z_nq
  have hn : T q = none := hq q (Nat.le_refl _)
  refine ⟨e1, e1, hk _ (((yE.nn hq).un hn).un hn) ⟨e1, ?_, ?_, ?_⟩⟩
  · simp [zu]
  · simp [zu]
  · simp [zu, zm, tyJx4a65c, defaultValue]
theorem s_X6_init {zE a m : Nat} {T : zT} {F : zF} {Post : zT → zF → Prop} (ha : T a = some (9, 3)) (hk : ∀ (l : Nat) (T' : zT) (F' : zF), yE (fun q => q = a) T F T' F' → (∀ j : Nat, j ≠ 0 → j ≠ 2 → F' a j = F a j) → T l = none → T' a = some (9, 3) → F' a 0 = .ref l → F' a 2 = .ref m → yL T' F' l zE → Post T' F') : v_X6_init zE a m T F Post := by
  refine ⟨ha, fun q hq => s_list hq fun F4 e4 g4 => ?_⟩
  have hn : T q = none := hq q (Nat.le_refl _)
  have hqa : q ≠ a := fun e => by rw [e, ha] at hn; cases hn
  have ea := e4 _ _ ha
  refine ⟨ea.1, hk q _ _ ((yE.us.tr (e4.wk fun _ g => g.elim)).tr yE.us) (fun j h0 h2 => ?_) hn ea.1 z_ueq ?_ (g4.kp (P := fun b => b = a) yE.us hqa)⟩
  · exact (if_neg fun g => h0 g.2).trans ((ea.2 (fun g => g) j).trans (if_neg fun g => h2 g.2))
  · exact z_une ((ea.2 (fun g => g) 2).trans z_ueq) (by decide)
theorem s_copy {zE mb ml m : Nat} {t : Int32} {T : zT} {F : zF} {Post : Nat → zT → zF → Prop} (hb : T mb = some (9, 3)) (h0 : F mb 0 = .ref ml) (h1 : F mb 1 = .int t) (h2 : F mb 2 = .ref m) (hl : yL T F ml zE) (hk : ∀ (r l : Nat) (T' : zT) (F' : zF), yE (fun _ => False) T F T' F' → T r = none → T' r = some (9, 3) → F' r 0 = .ref l → F' r 1 = .int t → yL T' F' l zE → T l = none → Post r T' F') : v_X6_copy zE mb T F Post := by
  intro q hq
  have hn : T q = none := hq q (Nat.le_refl _)
  have hbq := y_nq hb hq
  have eZ := yE.nn (P := fun _ => False) (F := F) (t := (9, 3)) (V := fun j => defaultValue (tyX6 j)) hq
  refine ⟨(eZ _ _ hb).1, m, ((eZ _ _ hb).2 (fun g => g) 2).trans h2, s_X6_init (zE := zE) z_nq fun l T6 F7 e6 k6 hl0 hr hr0 hr2 gl => ?_⟩
  have eO : yE (fun _ => False) T F T6 F7 := fun a s ha => ⟨(e6 _ _ (eZ a s ha).1).1, fun _ j => ((e6 _ _ (eZ a s ha).1).2 (Nat.ne_of_lt (y_nq ha hq)) j).trans ((eZ a s ha).2 (fun g => g) j)⟩
  have gml := hl.kp eO (fun g => g)
  refine ⟨(eO _ _ hb).1, ml, ((eO _ _ hb).2 (fun g => g) 0).trans h0, gml.1, s_it (c := 0) gml.1 gml.2.1 gml.2.2.2 fun T' F' e' => ?_⟩
  have eO' := eO.tr e'
  have er := e' _ _ hr
  have hln : T l = none := by
    have h9 : zn T q (9, 3) l = none := hl0
    unfold zn at h9
    by_cases g : l = q
    · rw [if_pos g] at h9; cases h9
    · rw [if_neg g] at h9; exact h9
  have hlr : l ≠ q := y_ne gl.1 hr (by decide)
  refine ⟨(eO' _ _ hb).1, t, ((eO' _ _ hb).2 (fun g => g) 1).trans h1, er.1, hk q l T' _ (eO'.un hn) hn er.1 ?_ z_ueq ((gl.kp e' (fun g => g)).kp (P := fun b => b = q) yE.us hlr) hln⟩
  exact z_une ((er.2 (fun g => g) 0).trans hr0) (by decide)
theorem s_lostInNow {zE m ma mp mg mb ml : Nat} {p : Int32} {T : zT} {F : zF} {Post : Int32 → zT → zF → Prop} (h : yM T F zE m ma mp mg mb ml) (hp : p.toInt ≤ 30) (hk : ∀ (T' : zT) (F' : zF), yE (fun _ => False) T F T' F' → Post 0 T' F') : v_X9_lostInNow zE m p T F Post := by
  have hM := h
  obtain ⟨h0, h1, h2, h3, h4, h5, h6, h7, h8, h9, h10, h11, h12, h13, h14, h15⟩ := h
  refine ⟨h0, mb, h4, h11, s_copy h11 h12 h13 h14 h15 fun r l T6 F7 e6 hr0 hr hrl ht hl hl0 => ?_⟩
  have fin : ∀ (T1 : zT) (F1 : zF), yE (fun _ => False) T F T1 F1 → T1 r = some (9, 3) → F1 r 0 = .ref l → yL T1 F1 l zE → v_X6_inState r 4 T1 F1 (fun (r17 : Int32) (T18 : zT) (F19 : zF) => (T18 m = some (12, 6) ∧ ∃ x22 : Nat, F19 m 4 = .ref x22 ∧ T18 x22 = some (9, 3) ∧ (v_X6_inState x22 4 T18 F19 (fun (r24 : Int32) (T25 : zT) (F26 : zF) => Post (r17 - r24) T25 F26)))) := fun T1 F1 e1 g1 g2 g3 =>
    s_inState g1 g2 g3 fun T2 F2 e2 => by
      have e12 := e1.tr e2
      obtain ⟨k0, -, -, -, k4, -, -, -, -, -, -, k11, k12, -, -, k15⟩ := hM.k0 e12
      exact ⟨k0, mb, k4, k11, s_inState k11 k12 k15 fun T3 F3 e3 => hk T3 F3 (e12.tr e3)⟩
  refine ⟨fun n y T1 F1 => n + y.toInt.toNat = 30 ∧ 0 ≤ y.toInt ∧ y.toInt ≤ 30 ∧ yE (fun _ => False) T F T1 F1 ∧ T1 r = some (9, 3) ∧ F1 r 0 = .ref l ∧ (∃ t : Int32, F1 r 1 = .int t) ∧ yL T1 F1 l zE, ⟨30, by decide, by decide, by decide, by decide, e6, hr, hrl, ⟨_, ht⟩, hl⟩, ?_⟩
  rintro n y T1 F1 hn ⟨hny, hy0, hy1, e1, g1, g2, ⟨t, g3⟩, g4⟩
  refine ⟨fun _ => ⟨g1, fin T1 F1 e1 g1 g2 g4⟩, fun hlt => ⟨g1, t, g3, fun _ => fin T1 F1 e1 g1 g2 g4, fun _ => s_next g1 g2 g3 g4 fun T2 F2 e2 => ?_⟩⟩
  have hyp : y.toInt < 30 := by
    rw [Int32.le_iff_toInt_le] at hlt
    omega
  have hy2 : (y + 1).toInt = y.toInt + 1 := by
    rw [Int32.toInt_add, show (1 : Int32).toInt = 1 by decide, Int.bmod_def]
    omega
  have e9 : yE (fun _ => False) T F T1 (zu F1 r 1 (.int (t + 1))) := e1.un hr0
  have hlr : l ≠ r := y_ne g4.1 g1 (by decide)
  have g4' : yL T1 (zu F1 r 1 (.int (t + 1))) l zE := g4.kp (P := fun b => b = r) yE.us hlr
  refine ⟨n - 1, by omega, by omega, by omega, by omega, e9.tr e2, (e2 _ _ g1).1, ((e2 _ _ g1).2 (fun g => g) 0).trans (z_une g2 (by decide)), ⟨t + 1, ((e2 _ _ g1).2 (fun g => g) 1).trans z_ueq⟩, g4'.kp e2 (fun g => g)⟩
theorem s_add {m : Nat} {p : Int32} {v : Int64} {T : zT} {F : zF} {Post : zF → Prop} (hm : T m = some (12, 6)) (hv : F m 5 = .long v) (hk : Post (zu F m 5 (.long ((v * 31) + p.toInt64)))) : v_X9_add m p T F Post := ⟨hm, v, hv, hk⟩
/-- 5741 and k zeros -/
def y_sum : Nat → Int64
  | 0 => 5741
  | k + 1 => (y_sum k * 31) + (0 : Int32).toInt64
theorem y_inc {y : Int32} {k : Nat} (h : y.toInt = k) (hk : k < 1000) : (y + 1).toInt = (k + 1 : Nat) := by
  rw [Int32.toInt_add, show (1 : Int32).toInt = 1 by decide, Int.bmod_def]
  omega
theorem s_digestM {zE m ma mp mg mb ml : Nat} {T : zT} {F : zF} {Post : Int64 → zT → zF → Prop} (h : yM T F zE m ma mp mg mb ml) (hk : ∀ (T' : zT) (F' : zF), yE (fun a => a = m) T F T' F' → Post (y_sum 16) T' F') : v_X9_digest zE m T F Post := by
  have h0 := h.1
  have g1 : yM T (zu (zu F m 0 (.int 0)) m 5 (.long 5741)) zE m ma mp mg mb ml := (h.km (Or.inl rfl)).km (Or.inr rfl)
  have e1 : yE (fun a => a = m) T F T (zu (zu F m 0 (.int 0)) m 5 (.long 5741)) := yE.us.tr yE.us
  refine ⟨h0, fun n y T1 F1 => ∃ k : Nat, k ≤ 11 ∧ n = 11 - k ∧ y.toInt = k ∧ yE (fun a => a = m) T F T1 F1 ∧ yM T1 F1 zE m ma mp mg mb ml ∧ F1 m 5 = .long (y_sum k), ⟨11, by decide, 0, by decide, rfl, by decide, e1, g1, z_ueq⟩, ?_⟩
  rintro n y T1 F1 - ⟨k, hk11, rfl, hy, e, g, hs⟩
  refine ⟨fun hge => ?_, fun hlt => ⟨g.1, s_manyNow g fun T2 F2 e2 => ?_⟩⟩
  · have hk1 : k = 11 := by
      rw [Int32.le_iff_toInt_le, show (11 : Int32).toInt = 11 by decide] at hge
      omega
    subst hk1
    refine ⟨g.1, ma, g.2.1, g.2.2.2.2.2.1.1, s_it (c := 0) g.2.2.2.2.2.1.1 g.2.2.2.2.2.1.2.1 g.2.2.2.2.2.1.2.2.2 fun T2 F2 e2 => ?_⟩
    have g2 := g.k0 e2
    have hs2 := ((e2 _ _ g.1).2 (fun q => q) 5).trans hs
    have e02 := e.tr e2.w0
    refine ⟨fun _ y => y = 0, ⟨0, rfl⟩, ?_⟩
    rintro - y1 rfl
    obtain ⟨k0, k1, k2, k3, k4, k5, k6, k7, k8, k9, k10, k11, k12, k13, k14, k15⟩ := id g2
    refine ⟨k0, mp, k2, k6.1, k6.1, 0, k6.2.2.2, fun _ => ⟨mb, k4, k11, ml, k12, k15.1, s_it (c := 0) k15.1 k15.2.1 k15.2.2.2 fun T3 F3 e3 => ?_⟩, fun h => absurd (by decide) h⟩
    have g3 := g2.k0 e3
    have hs3 := ((e3 _ _ g2.1).2 (fun q => q) 5).trans hs2
    have e03 := e02.tr e3.w0
    refine ⟨fun n y T1 F1 => ∃ k : Nat, k ≤ 4 ∧ n = 4 - k ∧ y.toInt = k ∧ yE (fun a => a = m) T F T1 F1 ∧ yM T1 F1 zE m ma mp mg mb ml ∧ F1 m 5 = .long (y_sum (11 + k)), ⟨4, by decide, 0, by decide, rfl, by decide, e03, g3, hs3⟩, ?_⟩
    rintro n y T4 F4 - ⟨k, hk4, rfl, hy, e4, g4, hs4⟩
    refine ⟨fun hge => ⟨g4.1, s_lostInNow g4 (by decide) fun T5 F5 e5 => ?_⟩, fun hlt => ⟨g4.1, s_reachNow g4 fun T5 F5 e5 => ?_⟩⟩
    · have hk1 : k = 4 := by
        rw [Int32.le_iff_toInt_le, show (4 : Int32).toInt = 4 by decide] at hge
        omega
      subst hk1
      have hs5 := ((e5 _ _ g4.1).2 (fun q => q) 5).trans hs4
      exact ⟨(e5 _ _ g4.1).1, s_add (e5 _ _ g4.1).1 hs5 ⟨_, z_ueq, hk _ _ ((e4.tr e5.w0).tr yE.us)⟩⟩
    · have hk1 : k < 4 := by
        rw [Int32.le_iff_toInt_le, show (4 : Int32).toInt = 4 by decide] at hlt
        omega
      have hs5 := ((e5 _ _ g4.1).2 (fun q => q) 5).trans hs4
      exact ⟨(e5 _ _ g4.1).1, s_add (e5 _ _ g4.1).1 hs5 ⟨4 - (k + 1), by omega, k + 1, by omega, rfl, y_inc hy (by omega), (e4.tr e5.w0).tr yE.us, (g4.k0 e5).km (Or.inr rfl), z_ueq⟩⟩
  · have hk1 : k < 11 := by
      rw [Int32.le_iff_toInt_le, show (11 : Int32).toInt = 11 by decide] at hlt
      omega
    have hs2 := ((e2 _ _ g.1).2 (fun q => q) 5).trans hs
    exact ⟨(e2 _ _ g.1).1, s_add (e2 _ _ g.1).1 hs2 ⟨11 - (k + 1), by omega, k + 1, by omega, rfl, y_inc hy (by omega), (e.tr e2.w0).tr yE.us, (g.k0 e2).km (Or.inr rfl), z_ueq⟩⟩
/-! the class -/
theorem yX.kp {T T' : zT} {F F' : zF} {zE x la gs pl tr lb lp tb tp : Nat} (h : yX T F zE x la gs pl tr lb lp tb tp) (e : yE (fun _ => False) T F T' F') : yX T' F' zE x la gs pl tr lb lp tb tp := by
  obtain ⟨h0, h1, h2, h3, h4, h5, h6, h7, ⟨p0, p1, p2, p3, p4, p5⟩, ⟨t0, t1, t2, t3, t4, t5⟩, h8⟩ := h
  have k : ∀ {a : Nat} {t : Nat × Nat} (j : Nat), T a = some t → F' a j = F a j := fun j ha => (e _ _ ha).2 (fun g => g) j
  exact ⟨(e _ _ h0).1, (k 0 h0).trans h1, (k 1 h0).trans h2, (k 2 h0).trans h3, (k 3 h0).trans h4, h5.kp e (fun g => g), (e _ _ h6).1, fun j => (k j h6).trans (h7 j), ⟨(e _ _ p0).1, (k 0 p0).trans p1, (k 1 p0).trans p2, (k 2 p0).trans p3, p4.kp e (fun g => g), p5.kp e (fun g => g)⟩, ⟨(e _ _ t0).1, (k 0 t0).trans t1, (k 1 t0).trans t2, (k 2 t0).trans t3, t4.kp e (fun g => g), t5.kp e (fun g => g)⟩, h8⟩
theorem s_many {zE x la gs pl tr lb lp tb tp : Nat} {p : Int32} {T : zT} {F : zF} {Post : Int32 → Prop} {PX : String → Prop} (h : yX T F zE x la gs pl tr lb lp tb tp) (hx : (p.toInt < 0 ∨ 10 < p.toInt) → PX "java/lang/IllegalArgumentException") (hk : ¬ (p.toInt < 0 ∨ 10 < p.toInt) → Post 0) : v_X4_many x p T F Post PX := by
  obtain ⟨h0, h1, h2, h3, h4, h5, h6, h7, ⟨p0, p1, p2, p3, p4, p5⟩, -, -⟩ := h
  have k : ∀ v : Int32, ¬ (v.toInt < 0 ∨ 10 < v.toInt) → p = v → Post 0 := fun v hv e => hk (by rw [e]; exact hv)
  have c : ∀ v : Int32, Post 0 → v_X3_countInState pl v T F (fun (r : Int32) => Post r) := fun v g => ⟨p0, lb, p1, p4.1, p4.1, 0, p4.2.2.2, fun _ => g, fun h => absurd (by decide) h⟩
  exact ⟨hx, fun e => ⟨h0, la, h1, h5.1, h5.1, 0, h5.2.2.2, k _ (by decide) e⟩, fun e => ⟨h0, pl, h3, p0, lp, p2, p5.1, p5.1, 0, p5.2.2.2, k _ (by decide) e⟩, fun e => ⟨h0, pl, h3, p0, lb, p1, p4.1, p4.1, 0, p4.2.2.2, k _ (by decide) e⟩,
    fun e => ⟨h0, pl, h3, p0, c _ (k _ (by decide) e)⟩, fun e => ⟨h0, pl, h3, p0, c _ (k _ (by decide) e)⟩, fun e => ⟨h0, pl, h3, p0, c _ (k _ (by decide) e)⟩, fun e => ⟨h0, pl, h3, p0, c _ (k _ (by decide) e)⟩, fun e => ⟨h0, pl, h3, p0, c _ (k _ (by decide) e)⟩,
    fun e => ⟨h0, pl, h3, p0, p0, lb, p1, p4.1, p4.1, 0, p4.2.2.2, fun _ => k _ (by decide) e, fun h => absurd (by decide) h⟩, fun e => ⟨h0, pl, h3, p0, p0, lb, p1, p4.1, p4.1, 0, p4.2.2.2, fun _ => k _ (by decide) e, fun h => absurd (by decide) h⟩, fun e => ⟨h0, pl, h3, p0, 0, p3, k _ (by decide) e⟩⟩
theorem s_reach {zE x la gs pl tr lb lp tb tp : Nat} {p : Int32} {T : zT} {F : zF} {Post : Int32 → Prop} {PX : String → Prop} (h : yX T F zE x la gs pl tr lb lp tb tp) (hx : (p < 0 ∨ 4 ≤ p) → PX "java/lang/IndexOutOfBoundsException") (hk : ¬ (p < 0 ∨ 4 ≤ p) → Post 0) : v_X4_reach x p T F Post PX := by
  obtain ⟨h0, h1, h2, h3, h4, h5, h6, h7, ⟨p0, p1, p2, p3, p4, p5⟩, -, -⟩ := h
  refine ⟨fun g => ⟨fun n => absurd rfl n, fun _ => hx (Or.inl g)⟩, fun g => ⟨fun g4 => ⟨fun n => absurd rfl n, fun _ => hx (Or.inr g4)⟩, fun g4 => ⟨fun _ => ⟨h0, h0, pl, h3, p0, lb, p1, p4.1, p4.1, 0, p4.2.2.2, fun _ => s_bits (hk (fun q => q.elim g g4)), fun h => absurd (by decide) h⟩, fun n => absurd n (by decide)⟩⟩⟩
theorem s_beginDay {zE p lb : Nat} {t : Int32} {T : zT} {F : zF} {Post : Int32 → zF → Prop} (h0 : T p = some (6, 3)) (h2 : F p 2 = .int t) (h1 : F p 0 = .ref lb) (hl : yL T F lb zE) (hk : Post 0 (zu F p 2 (.int (t + 1)))) : v_X3_beginDay p T F Post := by
  have hne : lb ≠ p := y_ne hl.1 h0 (by decide)
  have gl : yL T (zu F p 2 (.int (t + 1))) lb zE := hl.kp (P := fun a => a = p) yE.us hne
  exact ⟨h0, t, h2, lb, z_une h1 (by decide), gl.1, gl.1, 0, gl.2.2.2, fun _ => ⟨gl.1, 0, gl.2.2.2, fun _ => ⟨gl.1, 0, gl.2.2.2, fun _ => hk, fun h => absurd (by decide) h⟩, fun h => absurd (by decide) h⟩, fun h => absurd (by decide) h⟩
theorem s_dayX {zE x la gs pl tr lb lp tb tp : Nat} {T : zT} {F : zF} {Post : Int32 → zF → Prop} {PX : String → zF → Prop} (h : yX T F zE x la gs pl tr lb lp tb tp) (hk : ∀ F' : zF, yE (fun a => a = pl) T F T F' → Post 0 F') : v_X4_day x T F Post PX := by
  obtain ⟨h0, h1, h2, h3, h4, h5, h6, h7, ⟨p0, p1, p2, p3, p4, p5⟩, -, -⟩ := h
  exact ⟨h0, pl, h3, p0, 0, p3, fun _ => s_beginDay p0 p3 p1 p4 (hk _ yE.us), fun h => absurd (by decide) h⟩
theorem s_lostIn {zE x la gs pl tr lb lp tb tp : Nat} {p : Int32} {T : zT} {F : zF} {Post : Int32 → zF → Prop} {PX : String → zF → Prop} (h : yX T F zE x la gs pl tr lb lp tb tp) (hx : (p < 1 ∨ ¬ p ≤ 30) → PX "java/lang/IllegalArgumentException" F) (hk : ¬ (p < 1 ∨ ¬ p ≤ 30) → ∀ F' : zF, yE (fun a => a = tr) T F T F' → Post 0 F') : v_X4_lostIn x p T F Post PX := by
  obtain ⟨h0, h1, h2, h3, h4, h5, h6, h7, ⟨p0, p1, p2, p3, p4, p5⟩, ⟨t0, t1, t2, t3, t4, t5⟩, hne⟩ := h
  refine ⟨fun g => hx (Or.inl g), fun g => ⟨fun g3 => ?_, fun g3 => hx (Or.inr g3)⟩⟩
  have hK := hk (fun q => q.elim g (fun q => q g3))
  have nx : x ≠ tr := y_ne h0 t0 (by decide)
  have nlb : lb ≠ tr := y_ne p4.1 t0 (by decide)
  have ntb : tb ≠ tr := y_ne t4.1 t0 (by decide)
  have eF : yE (fun a => a = tr) T F T (zu (zu F tr 2 (.int 0)) tr 1 (.ref lp)) := yE.us.tr yE.us
  have gb := p4.kp eF nlb
  have fin : ∀ F1 : zF, yE (fun a => a = tr) T F T F1 → F1 tr 0 = .ref tb → (∃ x23 : Nat, F1 x 3 = .ref x23 ∧ T x23 = some (6, 3) ∧ (v_X3_countInState x23 4 T F1 (fun (r25 : Int32) => (∃ x27 : Nat, F1 x 2 = .ref x27 ∧ T x27 = some (6, 3) ∧ (v_X3_countInState x27 4 T F1 (fun (r29 : Int32) => Post (r25 - r29) F1)))))) := fun F1 e1 k0 => by
    have kb := p4.kp e1 nlb
    have kt := t4.kp e1 ntb
    exact ⟨tr, ((e1 _ _ h0).2 nx 3).trans h4, t0, t0, tb, k0, kt.1, kt.1, 0, kt.2.2.2, fun _ => ⟨pl, ((e1 _ _ h0).2 nx 2).trans h3, p0, p0, lb, ((e1 _ _ p0).2 hne 0).trans p1, kb.1, kb.1, 0, kb.2.2.2, fun _ => hK F1 e1, fun h => absurd (by decide) h⟩, fun h => absurd (by decide) h⟩
  refine ⟨h0, tr, h4, pl, h3, t0, p0, 0, p3, t0, lp, ((yE.us (a := tr) _ _ p0).2 hne 1).trans p2, lb, ((eF _ _ p0).2 hne 0).trans p1, p4.1, gb.1, 0, gb.2.2.2, fun _ => ?_, fun h => absurd (by decide) h⟩
  refine ⟨pl, ((eF _ _ h0).2 nx 2).trans h3, p0, 0, ((eF _ _ p0).2 hne 2).trans p3, fun y13 hy => ?_⟩
  have hy30 : y13.toInt ≤ 30 := by
    rw [Int32.le_iff_toInt_le, show (30 : Int32).toInt = 30 by decide] at g3
    rw [show (99 : Int32) - 0 = 99 by decide] at hy
    rw [hy]
    by_cases c : (99 : Int32) < p
    · rw [Int32.lt_iff_toInt_lt, show (99 : Int32).toInt = 99 by decide] at c
      omega
    · rw [if_neg c]; exact g3
  refine ⟨fun n y F1 => ∃ k : Nat, k ≤ 30 ∧ n = 30 - k ∧ y.toInt = k ∧ yE (fun a => a = tr) T F T F1 ∧ F1 tr 0 = .ref tb ∧ ∃ t : Int32, F1 tr 2 = .int t, ⟨30, 0, by decide, rfl, by decide, eF, z_une (z_une t1 (by decide)) (by decide), 0, z_une z_ueq (by decide)⟩, ?_⟩
  rintro n y F1 ⟨k, hk30, rfl, hyk, e1, k0, t, k2⟩
  refine ⟨fun _ => fin F1 e1 k0, fun hlt => ⟨tr, ((e1 _ _ h0).2 nx 3).trans h4, t0, s_beginDay t0 k2 k0 (t4.kp e1 ntb) ?_⟩⟩
  have hk1 : k < 30 := by
    rw [Int32.le_iff_toInt_le] at hlt
    omega
  exact ⟨30 - (k + 1), by omega, k + 1, by omega, rfl, y_inc hyk (by omega), e1.tr yE.us, z_une k0 (by decide), t + 1, z_ueq⟩
theorem s_digestX {zE x la gs pl tr lb lp tb tp : Nat} {T : zT} {F : zF} {Post : Int64 → zF → Prop} (h : yX T F zE x la gs pl tr lb lp tb tp) (hk : ∀ F' : zF, yE (fun a => a = tr) T F T F' → Post (y_sum 16) F') : v_X4_digest x T F Post := by
  obtain ⟨h0, h1, h2, h3, h4, h5, h6, h7, ⟨p0, p1, p2, p3, p4, p5⟩, -, -⟩ := id h
  refine ⟨fun n s y => ∃ k : Nat, k ≤ 11 ∧ n = 11 - k ∧ y.toInt = k ∧ s = y_sum k, ⟨11, 0, by decide, rfl, by decide, rfl⟩, ?_⟩
  rintro n s y ⟨k, hk11, rfl, hy, rfl⟩
  refine ⟨fun hgt => ?_, fun hle => ⟨h0, s_many h (fun g => ?_) (fun _ => ?_)⟩⟩
  · have hk1 : k = 11 := by
      rw [Int32.lt_iff_toInt_lt, show (10 : Int32).toInt = 10 by decide] at hgt
      omega
    subst hk1
    refine ⟨fun _ s y => s = y_sum 11 ∧ y = 0, ⟨0, rfl, rfl⟩, ?_⟩
    rintro - s1 y1 ⟨rfl, rfl⟩
    refine ⟨h0, la, h1, h5.1, h5.1, 0, h5.2.2.2, fun _ => ⟨pl, h3, p0, lp, p2, p5.1, p5.1, 0, p5.2.2.2, fun _ => ⟨lb, p1, p4.1, p4.1, 0, p4.2.2.2, fun _ => ?_, fun h => absurd (by decide) h⟩, fun h => absurd (by decide) h⟩, fun h => absurd (by decide) h⟩
    refine ⟨fun n s y => ∃ k : Nat, k ≤ 4 ∧ n = 4 - k ∧ y.toInt = k ∧ s = y_sum (11 + k), ⟨4, 0, by decide, rfl, by decide, rfl⟩, ?_⟩
    rintro n s y ⟨k, hk4, rfl, hy, rfl⟩
    refine ⟨fun hge => s_lostIn h (fun g => absurd g (by decide)) (fun _ F' e' => ?_), fun hlt => s_reach h (fun g => ?_) (fun _ => ?_)⟩
    · have hk1 : k = 4 := by
        rw [Int32.le_iff_toInt_le, show (4 : Int32).toInt = 4 by decide] at hge
        omega
      subst hk1
      exact hk F' e'
    · rw [Int32.lt_iff_toInt_lt, show (0 : Int32).toInt = 0 by decide, hy] at g
      rcases g with g | g
      · omega
      · exact hlt g
    · have hk1 : k < 4 := by
        rw [Int32.le_iff_toInt_le, show (4 : Int32).toInt = 4 by decide] at hlt
        omega
      exact ⟨4 - (k + 1), by omega, k + 1, by omega, rfl, y_inc hy (by omega), rfl⟩
  · rw [Int32.lt_iff_toInt_lt, show (10 : Int32).toInt = 10 by decide] at hle
    omega
  · have hk1 : k < 11 := by
      rw [Int32.lt_iff_toInt_lt, show (10 : Int32).toInt = 10 by decide] at hle
      omega
    exact ⟨11 - (k + 1), by omega, k + 1, by omega, rfl, y_inc hy (by omega), rfl⟩
/-! one asset -/
theorem s_fill {a : Nat} {v : Int32} {T : zT} {F : zF} {Post : zF → Prop} (ha : T a = some (100, 5)) (hk : ∀ F' : zF, yE (fun b => b = a) T F T F' → Post F') : v_J7_fill_53178 a v T F Post := by
  refine ⟨5, ha, fun n y F1 => ∃ k : Nat, k ≤ 5 ∧ n = 5 - k ∧ y.toInt = k ∧ yE (fun b => b = a) T F T F1, ⟨5, 0, by decide, rfl, by decide, yE.rf⟩, ?_⟩
  rintro n y F1 ⟨k, hk5, rfl, hy, e⟩
  refine ⟨fun _ => hk F1 e, fun hlt => ?_⟩
  have hk1 : k < 5 := by
    rw [Int32.le_iff_toInt_le, show (nI 5).toInt = 5 by decide] at hlt
    omega
  exact ⟨y_in hy hk1, 5 - (k + 1), by omega, k + 1, by omega, rfl, y_inc hy (by omega), e.tr yE.us⟩
theorem s_push {zE l a : Nat} {T : zT} {F : zF} {Post : Int32 → zT → zF → Prop} (hl : yL T F l zE) (hE : T zE = some (101, 0)) (ho : ∀ T' : zT, (∀ (b : Nat) (t : Nat × Nat), T b = some t → T' b = some t) → z_ob T' a) (hk : ∀ (T' : zT) (F' : zF), yE (fun b => b = l) T F T' F' → F' l 2 = .int 1 → Post 1 T' F') : v_Jx4a65c_add_9ea2d zE l a T F Post := by
  obtain ⟨l0, l1, l2, l3⟩ := hl
  have e1 : zu F l 0 (.int (0 + 1)) l 1 = .ref zE := z_une l2 (by decide)
  have e2 : zu F l 0 (.int (0 + 1)) l 2 = .int 0 := z_une l3 (by decide)
  refine ⟨l0, 0, l1, zE, e1, 0, e2, 0, hE, fun h => absurd (by decide) h, fun _ => ⟨l0, l0, 0, e2, l0, zE, e1, 0, hE, fun h => absurd h (by decide), fun _ => ⟨fun _ => ⟨by decide, fun q hq => ?_⟩, fun h => absurd rfl h⟩⟩⟩
  have hlq := y_nq l0 hq
  have hn : T q = none := hq q (Nat.le_refl _)
  have eZ : yE (fun b => b = l) T F (zn T q (101, 10)) (zm (zu F l 0 (.int (0 + 1))) q (fun _ => .null)) := yE.us.tr (yE.nn hq)
  refine ⟨(eZ _ _ l0).1, 10, z_nq, y_in (k := 0) (by decide) (by decide), ho _ (fun b t hb => (eZ _ _ hb).1), (eZ _ _ l0).1, hk _ _ ((((eZ.tr yE.us).un hn).tr yE.us)) z_ueq⟩
theorem s_assetX {zE x la gs pl tr lb lp tb tp : Nat} {T : zT} {F : zF} {Post : Int32 → zT → zF → Prop} {PX : String → zT → zF → Prop} (h : yX T F zE x la gs pl tr lb lp tb tp) (hE : T zE = some (101, 0)) (hk : ∀ (T' : zT) (F' : zF), yE (fun a => a = la) T F T' F' → Post 0 T' F') : v_X4_asset zE x T F Post PX := by
  obtain ⟨h0, h1, h2, h3, h4, h5, -⟩ := h
  refine ⟨h0, la, h1, h5.1, h5.1, 0, h5.2.2.2, fun _ q hq q1 hq1 => ?_, fun h => absurd (by decide) h⟩
  have hn : T q = none := hq q (Nat.le_refl _)
  have eZ : yE (fun a => a = la) T F (zn T q (3, 5)) (zm F q (fun j => defaultValue (tyX0 j))) := yE.nn hq
  have hqq : zn (zn T q (3, 5)) q1 (100, 5) q = some (3, 5) := (if_neg (Nat.ne_of_lt (y_nq z_nq hq1))).trans z_nq
  have hn1 : T q1 = none := by
    have h9 := hq1 q1 (Nat.le_refl _)
    by_cases g : q1 = q
    · rw [g]; exact hn
    · exact (if_neg g).symm.trans h9
  have eY : yE (fun a => a = la) T F (zn (zn T q (3, 5)) q1 (100, 5)) (zu (zu (zu (zu (zu (zm (zm F q (fun j => defaultValue (tyX0 j))) q1 (fun _ => .int 0)) q 0 (.ref q1)) q 1 (.int 0)) q 2 (.int 0)) q 3 (.int 0)) q 4 (.int 0)) := ((((((eZ.tr (yE.nn hq1))).un hn).un hn).un hn).un hn).un hn
  refine ⟨hqq, s_fill z_nq fun F1 e1 => ?_⟩
  have eW : yE (fun a => a = la) T F (zn (zn T q (3, 5)) q1 (100, 5)) F1 := fun a t ha => ⟨(e1 _ _ (eY a t ha).1).1, fun hp j => ((e1 _ _ (eY a t ha).1).2 (fun g => by subst g; rw [hn1] at ha; cases ha) j).trans ((eY a t ha).2 hp j)⟩
  have gl : yL (zn (zn T q (3, 5)) q1 (100, 5)) F1 la zE := by
    have e0 : yE (fun _ => False) T F (zn (zn T q (3, 5)) q1 (100, 5)) F1 := fun a t ha => by
      have eY0 : yE (fun _ => False) T F (zn (zn T q (3, 5)) q1 (100, 5)) (zu (zu (zu (zu (zu (zm (zm F q (fun j => defaultValue (tyX0 j))) q1 (fun _ => .int 0)) q 0 (.ref q1)) q 1 (.int 0)) q 2 (.int 0)) q 3 (.int 0)) q 4 (.int 0)) := (((((((yE.nn hq).tr (yE.nn hq1))).un hn).un hn).un hn).un hn).un hn
      exact ⟨(e1 _ _ (eY a t ha).1).1, fun hp j => ((e1 _ _ (eY a t ha).1).2 (fun g => by subst g; rw [hn1] at ha; cases ha) j).trans ((eY0 a t ha).2 hp j)⟩
    exact h5.kp e0 (fun g => g)
  refine ⟨gl.1, s_push gl (eW _ _ hE).1 (fun T' hT' => ⟨3, 5, (RX0, TX0, 5), hT' _ _ (e1 _ _ hqq).1, by decide, rfl, zG_of 1592 (by decide +kernel) rfl⟩) fun T2 F2 e2 k2 => ?_⟩
  have e02 : yE (fun a => a = la) T F T2 F2 := eW.tr e2
  have nx : x ≠ la := y_ne h0 h5.1 (by decide)
  exact ⟨(e02 _ _ h0).1, la, ((e02 _ _ h0).2 nx 0).trans h1, (e02 _ _ h5.1).1, (e02 _ _ h5.1).1, 1, k2, hk T2 F2 e02⟩
theorem s_assetM {zE m ma mp mg mb ml : Nat} {T : zT} {F : zF} {Post : Int32 → zT → zF → Prop} (h : yM T F zE m ma mp mg mb ml) (hE : T zE = some (101, 0)) (hk : ∀ (T' : zT) (F' : zF), yE (fun a => a = ma ∨ a = m) T F T' F' → F' m 0 = .int 0 → Post 0 T' F') : v_X9_asset zE m T F Post := by
  obtain ⟨h0, h1, h2, h3, h4, h5, -⟩ := h
  have nm : ma ≠ m := y_ne h5.1 h0 (by decide)
  have eA : yE (fun a => a = m) T F T (zu F m 0 (.int 0)) := yE.us
  have g5 := h5.kp eA nm
  refine ⟨h0, ma, z_une h1 (by decide), h5.1, h5.1, 0, g5.2.2.2, fun _ q hq q1 hq1 => s_list hq1 fun F3 e3 g3 => ?_, fun h => absurd h (by decide)⟩
  have hn : T q = none := hq q (Nat.le_refl _)
  have eZ : yE (fun _ => False) T (zu F m 0 (.int 0)) (zn T q (8, 4)) (zm (zu F m 0 (.int 0)) q (fun j => defaultValue (tyX5 j))) := yE.nn hq
  have eY : yE (fun _ => False) T (zu F m 0 (.int 0)) (zn (zn T q (8, 4)) q1 (2, 3)) (zu F3 q 0 (.ref q1)) := (eZ.tr e3).un hn
  have hqq : zn (zn T q (8, 4)) q1 (2, 3) q = some (8, 4) := (if_neg (Nat.ne_of_lt (y_nq z_nq hq1))).trans z_nq
  have gl := g5.kp eY (fun g => g)
  refine ⟨hqq, gl.1, s_push gl (eY _ _ hE).1 (fun T' hT' => ⟨8, 4, (RX5, TX5, 4), hT' _ _ hqq, by decide, rfl, zG_of 1593 (by decide +kernel) rfl⟩) fun T2 F2 e2 k2 => ?_⟩
  have e02 : yE (fun a => a = ma) T (zu F m 0 (.int 0)) T2 F2 := eY.w0.tr e2
  have nx : m ≠ ma := nm.symm
  refine ⟨(e02 _ _ h0).1, ma, ((e02 _ _ h0).2 nx 1).trans (z_une h1 (by decide)), (e02 _ _ h5.1).1, (e02 _ _ h5.1).1, 1, k2, hk T2 F2 ((eA.wk fun _ g => Or.inr g).tr (e02.wk fun _ g => Or.inl g)) (((e02 _ _ h0).2 nx 0).trans z_ueq)⟩
/-! the constructors -/
theorem s_X3_init {zE a : Nat} {T : zT} {F : zF} {Post : zT → zF → Prop} (ha : T a = some (6, 3)) (hk : ∀ (l1 l2 : Nat) (T' : zT) (F' : zF), yE (fun q => q = a) T F T' F' → T l1 = none → T l2 = none → F' a 0 = .ref l1 → F' a 1 = .ref l2 → F' a 2 = .int 0 → yL T' F' l1 zE → yL T' F' l2 zE → Post T' F') : v_X3_init zE a T F Post := by
  refine fun q hq => s_list hq fun F3 e3 g3 => ⟨(e3 _ _ ha).1, fun q5 hq5 => s_list hq5 fun F7 e7 g7 => ?_⟩
  have hn : T q = none := hq q (Nat.le_refl _)
  have hn5 : T q5 = none := by
    have h9 := hq5 q5 (Nat.le_refl _)
    by_cases g : q5 = q
    · rw [g]; exact hn
    · exact (if_neg g).symm.trans h9
  have na : ∀ {r : Nat}, T r = none → r ≠ a := fun h e => by rw [e, ha] at h; cases h
  have ea3 := (e3 _ _ ha)
  have ea7 := (e7 _ _ ea3.1)
  have e : yE (fun q => q = a) T F (zn (zn T q (2, 3)) q5 (2, 3)) (zu (zu F7 a 1 (.ref q5)) a 2 (.int 0)) := (((e3.w0.tr yE.us).tr e7.w0).tr yE.us).tr yE.us
  have eL : yE (fun q => q = a) (zn (zn T q (2, 3)) q5 (2, 3)) F7 (zn (zn T q (2, 3)) q5 (2, 3)) (zu (zu F7 a 1 (.ref q5)) a 2 (.int 0)) := yE.us.tr yE.us
  exact ⟨ea7.1, hk q q5 _ _ e hn hn5 (z_une (z_une ((ea7.2 (fun g => g) 0).trans z_ueq) (by decide)) (by decide)) (z_une z_ueq (by decide)) z_ueq ((((g3.kp (P := fun b => b = a) yE.us (na hn)).kp e7 (fun g => g))).kp eL (na hn)) (g7.kp eL (na hn5))⟩
theorem s_X4_init {zE x : Nat} {T : zT} {F : zF} {Post : zT → zF → Prop} (hx : T x = some (7, 4)) (hk : ∀ (la gs pl tr lb lp tb tp : Nat) (T' : zT) (F' : zF), yE (fun q => q = x) T F T' F' → yX T' F' zE x la gs pl tr lb lp tb tp → Post T' F') : v_X4_init zE x T F Post := by
  refine fun q1 hq1 => s_list hq1 fun F3 e3 g3 => ⟨(e3 _ _ hx).1, fun q5 hq5 => ?_⟩
  have na : ∀ {r : Nat}, T r = none → r ≠ x := fun h e => by rw [e, hx] at h; cases h
  have hn1 : T q1 = none := hq1 q1 (Nat.le_refl _)
  have eA : yE (fun q => q = x) T F (zn T q1 (2, 3)) (zu F3 x 0 (.ref q1)) := e3.w0.tr yE.us
  have gA : yL (zn T q1 (2, 3)) (zu F3 x 0 (.ref q1)) q1 zE := g3.kp (P := fun b => b = x) yE.us (na hn1)
  have a0 : zu F3 x 0 (.ref q1) x 0 = .ref q1 := z_ueq
  generalize zu F3 x 0 (.ref q1) = FA at eA gA a0 ⊢
  generalize hTA : zn T q1 (2, 3) = TA at eA gA hq5 ⊢
  have xA := (eA _ _ hx).1
  have eB : yE (fun _ => False) TA FA (zn TA q5 (100, 16)) (zm FA q5 (fun _ => .int 0)) := yE.nn hq5
  have xB := (eB _ _ xA)
  refine ⟨xB.1, fun q8 hq8 => ?_⟩
  have gs0 : zn TA q5 (100, 16) q5 = some (100, 16) := z_nq
  have hlt5 : x < q5 := y_nq xA hq5
  have gsv : ∀ j : Nat, zu (zm FA q5 (fun _ => .int 0)) x 1 (.ref q5) q5 j = .int 0 := fun j => by
    simp [zu, zm, Nat.ne_of_gt hlt5]
  have eC : yE (fun q => q = x) T F (zn TA q5 (100, 16)) (zu (zm FA q5 (fun _ => .int 0)) x 1 (.ref q5)) := (eA.tr eB.w0).tr yE.us
  have gC : yL (zn TA q5 (100, 16)) (zu (zm FA q5 (fun _ => .int 0)) x 1 (.ref q5)) q1 zE := (gA.kp eB (fun g => g)).kp (P := fun b => b = x) yE.us (na hn1)
  have c0 : zu (zm FA q5 (fun _ => .int 0)) x 1 (.ref q5) x 0 = .ref q1 := z_une ((xB.2 (fun g => g) 0).trans a0) (by decide)
  have c1 : zu (zm FA q5 (fun _ => .int 0)) x 1 (.ref q5) x 1 = .ref q5 := z_ueq
  generalize zu (zm FA q5 (fun _ => .int 0)) x 1 (.ref q5) = FC at eC gC c0 c1 gsv ⊢
  have xC := xB.1
  generalize zn TA q5 (100, 16) = TC at eC gC hq8 gs0 xC ⊢
  have eD : yE (fun _ => False) TC FC (zn TC q8 (6, 3)) (zm FC q8 (fun j => defaultValue (tyX3 j))) := yE.nn hq8
  refine s_X3_init z_nq fun lb lp T10 F11 e11 nb np b0 b1 b2 gb gp => ?_
  have eE : yE (fun _ => False) TC FC T10 F11 := fun a t h => ⟨(e11 _ _ (eD a t h).1).1, fun hp j => ((e11 _ _ (eD a t h).1).2 (Nat.ne_of_lt (y_nq h hq8)) j).trans ((eD a t h).2 hp j)⟩
  have xE := eE _ _ xC
  refine ⟨xE.1, fun q13 hq13 => ?_⟩
  have p10 : T10 q8 = some (6, 3) := (e11 _ _ z_nq).1
  have np8 : q8 ≠ x := Nat.ne_of_gt (y_nq xC hq8)
  have eF : yE (fun q => q = x) T F T10 (zu F11 x 2 (.ref q8)) := (eC.tr eE.w0).tr yE.us
  have eX : yE (fun q => q = x) T10 F11 T10 (zu F11 x 2 (.ref q8)) := yE.us
  have nl : ∀ {r : Nat}, T10 r = some (2, 3) → r ≠ x := fun h => y_ne h xE.1 (by decide)
  have gF := (gC.kp eE (fun g => g)).kp eX (na hn1)
  have gbF := gb.kp eX (nl gb.1)
  have gpF := gp.kp eX (nl gp.1)
  have d0 : zu F11 x 2 (.ref q8) x 0 = .ref q1 := z_une ((xE.2 (fun g => g) 0).trans c0) (by decide)
  have d1 : zu F11 x 2 (.ref q8) x 1 = .ref q5 := z_une ((xE.2 (fun g => g) 1).trans c1) (by decide)
  have d2 : zu F11 x 2 (.ref q8) x 2 = .ref q8 := z_ueq
  have pF : ∀ j : Nat, zu F11 x 2 (.ref q8) q8 j = F11 q8 j := fun j => (eX _ _ p10).2 np8 j
  have gsF : T10 q5 = some (100, 16) ∧ ∀ j : Nat, zu F11 x 2 (.ref q8) q5 j = .int 0 := ⟨(eE _ _ gs0).1, fun j => ((eX _ _ (eE _ _ gs0).1).2 (y_ne (eE _ _ gs0).1 xE.1 (by decide)) j).trans (((eE _ _ gs0).2 (fun g => g) j).trans (gsv j))⟩
  have f0 := (pF 0).trans b0
  have f1 := (pF 1).trans b1
  have f2 := (pF 2).trans b2
  generalize zu F11 x 2 (.ref q8) = FF at eF gF gbF gpF d0 d1 d2 gsF f0 f1 f2 ⊢
  have xF := xE.1
  refine s_X3_init z_nq fun tb tp T15 F16 e16 nb' np' t0 t1 t2 gtb gtp => ?_
  have eG0 : yE (fun _ => False) T10 FF (zn T10 q13 (6, 3)) (zm FF q13 (fun j => defaultValue (tyX3 j))) := yE.nn hq13
  have eG : yE (fun _ => False) T10 FF T15 F16 := fun a t h => ⟨(e16 _ _ (eG0 a t h).1).1, fun hp j => ((e16 _ _ (eG0 a t h).1).2 (Nat.ne_of_lt (y_nq h hq13)) j).trans ((eG0 a t h).2 hp j)⟩
  have xG := eG _ _ xF
  have tr0 : T15 q13 = some (6, 3) := (e16 _ _ z_nq).1
  have eH : yE (fun q => q = x) T15 F16 T15 (zu F16 x 3 (.ref q13)) := yE.us
  have nl2 : ∀ {r : Nat}, T15 r = some (2, 3) → r ≠ x := fun h => y_ne h xG.1 (by decide)
  have pG := eG _ _ p10
  have pH := eH _ _ pG.1
  have tH := eH _ _ tr0
  have ntr : q13 ≠ x := Nat.ne_of_gt (y_nq xF hq13)
  have gsG := eG _ _ gsF.1
  have gsH := eH _ _ gsG.1
  have ngs : q5 ≠ x := y_ne gsG.1 xG.1 (by decide)
  refine ⟨xG.1, hk q1 q5 q8 q13 lb lp tb tp _ _ ((eF.tr eG.w0).tr yE.us) ⟨xG.1, z_une ((xG.2 (fun g => g) 0).trans d0) (by decide), z_une ((xG.2 (fun g => g) 1).trans d1) (by decide), z_une ((xG.2 (fun g => g) 2).trans d2) (by decide), z_ueq, (gF.kp eG (fun g => g)).kp eH (nl2 (gF.kp eG (fun g => g)).1), gsG.1, fun j => (gsH.2 ngs j).trans ((gsG.2 (fun g => g) j).trans (gsF.2 j)), ⟨pG.1, (pH.2 np8 0).trans ((pG.2 (fun g => g) 0).trans f0), (pH.2 np8 1).trans ((pG.2 (fun g => g) 1).trans f1), (pH.2 np8 2).trans ((pG.2 (fun g => g) 2).trans f2), (gbF.kp eG (fun g => g)).kp eH (nl2 (gbF.kp eG (fun g => g)).1), (gpF.kp eG (fun g => g)).kp eH (nl2 (gpF.kp eG (fun g => g)).1)⟩, ⟨tr0, (tH.2 ntr 0).trans t0, (tH.2 ntr 1).trans t1, (tH.2 ntr 2).trans t2, gtb.kp eH (nl2 gtb.1), gtp.kp eH (nl2 gtp.1)⟩, Nat.ne_of_lt (y_nq p10 hq13)⟩⟩
theorem s_X9_init {zE m : Nat} {T : zT} {F : zF} {Post : zT → zF → Prop} (hm : T m = some (12, 6)) (hk : ∀ (ma mp mg mb ml : Nat) (T' : zT) (F' : zF), yE (fun q => q = m) T F T' F' → yM T' F' zE m ma mp mg mb ml → T ma = none → T mp = none → T ml = none → ma ≠ mp → ma ≠ ml → Post T' F') : v_X9_init zE m T F Post := by
  refine fun q1 hq1 => s_list hq1 fun F3 e3 g3 => ⟨(e3 _ _ hm).1, fun q5 hq5 => s_list hq5 fun F7 e7 g7 => ?_⟩
  have na : ∀ {r : Nat}, T r = none → r ≠ m := fun h e => by rw [e, hm] at h; cases h
  have hn1 : T q1 = none := hq1 q1 (Nat.le_refl _)
  have hn5 : T q5 = none := by
    have h9 := hq5 q5 (Nat.le_refl _)
    by_cases g : q5 = q1
    · rw [g]; exact hn1
    · exact (if_neg g).symm.trans h9
  have n15 : q1 ≠ q5 := Nat.ne_of_lt (y_nq z_nq hq5)
  have m3 := e3 _ _ hm
  have m7 := e7 _ _ m3.1
  have eB : yE (fun q => q = m) T F (zn (zn T q1 (2, 3)) q5 (2, 3)) (zu F7 m 2 (.ref q5)) := ((e3.w0.tr yE.us).tr e7.w0).tr yE.us
  have b1 : zu F7 m 2 (.ref q5) m 1 = .ref q1 := z_une ((m7.2 (fun g => g) 1).trans z_ueq) (by decide)
  have b2 : zu F7 m 2 (.ref q5) m 2 = .ref q5 := z_ueq
  have g1 : yL (zn (zn T q1 (2, 3)) q5 (2, 3)) (zu F7 m 2 (.ref q5)) q1 zE := ((g3.kp (P := fun b => b = m) yE.us (na hn1)).kp e7 (fun g => g)).kp (P := fun b => b = m) yE.us (na hn1)
  have g5 : yL (zn (zn T q1 (2, 3)) q5 (2, 3)) (zu F7 m 2 (.ref q5)) q5 zE := g7.kp (P := fun b => b = m) yE.us (na hn5)
  generalize zu F7 m 2 (.ref q5) = FB at eB b1 b2 g1 g5 ⊢
  have mB := m7.1
  generalize zn (zn T q1 (2, 3)) q5 (2, 3) = TB at eB g1 g5 mB ⊢
  refine ⟨mB, fun q9 hq9 => ?_⟩
  have eC0 : yE (fun _ => False) TB FB (znm TB q9 4 4) (zmm FB q9 4) := yE.mm hq9
  have mC := eC0 _ _ mB
  refine ⟨mC.1, fun q12 hq12 => ?_⟩
  have nmq : m < q9 := y_nq mB hq9
  have eC : yE (fun q => q = m) T F (znm TB q9 4 4) (zu (zmm FB q9 4) m 3 (.ref q9)) := (eB.tr eC0.w0).tr yE.us
  have c1 : zu (zmm FB q9 4) m 3 (.ref q9) m 1 = .ref q1 := z_une ((mC.2 (fun g => g) 1).trans b1) (by decide)
  have c2 : zu (zmm FB q9 4) m 3 (.ref q9) m 2 = .ref q5 := z_une ((mC.2 (fun g => g) 2).trans b2) (by decide)
  have c3 : zu (zmm FB q9 4) m 3 (.ref q9) m 3 = .ref q9 := z_ueq
  have gg : znm TB q9 4 4 q9 = some (102, 4) := z_mq
  have gr : ∀ j : Nat, j < 4 → znm TB q9 4 4 (q9 + 1 + j) = some (100, 4) := fun j hj => by
    unfold znm; rw [if_neg (by omega), if_pos (by omega)]
  have gv : ∀ j : Nat, j < 4 → zu (zmm FB q9 4) m 3 (.ref q9) q9 j = .ref (q9 + 1 + j) := fun j hj => by
    rw [y_zu, if_neg (by omega)]; unfold zmm; rw [if_pos rfl, if_pos hj]
  have gw : ∀ j k : Nat, j < 4 → zu (zmm FB q9 4) m 3 (.ref q9) (q9 + 1 + j) k = .int 0 := fun j k hj => by
    rw [y_zu, if_neg (by omega)]; unfold zmm; rw [if_neg (by omega), if_pos (by omega)]
  have g1C := (g1.kp eC0 (fun g => g)).kp (P := fun b => b = m) (F' := zu (zmm FB q9 4) m 3 (.ref q9)) yE.us (na hn1)
  have g5C := (g5.kp eC0 (fun g => g)).kp (P := fun b => b = m) (F' := zu (zmm FB q9 4) m 3 (.ref q9)) yE.us (na hn5)
  generalize zu (zmm FB q9 4) m 3 (.ref q9) = FC at eC c1 c2 c3 gv gw g1C g5C ⊢
  have mC := mC.1
  generalize znm TB q9 4 4 = TC at eC gg gr g1C g5C hq12 mC ⊢
  have eD : yE (fun _ => False) TC FC (zn TC q12 (9, 3)) (zm FC q12 (fun j => defaultValue (tyX6 j))) := yE.nn hq12
  refine s_X6_init z_nq fun l T14 F15 e14 k14 hl0 r0 r1 r2 gl => ?_
  have eE : yE (fun _ => False) TC FC T14 F15 := fun a t h => ⟨(e14 _ _ (eD a t h).1).1, fun hp j => ((e14 _ _ (eD a t h).1).2 (Nat.ne_of_lt (y_nq h hq12)) j).trans ((eD a t h).2 hp j)⟩
  have mE := eE _ _ mC
  have eF : yE (fun q => q = m) T14 F15 T14 (zu F15 m 4 (.ref q12)) := yE.us
  have lC : TC l = none := by
    by_cases g : l = q12
    · rw [g]; exact hq12 q12 (Nat.le_refl _)
    · exact (if_neg g).symm.trans hl0
  have lN : T l = none := by
    cases g : T l with
    | none => rfl
    | some t => rw [(eC _ _ g).1] at lC; cases lC
  have n1l : q1 ≠ l := fun e => by rw [← e, g1C.1] at lC; cases lC
  have nl : ∀ {r : Nat}, T14 r = some (2, 3) → r ≠ m := fun h => y_ne h mE.1 (by decide)
  have gE1 := g1C.kp eE (fun g => g)
  have gE5 := g5C.kp eE (fun g => g)
  have ggE := eE _ _ gg
  have ggF := eF _ _ ggE.1
  have ngg : q9 ≠ m := y_ne ggE.1 mE.1 (by decide)
  have grE : ∀ j : Nat, j < 4 → T14 (q9 + 1 + j) = some (100, 4) := fun j hj => (eE _ _ (gr j hj)).1
  have rb := eF _ _ r0
  have nrb : q12 ≠ m := y_ne r0 mE.1 (by decide)
  have k1 : F15 q12 1 = .int 0 := (k14 1 (by decide) (by decide)).trans (by simp [zm, tyX6, defaultValue])
  refine ⟨mE.1, hk q1 q5 q9 q12 l _ _ ((eC.tr eE.w0).tr eF) ⟨mE.1, z_une ((mE.2 (fun g => g) 1).trans c1) (by decide), z_une ((mE.2 (fun g => g) 2).trans c2) (by decide), z_une ((mE.2 (fun g => g) 3).trans c3) (by decide), z_ueq, gE1.kp eF (nl gE1.1), gE5.kp eF (nl gE5.1), ggE.1, fun j hj => (ggF.2 ngg j).trans ((ggE.2 (fun g => g) j).trans (gv j hj)), grE, fun j k hj => ((eF _ _ (grE j hj)).2 (y_ne (grE j hj) mE.1 (by decide)) k).trans (((eE _ _ (gr j hj)).2 (fun g => g) k).trans (gw j k hj)), r0, (rb.2 nrb 0).trans r1, (rb.2 nrb 1).trans k1, (rb.2 nrb 2).trans r2, gl.kp eF (nl gl.1)⟩ hn1 hn5 lN n15 n1l⟩
