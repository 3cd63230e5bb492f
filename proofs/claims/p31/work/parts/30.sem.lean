/-! WORLDS: what calls that make or change cells keep; numbers -/
theorem y_ne {T : zT} {a b : Nat} {s t : Nat × Nat} (h1 : T a = some s) (h2 : T b = some t) (h : s ≠ t) : a ≠ b := by
  intro e
  subst e
  exact h (Option.some.inj (h1.symm.trans h2))
theorem y_nq {T : zT} {a q : Nat} {t : Nat × Nat} (h1 : T a = some t) (h2 : ∀ b, q ≤ b → T b = none) : a < q := Nat.lt_of_not_le fun h => by
  rw [h2 a h] at h1
  cases h1
/-- the old cells stay, but for those of P nothing is said of their fields -/
def yE (P : Nat → Prop) (T : zT) (F : zF) (T' : zT) (F' : zF) : Prop := ∀ (a : Nat) (t : Nat × Nat), T a = some t → T' a = some t ∧ (¬ P a → ∀ j : Nat, F' a j = F a j)
theorem yE.rf {P : Nat → Prop} {T : zT} {F : zF} : yE P T F T F := fun _ _ h => ⟨h, fun _ _ => rfl⟩
theorem yE.tr {P : Nat → Prop} {T T1 T2 : zT} {F F1 F2 : zF} (h1 : yE P T F T1 F1) (h2 : yE P T1 F1 T2 F2) : yE P T F T2 F2 := fun a t h => ⟨(h2 a t (h1 a t h).1).1, fun hp j => ((h2 a t (h1 a t h).1).2 hp j).trans ((h1 a t h).2 hp j)⟩
theorem yE.wk {P P' : Nat → Prop} {T T1 : zT} {F F1 : zF} (h : yE P T F T1 F1) (hp : ∀ a, P a → P' a) : yE P' T F T1 F1 := fun a t ha => ⟨(h a t ha).1, fun g => (h a t ha).2 fun g2 => g (hp a g2)⟩
theorem yE.w0 {P' : Nat → Prop} {T T1 : zT} {F F1 : zF} (h : yE (fun _ => False) T F T1 F1) : yE P' T F T1 F1 := h.wk fun _ g => g.elim
theorem yE.uu {P : Nat → Prop} {T : zT} {F : zF} {a k : Nat} {v : Value} (hp : P a) : yE P T F T (zu F a k v) := fun b _ h => ⟨h, fun hb j => if_neg fun g => hb (by rw [g.1]; exact hp)⟩
theorem yE.us {T : zT} {F : zF} {a k : Nat} {v : Value} : yE (fun b => b = a) T F T (zu F a k v) := yE.uu rfl
theorem yE.nn {P : Nat → Prop} {T : zT} {F : zF} {q : Nat} {t : Nat × Nat} {V : Nat → Value} (hq : ∀ b, q ≤ b → T b = none) : yE P T F (zn T q t) (zm F q V) := fun _ _ h => ⟨(if_neg (Nat.ne_of_lt (y_nq h hq))).trans h, fun _ _ => if_neg (Nat.ne_of_lt (y_nq h hq))⟩
theorem yE.mm {P : Nat → Prop} {T : zT} {F : zF} {q n k : Nat} (hq : ∀ b, q ≤ b → T b = none) : yE P T F (znm T q n k) (zmm F q n) := fun a _ h => by
  have hl := y_nq h hq
  refine ⟨?_, fun _ j => ?_⟩
  · unfold znm; rw [if_neg (Nat.ne_of_lt hl), if_neg (by omega)]; exact h
  · unfold zmm; rw [if_neg (Nat.ne_of_lt hl), if_neg (by omega)]
/-- a new value of a cell that the old world doesn't know -/
theorem yE.un {P : Nat → Prop} {T T1 : zT} {F F1 : zF} {a k : Nat} {v : Value} (h : yE P T F T1 F1) (ha : T a = none) : yE P T F T1 (zu F1 a k v) := fun b t hb => ⟨(h b t hb).1, fun hp j => by
  have hne : b ≠ a := fun e => by rw [e, ha] at hb; cases hb
  exact (if_neg fun g => hne g.1).trans ((h b t hb).2 hp j)⟩
theorem y_m1 (p : Int32) : ((0 : Int32) - 1 < p) ↔ ¬ p < 0 := by
  rw [Int32.lt_iff_toInt_lt, Int32.lt_iff_toInt_lt, show ((0 : Int32) - 1).toInt = -1 by decide, show ((0 : Int32)).toInt = 0 by decide]
  omega
theorem y_m1' (p : Int32) : (-1 < p) ↔ ¬ p < 0 := by
  rw [Int32.lt_iff_toInt_lt, Int32.lt_iff_toInt_lt, show (-1 : Int32).toInt = -1 by decide, show ((0 : Int32)).toInt = 0 by decide]
  omega
theorem y_lt3 (p : Int32) : (2 < p) ↔ ¬ p < 3 := by
  rw [Int32.lt_iff_toInt_lt, Int32.lt_iff_toInt_lt, show (2 : Int32).toInt = 2 by decide, show (3 : Int32).toInt = 3 by decide]
  omega
theorem y_lt4 (p : Int32) : (3 < p) ↔ 4 ≤ p := by
  rw [Int32.lt_iff_toInt_lt, Int32.le_iff_toInt_le, show (3 : Int32).toInt = 3 by decide, show (4 : Int32).toInt = 4 by decide]
  omega
theorem y_lt1 (p : Int32) : (0 < p) ↔ ¬ p < 1 := by
  rw [Int32.lt_iff_toInt_lt, Int32.lt_iff_toInt_lt, show (0 : Int32).toInt = 0 by decide, show (1 : Int32).toInt = 1 by decide]
  omega
theorem y_nle {p q : Int32} : (q < p) ↔ ¬ p ≤ q := by
  rw [Int32.lt_iff_toInt_lt, Int32.le_iff_toInt_le]
  omega
theorem y_in {i : Int32} {k n : Nat} (h : i.toInt = k) (hk : k < n) : vp_in i n := by
  unfold vp_in
  rw [Int32.lt_iff_toInt_lt, h, show (0 : Int32).toInt = 0 by decide]
  have e : i.toNatClampNeg = k := by
    show i.toInt.toNat = k
    rw [h]; rfl
  omega
theorem y_cmp (v : Int64) : lg_cmp v v = 0 := by
  unfold lg_cmp
  rw [if_neg (by rw [gt_iff_lt, Int64.lt_iff_toInt_lt]; omega), if_pos rfl]
theorem y_zu (F : zF) (a k : Nat) (v : Value) (b j : Nat) : zu F a k v b j = if b = a ∧ j = k then v else F b j := rfl
theorem y_inc {y : Int32} {k : Nat} (h : y.toInt = k) (hk : k < 1000) : (y + 1).toInt = (k + 1 : Nat) := by
  rw [Int32.toInt_add, show (1 : Int32).toInt = 1 by decide, Int.bmod_def]
  omega
theorem y_toInt0 : (0 : Int32).toInt = 0 := by decide
theorem y_nIc {k : Nat} (hk : k < 1000) : (nI k).toInt = (k : Int) := nI_toInt (by omega)
theorem y_nI {y : Int32} {k : Nat} (h : y.toInt = k) (hk : k < 1000) : y = nI k := Int32.toInt_inj.mp (h.trans (y_nIc hk).symm)
theorem y_nIn {k : Nat} (hk : k < 1000) : (nI k).toNatClampNeg = k := nI_clamp (by omega)
theorem y_dec {y : Int32} {k : Nat} (h : y.toInt = k) (hk : k < 1000) : (y + (-1)).toInt = (k : Int) - 1 := by
  rw [Int32.toInt_add, show (-1 : Int32).toInt = -1 by decide, Int.bmod_def]
  omega
/-! lists -/
/-- the list l, with its row e, holds the n addresses ad -/
def yLs (T : zT) (F : zF) (l e n : Nat) (ad : Nat → Nat) : Prop := T l = some (0, 3) ∧ F l 1 = .ref e ∧ F l 2 = .int (nI n) ∧ (∃ c : Nat, T e = some (101, c) ∧ n ≤ c ∧ c < 1000) ∧ (∃ v : Int32, F l 0 = .int v) ∧ ∀ i : Nat, i < n → F e i = .ref (ad i)
theorem yLs.lt {T : zT} {F : zF} {l e n : Nat} {ad : Nat → Nat} (h : yLs T F l e n ad) : n < 1000 := by
  obtain ⟨-, -, -, ⟨c, -, h1, h2⟩, -⟩ := h
  omega
theorem yLs.kp {P : Nat → Prop} {T T' : zT} {F F' : zF} {l e n : Nat} {ad : Nat → Nat} (h : yLs T F l e n ad) (k : yE P T F T' F') (hl : ¬ P l) (he : ¬ P e) : yLs T' F' l e n ad := by
  obtain ⟨h0, h1, h2, ⟨c, h3, h4⟩, ⟨v, h5⟩, h6⟩ := h
  exact ⟨(k _ _ h0).1, ((k _ _ h0).2 hl 1).trans h1, ((k _ _ h0).2 hl 2).trans h2, ⟨c, (k _ _ h3).1, h4⟩, ⟨v, ((k _ _ h0).2 hl 0).trans h5⟩, fun i hi => ((k _ _ h3).2 he i).trans (h6 i hi)⟩
theorem s_size {T : zT} {F : zF} {l e n : Nat} {ad : Nat → Nat} {Post : Int32 → Prop} (h : yLs T F l e n ad) (hk : Post (nI n)) : v_Jx4a65c_size_8abf5 l T F Post := ⟨h.1, _, h.2.2.1, hk⟩
theorem s_get {T : zT} {F : zF} {l e n i : Nat} {ad : Nat → Nat} {Post : Nat → Prop} (h : yLs T F l e n ad) (hi : i < n) (hk : Post (ad i)) : v_Jx4a65c_get_915e3 l (nI i) T F Post := by
  have hn := h.lt
  obtain ⟨h0, h1, h2, ⟨c, h3, h4, h5⟩, -, h6⟩ := h
  have hi0 : ¬ nI i < 0 := nI_pos (by omega)
  have hin : nI i < nI n := nI_lt hi (by omega)
  exact ⟨h0, _, h2, fun g => absurd g hi0, fun _ => ⟨fun _ => ⟨h0, e, h1, c, h3, vp_in_nI (by omega) (by omega), ad i, by rw [y_nIn (by omega)]; exact h6 i hi, hk⟩, fun g => absurd hin g⟩⟩
/-! assets -/
/-- the asset a: its row c of days holds C, its other numbers are A -/
def zAs (T : zT) (F : zF) (a c : Nat) (C A : Nat → Int32) : Prop := T a = some (1, 5) ∧ F a 0 = .ref c ∧ T c = some (100, 5) ∧ (∀ v : Nat, v < 5 → F c v = .int (C v)) ∧ ∀ j : Nat, 1 ≤ j → j < 5 → F a j = .int (A j)
theorem zAs.kp {P : Nat → Prop} {T T' : zT} {F F' : zF} {a c : Nat} {C A : Nat → Int32} (h : zAs T F a c C A) (k : yE P T F T' F') (ha : ¬ P a) (hc : ¬ P c) : zAs T' F' a c C A := by
  obtain ⟨h0, h1, h2, h3, h4⟩ := h
  exact ⟨(k _ _ h0).1, ((k _ _ h0).2 ha 0).trans h1, (k _ _ h2).1, fun v hv => ((k _ _ h2).2 hc v).trans (h3 v hv), fun j h1 h2 => ((k _ _ h0).2 ha j).trans (h4 j h1 h2)⟩
def f_ver (C : Nat → Int32) (d : Int32) : Int32 := if C 4 ≤ d then 4 else if C 3 ≤ d then 3 else if C 2 ≤ d then 2 else if C 1 ≤ d then 1 else if C 0 ≤ d then 0 else -1
theorem f_ver_at {C : Nat → Int32} {d : Int32} {k : Nat} (hk : k < 5) (h : ∀ v : Nat, k < v → v < 5 → d < C v) (hc : ¬ d < C k) : f_ver C d = nI k := by
  have g : ∀ v : Nat, k < v → v < 5 → ¬ C v ≤ d := fun v h1 h2 => by rw [Int32.not_le]; exact h v h1 h2
  have hc : C k ≤ d := Int32.not_lt.mp hc
  unfold f_ver
  rcases (show k = 0 ∨ k = 1 ∨ k = 2 ∨ k = 3 ∨ k = 4 by omega) with rfl | rfl | rfl | rfl | rfl
  · rw [if_neg (g 4 (by decide) (by decide)), if_neg (g 3 (by decide) (by decide)), if_neg (g 2 (by decide) (by decide)), if_neg (g 1 (by decide) (by decide)), if_pos hc]; rfl
  · rw [if_neg (g 4 (by decide) (by decide)), if_neg (g 3 (by decide) (by decide)), if_neg (g 2 (by decide) (by decide)), if_pos hc]; rfl
  · rw [if_neg (g 4 (by decide) (by decide)), if_neg (g 3 (by decide) (by decide)), if_pos hc]; rfl
  · rw [if_neg (g 4 (by decide) (by decide)), if_pos hc]; rfl
  · rw [if_pos hc]; rfl
theorem f_ver_no {C : Nat → Int32} {d : Int32} (h : ∀ v : Nat, v < 5 → d < C v) : f_ver C d = -1 := by
  have g : ∀ v : Nat, v < 5 → ¬ C v ≤ d := fun v h2 => by rw [Int32.not_le]; exact h v h2
  unfold f_ver
  rw [if_neg (g 4 (by decide)), if_neg (g 3 (by decide)), if_neg (g 2 (by decide)), if_neg (g 1 (by decide)), if_neg (g 0 (by decide))]
theorem s_versionAt {T : zT} {F : zF} {a c : Nat} {C A : Nat → Int32} {d : Int32} {Post : Int32 → Prop} (h : zAs T F a c C A) (hk : Post (f_ver C d)) : v_X0_versionAt a d T F Post := by
  obtain ⟨h0, h1, h2, h3, h4⟩ := h
  refine ⟨h0, c, h1, 5, h2, fun n y => n ≤ 5 ∧ y.toInt = (n : Int) - 1 ∧ ∀ v : Nat, n ≤ v → v < 5 → d < C v, ⟨5, by decide, by decide, fun v h1 h2 => by omega⟩, ?_⟩
  rintro n y ⟨hn, hy, hv⟩
  refine ⟨fun hlt => ?_, fun hge => ?_⟩
  · rw [Int32.lt_iff_toInt_lt, y_toInt0] at hlt
    rw [← f_ver_no (C := C) (d := d) (fun v hv5 => hv v (by omega) hv5)]
    exact hk
  · rw [Int32.lt_iff_toInt_lt, y_toInt0] at hge
    have hy' : y.toInt = ((n - 1 : Nat) : Int) := by omega
    have e : y = nI (n - 1) := y_nI hy' (by omega)
    refine ⟨y_in hy' (by omega), C (n - 1), by rw [e, y_nIn (by omega)]; exact h3 _ (by omega), fun hlt => ⟨n - 1, by omega, by omega, ?_, fun v h1 h2 => ?_⟩, fun hge2 => ?_⟩
    · have := y_dec hy' (by omega)
      omega
    · by_cases g : n ≤ v
      · exact hv v g h2
      · rw [show v = n - 1 by omega]; exact hlt
    · rw [e, ← f_ver_at (C := C) (d := d) (k := n - 1) (by omega) (fun v h1 h2 => hv v (by omega) h2) hge2]
      exact hk
def f_mn (C : Nat → Int32) : Nat → Int32
  | 0 => 100
  | k + 1 => if C k < f_mn C k then C k else f_mn C k
theorem s_firstComes {T : zT} {F : zF} {a c : Nat} {C A : Nat → Int32} {Post : Int32 → Prop} (h : zAs T F a c C A) (hk : Post (f_mn C 5)) : v_X0_firstComes a T F Post := by
  obtain ⟨h0, h1, h2, h3, h4⟩ := h
  refine ⟨fun n s y => ∃ k : Nat, k ≤ 5 ∧ n = 5 - k ∧ y.toInt = k ∧ s = f_mn C k, ⟨5, 0, by decide, rfl, by decide, rfl⟩, ?_⟩
  rintro n s y ⟨k, hk5, rfl, hy, rfl⟩
  refine ⟨h0, c, h1, 5, h2, fun hge => ?_, fun hlt => ?_⟩
  · have : k = 5 := by
      rw [Int32.le_iff_toInt_le, show (nI 5).toInt = 5 by decide] at hge
      omega
    subst this
    exact hk
  · have hk1 : k < 5 := by
      rw [Int32.le_iff_toInt_le, show (nI 5).toInt = 5 by decide] at hlt
      omega
    exact ⟨y_in hy hk1, C k, by rw [y_nI hy (by omega), y_nIn (by omega)]; exact h3 k hk1, 5 - (k + 1), by omega, k + 1, by omega, rfl, y_inc hy (by omega), rfl⟩
/-- has the rights A for a land on the days d1 to d2 -/
def p_gr (A : Nat → Int32) (land d1 d2 : Int32) : Prop := ¬ ((A 2 >>> (land &&& 31)) &&& 1) = 0 ∧ ¬ d1 < A 3 ∧ ¬ A 4 < d2
theorem s_isGranted {T : zT} {F : zF} {a c : Nat} {C A : Nat → Int32} {land d1 d2 : Int32} {Post : Int32 → Prop} (h : zAs T F a c C A) (h1 : p_gr A land d1 d2 → Post 1) (h0 : ¬ p_gr A land d1 d2 → Post 0) : v_X0_isGranted a land d1 d2 T F Post := by
  obtain ⟨g0, -, -, -, g4⟩ := h
  exact ⟨g0, A 2, g4 2 (by decide) (by decide), fun e => h0 (fun q => q.1 e), fun e => ⟨A 3, g4 3 (by decide) (by decide), fun e3 => h0 (fun q => q.2.1 e3), fun e3 => ⟨A 4, g4 4 (by decide) (by decide), fun e4 => h0 (fun q => q.2.2 e4), fun e4 => h1 ⟨e, e3, e4⟩⟩⟩⟩
/-! pieces -/
/-- the piece p: its list l of parts pt, its rows of what is approved behind ap -/
def zPc (T : zT) (F : zF) (p l e ap n : Nat) (pt : Nat → Nat) (num fm as : Int32) (V : Nat → Nat → Int32) : Prop :=
  T p = some (3, 5) ∧ F p 0 = .int num ∧ F p 1 = .int fm ∧ F p 2 = .int as ∧ F p 3 = .ref l ∧ F p 4 = .ref ap ∧ yLs T F l e n pt ∧ n ≤ 16 ∧ T ap = some (102, 4) ∧ (∀ j : Nat, j < 4 → F ap j = .ref (ap + 1 + j)) ∧ (∀ j : Nat, j < 4 → T (ap + 1 + j) = some (100, 16)) ∧ ∀ j k : Nat, j < 4 → k < 16 → F (ap + 1 + j) k = .int (V j k)
/-- its parts are assets -/
def zPt (T : zT) (F : zF) (n : Nat) (pt cc : Nat → Nat) (C A : Nat → Nat → Int32) : Prop := ∀ i : Nat, i < n → zAs T F (pt i) (cc i) (C i) (A i)
def p_laid (n : Nat) (C : Nat → Nat → Int32) (d : Int32) : Prop := ∀ i : Nat, i < n → ¬ f_ver (C i) d = -1
theorem s_isLaidOn {T : zT} {F : zF} {p l e ap n : Nat} {pt cc : Nat → Nat} {num fm as : Int32} {V C A : Nat → Nat → Int32} {d : Int32} {Post : Int32 → Prop} (h : zPc T F p l e ap n pt num fm as V) (hA : zPt T F n pt cc C A) (h1 : p_laid n C d → Post 1) (h0 : ¬ p_laid n C d → Post 0) : v_X2_isLaidOn p d T F Post := by
  obtain ⟨g0, -, -, -, g3, -, g5, g6, -⟩ := h
  refine ⟨fun m y => ∃ k : Nat, k ≤ n ∧ m = n - k ∧ y.toInt = k ∧ ∀ i : Nat, i < k → ¬ f_ver (C i) d = -1, ⟨n, 0, Nat.zero_le _, rfl, by decide, fun i hi => by omega⟩, ?_⟩
  rintro m y ⟨k, hk, rfl, hy, hv⟩
  have e : y = nI k := y_nI hy (by omega)
  subst e
  refine ⟨g0, l, g3, g5.1, s_size g5 ⟨fun hge => h1 ?_, fun hlt => ?_⟩⟩
  · have : k = n := by
      have := nI_leI (a := n) (b := k) (by omega) (by omega)
      have := this.mp hge
      omega
    subst this
    exact hv
  · have hk1 : k < n := by
      have := (nI_leI (a := n) (b := k) (by omega) (by omega))
      exact Nat.lt_of_not_le fun q => hlt (this.mpr q)
    refine s_get g5 hk1 ⟨(hA k hk1).1, s_versionAt (hA k hk1) ⟨fun ne => ⟨n - (k + 1), by omega, k + 1, by omega, rfl, y_inc hy (by omega), fun i hi => ?_⟩, fun eq => h0 fun q => q k hk1 eq⟩⟩
    by_cases g : i = k
    · rw [g]; exact ne
    · exact hv i (by omega)
def p_grd (n : Nat) (A : Nat → Nat → Int32) (land d1 d2 : Int32) : Prop := ∀ i : Nat, i < n → p_gr (A i) land d1 d2
theorem s_isGrantedOn {T : zT} {F : zF} {p l e ap n : Nat} {pt cc : Nat → Nat} {num fm as : Int32} {V C A : Nat → Nat → Int32} {land d1 d2 : Int32} {Post : Int32 → Prop} (h : zPc T F p l e ap n pt num fm as V) (hA : zPt T F n pt cc C A) (h1 : p_grd n A land d1 d2 → Post 1) (h0 : ¬ p_grd n A land d1 d2 → Post 0) : v_X2_isGrantedOn p land d1 d2 T F Post := by
  obtain ⟨g0, -, -, -, g3, -, g5, g6, -⟩ := h
  refine ⟨fun m y => ∃ k : Nat, k ≤ n ∧ m = n - k ∧ y.toInt = k ∧ ∀ i : Nat, i < k → p_gr (A i) land d1 d2, ⟨n, 0, Nat.zero_le _, rfl, by decide, fun i hi => by omega⟩, ?_⟩
  rintro m y ⟨k, hk, rfl, hy, hv⟩
  have e : y = nI k := y_nI hy (by omega)
  subst e
  refine ⟨g0, l, g3, g5.1, s_size g5 ⟨fun hge => h1 ?_, fun hlt => ?_⟩⟩
  · have : k = n := by
      have := (nI_leI (a := n) (b := k) (by omega) (by omega)).mp hge
      omega
    subst this
    exact hv
  · have hk1 : k < n := Nat.lt_of_not_le fun q => hlt ((nI_leI (a := n) (b := k) (by omega) (by omega)).mpr q)
    refine s_get g5 hk1 ⟨(hA k hk1).1, s_isGranted (hA k hk1) (fun q => ⟨fun _ => ⟨n - (k + 1), by omega, k + 1, by omega, rfl, y_inc hy (by omega), fun i hi => ?_⟩, fun eq => absurd eq (by decide)⟩) (fun q => ⟨fun ne => absurd rfl ne, fun _ => h0 fun q2 => q (q2 k hk1)⟩)⟩
    by_cases g : i = k
    · rw [g]; exact q
    · exact hv i (by omega)
/-- the look that was approved for a land is that of the day -/
def p_fit (n : Nat) (C : Nat → Nat → Int32) (V : Nat → Int32) (d : Int32) : Prop := ∀ i : Nat, i < n → ¬ f_ver (C i) d = -1 ∧ f_ver (C i) d = V i
theorem s_isFitOn {T : zT} {F : zF} {p l e ap n j : Nat} {pt cc : Nat → Nat} {num fm as : Int32} {V C A : Nat → Nat → Int32} {d : Int32} {Post : Int32 → Prop} (h : zPc T F p l e ap n pt num fm as V) (hA : zPt T F n pt cc C A) (hj : j < 4) (h1 : p_fit n C (V j) d → Post 1) (h0 : ¬ p_fit n C (V j) d → Post 0) : v_X2_isFitOn p (nI j) d T F Post := by
  obtain ⟨g0, -, -, -, g3, g4, g5, g6, g7, g8, g9, g10⟩ := h
  refine ⟨fun q => absurd q (nI_pos (by omega)), fun _ => ⟨g0, ap, g4, 4, g7, fun _ => ⟨vp_in_nI hj (by omega), ap + 1 + j, by rw [y_nIn (by omega)]; exact g8 j hj, ?_⟩, fun q => absurd (nI_lt hj (by omega)) q⟩⟩
  refine ⟨fun m y => ∃ k : Nat, k ≤ n ∧ m = n - k ∧ y.toInt = k ∧ ∀ i : Nat, i < k → ¬ f_ver (C i) d = -1 ∧ f_ver (C i) d = V j i, ⟨n, 0, Nat.zero_le _, rfl, by decide, fun i hi => by omega⟩, ?_⟩
  rintro m y ⟨k, hk, rfl, hy, hv⟩
  have e : y = nI k := y_nI hy (by omega)
  subst e
  refine ⟨l, g3, g5.1, s_size g5 ⟨fun hge => h1 ?_, fun hlt => ?_⟩⟩
  · have : k = n := by
      have := (nI_leI (a := n) (b := k) (by omega) (by omega)).mp hge
      omega
    subst this
    exact hv
  · have hk1 : k < n := Nat.lt_of_not_le fun q => hlt ((nI_leI (a := n) (b := k) (by omega) (by omega)).mpr q)
    refine ⟨16, g9 j hj, fun q => absurd ((nI_leI (a := 16) (b := k) (by omega) (by omega)).mp q) (by omega), fun _ => s_get g5 hk1 ⟨(hA k hk1).1, s_versionAt (hA k hk1) ⟨fun eq => h0 fun q => (q k hk1).1 eq, fun ne => ⟨vp_in_nI (by omega) (by omega), V j k, by rw [y_nIn (by omega)]; exact g10 j k hj (by omega), fun eq => ⟨n - (k + 1), by omega, k + 1, by omega, rfl, y_inc hy (by omega), fun i hi => ?_⟩, fun ne2 => h0 fun q => ne2 (q k hk1).2⟩⟩⟩⟩
    by_cases g : i = k
    · rw [g]; exact ⟨ne, eq⟩
    · exact hv i (by omega)
/-- why a piece can't be shown: 1 not laid, 2 no rights, 3 not fit, 0 it can -/
def p_rs (n : Nat) (C A : Nat → Nat → Int32) (V : Nat → Int32) (land d r : Int32) : Prop := (¬ p_laid n C d ∧ r = 1) ∨ (p_laid n C d ∧ ¬ p_grd n A land d d ∧ r = 2) ∨ (p_laid n C d ∧ p_grd n A land d d ∧ ¬ p_fit n C V d ∧ r = 3) ∨ (p_laid n C d ∧ p_grd n A land d d ∧ p_fit n C V d ∧ r = 0)
theorem s_reasonOn {T : zT} {F : zF} {p l e ap n j : Nat} {pt cc : Nat → Nat} {num fm as : Int32} {V C A : Nat → Nat → Int32} {d : Int32} {Post : Int32 → Prop} (h : zPc T F p l e ap n pt num fm as V) (hA : zPt T F n pt cc C A) (hj : j < 4) (hk : ∀ r : Int32, p_rs n C A (V j) (nI j) d r → Post r) : v_X2_reasonOn p (nI j) d T F Post :=
  ⟨h.1, s_isLaidOn h hA (fun a => ⟨fun _ => s_isGrantedOn h hA (fun b => ⟨fun _ => s_isFitOn h hA hj (fun c => ⟨fun q => absurd q (by decide), fun _ => hk 0 (Or.inr (Or.inr (Or.inr ⟨a, b, c, rfl⟩)))⟩) (fun c => ⟨fun _ => hk 3 (Or.inr (Or.inr (Or.inl ⟨a, b, c, rfl⟩))), fun q => absurd rfl q⟩), fun q => absurd q (by decide)⟩) (fun b => ⟨fun q => absurd rfl q, fun _ => hk 2 (Or.inr (Or.inl ⟨a, b, rfl⟩))⟩), fun q => absurd q (by decide)⟩) (fun a => ⟨fun q => absurd rfl q, fun _ => hk 1 (Or.inl ⟨a, rfl⟩)⟩)⟩
theorem p_rs_one {n : Nat} {C A : Nat → Nat → Int32} {V : Nat → Int32} {land d r r' : Int32} (h : p_rs n C A V land d r) (h' : p_rs n C A V land d r') : r = r' := by
  rcases h with ⟨a, rfl⟩ | ⟨a, b, rfl⟩ | ⟨a, b, c, rfl⟩ | ⟨a, b, c, rfl⟩ <;> rcases h' with ⟨a', rfl⟩ | ⟨a', b', rfl⟩ | ⟨a', b', c', rfl⟩ | ⟨a', b', c', rfl⟩ <;> first | rfl | contradiction
