/-! choices by a Prop -/
noncomputable def f_if {α : Type} (p : Prop) (a b : α) : α := @ite α p (Classical.propDecidable p) a b
theorem f_if_t {α : Type} {p : Prop} {a b : α} (h : p) : f_if p a b = a := if_pos h
theorem f_if_f {α : Type} {p : Prop} {a b : α} (h : ¬ p) : f_if p a b = b := if_neg h
/-- the first one below n with c -/
noncomputable def f_fst (c : Nat → Prop) : Nat → Option Nat
  | 0 => none
  | n + 1 => match f_fst c n with
    | some k => some k
    | none => f_if (c n) (some n) none
theorem f_fst_n {c : Nat → Prop} : ∀ {n : Nat}, (∀ i : Nat, i < n → ¬ c i) → f_fst c n = none
  | 0, _ => rfl
  | n + 1, h => by
    show (match f_fst c n with | some k => some k | none => f_if (c n) (some n) none) = none
    rw [f_fst_n (n := n) fun i hi => h i (by omega)]
    exact f_if_f (h n (by omega))
theorem f_fst_s {c : Nat → Prop} : ∀ {n k : Nat}, (∀ i : Nat, i < k → ¬ c i) → c k → k < n → f_fst c n = some k
  | 0, _, _, _, h => absurd h (Nat.not_lt_zero _)
  | n + 1, k, h0, hc, hk => by
    show (match f_fst c n with | some k => some k | none => f_if (c n) (some n) none) = some k
    by_cases g : k < n
    · rw [f_fst_s (n := n) h0 hc g]
    · have e : k = n := by omega
      subst e
      rw [f_fst_n h0]
      exact f_if_t hc
theorem f_fst_i {c : Nat → Prop} : ∀ {n k : Nat}, f_fst c n = some k → k < n ∧ c k ∧ ∀ i : Nat, i < k → ¬ c i := fun {n k} h => by
  by_cases g : ∃ i : Nat, i < n ∧ c i
  · obtain ⟨i, hi, hc⟩ := g
    -- the least one
    have hl : ∃ j : Nat, j < n ∧ c j ∧ ∀ i : Nat, i < j → ¬ c i := by
      clear h
      induction i using Nat.strongRecOn with
      | _ i ih =>
        by_cases q : ∃ j : Nat, j < i ∧ c j
        · obtain ⟨j, hj, hcj⟩ := q
          exact ih j hj (by omega) hcj
        · exact ⟨i, hi, hc, fun j hj hcj => q ⟨j, hj, hcj⟩⟩
    obtain ⟨j, hj, hcj, h0⟩ := hl
    rw [f_fst_s h0 hcj hj] at h
    cases h
    exact ⟨hj, hcj, h0⟩
  · rw [f_fst_n fun i hi hc => g ⟨i, hi, hc⟩] at h
    cases h
theorem f_fst_z {c : Nat → Prop} {n : Nat} (h : f_fst c n = none) : ∀ i : Nat, i < n → ¬ c i := fun i hi hc => by
  have : ∃ k : Nat, f_fst c n = some k := by
    have hl : ∃ j : Nat, j < n ∧ c j ∧ ∀ i : Nat, i < j → ¬ c i := by
      clear h
      induction i using Nat.strongRecOn with
      | _ i ih =>
        by_cases q : ∃ j : Nat, j < i ∧ c j
        · obtain ⟨j, hj, hcj⟩ := q
          exact ih j hj (by omega) hcj
        · exact ⟨i, hi, hc, fun j hj hcj => q ⟨j, hj, hcj⟩⟩
    obtain ⟨j, hj, hcj, h0⟩ := hl
    exact ⟨j, f_fst_s h0 hcj hj⟩
  obtain ⟨k, hk⟩ := this
  rw [h] at hk
  cases hk
/-- how many below n have c, counted up from v -/
noncomputable def f_cnt (c : Nat → Prop) (v : Int32) : Nat → Int32
  | 0 => v
  | n + 1 => f_if (c n) (f_cnt c v n + 1) (f_cnt c v n)
def f_sum (g : Nat → Int32) : Nat → Int32
  | 0 => 0
  | n + 1 => f_sum g n + g n
/-! the pieces as one world: W 0 k is the k-th piece, W 1 its list of parts, W 2 that list's row, W 3 what is approved, W 4 the number of its parts, W 5 k i the i-th part, W 6 k i that asset's days -/
def zPW (T : zT) (F : zF) (lp ep np : Nat) (W : Nat → Nat → Nat → Nat) (fm as : Nat → Int32) (V : Nat → Nat → Nat → Int32) (C A : Nat → Nat → Nat → Int32) : Prop :=
  yLs T F lp ep np (fun k => W 0 k 0) ∧ np ≤ 12 ∧ (∀ k : Nat, k < np → zPc T F (W 0 k 0) (W 1 k 0) (W 2 k 0) (W 3 k 0) (W 4 k 0) (W 5 k) (nI k) (fm k) (as k) (V k) ∧ zPt T F (W 4 k 0) (W 5 k) (W 6 k) (C k) (A k)) ∧ ∀ j k : Nat, j < np → k < np → W 0 j 0 = W 0 k 0 → j = k
def inPW (lp ep np : Nat) (W : Nat → Nat → Nat → Nat) (a : Nat) : Prop := a = lp ∨ a = ep ∨ ∃ k : Nat, k < np ∧ (a = W 0 k 0 ∨ a = W 1 k 0 ∨ a = W 2 k 0 ∨ (∃ j : Nat, j < 5 ∧ a = W 3 k 0 + j) ∨ ∃ i : Nat, i < W 4 k 0 ∧ (a = W 5 k i ∨ a = W 6 k i))
theorem zPc.kp {P : Nat → Prop} {T T' : zT} {F F' : zF} {p l e ap n : Nat} {pt : Nat → Nat} {num fm as : Int32} {V : Nat → Nat → Int32} (h : zPc T F p l e ap n pt num fm as V) (k : yE P T F T' F') (h1 : ¬ P p) (h2 : ¬ P l) (h3 : ¬ P e) (h4 : ∀ j : Nat, j < 5 → ¬ P (ap + j)) : zPc T' F' p l e ap n pt num fm as V := by
  obtain ⟨g0, g1, g2, g3, g4, g5, g6, g7, g8, g9, g10, g11⟩ := h
  have kp : ∀ j : Nat, F' p j = F p j := (k _ _ g0).2 h1
  exact ⟨(k _ _ g0).1, (kp 0).trans g1, (kp 1).trans g2, (kp 2).trans g3, (kp 3).trans g4, (kp 4).trans g5, g6.kp k h2 h3, g7, (k _ _ g8).1, fun j hj => ((k _ _ g8).2 (h4 0 (by decide)) j).trans (g9 j hj), fun j hj => (k _ _ (g10 j hj)).1, fun j i hj hi => ((k _ _ (g10 j hj)).2 (by rw [show ap + 1 + j = ap + (1 + j) by omega]; exact h4 _ (by omega)) i).trans (g11 j i hj hi)⟩
theorem zPW.kp {P : Nat → Prop} {T T' : zT} {F F' : zF} {lp ep np : Nat} {W : Nat → Nat → Nat → Nat} {fm as : Nat → Int32} {V C A : Nat → Nat → Nat → Int32} (h : zPW T F lp ep np W fm as V C A) (k : yE P T F T' F') (hn : ∀ a : Nat, inPW lp ep np W a → ¬ P a) : zPW T' F' lp ep np W fm as V C A := by
  obtain ⟨h0, h1, h2, h3⟩ := h
  refine ⟨h0.kp k (hn _ (Or.inl rfl)) (hn _ (Or.inr (Or.inl rfl))), h1, fun q hq => ⟨(h2 q hq).1.kp k (hn _ (Or.inr (Or.inr ⟨q, hq, Or.inl rfl⟩))) (hn _ (Or.inr (Or.inr ⟨q, hq, Or.inr (Or.inl rfl)⟩))) (hn _ (Or.inr (Or.inr ⟨q, hq, Or.inr (Or.inr (Or.inl rfl))⟩))) (fun j hj => hn _ (Or.inr (Or.inr ⟨q, hq, Or.inr (Or.inr (Or.inr (Or.inl ⟨j, hj, rfl⟩)))⟩))), fun i hi => ?_⟩, h3⟩
  exact ((h2 q hq).2 i hi).kp k (hn _ (Or.inr (Or.inr ⟨q, hq, Or.inr (Or.inr (Or.inr (Or.inr ⟨i, hi, Or.inl rfl⟩)))⟩))) (hn _ (Or.inr (Or.inr ⟨q, hq, Or.inr (Or.inr (Or.inr (Or.inr ⟨i, hi, Or.inr rfl⟩)))⟩)))
/-- of what kinds its cells are -/
theorem zPW.kd {T : zT} {F : zF} {lp ep np : Nat} {W : Nat → Nat → Nat → Nat} {fm as : Nat → Int32} {V C A : Nat → Nat → Nat → Int32} (h : zPW T F lp ep np W fm as V C A) {a : Nat} (ha : inPW lp ep np W a) : ∃ t : Nat × Nat, T a = some t ∧ (t.1 = 0 ∨ t.1 = 1 ∨ t.1 = 3 ∨ t.1 = 100 ∨ t.1 = 101 ∨ t.1 = 102) := by
  obtain ⟨h0, h1, h2, h3⟩ := h
  have hl : ∀ {l e n : Nat} {ad : Nat → Nat}, yLs T F l e n ad → (∃ t : Nat × Nat, T l = some t ∧ (t.1 = 0 ∨ t.1 = 1 ∨ t.1 = 3 ∨ t.1 = 100 ∨ t.1 = 101 ∨ t.1 = 102)) ∧ (∃ t : Nat × Nat, T e = some t ∧ (t.1 = 0 ∨ t.1 = 1 ∨ t.1 = 3 ∨ t.1 = 100 ∨ t.1 = 101 ∨ t.1 = 102)) := fun q => by
    obtain ⟨q0, -, -, ⟨c, q1, -⟩, -⟩ := q
    exact ⟨⟨_, q0, Or.inl rfl⟩, ⟨_, q1, by simp⟩⟩
  rcases ha with rfl | rfl | ⟨k, hk, rfl | rfl | rfl | ⟨j, hj, rfl⟩ | ⟨i, hi, rfl | rfl⟩⟩
  · exact (hl h0).1
  · exact (hl h0).2
  · exact ⟨_, (h2 k hk).1.1, by simp⟩
  · exact (hl (h2 k hk).1.2.2.2.2.2.2.1).1
  · exact (hl (h2 k hk).1.2.2.2.2.2.2.1).2
  · obtain ⟨-, -, -, -, -, -, -, -, g8, -, g10, -⟩ := (h2 k hk).1
    by_cases g : j = 0
    · subst g; exact ⟨_, g8, by simp⟩
    · refine ⟨(100, 16), ?_, by simp⟩
      rw [show W 3 k 0 + j = W 3 k 0 + 1 + (j - 1) by omega]
      exact g10 _ (by omega)
  · exact ⟨_, ((h2 k hk).2 i hi).1, by simp⟩
  · exact ⟨_, ((h2 k hk).2 i hi).2.2.1, by simp⟩
/-- a new value in a cell of another kind -/
theorem zPW.kk {P : Nat → Prop} {T T' : zT} {F F' : zF} {lp ep np : Nat} {W : Nat → Nat → Nat → Nat} {fm as : Nat → Int32} {V C A : Nat → Nat → Nat → Int32} (h : zPW T F lp ep np W fm as V C A) (k : yE P T F T' F') (hP : ∀ a : Nat, P a → ∃ t : Nat × Nat, T a = some t ∧ (t.1 = 2 ∨ t.1 = 4 ∨ t.1 = 5)) : zPW T' F' lp ep np W fm as V C A :=
  h.kp k fun a ha hp => by
    obtain ⟨t, ht, h1⟩ := h.kd ha
    obtain ⟨t', ht', h2⟩ := hP a hp
    cases ht.symm.trans ht'
    omega
/-! a plan: its list l of n bookings, the i-th at ba i with the bp i-th piece -/
def zPl (T : zT) (F : zF) (P l e n : Nat) (ba : Nat → Nat) (W : Nat → Nat → Nat → Nat) (np lp : Nat) (bp : Nat → Nat) (B : Nat → Nat → Int32) (td : Int32) : Prop :=
  T P = some (4, 3) ∧ F P 0 = .ref l ∧ F P 1 = .ref lp ∧ F P 2 = .int td ∧ yLs T F l e n ba ∧ n ≤ 16 ∧ (∀ i : Nat, i < n → zBk T F (ba i) (W 0 (bp i) 0) (B i) ∧ bp i < np) ∧ ∀ i j : Nat, i < n → j < n → ba i = ba j → i = j
def upd1 {α : Type} (f : Nat → α) (i : Nat) (v : α) : Nat → α := fun j => if j = i then v else f j
theorem upd1_s {α : Type} {f : Nat → α} {i : Nat} {v : α} : upd1 f i v i = v := if_pos rfl
theorem upd1_n {α : Type} {f : Nat → α} {i j : Nat} {v : α} (h : j ≠ i) : upd1 f i v j = f j := if_neg h
section PLAN
variable {T : zT} {F : zF} {P l e n : Nat} {ba : Nat → Nat} {W : Nat → Nat → Nat → Nat} {np lp ep : Nat} {bp : Nat → Nat} {B : Nat → Nat → Int32} {td : Int32} {fm as : Nat → Int32} {V C A : Nat → Nat → Nat → Int32}
theorem zPl.row (h : zPl T F P l e n ba W np lp bp B td) {i q : Nat} {b : Nat → Int32} {F' : zF} (hi : i < n) (k : yE (fun a => a = ba i) T F T F') (hb : zBk T F' (ba i) (W 0 q 0) b) (hq : q < np) : zPl T F' P l e n ba W np lp (upd1 bp i q) (upd1 B i b) td := by
  obtain ⟨h0, h1, h2, h3, h4, h5, h6, h7⟩ := h
  have ti := (h6 i hi).1.1
  have nP : ¬ P = ba i := y_ne h0 ti (by decide)
  have kP := (k _ _ h0).2 nP
  refine ⟨h0, (kP 0).trans h1, (kP 1).trans h2, (kP 2).trans h3, h4.kp k (y_ne h4.1 ti (by decide)) (by obtain ⟨c, hc, -⟩ := h4.2.2.2.1; exact y_ne hc ti (by simp)), h5, fun j hj => ?_, h7⟩
  by_cases g : j = i
  · subst g
    rw [upd1_s, upd1_s]
    exact ⟨hb, hq⟩
  · rw [upd1_n g, upd1_n g]
    exact ⟨(h6 j hj).1.kp k fun q => g (h7 j i hj hi q), (h6 j hj).2⟩
/-- a loop's step reads the i-th booking -/
theorem zPl.at (h : zPl T F P l e n ba W np lp bp B td) {i : Nat} (hi : i < n) : zBk T F (ba i) (W 0 (bp i) 0) (B i) := (h.2.2.2.2.2.2.1 i hi).1
/-- one of them is open, at the place, on one of the days; another than the one told -/
def p_tk (n : Nat) (B : Nat → Nat → Int32) (land med d1 d2 : Int32) (o : Option Nat) : Prop := ∃ i : Nat, i < n ∧ ¬ some i = o ∧ p_op (B i) ∧ p_in (B i) land med ∧ p_dy (B i) d1 d2
theorem s_isTaken (h : zPl T F P l e n ba W np lp bp B td) {land med d1 d2 : Int32} (o : Option Nat) (ho : ∀ i : Nat, o = some i → i < n) {Post : Int32 → Prop} (h1 : p_tk n B land med d1 d2 o → Post 1) (h0 : ¬ p_tk n B land med d1 d2 o → Post 0) : v_X3_isTaken P land med d1 d2 (o.map ba) T F Post := by
  obtain ⟨g0, g1, -, -, g4, g5, g6, g7⟩ := id h
  refine ⟨fun hn => ?_, fun y hy => ?_⟩
  · have hn : o = none := by cases o with | none => rfl | some i => cases hn
    refine ⟨fun m y => ∃ k : Nat, k ≤ n ∧ m = n - k ∧ y.toInt = k ∧ ∀ i : Nat, i < k → ¬ (¬ some i = o ∧ p_op (B i) ∧ p_in (B i) land med ∧ p_dy (B i) d1 d2), ⟨n, 0, Nat.zero_le _, rfl, by decide, fun i hi => by omega⟩, ?_⟩
    rintro m y ⟨k, hk, rfl, hy, hv⟩
    have e : y = nI k := y_nI hy (by omega)
    subst e
    refine ⟨g0, l, g1, g4.1, s_size g4 ⟨fun hge => h0 ?_, fun hlt => ?_⟩⟩
    · have : k = n := by
        have := (nI_leI (a := n) (b := k) (by omega) (by omega)).mp hge
        omega
      subst this
      exact fun ⟨i, hi, q⟩ => hv i hi q
    · have hk1 : k < n := Nat.lt_of_not_le fun q => hlt ((nI_leI (a := n) (b := k) (by omega) (by omega)).mpr q)
      have go : ¬ (p_op (B k) ∧ p_in (B k) land med ∧ p_dy (B k) d1 d2) → ∃ n14 : Nat, n14 < n - k ∧ ∃ k' : Nat, k' ≤ n ∧ n14 = n - k' ∧ (nI k + 1).toInt = k' ∧ ∀ i : Nat, i < k' → ¬ (¬ some i = o ∧ p_op (B i) ∧ p_in (B i) land med ∧ p_dy (B i) d1 d2) := fun q => ⟨n - (k + 1), by omega, k + 1, by omega, rfl, y_inc hy (by omega), fun i hi => by
        by_cases g : i = k
        · rw [g]; exact fun z => q z.2
        · exact hv i (by omega)⟩
      refine s_get g4 hk1 ⟨(h.at hk1).1, fun z => (by cases z), fun _ => s_isOpen (h.at hk1) (fun q1 => ⟨fun z => absurd z (by decide), fun _ => s_isIn (h.at hk1) (fun q2 => ⟨fun z => absurd z (by decide), fun _ => s_hasDayIn (h.at hk1) (fun q3 => ⟨fun z => absurd z (by decide), fun _ => h1 ⟨k, hk1, by rw [hn]; exact fun z => (by cases z), q1, q2, q3⟩⟩) (fun q3 => ⟨fun _ => go fun z => q3 z.2.2, fun z => absurd rfl z⟩)⟩) (fun q2 => ⟨fun _ => go fun z => q2 z.2.1, fun z => absurd rfl z⟩)⟩) (fun q1 => ⟨fun _ => go fun z => q1 z.1, fun z => absurd rfl z⟩)⟩
  · obtain ⟨i0, hi0, rfl⟩ : ∃ i0 : Nat, o = some i0 ∧ ba i0 = y := by
      cases o with
      | none => cases hy
      | some i => exact ⟨i, rfl, Option.some.inj hy⟩
    have hi0n := ho i0 hi0
    refine ⟨fun m y => ∃ k : Nat, k ≤ n ∧ m = n - k ∧ y.toInt = k ∧ ∀ i : Nat, i < k → ¬ (¬ some i = o ∧ p_op (B i) ∧ p_in (B i) land med ∧ p_dy (B i) d1 d2), ⟨n, 0, Nat.zero_le _, rfl, by decide, fun i hi => by omega⟩, ?_⟩
    rintro m y ⟨k, hk, rfl, hy, hv⟩
    have e : y = nI k := y_nI hy (by omega)
    subst e
    refine ⟨g0, l, g1, g4.1, s_size g4 ⟨fun hge => h0 ?_, fun hlt => ?_⟩⟩
    · have : k = n := by
        have := (nI_leI (a := n) (b := k) (by omega) (by omega)).mp hge
        omega
      subst this
      exact fun ⟨i, hi, q⟩ => hv i hi q
    · have hk1 : k < n := Nat.lt_of_not_le fun q => hlt ((nI_leI (a := n) (b := k) (by omega) (by omega)).mpr q)
      have go : ¬ (¬ some k = o ∧ p_op (B k) ∧ p_in (B k) land med ∧ p_dy (B k) d1 d2) → ∃ n14 : Nat, n14 < n - k ∧ ∃ k' : Nat, k' ≤ n ∧ n14 = n - k' ∧ (nI k + 1).toInt = k' ∧ ∀ i : Nat, i < k' → ¬ (¬ some i = o ∧ p_op (B i) ∧ p_in (B i) land med ∧ p_dy (B i) d1 d2) := fun q => ⟨n - (k + 1), by omega, k + 1, by omega, rfl, y_inc hy (by omega), fun i hi => by
        by_cases g : i = k
        · rw [g]; exact q
        · exact hv i (by omega)⟩
      refine s_get g4 hk1 ⟨(h.at hk1).1, fun z => go fun q => q.1 ?_, fun z => ?_⟩
      · rw [hi0, g7 k i0 hk1 hi0n (Option.some.inj z)]
      · have hne : ¬ some k = o := fun q => z (by rw [hi0] at q; rw [Option.some.inj q])
        exact s_isOpen (h.at hk1) (fun q1 => ⟨fun z => absurd z (by decide), fun _ => s_isIn (h.at hk1) (fun q2 => ⟨fun z => absurd z (by decide), fun _ => s_hasDayIn (h.at hk1) (fun q3 => ⟨fun z => absurd z (by decide), fun _ => h1 ⟨k, hk1, hne, q1, q2, q3⟩⟩) (fun q3 => ⟨fun _ => go fun z => q3 z.2.2.2, fun z => absurd rfl z⟩)⟩) (fun q2 => ⟨fun _ => go fun z => q2 z.2.2.1, fun z => absurd rfl z⟩)⟩) (fun q1 => ⟨fun _ => go fun z => q1 z.2.1, fun z => absurd rfl z⟩)
def p_us (n : Nat) (bp : Nat → Nat) (B : Nat → Nat → Int32) (land : Int32) (k : Nat) : Prop := ∃ i : Nat, i < n ∧ p_op (B i) ∧ B i 1 = land ∧ bp i = k
theorem s_isUsedIn (h : zPl T F P l e n ba W np lp bp B td) (hW : zPW T F lp ep np W fm as V C A) {land : Int32} {q : Nat} (hq : q < np) {Post : Int32 → Prop} (h1 : p_us n bp B land q → Post 1) (h0 : ¬ p_us n bp B land q → Post 0) : v_X3_isUsedIn P land (W 0 q 0) T F Post := by
  obtain ⟨g0, g1, -, -, g4, g5, g6, g7⟩ := id h
  refine ⟨fun m y => ∃ k : Nat, k ≤ n ∧ m = n - k ∧ y.toInt = k ∧ ∀ i : Nat, i < k → ¬ (p_op (B i) ∧ B i 1 = land ∧ bp i = q), ⟨n, 0, Nat.zero_le _, rfl, by decide, fun i hi => by omega⟩, ?_⟩
  rintro m y ⟨k, hk, rfl, hy, hv⟩
  have e : y = nI k := y_nI hy (by omega)
  subst e
  refine ⟨g0, l, g1, g4.1, s_size g4 ⟨fun hge => h0 ?_, fun hlt => ?_⟩⟩
  · have : k = n := by
      have := (nI_leI (a := n) (b := k) (by omega) (by omega)).mp hge
      omega
    subst this
    exact fun ⟨i, hi, q⟩ => hv i hi q
  · have hk1 : k < n := Nat.lt_of_not_le fun q => hlt ((nI_leI (a := n) (b := k) (by omega) (by omega)).mpr q)
    have go : ¬ (p_op (B k) ∧ B k 1 = land ∧ bp k = q) → ∃ n14 : Nat, n14 < n - k ∧ ∃ k' : Nat, k' ≤ n ∧ n14 = n - k' ∧ (nI k + 1).toInt = k' ∧ ∀ i : Nat, i < k' → ¬ (p_op (B i) ∧ B i 1 = land ∧ bp i = q) := fun q => ⟨n - (k + 1), by omega, k + 1, by omega, rfl, y_inc hy (by omega), fun i hi => by
      by_cases g : i = k
      · rw [g]; exact q
      · exact hv i (by omega)⟩
    have hb := h.at hk1
    refine s_get g4 hk1 ⟨hb.1, s_isOpen hb (fun q1 => ⟨fun z => absurd z (by decide), fun _ => ⟨B k 1, hb.i 1, fun n2 => go fun z => n2 z.2.1, fun e2 => ⟨W 0 (bp k) 0, hb.2.1, fun n3 => go fun z => n3 (by rw [z.2.2]), fun e3 => h1 ⟨k, hk1, q1, e2, hW.2.2.2 _ _ (g6 k hk1).2 hq (Option.some.inj e3)⟩⟩⟩⟩) (fun q1 => ⟨fun _ => go fun z => q1 z.1, fun z => absurd rfl z⟩)⟩
/-- the k-th piece may be swapped for that of the i-th booking -/
def p_cs (n : Nat) (W : Nat → Nat → Nat → Nat) (fm : Nat → Int32) (V C A : Nat → Nat → Nat → Int32) (bp : Nat → Nat) (B : Nat → Nat → Int32) (td : Int32) (i j k : Nat) : Prop := ¬ k = bp i ∧ fm k = fm (bp i) ∧ p_fit (W 4 k 0) (C k) (V k j) td ∧ p_grd (W 4 k 0) (A k) (nI j) (B i 3) (B i 4) ∧ ¬ p_us n bp B (nI j) k
theorem s_canSwap (h : zPl T F P l e n ba W np lp bp B td) (hW : zPW T F lp ep np W fm as V C A) {i j k : Nat} (hi : i < n) (hk : k < np) (hj : j < 4) (hl : B i 1 = nI j) {Post : Int32 → Prop} (h1 : p_cs n W fm V C A bp B td i j k → Post 1) (h0 : ¬ p_cs n W fm V C A bp B td i j k → Post 0) : v_X3_canSwap P (ba i) (W 0 k 0) T F Post := by
  obtain ⟨g0, g1, g2, g3, g4, g5, g6, g7⟩ := id h
  have hb := h.at hi
  have hbi := (g6 i hi).2
  obtain ⟨pk, ak⟩ := hW.2.2.1 k hk
  obtain ⟨pi, ai⟩ := hW.2.2.1 _ hbi
  refine ⟨hb.1, _, hb.2.1, fun e => h0 fun q => q.1 (hW.2.2.2 _ _ hk hbi (Option.some.inj e)), fun ne => ⟨pk.1, fm k, pk.2.2.1, pi.1, fm (bp i), pi.2.2.1, fun nf => h0 fun q => nf q.2.1, fun ef => ⟨B i 1, hb.i 1, g0, td, g3, ?_⟩⟩⟩
  rw [hl]
  refine s_isFitOn pk ak hj (fun q1 => ⟨fun z => absurd z (by decide), fun _ => ⟨B i 3, hb.i 3, B i 4, hb.i 4, s_isGrantedOn pk ak (fun q2 => ⟨fun z => absurd z (by decide), fun _ => s_isUsedIn h hW hk (fun q3 => ⟨fun _ => h0 fun q => q.2.2.2.2 q3, fun z => absurd z (by decide)⟩) (fun q3 => ⟨fun z => absurd rfl z, fun _ => h1 ⟨fun z => ne (by rw [z]), ef, q1, q2, q3⟩⟩)⟩) (fun q2 => ⟨fun _ => h0 fun q => q2 q.2.2.2.1, fun z => absurd rfl z⟩)⟩⟩) (fun q1 => ⟨fun _ => h0 fun q => q1 q.2.2.1, fun z => absurd rfl z⟩)
theorem s_firstSwap (h : zPl T F P l e n ba W np lp bp B td) (hW : zPW T F lp ep np W fm as V C A) {i j : Nat} (hi : i < n) (hj : j < 4) (hl : B i 1 = nI j) {Post : Option Nat → Prop} (hk : Post ((f_fst (p_cs n W fm V C A bp B td i j) np).map fun k => W 0 k 0)) : v_X3_firstSwap P (ba i) T F Post := by
  obtain ⟨g0, g1, g2, g3, g4, g5, g6, g7⟩ := id h
  have hnp := hW.2.1
  refine ⟨fun m y => ∃ k : Nat, k ≤ np ∧ m = np - k ∧ y.toInt = k ∧ ∀ q : Nat, q < k → ¬ p_cs n W fm V C A bp B td i j q, ⟨np, 0, Nat.zero_le _, rfl, by decide, fun i hi => by omega⟩, ?_⟩
  rintro m y ⟨k, hkn, rfl, hy, hv⟩
  have e : y = nI k := y_nI hy (by omega)
  subst e
  refine ⟨g0, lp, g2, hW.1.1, s_size hW.1 ⟨fun hge => ?_, fun hlt => ?_⟩⟩
  · have : k = np := by
      have := (nI_leI (a := np) (b := k) (by omega) (by omega)).mp hge
      omega
    subst this
    rw [f_fst_n hv] at hk
    exact hk
  · have hk1 : k < np := Nat.lt_of_not_le fun q => hlt ((nI_leI (a := np) (b := k) (by omega) (by omega)).mpr q)
    have pk := (hW.2.2.1 k hk1).1
    refine s_get hW.1 hk1 ⟨pk.1, s_canSwap h hW hi hk1 hj hl (fun q => ⟨fun z => absurd z (by decide), fun _ => s_get hW.1 hk1 ⟨pk.1, ?_⟩⟩) (fun q => ⟨fun _ => ⟨np - (k + 1), by omega, k + 1, by omega, rfl, y_inc hy (by omega), fun q2 hq2 => ?_⟩, fun z => absurd rfl z⟩)⟩
    · rw [f_fst_s hv q hk1] at hk
      exact hk
    · by_cases g : q2 = k
      · rw [g]; exact q
      · exact hv q2 (by omega)
end PLAN
