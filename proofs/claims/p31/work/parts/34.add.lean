/-! lists that grow -/
theorem y_obA {T : zT} {b : Nat} (h : T b = some (1, 5)) : z_ob T b := ⟨1, 5, (RX0, TX0, 5), h, by decide, rfl, zG_of 823 (by decide +kernel) rfl⟩
theorem y_obB {T : zT} {b : Nat} (h : T b = some (2, 12)) : z_ob T b := ⟨2, 12, (RX1, TX1, 12), h, by decide, rfl, zG_of 827 (by decide +kernel) rfl⟩
theorem y_obP {T : zT} {b : Nat} (h : T b = some (3, 5)) : z_ob T b := ⟨3, 5, (RX2, TX2, 5), h, by decide, rfl, zG_of 826 (by decide +kernel) rfl⟩
theorem z_ob.kp {P : Nat → Prop} {T T' : zT} {F F' : zF} {a : Nat} (h : z_ob T a) (k : yE P T F T' F') : z_ob T' a := by
  obtain ⟨ci, m, r, h1, h2⟩ := h
  exact ⟨ci, m, r, (k _ _ h1).1, h2⟩
/-- the row of a list: the shared empty one, or one of its own -/
def yCap (T : zT) (e zE : Nat) : Prop := (T e = some (101, 0) ∧ e = zE) ∨ T e = some (101, 10) ∨ T e = some (101, 15) ∨ T e = some (101, 22)
theorem yCap.kp {P : Nat → Prop} {T T' : zT} {F F' : zF} {e zE : Nat} (h : yCap T e zE) (k : yE P T F T' F') : yCap T' e zE := by
  rcases h with ⟨h, h2⟩ | h | h | h
  · exact Or.inl ⟨(k _ _ h).1, h2⟩
  · exact Or.inr (Or.inl (k _ _ h).1)
  · exact Or.inr (Or.inr (Or.inl (k _ _ h).1))
  · exact Or.inr (Or.inr (Or.inr (k _ _ h).1))
theorem s_newLength {c c' : Nat} {T : zT} {F : zF} {Post : Int32 → Prop} (h : (c = 10 ∧ c' = 15) ∨ (c = 15 ∧ c' = 22)) (hk : Post (nI c')) : v_J8_newLength_cabcc (nI c) ((nI c + 1) - (nI c)) ((nI c) >>> (1 &&& 31)) T F Post := by
  rcases h with ⟨rfl, rfl⟩ | ⟨rfl, rfl⟩
  · have e : nI 10 + (if ((nI 10 + 1) - (nI 10)) < ((nI 10) >>> ((1 : Int32) &&& 31)) then ((nI 10) >>> ((1 : Int32) &&& 31)) else ((nI 10 + 1) - (nI 10)) : Int32) = nI 15 := by decide
    unfold v_J8_newLength_cabcc
    rw [e]
    exact ⟨fun q => absurd q (by decide), fun _ => ⟨fun q => absurd q (by decide), fun _ => hk⟩⟩
  · have e : nI 15 + (if ((nI 15 + 1) - (nI 15)) < ((nI 15) >>> ((1 : Int32) &&& 31)) then ((nI 15) >>> ((1 : Int32) &&& 31)) else ((nI 15 + 1) - (nI 15)) : Int32) = nI 22 := by decide
    unfold v_J8_newLength_cabcc
    rw [e]
    exact ⟨fun q => absurd q (by decide), fun _ => ⟨fun q => absurd q (by decide), fun _ => hk⟩⟩
/-- a longer copy of a row -/
theorem s_copyOf {e c c' : Nat} {T : zT} {F : zF} {Post : Nat → zT → zF → Prop} (hT : T e = some (101, c)) (hc : 0 < c) (hcc : c < c') (hc4 : c' ≤ 40) (hel : ∀ i : Nat, i < c → ∃ y : Nat, F e i = .ref y ∧ z_ob T y)
    (hk : ∀ (q : Nat) (F' : zF), (∀ b, q ≤ b → T b = none) → yE (fun _ => False) T F (zn T q (101, c')) F' → (∀ i : Nat, i < c → F' q i = F e i) → Post q (zn T q (101, c')) F') : v_J7_copyOf_1904c e (nI c') T F Post := by
  have h1 : ¬ nI c' < 0 := nI_pos (by omega)
  have h2 : (nI c').toNatClampNeg = c' := y_nIn (by omega)
  have h3 : ¬ nI c' < nI c := nI_nlt (by omega) (by omega)
  refine ⟨c, hT, h1, by rw [h2]; exact hc4, fun q hq => ?_⟩
  have hlt := y_nq hT hq
  have k1 : yE (fun _ => False) T F (zn T q (101, c')) (zm F q (fun _ => .null)) := yE.nn hq
  rw [h2]
  refine ⟨c, (k1 _ _ hT).1, hc, by omega, ?_⟩
  rw [if_neg h3, y_nIn (show c < 1000 by omega)]
  refine ⟨nI_pos (by omega), Nat.le_refl _, by omega, Nat.ne_of_lt hlt, fun i hi => ?_, ?_⟩
  · obtain ⟨y, hy, hob⟩ := hel i hi
    exact Or.inr ⟨y, ((k1 _ _ hT).2 (fun g => g) i).trans hy, hob.kp k1⟩
  · have hn : T q = none := hq q (Nat.le_refl _)
    refine hk q _ hq (fun a t ha => ?_) fun i hi => ?_
    · have hne : a ≠ q := fun g => by rw [g, hn] at ha; cases ha
      exact ⟨(k1 a t ha).1, fun hp j => (if_neg (fun g => hne g.1)).trans ((k1 a t ha).2 hp j)⟩
    · exact (if_pos ⟨rfl, hi⟩).trans ((k1 _ _ hT).2 (fun g => g) i)
/-- one more in a list -/
theorem s_add {T : zT} {F : zF} {l e n a zE : Nat} {ad : Nat → Nat} {Post : Int32 → zT → zF → Prop} (h : yLs T F l e n ad) (hc : yCap T e zE) (hn : n < 22) (hel : ∀ i : Nat, i < n → z_ob T (ad i)) (ha : z_ob T a)
    (hk : ∀ (T' : zT) (F' : zF) (e' : Nat), yE (fun q => q = l ∨ (q = e ∧ ¬ T e = some (101, 0))) T F T' F' → yLs T' F' l e' (n + 1) (upd1 ad n a) → yCap T' e' zE → ¬ T' e' = some (101, 0) → (e' = e ∨ T e' = none) → Post 1 T' F') : v_Jx4a65c_add_9ea2d zE l a T F Post := by
  obtain ⟨h0, h1, h2, ⟨c, h3, h4, h5⟩, ⟨v, h6⟩, h7⟩ := h
  have a1 : zu F l 0 (.int (v + 1)) l 1 = .ref e := z_une h1 (by decide)
  have a2 : zu F l 0 (.int (v + 1)) l 2 = .int (nI n) := z_une h2 (by decide)
  have nle : e ≠ l := y_ne h3 h0 (by simp)
  have ae : ∀ j : Nat, zu F l 0 (.int (v + 1)) e j = F e j := fun j => if_neg fun g => nle g.1
  have k0 : yE (fun q => q = l) T F T (zu F l 0 (.int (v + 1))) := yE.us
  refine ⟨h0, v, h6, e, a1, nI n, a2, c, h3, fun hlt => ?_, fun heq => ?_⟩
  · -- there is room
    have hnc : n < c := by
      by_cases g : n = c
      · rw [g] at hlt; exact absurd rfl hlt
      · omega
    refine ⟨vp_in_nI hnc (by omega), ha, h0, ?_⟩
    rw [y_nIn (by omega)]
    have hc0 : ¬ T e = some (101, 0) := fun q => by rw [h3] at q; cases q; omega
    refine hk _ _ e ((k0.wk fun q g => Or.inl g).tr ((yE.uu (Or.inr ⟨rfl, hc0⟩)).tr (yE.uu (Or.inl rfl)))) ⟨h0, ?_, ?_, ⟨c, h3, by omega, h5⟩, ⟨v + 1, ?_⟩, fun i hi => ?_⟩ hc hc0 (Or.inl rfl)
    · rw [y_zu, if_neg (by simp), y_zu, if_neg (fun g => nle g.1.symm)]; exact a1
    · rw [y_zu, if_pos ⟨rfl, rfl⟩, nI_1]
    · rw [y_zu, if_neg (by simp), y_zu, if_neg (fun g => nle g.1.symm)]; exact z_ueq
    · rw [y_zu, if_neg (fun g => nle g.1), y_zu]
      by_cases g : i = n
      · rw [if_pos ⟨rfl, g⟩, g, upd1_s]
      · rw [if_neg (fun q => g q.2), ae, upd1_n g]
        exact h7 i (by omega)
  · -- it is full
    have hnc : n = c := by
      have := (nI_eq (a := n) (b := c) (by omega) (by omega)).mp heq
      exact this
    subst hnc
    rcases hc with ⟨hc, hz⟩ | hc
    · cases h3.symm.trans hc
      subst hz
      refine ⟨h0, h0, nI 0, a2, h0, e, a1, 0, h3, fun q => absurd q (by decide), fun _ => ⟨fun _ => ⟨by decide, fun q hq => ?_⟩, fun q => absurd rfl q⟩⟩
      have hlq := y_nq h0 hq
      have hn9 : T q = none := hq q (Nat.le_refl _)
      have k1 : yE (fun q => q = l) T F (zn T q (101, 10)) (zm (zu F l 0 (.int (v + 1))) q (fun _ => .null)) := k0.tr (yE.nn hq)
      have nql : q ≠ l := Nat.ne_of_gt hlq
      refine ⟨(k1 _ _ h0).1, 10, z_nq, vp_in_nI (by decide) (by decide), ha.kp k1, (k1 _ _ h0).1, ?_⟩
      rw [y_nIn (by omega)]
      refine hk _ _ q (((k1.tr yE.us).un hn9).tr yE.us |>.wk fun q g => Or.inl g) ⟨(k1 _ _ h0).1, ?_, ?_, ⟨10, z_nq, by decide, by decide⟩, ⟨v + 1, ?_⟩, fun i hi => ?_⟩ (Or.inr (Or.inl z_nq)) (by rw [show zn T q (101, 10) q = some (101, 10) from z_nq]; simp) (Or.inr hn9)
      · rw [y_zu, if_neg (by simp), y_zu, if_neg (fun g => nql g.1.symm)]; exact z_ueq
      · rw [y_zu, if_pos ⟨rfl, rfl⟩, nI_1]
      · rw [y_zu, if_neg (by simp), y_zu, if_neg (fun g => nql g.1.symm), y_zu, if_neg (by simp)]
        show zm _ q _ l 0 = _
        unfold zm
        rw [if_neg (fun g => nql g.symm)]
        exact z_ueq
      · have : i = 0 := by omega
        subst this
        rw [y_zu, if_neg (fun g => nql g.1), y_zu, if_pos ⟨rfl, rfl⟩, upd1_s]
    · have hcc : ∃ c' : Nat, ((n = 10 ∧ c' = 15) ∨ (n = 15 ∧ c' = 22)) := by
        rcases hc with hc | hc | hc
        · cases h3.symm.trans hc; exact ⟨15, Or.inl ⟨rfl, rfl⟩⟩
        · cases h3.symm.trans hc; exact ⟨22, Or.inr ⟨rfl, rfl⟩⟩
        · cases h3.symm.trans hc; omega
      obtain ⟨c', hcc⟩ := hcc
      have hel' : ∀ i : Nat, i < n → ∃ y : Nat, zu F l 0 (.int (v + 1)) e i = .ref y ∧ z_ob T y := fun i hi => ⟨ad i, (ae i).trans (h7 i hi), hel i hi⟩
      refine ⟨h0, h0, nI n, a2, h0, e, a1, n, h3, fun _ => s_newLength hcc (s_copyOf h3 (by omega) (by omega) (by omega) hel' fun q F9 hq k9 c9 => ?_), fun q => absurd (nI_lt (a := 0) (b := n) (by omega) (by omega)) q⟩
      have hn9 : T q = none := hq q (Nat.le_refl _)
      have hlq := y_nq h0 hq
      have nql : q ≠ l := Nat.ne_of_gt hlq
      have k1 : yE (fun q => q = l) T F (zn T q (101, c')) F9 := k0.tr k9.w0
      have l9 := (k9 _ _ h0).2 (fun g => g)
      refine ⟨(k1 _ _ h0).1, c', z_nq, vp_in_nI (by omega) (by omega), ha.kp k1, (k1 _ _ h0).1, ?_⟩
      rw [y_nIn (by omega)]
      have hcap : zn T q (101, c') q = some (101, c') := z_nq
      refine hk _ _ q (((k1.tr yE.us).un hn9).tr yE.us |>.wk fun q g => Or.inl g) ⟨(k1 _ _ h0).1, ?_, ?_, ⟨c', z_nq, by omega, by omega⟩, ⟨v + 1, ?_⟩, fun i hi => ?_⟩ ?_ (by rw [hcap]; intro g; cases g; omega) (Or.inr hn9)
      · rw [y_zu, if_neg (by simp), y_zu, if_neg (fun g => nql g.1.symm)]; exact z_ueq
      · rw [y_zu, if_pos ⟨rfl, rfl⟩, nI_1]
      · rw [y_zu, if_neg (by simp), y_zu, if_neg (fun g => nql g.1.symm), y_zu, if_neg (by simp)]
        exact (l9 0).trans z_ueq
      · rw [y_zu, if_neg (fun g => nql g.1), y_zu]
        by_cases g : i = n
        · rw [if_pos ⟨rfl, g⟩, g, upd1_s]
        · rw [if_neg (fun q => g q.2), y_zu, if_neg (fun g => nql g.1), upd1_n g]
          exact (c9 i (by omega)).trans ((ae i).trans (h7 i (by omega)))
      · rcases hcc with ⟨-, rfl⟩ | ⟨-, rfl⟩
        · exact Or.inr (Or.inr (Or.inl z_nq))
        · exact Or.inr (Or.inr (Or.inr z_nq))
