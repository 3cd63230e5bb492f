/-! the plan that days are tried out on -/
def zTr (T : zT) (F : zF) (tr tl te nt : Nat) (ra : Nat → Nat) (zE : Nat) : Prop := T tr = some (4, 3) ∧ F tr 0 = .ref tl ∧ (∃ q : Nat, F tr 1 = .ref q) ∧ (∃ t : Int32, F tr 2 = .int t) ∧ yLs T F tl te nt ra ∧ yCap T te zE ∧ nt ≤ 16 ∧ (∀ i : Nat, i < nt → ∃ (p : Nat) (B0 : Nat → Int32), zBk T F (ra i) p B0) ∧ ∀ i j : Nat, i < nt → j < nt → ra i = ra j → i = j
/-- its own cells, as far as they are written -/
def zTs (T : zT) (tr tl te nt : Nat) (ra : Nat → Nat) (a : Nat) : Prop := a = tr ∨ a = tl ∨ (a = te ∧ ¬ T te = some (101, 0)) ∨ ∃ i : Nat, i < nt ∧ a = ra i
def inPl (P l e n : Nat) (ba : Nat → Nat) (a : Nat) : Prop := a = P ∨ a = l ∨ a = e ∨ ∃ i : Nat, i < n ∧ a = ba i
theorem zPl.kp {X : Nat → Prop} {T T' : zT} {F F' : zF} {P l e n : Nat} {ba : Nat → Nat} {W : Nat → Nat → Nat → Nat} {np lp : Nat} {bp : Nat → Nat} {B : Nat → Nat → Int32} {td : Int32} (h : zPl T F P l e n ba W np lp bp B td) (k : yE X T F T' F') (hn : ∀ a : Nat, inPl P l e n ba a → ¬ X a) : zPl T' F' P l e n ba W np lp bp B td := by
  obtain ⟨h0, h1, h2, h3, h4, h5, h6, h7⟩ := h
  have kP := (k _ _ h0).2 (hn _ (Or.inl rfl))
  exact ⟨(k _ _ h0).1, (kP 0).trans h1, (kP 1).trans h2, (kP 2).trans h3, h4.kp k (hn _ (Or.inr (Or.inl rfl))) (hn _ (Or.inr (Or.inr (Or.inl rfl)))), h5, fun i hi => ⟨(h6 i hi).1.kp k (hn _ (Or.inr (Or.inr (Or.inr ⟨i, hi, rfl⟩)))), (h6 i hi).2⟩, h7⟩
/-- a booking that is made the same as another one -/
theorem s_copyBk {T : zT} {F : zF} {q b p : Nat} {B : Nat → Int32} {Post : zF → Prop} (hq : ∀ b, q ≤ b → T b = none) (h : zBk T F b p B) (hk : ∀ F' : zF, yE (fun _ => False) T F (zn T q (2, 12)) F' → zBk (zn T q (2, 12)) F' q p B → Post F') : v_X1_init_ q b (zn T q (2, 12)) (zm F q (fun j => defaultValue (tyX1 j))) Post := by
  have hn : T q = none := hq q (Nat.le_refl _)
  have hne : b ≠ q := fun e => by rw [e] at h; rw [h.1] at hn; cases hn
  have k0 : yE (fun _ => False) T F (zn T q (2, 12)) (zm F q (fun j => defaultValue (tyX1 j))) := yE.nn hq
  have k1 := (((((k0.un (k := 6) (v := .int 0) hn).un (k := 7) (v := .int 0) hn).un (k := 8) (v := .int 0) hn).un (k := 9) (v := .int 0) hn).un (k := 10) (v := .int 0) hn).un (k := 11) (v := .int 0) hn
  have hb := h.kp k1 (fun g => g)
  refine ⟨z_nq, ?_⟩
  -- the same as setTo, from fields that hold nothing of note
  refine s_setTo' z_nq hb hne fun F' k2 hb2 => hk F' (fun a t ha => ?_) hb2
  have hne2 : a ≠ q := fun g => by rw [g, hn] at ha; cases ha
  exact ⟨(k2 _ _ (k1 a t ha).1).1, fun hp j => ((k2 _ _ (k1 a t ha).1).2 hne2 j).trans ((k1 a t ha).2 hp j)⟩
/-- the trial is made the same as the plan -/
theorem s_copyFrom {T : zT} {F : zF} {tr tl te nt P l e n zE lp np : Nat} {ra ba bp : Nat → Nat} {W : Nat → Nat → Nat → Nat} {B : Nat → Nat → Int32} {td : Int32} {Post : zT → zF → Prop} (hT : zTr T F tr tl te nt ra zE) (hP : zPl T F P l e n ba W np lp bp B td) (hs : ∀ a : Nat, inPl P l e n ba a → ¬ zTs T tr tl te nt ra a) (hnt : nt ≤ n)
    (hk : ∀ (T' : zT) (F' : zF) (te' : Nat) (ra' : Nat → Nat), yE (zTs T tr tl te nt ra) T F T' F' → zPl T' F' tr tl te' n ra' W np lp bp B td → yCap T' te' zE → (te' = te ∨ T te' = none) → (∀ i : Nat, i < n → (i < nt ∧ ra' i = ra i) ∨ T (ra' i) = none) → Post T' F') : v_X3_copyFrom zE tr P T F Post := by
  obtain ⟨t0, t1, ⟨t2, t3⟩, ⟨t4, t5⟩, t6, t7, t8, t9, t10⟩ := id hT
  have hn16 := hP.2.2.2.2.2.1
  have nP : P ≠ tr := fun g => hs P (Or.inl rfl) (Or.inl g)
  have k0 : yE (zTs T tr tl te nt ra) T F T (zu (zu F tr 2 (.int td)) tr 1 (.ref lp)) := (yE.uu (Or.inl rfl)).tr (yE.uu (Or.inl rfl))
  have eP1 : zu F tr 2 (.int td) P 1 = .ref lp := (if_neg fun g => nP g.1).trans hP.2.2.1
  have nlt : tl ≠ tr := y_ne t6.1 t0 (by decide)
  have net : te ≠ tr := by obtain ⟨c, hc, -⟩ := t6.2.2.2.1; exact y_ne hc t0 (by simp)
  have kU : yE (fun a => a = tr) T F T (zu (zu F tr 2 (.int td)) tr 1 (.ref lp)) := yE.us.tr yE.us
  refine ⟨hP.1, td, hP.2.2.2.1, t0, lp, eP1, fun m y T1 F1 => ∃ (k n1 te1 : Nat) (ra1 : Nat → Nat), k ≤ n ∧ m = n - k ∧ y.toInt = k ∧ yE (zTs T tr tl te nt ra) T F T1 F1 ∧ n1 = (if nt ≤ k then k else nt) ∧ T1 tr = some (4, 3) ∧ F1 tr 0 = .ref tl ∧ F1 tr 1 = .ref lp ∧ F1 tr 2 = .int td ∧ yLs T1 F1 tl te1 n1 ra1 ∧ yCap T1 te1 zE ∧ (te1 = te ∨ T te1 = none) ∧ (∀ i : Nat, i < n1 → (i < nt ∧ ra1 i = ra i) ∨ T (ra1 i) = none) ∧ (∀ i : Nat, i < k → zBk T1 F1 (ra1 i) (W 0 (bp i) 0) (B i)) ∧ (∀ i : Nat, k ≤ i → i < n1 → ∃ (p : Nat) (B0 : Nat → Int32), zBk T1 F1 (ra1 i) p B0) ∧ ∀ i j : Nat, i < n1 → j < n1 → ra1 i = ra1 j → i = j, ⟨n, by omega, 0, nt, te, ra, Nat.zero_le _, rfl, by decide, k0, by by_cases g : nt ≤ 0 <;> simp [g] <;> omega, t0, z_une (z_une t1 (by decide)) (by decide), z_ueq, z_une z_ueq (by decide), t6.kp kU nlt net, t7, Or.inl rfl, fun i hi => Or.inl ⟨hi, rfl⟩, fun i hi => by omega, fun i _ hi => ?_, t10⟩, ?_⟩
  · obtain ⟨p, B0, hb⟩ := t9 i hi
    exact ⟨p, B0, hb.kp kU (y_ne hb.1 t0 (by decide))⟩
  rintro m y T1 F1 - ⟨k, n1, te1, ra1, hkn, rfl, hy, k1, hn1, s0, s1, s2, s3, s4, s5, s6, s7, s8, s9, s10⟩
  have e0 : y = nI k := y_nI hy (by omega)
  subst e0
  have hP1 := hP.kp k1 hs
  have hn1n : n1 ≤ n := by rw [hn1]; split <;> omega
  have hkn1 : k ≤ n1 := by rw [hn1]; split <;> omega
  obtain ⟨g0, g1, g2, g3, g4, g5, g6, g7⟩ := id hP1
  refine ⟨g0, l, g1, g4.1, s_size g4 ⟨fun hge => ?_, fun hlt => ?_⟩⟩
  · have hk1 : k = n := by
      have := (nI_leI (a := n) (b := k) (by omega) (by omega)).mp hge
      omega
    subst hk1
    have hn2 : n1 = k := by rw [hn1, if_pos hnt]
    subst hn2
    exact hk T1 F1 te1 ra1 k1 ⟨s0, s1, s2, s3, s4, hn16, fun i hi => ⟨s8 i hi, (g6 i hi).2⟩, s10⟩ s5 s6 s7
  · have hk1 : k < n := Nat.lt_of_not_le fun z => hlt ((nI_leI (a := n) (b := k) (by omega) (by omega)).mpr z)
    have hb := hP1.at hk1
    refine s_get g4 hk1 ⟨hb.1, s0, tl, s1, s4.1, s_size s4 ⟨fun hge => ?_, fun hlt2 => ?_⟩⟩
    · -- a new row
      have hn2 : n1 = k := by
        have := (nI_leI (a := n1) (b := k) (by omega) (by omega)).mp hge
        omega
      subst hn2
      have hnt1 : nt ≤ n1 := by
        by_cases g : nt ≤ n1
        · exact g
        · rw [if_neg g] at hn1; omega
      refine fun q hq => s_copyBk hq hb fun F2 k2 hb2 => ?_
      have hnq : T1 q = none := hq q (Nat.le_refl _)
      have s4' := s4.kp k2 (fun g => g) (fun g => g)
      refine ⟨s4'.1, s_add s4' (s5.kp k2) (by omega) (fun i hi => (y_obB (s8 i hi).1).kp k2) (y_obB hb2.1) fun T3 F3 te3 k3 l3 c3 z3 d3 => ?_⟩
      have tlT := (k2 _ _ s4.1).1
      -- what the third step may write
      have kX : yE (fun a => a = tl ∨ (a = te1 ∧ ¬ zn T1 q (2, 12) te1 = some (101, 0))) (zn T1 q (2, 12)) F2 T3 F3 := k3
      have hrow : ∀ {a : Nat} {t : Nat × Nat}, zn T1 q (2, 12) a = some t → ¬ t.1 = 0 → ¬ t.1 = 101 → T3 a = some t ∧ ∀ j : Nat, F3 a j = F2 a j := fun {a t} ha h1 h2 => ⟨(kX a t ha).1, (kX a t ha).2 fun g => by
        rcases g with g | ⟨g, -⟩
        · rw [g, tlT] at ha; cases ha; exact h1 rfl
        · obtain ⟨c, hc, -⟩ := s4'.2.2.2.1
          rw [g, hc] at ha; cases ha; exact h2 rfl⟩
      have hbk : ∀ {b p : Nat} {B0 : Nat → Int32}, zBk (zn T1 q (2, 12)) F2 b p B0 → zBk T3 F3 b p B0 := fun {b p B0} h9 => by
        obtain ⟨r1, r2⟩ := hrow h9.1 (by decide) (by decide)
        exact ⟨r1, (r2 0).trans h9.2.1, fun j h1 h2 => (r2 j).trans (h9.2.2.1 j h1 h2), h9.2.2.2⟩
      have hqn : ∀ i : Nat, i < n1 → ra1 i ≠ q := fun i hi g => by
        have := (s8 i hi).1
        rw [g, hnq] at this; cases this
      have hTq : T q = none := by
        cases g : T q with
        | none => rfl
        | some t => rw [(k1 _ _ g).1] at hnq; cases hnq
      have kT : yE (zTs T tr tl te nt ra) T F T3 F3 := fun a t ha => by
        have a1 := k1 a t ha
        have a2 := k2 a t a1.1
        refine ⟨(kX a t a2.1).1, fun hp j => ?_⟩
        refine ((kX a t a2.1).2 (fun g => ?_) j).trans ((a2.2 (fun g => g) j).trans (a1.2 hp j))
        rcases g with g | ⟨g, g2⟩
        · exact hp (Or.inr (Or.inl g))
        · rcases s6 with s6 | s6
          · refine hp (Or.inr (Or.inr (Or.inl ⟨g.trans s6, fun z => g2 ?_⟩)))
            rw [← s6] at z
            exact (k2 _ _ (k1 _ _ z).1).1
          · rw [g, s6] at ha; cases ha
      obtain ⟨tr3, trF⟩ := hrow (k2 _ _ s0).1 (by decide) (by decide)
      have trF2 := (k2 _ _ s0).2 (fun g => g)
      refine ⟨n - (n1 + 1), by omega, n1 + 1, n1 + 1, te3, upd1 ra1 n1 q, by omega, rfl, y_inc hy (by omega), kT, by rw [if_pos (by omega)], tr3, (trF 0).trans ((trF2 0).trans s1), (trF 1).trans ((trF2 1).trans s2), (trF 2).trans ((trF2 2).trans s3), l3, c3, ?_, fun i hi => ?_, fun i hi => ?_, fun i h1 h2 => by omega, fun i j hi hj => ?_⟩
      · rcases d3 with d3 | d3
        · rw [d3]; exact s6
        · right
          cases g : T te3 with
          | none => rfl
          | some t => rw [(k2 _ _ (k1 _ _ g).1).1] at d3; cases d3
      · by_cases g : i = n1
        · rw [g, upd1_s]; exact Or.inr hTq
        · rw [upd1_n g]; exact s7 i (by omega)
      · by_cases g : i = n1
        · rw [g, upd1_s]; exact hbk hb2
        · rw [upd1_n g]; exact hbk ((s8 i (by omega)).kp k2 (fun g => g))
      · by_cases g : i = n1
        · by_cases g' : j = n1
          · intro; omega
          · rw [g, upd1_s, upd1_n g']; intro z; exact absurd z.symm (hqn j (by omega))
        · by_cases g' : j = n1
          · rw [g', upd1_s, upd1_n g]; intro z; exact absurd z (hqn i (by omega))
          · rw [upd1_n g, upd1_n g']; exact s10 i j (by omega) (by omega)
    · -- a row that is there
      have hk2 : k < n1 := Nat.lt_of_not_le fun z => hlt2 ((nI_leI (a := n1) (b := k) (by omega) (by omega)).mpr z)
      obtain ⟨p9, B9, hb9⟩ := s9 k (Nat.le_refl _) hk2
      have hnt1 : n1 = nt := by
        by_cases g : nt ≤ k
        · rw [if_pos g] at hn1; omega
        · rw [if_neg g] at hn1; exact hn1
      have hra : ra1 k = ra k ∨ T (ra1 k) = none := (s7 k hk2).imp (fun g => g.2) id
      have hXr : ∀ a : Nat, a = ra1 k → (∀ t : Nat × Nat, T a = some t → zTs T tr tl te nt ra a) := fun a ha t ht => by
        rcases hra with g | g
        · exact Or.inr (Or.inr (Or.inr ⟨k, by omega, ha.trans g⟩))
        · rw [ha, g] at ht; cases ht
      have hne : ba k ≠ ra1 k := fun g => by
        rcases hra with g2 | g2
        · exact hs (ba k) (Or.inr (Or.inr (Or.inr ⟨k, hk1, rfl⟩))) (Or.inr (Or.inr (Or.inr ⟨k, by omega, g.trans g2⟩)))
        · have := (hP.at hk1).1
          rw [g, g2] at this; cases this
      refine s_get s4 hk2 ⟨hb9.1, s_setTo hb9 hb hne fun F2 k2 hb2 => ?_⟩
      have kT : yE (zTs T tr tl te nt ra) T F T1 F2 := fun a t ha => by
        have a1 := k1 a t ha
        exact ⟨a1.1, fun hp j => ((k2 a t a1.1).2 (fun g => hp (hXr a g t ha)) j).trans (a1.2 hp j)⟩
      have kk : ∀ {b p : Nat} {B0 : Nat → Int32}, zBk T1 F1 b p B0 → b ≠ ra1 k → zBk T1 F2 b p B0 := fun h9 g => h9.kp k2 g
      have trn := (k2 _ _ s0).2 (y_ne s0 hb9.1 (by decide))
      refine ⟨n - (k + 1), by omega, k + 1, n1, te1, ra1, by omega, rfl, y_inc hy (by omega), kT, by rw [hnt1]; split <;> omega, s0, (trn 0).trans s1, (trn 1).trans s2, (trn 2).trans s3, s4.kp k2 (y_ne s4.1 hb9.1 (by decide)) (by obtain ⟨c, hc, -⟩ := s4.2.2.2.1; exact y_ne hc hb9.1 (by simp)), s5, s6, s7, fun i hi => ?_, fun i h1 h2 => ?_, s10⟩
      · by_cases g : i = k
        · rw [g]; exact hb2
        · exact kk (s8 i (by omega)) fun z => g (s10 i k (by omega) hk2 z)
      · obtain ⟨p8, B8, hb8⟩ := s9 i (by omega) h2
        exact ⟨p8, B8, kk hb8 fun z => by have := s10 i k h2 hk2 z; omega⟩
