/-! the setup: pieces -/
/-- a piece whose list of parts alone changes -/
theorem zPc.ls {P : Nat → Prop} {T T' : zT} {F F' : zF} {p l e ap n e' n' : Nat} {pt pt' : Nat → Nat} {num fm as : Int32} {V : Nat → Nat → Int32} (h : zPc T F p l e ap n pt num fm as V) (k : yE P T F T' F') (h1 : ¬ P p) (h4 : ∀ j : Nat, j < 5 → ¬ P (ap + j)) (hl : yLs T' F' l e' n' pt') (hn : n' ≤ 16) : zPc T' F' p l e' ap n' pt' num fm as V := by
  obtain ⟨g0, g1, g2, g3, g4, g5, g6, g7, g8, g9, g10, g11⟩ := h
  have kp : ∀ j : Nat, F' p j = F p j := (k _ _ g0).2 h1
  exact ⟨(k _ _ g0).1, (kp 0).trans g1, (kp 1).trans g2, (kp 2).trans g3, (kp 3).trans g4, (kp 4).trans g5, hl, hn, (k _ _ g8).1, fun j hj => ((k _ _ g8).2 (h4 0 (by decide)) j).trans (g9 j hj), fun j hj => (k _ _ (g10 j hj)).1, fun j i hj hi => ((k _ _ (g10 j hj)).2 (by rw [show ap + 1 + j = ap + (1 + j) by omega]; exact h4 _ (by omega)) i).trans (g11 j i hj hi)⟩
theorem s_newPc {zE q : Nat} {T : zT} {F : zF} {num fm as : Int32} {Post : zT → zF → Prop} (hq : T q = some (3, 5)) (hE : T zE = some (101, 0)) (hk : ∀ (l ap : Nat) (T' : zT) (F' : zF), yE (fun a => a = q) T F T' F' → T l = none → (∀ j : Nat, j < 5 → T (ap + j) = none) → zPc T' F' q l zE ap 0 (fun _ => 0) num fm as (fun _ _ => -1) → Post T' F') : v_X2_init zE q num fm as T F Post := by
  refine fun q1 hq1 => s_list hq1 fun F3 e3 g3 => ⟨(e3 _ _ hq).1, fun q5 hq5 => ?_⟩
  have na : ∀ {r : Nat}, T r = none → r ≠ q := fun h e => by rw [e, hq] at h; cases h
  have hn1 : T q1 = none := hq1 q1 (Nat.le_refl _)
  have hlt : q1 < q5 := y_nq g3.1 hq5
  have hn5 : ∀ j : Nat, T (q5 + j) = none := fun j => (if_neg (show ¬ q5 + j = q1 by omega)).symm.trans (hq5 (q5 + j) (by omega))
  have hqlt : q < q5 := y_nq (e3 _ _ hq).1 hq5
  have eA : yE (fun a => a = q) T F (zn T q1 (0, 3)) (zu F3 q 3 (.ref q1)) := e3.w0.tr yE.us
  have gA : yL (zn T q1 (0, 3)) (zu F3 q 3 (.ref q1)) q1 zE := g3.kp (P := fun b => b = q) yE.us (na hn1)
  have a0 : zu F3 q 3 (.ref q1) q 3 = .ref q1 := z_ueq
  generalize zu F3 q 3 (.ref q1) = FA at eA gA a0 ⊢
  generalize zn T q1 (0, 3) = TA at eA gA hq5 ⊢
  have qA := (eA _ _ hq).1
  have eB : yE (fun _ => False) TA FA (znm TA q5 4 16) (zmm FA q5 4) := yE.mm hq5
  have qB := eB _ _ qA
  have t5 : znm TA q5 4 16 q5 = some (102, 4) := z_mq
  have tR : ∀ j : Nat, j < 4 → znm TA q5 4 16 (q5 + 1 + j) = some (100, 16) := fun j hj => by
    unfold znm
    rw [if_neg (by omega), if_pos (by omega)]
  refine ⟨qB.1, ?_⟩
  have eU : yE (fun a => a = q) (znm TA q5 4 16) (zmm FA q5 4) (znm TA q5 4 16) (zu (zu (zu (zu (zmm FA q5 4) q 4 (.ref q5)) q 0 (.int num)) q 1 (.int fm)) q 2 (.int as)) := ((yE.us.tr yE.us).tr yE.us).tr yE.us
  have c0 : zu (zu (zu (zu (zmm FA q5 4) q 4 (.ref q5)) q 0 (.int num)) q 1 (.int fm)) q 2 (.int as) q 0 = .int num := z_une (z_une z_ueq (by decide)) (by decide)
  have c1 : zu (zu (zu (zu (zmm FA q5 4) q 4 (.ref q5)) q 0 (.int num)) q 1 (.int fm)) q 2 (.int as) q 1 = .int fm := z_une z_ueq (by decide)
  have c2 : zu (zu (zu (zu (zmm FA q5 4) q 4 (.ref q5)) q 0 (.int num)) q 1 (.int fm)) q 2 (.int as) q 2 = .int as := z_ueq
  have c3 : zu (zu (zu (zu (zmm FA q5 4) q 4 (.ref q5)) q 0 (.int num)) q 1 (.int fm)) q 2 (.int as) q 3 = .ref q1 := z_une (z_une (z_une (z_une ((qB.2 (fun g => g) 3).trans a0) (by decide)) (by decide)) (by decide)) (by decide)
  have c4 : zu (zu (zu (zu (zmm FA q5 4) q 4 (.ref q5)) q 0 (.int num)) q 1 (.int fm)) q 2 (.int as) q 4 = .ref q5 := z_une (z_une (z_une z_ueq (by decide)) (by decide)) (by decide)
  have c5 : ∀ j : Nat, j < 4 → zu (zu (zu (zu (zmm FA q5 4) q 4 (.ref q5)) q 0 (.int num)) q 1 (.int fm)) q 2 (.int as) q5 j = .ref (q5 + 1 + j) := fun j hj => by
    refine ((eU _ _ t5).2 (Nat.ne_of_gt hqlt) j).trans ?_
    unfold zmm
    rw [if_pos rfl, if_pos hj]
  generalize zu (zu (zu (zu (zmm FA q5 4) q 4 (.ref q5)) q 0 (.int num)) q 1 (.int fm)) q 2 (.int as) = F0 at eU c0 c1 c2 c3 c4 c5 ⊢
  have eT : yE (fun a => a = q) T F (znm TA q5 4 16) F0 := (eA.tr eB.w0).tr eU
  have gT : yL (znm TA q5 4 16) F0 q1 zE := (gA.kp eB (fun g => g)).kp eU (na hn1)
  have hET := (eT _ _ hE).1
  have qT := qB.1
  generalize znm TA q5 4 16 = TT at eT gT t5 tR hET qT ⊢
  refine ⟨fun m y F1 => ∃ k : Nat, k ≤ 4 ∧ m = 4 - k ∧ y.toInt = k ∧ yE (fun a => ∃ j : Nat, j < 4 ∧ a = q5 + 1 + j) TT F0 TT F1 ∧ ∀ j : Nat, j < k → ∀ i : Nat, i < 16 → F1 (q5 + 1 + j) i = .int (-1), ⟨4, 0, by decide, rfl, by decide, yE.rf, fun j hj => absurd hj (Nat.not_lt_zero j)⟩, ?_⟩
  rintro m y F1 ⟨k, hk4, rfl, hy, k1, hv⟩
  have e0 : y = nI k := y_nI hy (by omega)
  subst e0
  obtain ⟨L1, L2⟩ := y_lp (n := 4) hk4 (by omega)
  have nr : ∀ {a : Nat} {t : Nat × Nat}, TT a = some t → ¬ t = (100, 16) → ¬ ∃ j : Nat, j < 4 ∧ a = q5 + 1 + j := fun {a t} ha ht ⟨j, hj, g⟩ => by
    rw [g, tR j hj] at ha
    cases ha
    exact ht rfl
  have kq := (k1 _ _ qT).2 (nr qT (by decide))
  have k5 := (k1 _ _ t5).2 (nr t5 (by decide))
  refine ⟨q5, (kq 4).trans c4, 4, t5, fun hge => ?_, fun hlt => ?_⟩
  · have ek := L1 hge
    subst ek
    refine hk q1 q5 TT F1 (fun a t ha => ⟨(eT a t ha).1, fun hp j => ((k1 a t (eT a t ha).1).2 (fun g9 => ?_) j).trans ((eT a t ha).2 hp j)⟩) hn1 (fun j _ => hn5 j) ⟨qT, (kq 0).trans c0, (kq 1).trans c1, (kq 2).trans c2, (kq 3).trans c3, (kq 4).trans c4, (gT.kp k1 (nr gT.1 (by decide))).ls hET _, Nat.zero_le _, t5, fun j hj => (k5 j).trans (c5 j hj), tR, fun j i hj hi => hv j hj i hi⟩
    obtain ⟨i, hi, g⟩ := g9
    rw [g, show q5 + 1 + i = q5 + (1 + i) by omega, hn5] at ha
    cases ha
  · have k4 := L2 hlt
    rw [y_nIn (show k < 1000 by omega)]
    refine ⟨vp_in_nI k4 (by omega), q5 + 1 + k, (k5 k).trans (c5 k k4), s_fill (m := 16) (by decide) (tR k k4) fun F2 ke hf => ⟨4 - (k + 1), by omega, k + 1, by omega, rfl, y_inc hy (by omega), k1.tr (ke.wk fun a g => ⟨k, k4, g⟩), fun j hj i hi => ?_⟩⟩
    by_cases g : j = k
    · rw [g]; exact hf i hi
    · exact ((ke _ _ (tR j (by omega))).2 (fun z => g (by omega)) i).trans (hv j (by omega) i hi)
def p_bit (a : Int32) (v : Nat) : Prop := ¬ ((a >>> (nI v &&& 31)) &&& 1) = 0
def upd2 (W : Nat → Nat → Nat → Nat) (n : Nat) (w : Nat → Nat → Nat) : Nat → Nat → Nat → Nat := fun f k => if k = n then w f else W f k
theorem upd2_s {W : Nat → Nat → Nat → Nat} {n : Nat} {w : Nat → Nat → Nat} {f : Nat} : upd2 W n w f n = w f := if_pos rfl
theorem upd2_n {W : Nat → Nat → Nat → Nat} {n k : Nat} {w : Nat → Nat → Nat} {f : Nat} (h : ¬ k = n) : upd2 W n w f k = W f k := if_neg h
/-- the first np pieces -/
def zPs (T : zT) (F : zF) (zE la gs lb lp tb e1 e6 np : Nat) (W : Nat → Nat → Nat → Nat) (fm as : Nat → Int32) (r : Nat → Nat → Nat) (V : Nat → Nat → Nat → Int32) (qa qc : Nat → Nat) (CC AA : Nat → Nat → Int32) : Prop :=
  zPW T F lp e6 np W fm as V (fun k i => CC (r k i)) (fun k i => AA (r k i)) ∧ yCap T e6 zE ∧
  (∀ k : Nat, k < np → 1 ≤ W 4 k 0 ∧ (∀ i : Nat, i < W 4 k 0 → r k i < 3 ∧ W 5 k i = qa (r k i) ∧ W 6 k i = qc (r k i)) ∧ (∀ q : Nat, q < 3 → (p_bit (as k) q ↔ ∃ i : Nat, i < W 4 k 0 ∧ r k i = q)) ∧ (W 1 k 0 ≠ la ∧ W 1 k 0 ≠ lb ∧ W 1 k 0 ≠ lp ∧ W 1 k 0 ≠ tb) ∧ ∀ j : Nat, j < 4 → W 3 k 0 + 1 + j ≠ gs) ∧
  (¬ T e6 = some (101, 0) → e6 ≠ e1 ∧ ∀ k : Nat, k < np → e6 ≠ W 2 k 0) ∧
  ∀ k j k' j' : Nat, k < np → j < 4 → k' < np → j' < 4 → W 3 k 0 + 1 + j = W 3 k' 0 + 1 + j' → k = k' ∧ j = j'
section SET2
variable {T : zT} {F : zF} {zE x la gs pl tr lb lp tb e1 e6 np : Nat} {W : Nat → Nat → Nat → Nat} {fm as : Nat → Int32} {r : Nat → Nat → Nat} {V : Nat → Nat → Nat → Int32} {qa qc : Nat → Nat} {CC AA : Nat → Nat → Int32}
theorem s_piece0 (h : Fr T F zE x la gs pl tr lb lp tb) (hl : zAl T F zE la e1 3 qa qc CC AA) (hs : zPs T F zE la gs lb lp tb e1 e6 np W fm as r V qa qc CC AA) (hnp : np < 5) {f1 : Int32} (hf0 : ¬ f1 < 0) (hf3 : f1 < 3) {s : Nat} (hs1 : 1 ≤ s) (hs7 : s ≤ 7) {Post : Int32 → zT → zF → Prop} {PX : String → zT → zF → Prop}
    (hk : ∀ (e' : Nat) (W' : Nat → Nat → Nat → Nat) (fm' as' : Nat → Int32) (r' : Nat → Nat → Nat) (V' : Nat → Nat → Nat → Int32) (T' : zT) (F' : zF), yE (fun a => a = lp ∨ (a = e6 ∧ ¬ T e6 = some (101, 0))) T F T' F' → zPs T' F' zE la gs lb lp tb e1 e' (np + 1) W' fm' as' r' V' qa qc CC AA → ∀ y : Int32, Post y T' F') : v_X4_piece zE x f1 (nI s) T F Post PX := by
  obtain ⟨l0, l1, l2, l3, l4, l5⟩ := id hl
  obtain ⟨⟨w0, w1, w2, w3⟩, wc, wk, we, wj⟩ := id hs
  have sh : nI s >>> (nI 3 &&& 31) = 0 := by
    rcases (show s = 1 ∨ s = 2 ∨ s = 3 ∨ s = 4 ∨ s = 5 ∨ s = 6 ∨ s = 7 by omega) with rfl | rfl | rfl | rfl | rfl | rfl | rfl <;> decide
  have ex : ∃ v : Nat, v < 3 ∧ p_bit (nI s) v := by
    unfold p_bit
    rcases (show s = 1 ∨ s = 2 ∨ s = 3 ∨ s = 4 ∨ s = 5 ∨ s = 6 ∨ s = 7 by omega) with rfl | rfl | rfl | rfl | rfl | rfl | rfl
    · exact ⟨0, by decide, by decide⟩
    · exact ⟨1, by decide, by decide⟩
    · exact ⟨0, by decide, by decide⟩
    · exact ⟨2, by decide, by decide⟩
    · exact ⟨0, by decide, by decide⟩
    · exact ⟨1, by decide, by decide⟩
    · exact ⟨0, by decide, by decide⟩
  have s1 : ¬ nI s < 1 := fun z => by
    rw [Int32.lt_iff_toInt_lt, y_nIc (by omega), show (1 : Int32).toInt = 1 by decide] at z
    omega
  refine ⟨fun z => absurd z hf0, fun _ => ⟨fun _ => ⟨fun z => absurd z s1, fun _ => ⟨h.1.1, la, h.1.2.1, l0.1, s_size l0 ⟨fun _ => ⟨pl, h.1.2.2.2.1, h.2.2.1.1, lp, h.2.2.1.2.2.1, w0.1, s_size w0 ⟨fun _ => fun q hq => ?_, fun z => absurd (nI_lt (a := np) (b := 12) (by omega) (by omega)) z⟩⟩, fun z => absurd sh z⟩⟩⟩, fun z => absurd hf3 z⟩⟩
  have hTq : T q = none := hq q (Nat.le_refl _)
  have kA : yE (fun _ => False) T F (zn T q (3, 5)) (zm F q (fun j => defaultValue (tyX2 j))) := yE.nn hq
  have hA := h.kp kA (fun _ g => g.elim)
  have wA := w0.kp kA (fun g => g) (fun g => g)
  refine ⟨hA.1.1, pl, hA.1.2.2.2.1, hA.2.2.1.1, lp, hA.2.2.1.2.2.1, wA.1, s_size wA (s_newPc z_nq (kA _ _ h.2.2.2.2.1).1 fun l ap T2 F2 e2 hl0 hap hpc => ?_)⟩
  have kC : yE (fun _ => False) T F T2 F2 := y_fr hq e2
  have zn0 : ∀ {a : Nat}, zn T q (3, 5) a = none → T a = none := fun {a} ha => by
    by_cases g : a = q
    · rw [g]; exact hTq
    · exact (if_neg g).symm.trans ha
  have hTl := zn0 hl0
  have hTap : ∀ j : Nat, j < 5 → T (ap + j) = none := fun j hj => zn0 (hap j hj)
  refine ⟨fun m y T3 F3 => ∃ u : Nat, u ≤ 3 ∧ m = 3 - u ∧ y.toInt = u ∧ ∃ (c e : Nat) (pt rr : Nat → Nat), yE (fun _ => False) T F T3 F3 ∧ zPc T3 F3 q l e ap c pt (nI np) f1 (nI s) (fun _ _ => -1) ∧ yCap T3 e zE ∧ (T e = none ∨ T3 e = some (101, 0)) ∧ (c = 0 ∨ ¬ T3 e = some (101, 0)) ∧ c ≤ u ∧ (∀ i : Nat, i < c → rr i < u ∧ pt i = qa (rr i)) ∧ ∀ v : Nat, v < u → (p_bit (nI s) v ↔ ∃ i : Nat, i < c ∧ rr i = v), ⟨3, by decide, 0, by decide, rfl, by decide, 0, zE, fun _ => 0, fun _ => 0, kC, hpc, Or.inl ⟨(kC _ _ h.2.2.2.2.1).1, rfl⟩, Or.inr (kC _ _ h.2.2.2.2.1).1, Or.inl rfl, Nat.le_refl _, fun i hi => absurd hi (Nat.not_lt_zero i), fun v hv => absurd hv (Nat.not_lt_zero v)⟩, ?_⟩
  rintro m y T3 F3 - ⟨u, hu, rfl, hy, c, e, pt, rr, k3, pc, ec, en, ez, cu, hpt, hbit⟩
  have e0 : y = nI u := y_nI hy (by omega)
  subst e0
  obtain ⟨L1, L2⟩ := y_lp (n := 3) hu (by omega)
  have h3 := h.kp k3 (fun _ g => g.elim)
  have l3' := l0.kp k3 (fun g => g) (fun g => g)
  have w3' := w0.kp k3 (fun g => g) (fun g => g)
  obtain ⟨ce, hce⟩ := w0.er
  refine ⟨h3.1.1, la, h3.1.2.1, l3'.1, s_size l3' ⟨fun hge => ?_, fun hlt => ?_⟩⟩
  · have eu := L1 hge
    subst eu
    obtain ⟨v0, v3, vb⟩ := ex
    obtain ⟨i0, hi0, -⟩ := (hbit v0 v3).mp vb
    have ez' : ¬ T3 e = some (101, 0) := ez.resolve_left (by omega)
    have hTe : T e = none := en.resolve_right ez'
    refine ⟨pl, h3.1.2.2.2.1, h3.2.2.1.1, lp, h3.2.2.1.2.2.1, w3'.1, s_add w3' (wc.kp k3) (by omega) (fun i hi => (y_obP (w2 i hi).1.1).kp k3) (y_obP pc.1) fun T' F' e' kD l9 c9 z9 d9 => ?_⟩
    have kT : yE (fun a => a = lp ∨ (a = e6 ∧ ¬ T e6 = some (101, 0))) T F T' F' := fun a t ha => by
      have b1 := k3 a t ha
      refine ⟨(kD a t b1.1).1, fun hp' j => ((kD a t b1.1).2 (fun g => hp' ?_) j).trans (b1.2 (fun g => g) j)⟩
      rcases g with g | ⟨g, g2⟩
      · exact Or.inl g
      · exact Or.inr ⟨g, fun z => g2 (k3 _ _ z).1⟩
    have nk : ∀ {a : Nat} {t : Nat × Nat}, T a = some t → ¬ t.1 = 0 → ¬ t.1 = 101 → ¬ (a = lp ∨ (a = e6 ∧ ¬ T e6 = some (101, 0))) := fun {a t} ha h1 h2 g => by
      rcases g with g | ⟨g, -⟩
      · rw [g, w0.1] at ha; cases ha; exact h1 rfl
      · rw [g, hce] at ha; cases ha; exact h2 rfl
    have nk3 : ∀ {a : Nat} {t : Nat × Nat}, T3 a = some t → ¬ t.1 = 0 → ¬ t.1 = 101 → ¬ (a = lp ∨ (a = e6 ∧ ¬ T3 e6 = some (101, 0))) := fun {a t} ha h1 h2 g => by
      rcases g with g | ⟨g, -⟩
      · rw [g, w3'.1] at ha; cases ha; exact h1 rfl
      · rw [g, (k3 _ _ hce).1] at ha; cases ha; exact h2 rfl
    have pq := (kD _ _ pc.1).2 (nk3 pc.1 (by decide) (by decide))
    refine ⟨(kD _ _ pc.1).1, nI np, (pq 0).trans pc.2.1, ?_⟩
    -- the new piece in the end
    have nlp : l ≠ lp := fun g => by rw [g, w0.1] at hTl; cases hTl
    have nee : e ≠ e6 := fun g => by rw [g, hce] at hTe; cases hTe
    have pcl := pc.2.2.2.2.2.2.1
    obtain ⟨c3, hc3⟩ := pcl.er
    have pcN : zPc T' F' q l e ap c pt (nI np) f1 (nI s) (fun _ _ => -1) := by
      refine pc.kp kD (nk3 pc.1 (by decide) (by decide)) (fun g => ?_) (fun g => ?_) fun j hj => ?_
      · rcases g with g | ⟨g, -⟩
        · exact nlp g
        · have := pcl.1
          rw [g, (k3 _ _ hce).1] at this; cases this
      · rcases g with g | ⟨g, -⟩
        · rw [g, w3'.1] at hc3; cases hc3
        · exact nee g
      · obtain ⟨-, -, -, -, -, -, -, -, g8, -, g10, -⟩ := pc
        by_cases g : j = 0
        · subst g; exact nk3 g8 (by decide) (by decide)
        · rw [show ap + j = ap + 1 + (j - 1) by omega]
          exact nk3 (g10 (j - 1) (by omega)) (by decide) (by decide)
    have asN : ∀ v : Nat, v < 3 → zAs T' F' (qa v) (qc v) (CC v) (AA v) := fun v hv => (l2 v hv).kp kT (nk (l2 v hv).1 (by decide) (by decide)) (nk (l2 v hv).2.2.1 (by decide) (by decide))
    have old : ∀ k : Nat, k < np → zPc T' F' (W 0 k 0) (W 1 k 0) (W 2 k 0) (W 3 k 0) (W 4 k 0) (W 5 k) (nI k) (fm k) (as k) (V k) := fun k hk' => by
      obtain ⟨g0, g1, g2, g3, g4, g5, g6, g7, g8, g9, g10, g11⟩ := id (w2 k hk').1
      obtain ⟨c9, hc9⟩ := g6.er
      refine (w2 k hk').1.kp kT (nk g0 (by decide) (by decide)) (fun g => ?_) (fun g => ?_) fun j hj => ?_
      · rcases g with g | ⟨g, -⟩
        · exact (wk k hk').2.2.2.1.2.2.1 g
        · have := g6.1
          rw [g, hce] at this; cases this
      · rcases g with g | ⟨g, g2⟩
        · rw [g, w0.1] at hc9; cases hc9
        · exact (we g2).2 k hk' g.symm
      · by_cases g : j = 0
        · subst g; exact nk g8 (by decide) (by decide)
        · rw [show W 3 k 0 + j = W 3 k 0 + 1 + (j - 1) by omega]
          exact nk (g10 (j - 1) (by omega)) (by decide) (by decide)
    have rowN : ∀ k j : Nat, k < np → j < 4 → ∀ j' : Nat, j' < 4 → W 3 k 0 + 1 + j ≠ ap + 1 + j' := fun k j hk' hj j' hj' g => by
      have := (w2 k hk').1.2.2.2.2.2.2.2.2.2.2.1 j hj
      rw [g, show ap + 1 + j' = ap + (1 + j') by omega, hTap _ (by omega)] at this
      cases this
    have apq : ∀ {a : Nat} {t : Nat × Nat}, T a = some t → a ≠ q := fun {a t} ha g => by rw [g, hTq] at ha; cases ha
    refine hk e' (upd2 W np (fun f i => if f = 0 then q else if f = 1 then l else if f = 2 then e else if f = 3 then ap else if f = 4 then c else if f = 5 then pt i else qc (rr i))) (upd1 fm np f1) (upd1 as np (nI s)) (upd1 r np rr) (upd1 V np (fun _ _ => -1)) T' F' kT ⟨⟨l9.cg fun i hi => ?_, by omega, fun k hk' => ?_, fun j k hj hk' => ?_⟩, c9, fun k hk' => ?_, fun z => ?_, fun k j k' j' hk1 hj hk2 hj' => ?_⟩ _
    · by_cases g : i = np
      · rw [g, upd1_s, upd2_s] <;> rfl
      · rw [upd1_n g, upd2_n g]
    · by_cases g : k = np
      · rw [g]
        simp only [upd2_s, upd1_s]
        exact ⟨pcN, fun i hi => by
          show zAs T' F' (pt i) (qc (rr i)) (CC (rr i)) (AA (rr i))
          rw [(hpt i hi).2]
          exact asN _ (hpt i hi).1⟩
      · simp only [upd2_n g, upd1_n g]
        refine ⟨old k (by omega), fun i hi => ?_⟩
        obtain ⟨r1, r2, r3⟩ := (wk k (by omega)).2.1 i hi
        rw [r2, r3]
        exact asN _ r1
    · by_cases g : j = np
      · by_cases g' : k = np
        · intro; omega
        · rw [g, upd2_s, upd2_n g']
          intro z
          exact absurd z.symm (apq (w2 k (by omega)).1.1)
      · by_cases g' : k = np
        · rw [g', upd2_s, upd2_n g]
          intro z
          exact absurd z (apq (w2 j (by omega)).1.1)
        · rw [upd2_n g, upd2_n g']
          exact w3 j k (by omega) (by omega)
    · by_cases g : k = np
      · rw [g]
        simp only [upd2_s, upd1_s]
        refine ⟨show 1 ≤ c by omega, fun i hi => ⟨(hpt i hi).1, (hpt i hi).2, by first | rfl | trivial⟩, hbit, ⟨fun z => ?_, fun z => ?_, fun z => nlp z, fun z => ?_⟩, fun j hj z => ?_⟩
        · have z : l = la := z
          rw [z, l0.1] at hTl; cases hTl
        · have z : l = lb := z
          rw [z, h.2.2.1.2.2.2.2.1] at hTl; cases hTl
        · have z : l = tb := z
          rw [z, h.2.2.2.1.2.2.2.2.1] at hTl; cases hTl
        · have z : ap + 1 + j = gs := z
          have := hTap (1 + j) (by omega)
          rw [show ap + (1 + j) = ap + 1 + j by omega, z, h.2.1.1] at this; cases this
      · simp only [upd2_n g, upd1_n g]
        exact wk k (by omega)
    · obtain ⟨cl, hcl⟩ := l0.er
      rcases d9 with d | d
      · rw [d] at z ⊢
        have z6 : ¬ T e6 = some (101, 0) := fun w => z (kT _ _ w).1
        refine ⟨(we z6).1, fun k hk' => ?_⟩
        by_cases g : k = np
        · rw [g, upd2_s]
          exact fun w => nee w.symm
        · rw [upd2_n g]
          exact (we z6).2 k (by omega)
      · refine ⟨fun w => ?_, fun k hk' => ?_⟩
        · rw [w, (k3 _ _ hcl).1] at d; cases d
        · by_cases g : k = np
          · rw [g, upd2_s]
            intro w
            have w : e' = e := w
            rw [w, hc3] at d; cases d
          · rw [upd2_n g]
            obtain ⟨c9, hc9⟩ := (w2 k (by omega)).1.2.2.2.2.2.2.1.er
            intro w
            rw [w, (k3 _ _ hc9).1] at d; cases d
    · by_cases g : k = np
      · by_cases g' : k' = np
        · rw [g, g', upd2_s]
          intro z
          have z : ap + 1 + j = ap + 1 + j' := z
          exact ⟨rfl, by omega⟩
        · rw [g, upd2_s, upd2_n g']
          intro z
          exact absurd z.symm (rowN k' j' (by omega) hj' j hj)
      · by_cases g' : k' = np
        · rw [g', upd2_s, upd2_n g]
          intro z
          exact absurd z (rowN k j (by omega) hj j' hj')
        · rw [upd2_n g, upd2_n g']
          exact wj k j k' j' (by omega) hj (by omega) hj'
  · have u3 := L2 hlt
    refine ⟨fun z => ⟨3 - (u + 1), by omega, u + 1, by omega, rfl, y_inc hy (by omega), c, e, pt, rr, k3, pc, ec, en, ez, by omega, fun i hi => ⟨by have := (hpt i hi).1; omega, (hpt i hi).2⟩, fun v hv => ?_⟩, fun z => ?_⟩
    · by_cases g : v = u
      · rw [g]
        exact ⟨fun b => absurd z b, fun ⟨i, hi, e9⟩ => by have := (hpt i hi).1; omega⟩
      · exact hbit v (by omega)
    · have pcl := pc.2.2.2.2.2.2.1
      refine ⟨pc.1, l, pc.2.2.2.2.1, s_get l3' u3 ⟨((k3 _ _ (l2 u u3).1)).1, pcl.1, s_add pcl ec (by omega) (fun i hi => ?_) ((y_obA (l2 u u3).1).kp k3) fun T' F' e' kD l9 c9 z9 d9 => ⟨3 - (u + 1), by omega, u + 1, by omega, rfl, y_inc hy (by omega), c + 1, e', upd1 pt c (qa u), upd1 rr c u, fun a t ha => ?_, ?_, c9, ?_, Or.inr z9, by omega, fun i hi => ?_, fun v hv => ?_⟩⟩⟩
      · rw [(hpt i hi).2]
        exact (y_obA (l2 (rr i) (by have := (hpt i hi).1; omega)).1).kp k3
      · have b1 := k3 a t ha
        refine ⟨(kD a t b1.1).1, fun _ j => ((kD a t b1.1).2 (fun g => ?_) j).trans (b1.2 (fun g => g) j)⟩
        rcases g with g | ⟨g, g2⟩
        · rw [g, hTl] at ha; cases ha
        · rcases en with en | en
          · rw [g, en] at ha; cases ha
          · exact g2 en
      · obtain ⟨c3, hc3⟩ := pcl.er
        have nk3 : ∀ {a : Nat} {t : Nat × Nat}, T3 a = some t → ¬ t.1 = 0 → ¬ t.1 = 101 → ¬ (a = l ∨ (a = e ∧ ¬ T3 e = some (101, 0))) := fun {a t} ha h1 h2 g => by
          rcases g with g | ⟨g, -⟩
          · rw [g, pcl.1] at ha; cases ha; exact h1 rfl
          · rw [g, hc3] at ha; cases ha; exact h2 rfl
        refine pc.ls kD (nk3 pc.1 (by decide) (by decide)) (fun j hj => ?_) l9 (by omega)
        obtain ⟨-, -, -, -, -, -, -, -, g8, -, g10, -⟩ := pc
        by_cases g : j = 0
        · subst g; exact nk3 g8 (by decide) (by decide)
        · rw [show ap + j = ap + 1 + (j - 1) by omega]
          exact nk3 (g10 (j - 1) (by omega)) (by decide) (by decide)
      · rcases d9 with d | d
        · rcases en with en | en
          · rw [d]; exact Or.inl en
          · rw [d] at z9
            exact absurd (kD _ _ en).1 z9
        · left
          cases g : T e' with
          | none => rfl
          | some t => rw [(k3 _ _ g).1] at d; cases d
      · by_cases g : i = c
        · rw [g, upd1_s, upd1_s]; exact ⟨Nat.lt_succ_self u, rfl⟩
        · rw [upd1_n g, upd1_n g]
          have := hpt i (by omega)
          exact ⟨by omega, this.2⟩
      · by_cases g : v = u
        · rw [g]
          exact ⟨fun _ => ⟨c, Nat.lt_succ_self c, upd1_s⟩, fun _ => z⟩
        · refine (hbit v (by omega)).trans ⟨fun ⟨i, hi, e9⟩ => ⟨i, by omega, by rw [upd1_n (by omega)]; exact e9⟩, fun ⟨i, hi, e9⟩ => ?_⟩
          by_cases g2 : i = c
          · rw [g2, upd1_s] at e9; omega
          · rw [upd1_n g2] at e9
            exact ⟨i, by omega, e9⟩
end SET2
