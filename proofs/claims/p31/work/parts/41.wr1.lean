/-! what calls change: assets, pieces, groups -/
section WR1
variable {T : zT} {F : zF} {zE : Nat} {Q : Nat → Nat} {W : Nat → Nat → Nat → Nat} {np : Nat} {fm as : Nat → Int32} {r : Nat → Nat → Nat} {V : Nat → Nat → Nat → Int32} {CC AA : Nat → Nat → Int32} {G : Nat → Int32} {n : Nat} {bp : Nat → Nat} {B : Nat → Nat → Int32} {td : Int32} {e te nt : Nat} {ba ra : Nat → Nat}
/-- a whole object of its parts -/
theorem RmX.asm {P : Nat → Prop} {T' : zT} {F' : zF} {V' : Nat → Nat → Nat → Int32} {CC' AA' : Nat → Nat → Int32} {G' : Nat → Int32} {n' : Nat} {bp' : Nat → Nat} {B' : Nat → Nat → Int32} {td' : Int32} {e' te' nt' : Nat} {ba' ra' : Nat → Nat} (h : RmX T F zE Q W np fm as r V CC AA G n bp B td e te nt ba ra) (k : yE P T F T' F') (n0 : ¬ P (Q 0)) (n1 : ¬ P (Q 1)) (n2 : ¬ P (Q 2)) (n6 : ¬ P (Q 6)) (n7 : ¬ P (Q 7))
    (hA : ∀ j : Nat, j < 3 → zAs T' F' (Q (20 + j)) (Q (30 + j)) (CC' j) (AA' j)) (hG : T' (Q 3) = some (100, 16) ∧ ∀ j : Nat, j < 16 → F' (Q 3) j = .int (G' j)) (hV : ∀ q : Nat, q < np → zPc T' F' (W 0 q 0) (W 1 q 0) (W 2 q 0) (W 3 q 0) (W 4 q 0) (W 5 q) (nI q) (fm q) (as q) (V' q)) (hP : zPl T' F' (Q 4) (Q 8) e' n' ba' W np (Q 6) bp' B' td') (hc : yCap T' e' zE) (hT : zTr T' F' (Q 5) (Q 9) te' nt' ra' zE) (hn : nt' ≤ n') (hS : Sep T' zE Q W np n' e' te' nt' ba' ra') : RmX T' F' zE Q W np fm as r V' CC' AA' G' n' bp' B' td' e' te' nt' ba' ra' := by
  obtain ⟨⟨a0, a1, a2, a3, a4⟩, ⟨l0, l1⟩, ⟨g0, g1⟩, ⟨⟨w0, w1, w2, w3⟩, w4⟩, -, ⟨t0, t1, t2⟩, -⟩ := h
  have k0 := (k _ _ a0).2 n0
  refine ⟨⟨(k _ _ a0).1, (k0 0).trans a1, (k0 1).trans a2, (k0 2).trans a3, (k0 3).trans a4⟩, ⟨l0.kp k n1 n2, hA⟩, hG, ⟨⟨w0.kp k n6 n7, w1, fun q hq => ⟨hV q hq, fun i hi => ?_⟩, w3⟩, w4⟩, ⟨hP, hc⟩, ⟨hT, hn, (k _ _ t2).1⟩, hS⟩
  obtain ⟨x0, x1, x2⟩ := w4 q hq i hi
  rw [x1, x2]
  exact hA _ x0
/-- a trial that isn't touched -/
theorem zTr.kp {P : Nat → Prop} {T' : zT} {F' : zF} {tr tl : Nat} (h : zTr T F tr tl te nt ra zE) (k : yE P T F T' F') (h0 : ¬ P tr) (h1 : ¬ P tl) (h2 : ¬ P te) (h3 : ∀ i : Nat, i < nt → ¬ P (ra i)) : zTr T' F' tr tl te nt ra zE := by
  obtain ⟨t0, t1, ⟨t2, t3⟩, ⟨t4, t5⟩, t6, t7, t8, t9, t10⟩ := h
  have k0 := (k _ _ t0).2 h0
  refine ⟨(k _ _ t0).1, (k0 0).trans t1, ⟨t2, (k0 1).trans t3⟩, ⟨t4, (k0 2).trans t5⟩, t6.kp k h1 h2, t7.kp k, t8, fun i hi => ?_, t10⟩
  obtain ⟨p, B0, hb⟩ := t9 i hi
  exact ⟨p, B0, hb.kp k (h3 i hi)⟩
/-- the row of a list has its kind -/
theorem yLs.er {l e n : Nat} {ad : Nat → Nat} (h : yLs T F l e n ad) : ∃ c : Nat, T e = some (101, c) := by
  obtain ⟨-, -, -, ⟨c, hc, -⟩, -⟩ := h
  exact ⟨c, hc⟩
/-- cells of two kinds alone change: of assets, or of rows of numbers -/
theorem RmX.k2 {P : Nat → Prop} {F' : zF} {V' : Nat → Nat → Nat → Int32} {CC' AA' : Nat → Nat → Int32} {G' : Nat → Int32} (h : RmX T F zE Q W np fm as r V CC AA G n bp B td e te nt ba ra) (k : yE P T F T F') (hP : ∀ a : Nat, P a → T a = some (1, 5) ∨ T a = some (100, 5) ∨ T a = some (100, 16)) (hA : ∀ j : Nat, j < 3 → zAs T F' (Q (20 + j)) (Q (30 + j)) (CC' j) (AA' j)) (hG : ∀ j : Nat, j < 16 → F' (Q 3) j = .int (G' j)) (hV : ∀ q : Nat, q < np → ∀ j i : Nat, j < 4 → i < 16 → F' (W 3 q 0 + 1 + j) i = .int (V' q j i)) : RmX T F' zE Q W np fm as r V' CC' AA' G' n bp B td e te nt ba ra := by
  have nk : ∀ {a : Nat} {t : Nat × Nat}, T a = some t → ¬ t.1 = 1 → ¬ t.1 = 100 → ¬ P a := fun {a t} ha h1 h2 g => by
    rcases hP a g with q | q | q
    · rw [ha] at q; cases q; exact h1 rfl
    · rw [ha] at q; cases q; exact h2 rfl
    · rw [ha] at q; cases q; exact h2 rfl
  have nl : ∀ {l e n : Nat} {ad : Nat → Nat}, yLs T F l e n ad → ¬ P l ∧ ¬ P e := fun {l e n ad} q => by
    obtain ⟨c, hc⟩ := q.er
    exact ⟨nk q.1 (by decide) (by decide), nk hc (by simp) (by simp)⟩
  obtain ⟨⟨a0, a1, a2, a3, a4⟩, ⟨l0, l1⟩, ⟨g0, g1⟩, ⟨⟨w0, w1, w2, w3⟩, w4⟩, ⟨p0, p1⟩, ⟨t0, t1, t2⟩, s⟩ := id h
  refine h.asm k (nk a0 (by decide) (by decide)) (nl l0).1 (nl l0).2 (nl w0).1 (nl w0).2 hA ⟨g0, hG⟩ (fun q hq => ?_) (p0.kp k fun a ha => ?_) p1 (t0.kp k (nk t0.1 (by decide) (by decide)) (nl t0.2.2.2.2.1).1 (nl t0.2.2.2.2.1).2 fun i hi => ?_) t1 s
  · obtain ⟨x0, x1, x2, x3, x4, x5, x6, x7, x8, x9, x10, x11⟩ := (w2 q hq).1
    have kp := (k _ _ x0).2 (nk x0 (by decide) (by decide))
    have ka := (k _ _ x8).2 (nk x8 (by decide) (by decide))
    exact ⟨x0, (kp 0).trans x1, (kp 1).trans x2, (kp 2).trans x3, (kp 3).trans x4, (kp 4).trans x5, x6.kp k (nl x6).1 (nl x6).2, x7, x8, fun j hj => (ka j).trans (x9 j hj), x10, fun j i hj hi => hV q hq j i hj hi⟩
  · rcases ha with ha | ha | ha | ⟨i, hi, ha⟩
    · rw [ha]; exact nk p0.1 (by decide) (by decide)
    · rw [ha]; exact (nl p0.2.2.2.2.1).1
    · rw [ha]; exact (nl p0.2.2.2.2.1).2
    · rw [ha]; exact nk (p0.at hi).1 (by decide) (by decide)
  · obtain ⟨p, B0, hb⟩ := t0.2.2.2.2.2.2.2.1 i hi
    exact nk hb.1 (by decide) (by decide)
/-- an asset that changes -/
theorem RmX.ast {k : Nat} {F' : zF} {C' A' : Nat → Int32} (h : RmX T F zE Q W np fm as r V CC AA G n bp B td e te nt ba ra) (hk : k < 3) (ke : yE (fun a => a = Q (20 + k) ∨ a = Q (30 + k)) T F T F') (ha : zAs T F' (Q (20 + k)) (Q (30 + k)) C' A') : RmX T F' zE Q W np fm as r V (upd1 CC k C') (upd1 AA k A') G n bp B td e te nt ba ra := by
  obtain ⟨-, ⟨l0, l1⟩, ⟨g0, g1⟩, ⟨⟨w0, w1, w2, w3⟩, w4⟩, -, -, s⟩ := id h
  have e1 := (l1 k hk).1
  have e2 := (l1 k hk).2.2.1
  have n16 : ∀ {a : Nat}, T a = some (100, 16) → ¬ (a = Q (20 + k) ∨ a = Q (30 + k)) := fun {a} ha g => by
    rcases g with g | g
    · rw [g, e1] at ha; cases ha
    · rw [g, e2] at ha; cases ha
  refine h.k2 ke (fun a g => ?_) (fun j hj => ?_) (fun j hj => ((ke _ _ g0).2 (n16 g0) j).trans (g1 j hj)) (fun q hq j i hj hi => ?_)
  · rcases g with g | g
    · rw [g]; exact Or.inl e1
    · rw [g]; exact Or.inr (Or.inl e2)
  · by_cases g : j = k
    · rw [g, upd1_s, upd1_s]; exact ha
    · rw [upd1_n g, upd1_n g]
      have f1 := (l1 j hj).1
      have f2 := (l1 j hj).2.2.1
      refine (l1 j hj).kp ke (fun z => ?_) (fun z => ?_)
      · rcases z with z | z
        · exact g (s.2.2.2.2.2.1 j k hj hk z)
        · rw [z, e2] at f1; cases f1
      · rcases z with z | z
        · rw [z, e1] at f2; cases f2
        · exact g (s.2.2.2.2.2.2 j k hj hk z)
  · obtain ⟨x0, x1, x2, x3, x4, x5, x6, x7, x8, x9, x10, x11⟩ := (w2 q hq).1
    exact ((ke _ _ (x10 j hj)).2 (n16 (x10 j hj)) i).trans (x11 j i hj hi)
theorem s_version (h : RmX T F zE Q W np fm as r V CC AA G n bp B td e te nt ba ra) {k : Nat} (hk : k < 3) {d : Int32} (h1 : ¬ d < td) (h2 : d ≤ 99) {Post : Int32 → zF → Prop} {PX : String → zF → Prop} (hq : ∀ q : Nat, q < 5 → AA k 1 = nI q → ∀ F' : zF, yE (fun a => a = Q (20 + k) ∨ a = Q (30 + k)) T F T F' → RmX T F' zE Q W np fm as r V (upd1 CC k (ub (CC k) q d)) (upd1 AA k (ub (AA k) 1 (nI (q + 1)))) G n bp B td e te nt ba ra → Post (nI q) F') (hx : (¬ ∃ q : Nat, q < 5 ∧ AA k 1 = nI q) → PX "java/lang/IllegalStateException" F) : v_X4_version (Q 0) (nI k) d T F Post PX := by
  have ha := h.2.1.2 k hk
  obtain ⟨x0, x1, x2, x3, x4⟩ := id ha
  refine ⟨h.1.1, s_assetAt h hk ⟨_, h.1.2.2.2.1, h.pl.1, td, h.pl.2.2.2.1, fun z => absurd z h1, fun _ => ⟨fun _ => ⟨x0, x0, AA k 1, x4 1 (by decide) (by decide), fun z => ?_, fun z => ⟨_, x1, 5, x2, fun z2 => ?_, fun z2 => ?_⟩⟩, fun z => absurd h2 z⟩⟩⟩
  · refine ⟨fun g => absurd rfl g, fun _ => hx fun ⟨q, q5, g⟩ => ?_⟩
    rw [g] at z
    exact absurd z (nI_pos (by omega))
  · have z0 : 0 ≤ (AA k 1).toInt := by
      rw [Int32.lt_iff_toInt_lt, y_toInt0] at z
      omega
    have z5 : (AA k 1).toInt < 5 := by
      rw [Int32.lt_iff_toInt_lt, show (nI 5).toInt = 5 by decide] at z2
      exact z2
    obtain ⟨q, q5, hqe⟩ : ∃ q : Nat, q < 5 ∧ AA k 1 = nI q := ⟨(AA k 1).toInt.toNat, by omega, y_nI (by omega) (by omega)⟩
    have nac : Q (20 + k) ≠ Q (30 + k) := y_ne x0 x2 (by decide)
    rw [hqe, y_nIn (by omega)]
    have ke : yE (fun a => a = Q (20 + k) ∨ a = Q (30 + k)) T F T (zu (zu F (Q (30 + k)) q (.int d)) (Q (20 + k)) 1 (.int (nI q + 1))) := (yE.uu (Or.inr rfl)).tr (yE.uu (Or.inl rfl))
    refine ⟨vp_in_nI q5 (by omega), nI q, (if_neg fun g => nac g.1).trans (by rw [← hqe]; exact x4 1 (by decide) (by decide)), ?_⟩
    have eq1 : nI q + 1 - 1 = nI q := by
      rcases (show q = 0 ∨ q = 1 ∨ q = 2 ∨ q = 3 ∨ q = 4 by omega) with rfl | rfl | rfl | rfl | rfl <;> decide
    rw [eq1]
    refine ⟨fun _ => hq q q5 hqe _ ke (h.ast hk ke ⟨x0, ?_, x2, fun v hv => ?_, fun j j1 j5 => ?_⟩), fun g => absurd ?_ (nI_pos (n := q) (by omega))⟩
    · rw [y_zu, if_neg (by simp), y_zu, if_neg (fun g => nac g.1)]; exact x1
    · rw [y_zu, if_neg (fun g => nac g.1.symm), y_zu]
      by_cases g : v = q
      · rw [if_pos ⟨rfl, g⟩, g, ub_s]
      · rw [if_neg (fun g2 => g g2.2), ub_n g]; exact x3 v hv
    · rw [y_zu]
      by_cases g : j = 1
      · rw [if_pos ⟨rfl, g⟩, g, ub_s, nI_succ]
      · rw [if_neg (fun g2 => g g2.2), y_zu, if_neg (fun g2 => nac g2.1), ub_n g]; exact x4 j j1 j5
    · rw [g]; decide
  · refine ⟨fun g => absurd rfl g, fun _ => hx fun ⟨q, q5, g⟩ => z2 ?_⟩
    rw [g]
    exact nI_lt q5 (by omega)
def f_lt (c p : Int32) : Int32 := if 99 < (c + p) then 99 else (c + p)
theorem s_hasLast {a c : Nat} {C A : Nat → Int32} (h : zAs T F a c C A) {Post : Int32 → Prop} (h1 : ∀ q : Nat, q < 5 → A 1 = nI (q + 1) → Post 1) (h0 : (¬ ∃ q : Nat, q < 5 ∧ A 1 = nI (q + 1)) → Post 0) : v_X0_hasLast a T F Post := by
  obtain ⟨x0, x1, x2, x3, x4⟩ := h
  refine ⟨x0, A 1, x4 1 (by decide) (by decide), fun z => h0 fun ⟨q, q5, g⟩ => ?_, fun z => ⟨_, x1, 5, x2, fun z2 => h0 fun ⟨q, q5, g⟩ => ?_, fun z2 => ?_⟩⟩
  · rw [g, Int32.lt_iff_toInt_lt, y_nIc (by omega), show (1 : Int32).toInt = 1 by decide] at z
    omega
  · rw [g, Int32.lt_iff_toInt_lt, y_nIc (by omega), y_nIc (by omega)] at z2
    omega
  · rw [Int32.lt_iff_toInt_lt, show (1 : Int32).toInt = 1 by decide] at z
    rw [Int32.lt_iff_toInt_lt, show (nI 5).toInt = 5 by decide] at z2
    exact h1 ((A 1).toInt.toNat - 1) (by omega) (y_nI (by omega) (by omega))
theorem s_late (h : RmX T F zE Q W np fm as r V CC AA G n bp B td e te nt ba ra) {k : Nat} (hk : k < 3) {p : Int32} (h1 : ¬ p < 1) (h2 : p ≤ 20) {Post : Int32 → zF → Prop} {PX : String → zF → Prop} (hq : ∀ q : Nat, q < 5 → AA k 1 = nI (q + 1) → td < CC k q → ∀ F' : zF, yE (fun a => a = Q (20 + k) ∨ a = Q (30 + k)) T F T F' → RmX T F' zE Q W np fm as r V (upd1 CC k (ub (CC k) q (f_lt (CC k q) p))) (upd1 AA k (AA k)) G n bp B td e te nt ba ra → Post (f_lt (CC k q) p) F') (hx : PX "java/lang/IllegalStateException" F) : v_X4_late (Q 0) (nI k) p T F Post PX := by
  have ha := h.2.1.2 k hk
  obtain ⟨x0, x1, x2, x3, x4⟩ := id ha
  have d1 : ∀ q : Nat, q < 5 → nI (q + 1) - 1 = nI q := fun q q5 => by
    rcases (show q = 0 ∨ q = 1 ∨ q = 2 ∨ q = 3 ∨ q = 4 by omega) with rfl | rfl | rfl | rfl | rfl <;> decide
  have nac : Q (20 + k) ≠ Q (30 + k) := y_ne x0 x2 (by decide)
  refine ⟨h.1.1, s_assetAt h hk ⟨fun z => absurd z h1, fun _ => ⟨fun _ => ⟨x0, x0, s_hasLast ha (fun q q5 e1 => ⟨fun z => absurd z (by decide), fun _ => ⟨_, x1, _, x4 1 (by decide) (by decide), 5, x2, ?_⟩⟩) (fun _ => ⟨fun _ => ⟨fun _ => hx, fun z => absurd rfl z⟩, fun z => absurd rfl z⟩)⟩, fun z => absurd h2 z⟩⟩⟩
  rw [e1, d1 q q5, y_nIn (by omega)]
  refine ⟨vp_in_nI q5 (by omega), CC k q, x3 q q5, fun _ => hx, fun _ => ⟨_, h.1.2.2.2.1, h.pl.1, td, h.pl.2.2.2.1, fun z => ⟨x0, s_hasLast ha (fun q' q5' e1' => ⟨fun z => absurd z (by decide), fun _ => ⟨_, x1, _, x4 1 (by decide) (by decide), 5, x2, ?_⟩⟩) (fun g => absurd ⟨q, q5, e1⟩ g)⟩, fun _ => hx⟩⟩
  rw [e1, d1 q q5, y_nIn (by omega)]
  have ke : yE (fun a => a = Q (20 + k) ∨ a = Q (30 + k)) T F T (zu F (Q (30 + k)) q (.int (f_lt (CC k q) p))) := yE.uu (Or.inr rfl)
  refine ⟨vp_in_nI q5 (by omega), hq q q5 e1 z _ ke (h.ast hk ke ⟨x0, ?_, x2, fun v hv => ?_, fun j j1 j5 => ?_⟩)⟩
  · rw [y_zu, if_neg (fun g => nac g.1)]; exact x1
  · rw [y_zu]
    by_cases g : v = q
    · rw [if_pos ⟨rfl, g⟩, g, ub_s]; rfl
    · rw [if_neg (fun g2 => g g2.2), ub_n g]; exact x3 v hv
  · rw [y_zu, if_neg (fun g2 => nac g2.1)]; exact x4 j j1 j5
/-- one look of a piece that changes -/
theorem RmX.lk {k j : Nat} {F' : zF} {v : Nat → Int32} (h : RmX T F zE Q W np fm as r V CC AA G n bp B td e te nt ba ra) (hk : k < np) (hj : j < 4) (ke : yE (fun a => a = W 3 k 0 + 1 + j) T F T F') (hv : ∀ i : Nat, i < 16 → F' (W 3 k 0 + 1 + j) i = .int (v i)) : RmX T F' zE Q W np fm as r (upd1 V k (upd1 (V k) j v)) CC AA G n bp B td e te nt ba ra := by
  obtain ⟨-, ⟨l0, l1⟩, ⟨g0, g1⟩, ⟨⟨w0, w1, w2, w3⟩, w4⟩, -, -, s⟩ := id h
  have e1 : T (W 3 k 0 + 1 + j) = some (100, 16) := (w2 k hk).1.2.2.2.2.2.2.2.2.2.2.1 j hj
  refine h.k2 ke (fun a g => ?_) (fun q hq => (l1 q hq).kp ke (fun z => ?_) (fun z => ?_)) (fun q hq => ((ke _ _ g0).2 (fun z => s.2.2.2.2.1 k j hk hj z.symm) q).trans (g1 q hq)) (fun q hq j' i hj' hi => ?_)
  · rw [g]; exact Or.inr (Or.inr e1)
  · have := (l1 q hq).1
    rw [z, e1] at this; cases this
  · have := (l1 q hq).2.2.1
    rw [z, e1] at this; cases this
  · obtain ⟨x0, x1, x2, x3, x4, x5, x6, x7, x8, x9, x10, x11⟩ := (w2 q hq).1
    by_cases g : q = k
    · subst g
      rw [upd1_s]
      by_cases g2 : j' = j
      · subst g2
        rw [upd1_s]
        exact hv i hi
      · rw [upd1_n g2]
        exact ((ke _ _ (x10 j' hj')).2 (fun z => g2 (s.2.2.2.1 q j' q j hq hj' hq hj z).2) i).trans (x11 j' i hj' hi)
    · rw [upd1_n g]
      exact ((ke _ _ (x10 j' hj')).2 (fun z => g (s.2.2.2.1 q j' k j hq hj' hk hj z).1) i).trans (x11 j' i hj' hi)
def f_look (n : Nat) (C : Nat → Nat → Int32) (v : Nat → Int32) (d : Int32) : Nat → Int32 := fun i => if i < n then f_ver (C i) d else v i
theorem s_approveLook {p l e ap m j : Nat} {pt cc : Nat → Nat} {num f1 a1 : Int32} {V C A : Nat → Nat → Int32} {d : Int32} {Post : zF → Prop} (h : zPc T F p l e ap m pt num f1 a1 V) (hA : zPt T F m pt cc C A) (hj : j < 4) (hcc : ∀ i : Nat, i < m → T (cc i) = some (100, 5)) (hk : ∀ F' : zF, yE (fun a => a = ap + 1 + j) T F T F' → (∀ i : Nat, i < 16 → F' (ap + 1 + j) i = .int (f_look m C (V j) d i)) → Post F') : v_X2_approveLook p (nI j) d T F Post := by
  obtain ⟨x0, x1, x2, x3, x4, x5, x6, x7, x8, x9, x10, x11⟩ := id h
  have e1 := x10 j hj
  refine ⟨fun z => absurd z (nI_pos (by omega)), fun _ => ⟨x0, ap, x5, 4, x8, fun _ => ⟨vp_in_nI hj (by omega), ap + 1 + j, by rw [y_nIn (by omega)]; exact x9 j hj, ?_⟩, fun z => absurd (nI_lt hj (by omega)) z⟩⟩
  refine ⟨fun q y F1 => ∃ k : Nat, k ≤ m ∧ q = m - k ∧ y.toInt = k ∧ yE (fun a => a = ap + 1 + j) T F T F1 ∧ ∀ i : Nat, i < 16 → F1 (ap + 1 + j) i = .int (f_look k C (V j) d i), ⟨m, 0, Nat.zero_le _, rfl, by decide, yE.rf, fun i hi => by rw [show f_look 0 C (V j) d i = V j i from if_neg (Nat.not_lt_zero i)]; exact x11 j i hj hi⟩, ?_⟩
  rintro q y F1 ⟨k, hkm, rfl, hy, ke, hv⟩
  have e0 : y = nI k := y_nI hy (by omega)
  subst e0
  obtain ⟨L1, L2⟩ := y_lp hkm (by omega)
  have l1 := x6.kp ke (y_ne x6.1 e1 (by decide)) (by obtain ⟨c, hc⟩ := x6.er; exact y_ne hc e1 (by simp))
  refine ⟨l, ((ke _ _ x0).2 (y_ne x0 e1 (by decide)) 3).trans x4, l1.1, s_size l1 ⟨fun hge => ?_, fun hlt => ?_⟩⟩
  · have := L1 hge
    subst this
    exact hk F1 ke hv
  · have hk1 := L2 hlt
    refine ⟨16, e1, fun z => absurd ((nI_leI (a := 16) (b := k) (by omega) (by omega)).mp z) (by omega), fun _ => s_get l1 hk1 ⟨(hA k hk1).1, s_versionAt ((hA k hk1).kp ke (y_ne (hA k hk1).1 e1 (by decide)) (y_ne (hcc k hk1) e1 (by decide))) ⟨vp_in_nI (by omega) (by omega), m - (k + 1), by omega, k + 1, by omega, rfl, y_inc hy (by omega), ke.tr yE.us, fun i hi => ?_⟩⟩⟩
    rw [y_nIn (by omega), y_zu]
    unfold f_look at hv ⊢
    by_cases g : i = k
    · rw [if_pos ⟨rfl, g⟩, g, if_pos (Nat.lt_succ_self k)]
    · rw [if_neg (fun z => g z.2), hv i hi]
      by_cases g2 : i < k
      · rw [if_pos g2, if_pos (show i < k + 1 by omega)]
      · rw [if_neg g2, if_neg (show ¬ i < k + 1 by omega)]
theorem s_approve (h : RmX T F zE Q W np fm as r V CC AA G n bp B td e te nt ba ra) {k j : Nat} (hk : k < np) (hj : j < 4) {Post : Int32 → zF → Prop} {PX : String → zF → Prop} (hp : p_laid (W 4 k 0) (fun i => CC (r k i)) td → ∀ (F' : zF) (x : Int32), (x = 0 ∨ x = 1) → yE (fun a => a = W 3 k 0 + 1 + j) T F T F' → RmX T F' zE Q W np fm as r (upd1 V k (upd1 (V k) j (f_look (W 4 k 0) (fun i => CC (r k i)) (V k j) td))) CC AA G n bp B td e te nt ba ra → Post x F') (hx : PX "java/lang/IllegalStateException" F) : v_X4_approve (Q 0) (nI k) (nI j) T F Post PX := by
  obtain ⟨pc, pa⟩ := h.pw.2.2.1 k hk
  have go : p_laid (W 4 k 0) (fun i => CC (r k i)) td → ∀ x : Int32, (x = 0 ∨ x = 1) → v_X2_approveLook (W 0 k 0) (nI j) td T F (fun (F11 : zF) => ((x = 0 ∨ x = 1) ∧ Post x F11)) := fun l x hx1 => s_approveLook pc pa hj (fun i hi => (pa i hi).2.2.1) fun F' ke hv => ⟨hx1, hp l F' x hx1 ke (h.lk hk hj ke hv)⟩
  exact ⟨h.1.1, s_pieceAt h hk (s_needLand hj ⟨_, h.1.2.2.2.1, h.pl.1, td, h.pl.2.2.2.1, pc.1, s_isLaidOn pc pa (fun l => ⟨fun _ => s_isFitOn pc pa hj (fun _ => go l 1 (Or.inr rfl)) (fun _ => go l 0 (Or.inl rfl)), fun z => absurd z (by decide)⟩) (fun _ => ⟨fun z => absurd rfl z, fun _ => hx⟩)⟩)⟩
theorem s_fill {a m : Nat} (hm : m < 900) {v : Int32} (h : T a = some (100, m)) {Post : zF → Prop} (hk : ∀ F' : zF, yE (fun b => b = a) T F T F' → (∀ i : Nat, i < m → F' a i = .int v) → Post F') : v_J7_fill_53178 a v T F Post := by
  refine ⟨m, h, fun q y F1 => ∃ k : Nat, k ≤ m ∧ q = m - k ∧ y.toInt = k ∧ yE (fun b => b = a) T F T F1 ∧ ∀ i : Nat, i < k → F1 a i = .int v, ⟨m, 0, Nat.zero_le _, rfl, by decide, yE.rf, fun i hi => absurd hi (Nat.not_lt_zero _)⟩, ?_⟩
  rintro q y F1 ⟨k, hkm, rfl, hy, ke, hv⟩
  have e0 : y = nI k := y_nI hy (by omega)
  subst e0
  obtain ⟨L1, L2⟩ := y_lp hkm (by omega)
  refine ⟨fun hge => ?_, fun hlt => ?_⟩
  · have := L1 hge
    subst this
    exact hk F1 ke hv
  · have hk1 := L2 hlt
    refine ⟨vp_in_nI hk1 (by omega), m - (k + 1), by omega, k + 1, by omega, rfl, y_inc hy (by omega), ke.tr yE.us, fun i hi => ?_⟩
    rw [y_nIn (by omega), y_zu]
    by_cases g : i = k
    · rw [if_pos ⟨rfl, g⟩]
    · rw [if_neg (fun z => g z.2)]
      exact hv i (by omega)
theorem s_hold (h : RmX T F zE Q W np fm as r V CC AA G n bp B td e te nt ba ra) {k j : Nat} (hk : k < np) (hj : j < 4) {Post : Int32 → zF → Prop} {PX : String → zF → Prop} (hp : ∀ (F' : zF) (x : Int32), (x = 0 ∨ x = 1) → yE (fun a => a = W 3 k 0 + 1 + j) T F T F' → RmX T F' zE Q W np fm as r (upd1 V k (upd1 (V k) j (fun _ => -1))) CC AA G n bp B td e te nt ba ra → Post x F') : v_X4_hold (Q 0) (nI k) (nI j) T F Post PX := by
  obtain ⟨pc, pa⟩ := h.pw.2.2.1 k hk
  obtain ⟨x0, x1, x2, x3, x4, x5, x6, x7, x8, x9, x10, x11⟩ := id pc
  have go : ∀ x : Int32, (x = 0 ∨ x = 1) → v_X2_dropApproval (W 0 k 0) (nI j) T F (fun (F10 : zF) => ((x = 0 ∨ x = 1) ∧ Post x F10)) := fun x hx1 =>
    ⟨fun z => absurd z (nI_pos (by omega)), fun _ => ⟨x0, _, x5, 4, x8, fun z => absurd ((nI_leI (a := 4) (b := j) (by omega) (by omega)).mp z) (by omega), fun _ => ⟨vp_in_nI hj (by omega), W 3 k 0 + 1 + j, by rw [y_nIn (by omega)]; exact x9 j hj, s_fill (by decide) (x10 j hj) fun F' ke hv => ⟨hx1, hp F' x hx1 ke (h.lk hk hj ke hv)⟩⟩⟩⟩
  exact ⟨h.1.1, s_pieceAt h hk (s_needLand hj ⟨_, h.1.2.2.2.1, h.pl.1, td, h.pl.2.2.2.1, pc.1, s_isFitOn pc pa hj (fun _ => go 1 (Or.inr rfl)) (fun _ => go 0 (Or.inl rfl))⟩)⟩
theorem s_groups (h : RmX T F zE Q W np fm as r V CC AA G n bp B td e te nt ba ra) {m j : Nat} (hm : m < 4) (hj : j < 4) {p : Int32} (h1 : ¬ p < 0) (h2 : p ≤ 1023) {Post : Int32 → zF → Prop} {PX : String → zF → Prop} (hp : ∀ F' : zF, yE (fun a => a = Q 3) T F T F' → RmX T F' zE Q W np fm as r V CC AA (ub G (m * 4 + j) p) n bp B td e te nt ba ra → Post (G (m * 4 + j)) F') : v_X4_groups (Q 0) (nI m) (nI j) p T F Post PX := by
  obtain ⟨-, ⟨l0, l1⟩, ⟨g0, g1⟩, ⟨⟨w0, w1, w2, w3⟩, w4⟩, -, -, s⟩ := id h
  have e0 : nI m * 4 + nI j = nI (m * 4 + j) := by
    rw [← nI_add]
    rcases (show m = 0 ∨ m = 1 ∨ m = 2 ∨ m = 3 by omega) with rfl | rfl | rfl | rfl <;> rfl
  refine s_needMedium hm (s_needLand hj ⟨fun z => absurd z h1, fun _ => ⟨fun _ => ⟨h.1.1, _, h.1.2.2.1, 16, g0, ?_⟩, fun z => absurd h2 z⟩⟩)
  rw [e0, y_nIn (by omega)]
  have ke : yE (fun a => a = Q 3) T F T (zu F (Q 3) (m * 4 + j) (.int p)) := yE.us
  refine ⟨vp_in_nI (by omega) (by omega), _, g1 _ (by omega), vp_in_nI (by omega) (by omega), hp _ ke (h.k2 ke (fun a g => by rw [g]; exact Or.inr (Or.inr g0)) (fun q hq => (l1 q hq).kp ke (y_ne (l1 q hq).1 g0 (by decide)) (y_ne (l1 q hq).2.2.1 g0 (by decide))) (fun q hq => ?_) (fun q hq j' i hj' hi => ?_))⟩
  · rw [y_zu]
    by_cases g : q = m * 4 + j
    · rw [if_pos ⟨rfl, g⟩, g, ub_s]
    · rw [if_neg (fun z => g z.2), ub_n g]
      exact g1 q hq
  · obtain ⟨x0, x1, x2, x3, x4, x5, x6, x7, x8, x9, x10, x11⟩ := (w2 q hq).1
    exact ((ke _ _ (x10 j' hj')).2 (fun z => s.2.2.2.2.1 q j' hq hj' z) i).trans (x11 j' i hj' hi)
end WR1
