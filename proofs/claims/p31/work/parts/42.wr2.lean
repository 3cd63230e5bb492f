/-! what calls change: bookings, the day -/
section WR2
variable {T : zT} {F : zF} {zE : Nat} {Q : Nat → Nat} {W : Nat → Nat → Nat → Nat} {np : Nat} {fm as : Nat → Int32} {r : Nat → Nat → Nat} {V : Nat → Nat → Nat → Int32} {CC AA : Nat → Nat → Int32} {G : Nat → Int32} {n : Nat} {bp : Nat → Nat} {B : Nat → Nat → Int32} {td : Int32} {e te nt : Nat} {ba ra : Nat → Nat}
/-- cells of the plan and of its bookings alone change -/
theorem RmX.kpl {P : Nat → Prop} {F' : zF} {bp' : Nat → Nat} {B' : Nat → Nat → Int32} {td' : Int32} (h : RmX T F zE Q W np fm as r V CC AA G n bp B td e te nt ba ra) (ke : yE P T F T F') (hP : ∀ a : Nat, P a → a = Q 4 ∨ ∃ i : Nat, i < n ∧ a = ba i) (hp : zPl T F' (Q 4) (Q 8) e n ba W np (Q 6) bp' B' td') : RmX T F' zE Q W np fm as r V CC AA G n bp' B' td' e te nt ba ra := by
  obtain ⟨⟨a0, a1, a2, a3, a4⟩, ⟨l0, l1⟩, ⟨g0, g1⟩, ⟨⟨w0, w1, w2, w3⟩, w4⟩, ⟨p0, p1⟩, ⟨t0, t1, t2⟩, s⟩ := id h
  have nk : ∀ {a : Nat} {t : Nat × Nat}, T a = some t → ¬ t.1 = 4 → ¬ t.1 = 2 → ¬ P a := fun {a t} ha h1 h2 g => by
    rcases hP a g with q | ⟨i, hi, q⟩
    · rw [q, p0.1] at ha; cases ha; exact h1 rfl
    · rw [q, (p0.at hi).1] at ha; cases ha; exact h2 rfl
  have nl : ∀ {l e n : Nat} {ad : Nat → Nat}, yLs T F l e n ad → ¬ P l ∧ ¬ P e := fun {l e n ad} q => by
    obtain ⟨c, hc⟩ := q.er
    exact ⟨nk q.1 (by decide) (by decide), nk hc (by simp) (by simp)⟩
  refine h.asm ke (nk a0 (by decide) (by decide)) (nl l0).1 (nl l0).2 (nl w0).1 (nl w0).2 (fun j hj => (l1 j hj).kp ke (nk (l1 j hj).1 (by decide) (by decide)) (nk (l1 j hj).2.2.1 (by decide) (by decide))) ⟨g0, fun j hj => ((ke _ _ g0).2 (nk g0 (by decide) (by decide)) j).trans (g1 j hj)⟩ (fun q hq => ?_) hp p1 (t0.kp ke (fun z => ?_) (nl t0.2.2.2.2.1).1 (nl t0.2.2.2.2.1).2 fun i hi z => ?_) t1 s
  · obtain ⟨x0, x1, x2, x3, x4, x5, x6, x7, x8, x9, x10, x11⟩ := id (w2 q hq).1
    refine (w2 q hq).1.kp ke (nk x0 (by decide) (by decide)) (nl x6).1 (nl x6).2 fun j hj => ?_
    by_cases g : j = 0
    · subst g; exact nk x8 (by decide) (by decide)
    · rw [show W 3 q 0 + j = W 3 q 0 + 1 + (j - 1) by omega]
      exact nk (x10 (j - 1) (by omega)) (by decide) (by decide)
  · rcases hP _ z with g | ⟨j, hj, g⟩
    · exact s.1 _ (Or.inr (Or.inr (Or.inr (Or.inr (Or.inr (Or.inr (Or.inl rfl))))))) (Or.inl g.symm)
    · exact s.1 _ (Or.inr (Or.inr (Or.inr (Or.inr (Or.inr (Or.inr (Or.inr (Or.inr (Or.inr ⟨j, hj, rfl⟩))))))))) (Or.inl g.symm)
  · rcases hP _ z with g | ⟨j, hj, g⟩
    · exact s.1 _ (Or.inr (Or.inr (Or.inr (Or.inr (Or.inr (Or.inr (Or.inl rfl))))))) (Or.inr (Or.inr (Or.inr ⟨i, hi, g.symm⟩)))
    · exact s.1 _ (Or.inr (Or.inr (Or.inr (Or.inr (Or.inr (Or.inr (Or.inr (Or.inr (Or.inr ⟨j, hj, rfl⟩))))))))) (Or.inr (Or.inr (Or.inr ⟨i, hi, g.symm⟩)))
theorem RmX.row {i q : Nat} {b : Nat → Int32} {F' : zF} (h : RmX T F zE Q W np fm as r V CC AA G n bp B td e te nt ba ra) (hi : i < n) (ke : yE (fun a => a = ba i) T F T F') (hb : zBk T F' (ba i) (W 0 q 0) b) (hq : q < np) : RmX T F' zE Q W np fm as r V CC AA G n (upd1 bp i q) (upd1 B i b) td e te nt ba ra :=
  h.kpl ke (fun _ g => Or.inr ⟨i, hi, g⟩) (h.pl.row hi ke hb hq)
theorem s_cancel (h : RmX T F zE Q W np fm as r V CC AA G n bp B td e te nt ba ra) {i : Nat} (hi : i < n) {Post : Int32 → zF → Prop} {PX : String → zF → Prop} (hp : p_op (B i) → ∀ F' : zF, yE (fun a => a = ba i) T F T F' → RmX T F' zE Q W np fm as r V CC AA G n (upd1 bp i (bp i)) (upd1 B i (f_give (B i))) td e te nt ba ra → Post (f_cost (f_give (B i))) F') (hx : ¬ p_op (B i) → PX "java/lang/IllegalStateException" F) : v_X4_cancel (Q 0) (nI i) T F Post PX := by
  have hb := h.pl.at hi
  have hbi := (h.pl.2.2.2.2.2.2.1 i hi).2
  exact ⟨h.1.1, s_bookingAt h hi ⟨hb.1, s_isOpen hb (fun q => ⟨fun _ => s_giveUp hb fun F' ke hb' => s_costNow hb' (hp q F' ke (h.row hi ke hb' hbi)), fun z => absurd z (by decide)⟩) (fun q => ⟨fun z => absurd rfl z, fun _ => hx q⟩)⟩⟩
theorem s_cancel0 (h : RmX T F zE Q W np fm as r V CC AA G n bp B td e te nt ba ra) {i : Int32} (h0 : n = 0) {Post : Int32 → zF → Prop} {PX : String → zF → Prop} (hx : PX "java/lang/IndexOutOfBoundsException" F) : v_X4_cancel (Q 0) i T F Post PX :=
  ⟨h.1.1, s_bookingAt0 h h0 hx⟩
theorem s_swapFor0 (h : RmX T F zE Q W np fm as r V CC AA G n bp B td e te nt ba ra) {i : Int32} (h0 : n = 0) {Post : Int32 → Prop} {PX : String → Prop} (hx : PX "java/lang/IndexOutOfBoundsException") : v_X4_swapFor (Q 0) i T F Post PX :=
  ⟨h.1.1, _, h.1.2.2.2.1, s_bookingAt0 h h0 hx⟩
theorem s_swap (h : RmX T F zE Q W np fm as r V CC AA G n bp B td e te nt ba ra) {i k : Nat} (hi : i < n) (hk : k < np) (hl : ∃ j : Nat, j < 4 ∧ B i 1 = nI j) (h0 : B i 6 = 0) (hc : p_cs n W fm V (fun k i => CC (r k i)) (fun k i => AA (r k i)) bp B td i (ld (B i)) k) {Post : Int32 → zF → Prop} {PX : String → zF → Prop} (hp : ∀ F' : zF, yE (fun a => a = ba i) T F T F' → RmX T F' zE Q W np fm as r V CC AA G n (upd1 bp i k) (upd1 B i (ub (B i) 9 (B i 9 + 1))) td e te nt ba ra → Post (nI (bp i)) F') : v_X4_swap (Q 0) (nI i) (nI k) T F Post PX := by
  have hb := h.pl.at hi
  have hbi := (h.pl.2.2.2.2.2.2.1 i hi).2
  have pc := (h.pw.2.2.1 _ hbi).1
  obtain ⟨j4, ej⟩ := y_ld hl
  exact ⟨h.1.1, s_bookingAt h hi (s_pieceAt h hk ⟨hb.1, B i 6, hb.i 6, fun z => absurd h0 z, fun _ => ⟨_, h.1.2.2.2.1, h.pl.1, s_canSwap h.pl h.pw hi hk j4 ej (fun _ => ⟨fun _ => ⟨_, hb.2.1, pc.1, _, pc.2.1, s_takePiece hb fun F' ke hb' => hp F' ke (h.row hi ke hb' hk)⟩, fun z => absurd z (by decide)⟩) (fun q => absurd hc q)⟩⟩)⟩
theorem s_day (h : RmX T F zE Q W np fm as r V CC AA G n bp B td e te nt ba ra) (ht : td < 99) (hl : ∀ i : Nat, i < n → ∃ j : Nat, j < 4 ∧ B i 1 = nI j) {Post : Int32 → zF → Prop} {PX : String → zF → Prop} (hp : ∀ F' : zF, yE (fun a => a = Q 4 ∨ ∃ i : Nat, i < n ∧ a = ba i) T F T F' → RmX T F' zE Q W np fm as r V CC AA G n (f_day n np W fm V (fun k i => CC (r k i)) (fun k i => AA (r k i)) (td + 1) bp B).1 (f_day n np W fm V (fun k i => CC (r k i)) (fun k i => AA (r k i)) (td + 1) bp B).2.1 (td + 1) e te nt ba ra → Post (f_day n np W fm V (fun k i => CC (r k i)) (fun k i => AA (r k i)) (td + 1) bp B).2.2 F') : v_X4_day (Q 0) T F Post PX :=
  ⟨h.1.1, _, h.1.2.2.2.1, h.pl.1, td, h.pl.2.2.2.1, fun _ => s_beginDay h.pl h.pw hl fun F' ke p' => hp F' ke (h.kpl ke (fun _ g => g) p'), fun z => absurd ht z⟩
/-- a booking as it is made -/
def f_new (j m : Nat) (p4 p5 pr : Int32) : Nat → Int32 := fun x => if x = 1 then nI j else if x = 2 then nI m else if x = 3 then p4 else if x = 4 then p5 else if x = 5 then pr else 0
theorem s_newBk {q p j m : Nat} {p4 p5 pr : Int32} {T1 : zT} {F1 : zF} {Post : zF → Prop} (hq : T1 q = some (2, 12)) (hk : ∀ F' : zF, yE (fun a => a = q) T1 F1 T1 F' → zBk T1 F' q p (f_new j m p4 p5 pr) → Post F') : v_X1_init q p (nI j) (nI m) p4 p5 pr T1 F1 Post := by
  have u : ∀ {F2 F3 : zF} (k : Nat) (v : Value), yE (fun a => a = q) T1 F2 T1 F3 → yE (fun a => a = q) T1 F2 T1 (zu F3 q k v) := fun k v k2 => k2.tr yE.us
  refine ⟨hq, hk _ (u _ _ (u _ _ (u _ _ (u _ _ (u _ _ (u _ _ (u _ _ (u _ _ (u _ _ (u _ _ (u _ _ (u _ _ yE.rf)))))))))))) ⟨hq, ?_, fun x x1 x12 => ?_, Or.inl rfl, Or.inl rfl⟩⟩
  · exact z_une (z_une (z_une (z_une (z_une z_ueq (by decide)) (by decide)) (by decide)) (by decide)) (by decide)
  · have c : x = 1 ∨ x = 2 ∨ x = 3 ∨ x = 4 ∨ x = 5 ∨ x = 6 ∨ x = 7 ∨ x = 8 ∨ x = 9 ∨ x = 10 ∨ x = 11 := by omega
    rcases c with rfl | rfl | rfl | rfl | rfl | rfl | rfl | rfl | rfl | rfl | rfl <;> simp [y_zu, f_new]
theorem s_needOffer (h : RmX T F zE Q W np fm as r V CC AA G n bp B td e te nt ba ra) {p4 p5 p6 : Int32} (h1 : td < p4) (h2 : ¬ p5 < p4) (h3 : p5 ≤ 99) (h4 : ¬ p6 < 1) (h5 : p6 ≤ 999) {Post : Prop} {PX : String → Prop} (hp : Post) : v_X4_needOffer (Q 0) p4 p5 p6 T F Post PX :=
  ⟨h.1.1, _, h.1.2.2.2.1, h.pl.1, td, h.pl.2.2.2.1, fun _ => ⟨fun z => absurd z h2, fun _ => ⟨fun _ => ⟨fun z => absurd z h4, fun _ => ⟨fun _ => hp, fun z => absurd h5 z⟩⟩, fun z => absurd h3 z⟩⟩, fun z => absurd h1 z⟩
theorem s_book (h : RmX T F zE Q W np fm as r V CC AA G n bp B td e te nt ba ra) {k j m : Nat} (hk : k < np) (hj : j < 4) (hm : m < 4) {p4 p5 p6 : Int32} (h1 : td < p4) (h2 : ¬ p5 < p4) (h3 : p5 ≤ 99) (h4 : ¬ p6 < 1) (h5 : p6 ≤ 999) {Post : Int32 → zT → zF → Prop} {PX : String → zT → zF → Prop}
    (hp : n < 16 → ¬ p_tk n B (nI j) (nI m) p4 p5 none → ∀ (T' : zT) (F' : zF) (e' : Nat) (ba' : Nat → Nat), yE (fun a => a = Q 8 ∨ (a = e ∧ ¬ T e = some (101, 0))) T F T' F' → RmX T' F' zE Q W np fm as r V CC AA G (n + 1) (upd1 bp n k) (upd1 B n (f_new j m p4 p5 (f_price td p4 p5 p6))) td e' te nt ba' ra → Post (nI n) T' F') (hx : PX "java/lang/IllegalStateException" T F) : v_X4_book zE (Q 0) (nI k) (nI j) (nI m) p4 p5 p6 T F Post PX := by
  obtain ⟨⟨a0, a1, a2, a3, a4⟩, ⟨l0, l1⟩, ⟨g0, g1⟩, ⟨⟨w0, w1, w2, w3⟩, w4⟩, ⟨p0, p1⟩, ⟨t0, t1, t2⟩, s⟩ := id h
  obtain ⟨q0, q1, q2, q3, q4, q5, q6, q7⟩ := id p0
  refine ⟨a0, s_pieceAt h hk (s_needLand hj (s_needMedium hm (s_needOffer h h1 h2 h3 h4 h5 ⟨_, a3, q0, _, q1, q4.1, s_size q4 ⟨fun hlt => s_isTaken p0 none (fun i hi => (by cases hi)) (fun _ => ⟨fun z => absurd z (by decide), fun _ => hx⟩) (fun nt' => ⟨fun _ => fun q hq => ?_, fun z => absurd rfl z⟩), fun _ => hx⟩⟩)))⟩
  have hn : n < 16 := by
    rw [Int32.lt_iff_toInt_lt, y_nIc (by omega), show (16 : Int32).toInt = 16 by decide] at hlt
    omega
  have hTq : T q = none := hq q (Nat.le_refl _)
  have kA : yE (fun _ => False) T F (zn T q (2, 12)) (zm F q (fun j => defaultValue (tyX1 j))) := yE.nn hq
  have k4 := (kA _ _ q0).2 (fun g => g)
  refine ⟨(kA _ _ a0).1, _, ((kA _ _ a0).2 (fun g => g) 2).trans a3, (kA _ _ q0).1, s_priceToday (kA _ _ q0).1 ((k4 2).trans q3) (s_newBk z_nq fun F2 kB hb => ?_)⟩
  have kC : yE (fun _ => False) T F (zn T q (2, 12)) F2 := fun a t ha => by
    have hne : ¬ a = q := fun g => by rw [g, hTq] at ha; cases ha
    exact ⟨(kA a t ha).1, fun g j => ((kB _ _ (kA a t ha).1).2 hne j).trans ((kA a t ha).2 g j)⟩
  have lC := q4.kp kC (fun g => g) (fun g => g)
  refine ⟨lC.1, s_add lC (p1.kp kC) (by omega) (fun i hi => (y_obB (p0.at hi).1).kp kC) (y_obB hb.1) fun T3 F3 e3 kD l3 c3 z3 d3 => ?_⟩
  have kT : yE (fun a => a = Q 8 ∨ (a = e ∧ ¬ T e = some (101, 0))) T F T3 F3 := fun a t ha => by
    have b1 := kC a t ha
    refine ⟨(kD a t b1.1).1, fun hp' j => ((kD a t b1.1).2 (fun g => hp' ?_) j).trans (b1.2 (fun g => g) j)⟩
    rcases g with g | ⟨g, g2⟩
    · exact Or.inl g
    · exact Or.inr ⟨g, fun z => g2 (kC _ _ z).1⟩
  have d3' : e3 = e ∨ T e3 = none := by
    rcases d3 with d3 | d3
    · exact Or.inl d3
    · right
      cases g : T e3 with
      | none => rfl
      | some t => rw [(kC _ _ g).1] at d3; cases d3
  obtain ⟨ce, hce⟩ := q4.er
  have nk : ∀ {a : Nat} {t : Nat × Nat}, T a = some t → ¬ t.1 = 0 → ¬ t.1 = 101 → ¬ (a = Q 8 ∨ (a = e ∧ ¬ T e = some (101, 0))) := fun {a t} ha h1 h2 g => by
    rcases g with g | ⟨g, -⟩
    · rw [g, q4.1] at ha; cases ha; exact h1 rfl
    · rw [g, hce] at ha; cases ha; exact h2 rfl
  have nl : ∀ {a e1 n1 : Nat} {ad : Nat → Nat}, yLs T F a e1 n1 ad → Q 8 ≠ a → (¬ T e = some (101, 0) → e ≠ e1) → ¬ (a = Q 8 ∨ (a = e ∧ ¬ T e = some (101, 0))) ∧ ¬ (e1 = Q 8 ∨ (e1 = e ∧ ¬ T e = some (101, 0))) := fun {a e1 n1 ad} l ha he => by
    obtain ⟨c1, hc1⟩ := l.er
    refine ⟨fun g => ?_, fun g => ?_⟩
    · rcases g with g | ⟨g, -⟩
      · exact ha g.symm
      · have := l.1
        rw [g, hce] at this; cases this
    · rcases g with g | ⟨g, g2⟩
      · rw [g, q4.1] at hc1; cases hc1
      · exact he g2 g.symm
  obtain ⟨s1, ⟨s2a, s2b, s2c, s2d⟩, s3, s4, s5, s6, s7⟩ := id s
  have m1 := nl l0 s2a fun z => (s3 z).1
  have m6 := nl w0 s2b fun z => (s3 z).2.1
  have m9 := nl t0.2.2.2.2.1 s2c fun z => (s3 z).2.2.1
  -- what is there in the end of the trial's cells
  obtain ⟨ct, hct⟩ := t0.2.2.2.2.1.er
  have zt : ∀ a : Nat, zTs T3 (Q 5) (Q 9) te nt ra a → zTs T (Q 5) (Q 9) te nt ra a ∧ ∃ t : Nat × Nat, T a = some t := fun a g => by
    rcases g with g | g | ⟨g, g2⟩ | ⟨i, hi, g⟩
    · exact ⟨Or.inl g, _, by rw [g]; exact t0.1⟩
    · exact ⟨Or.inr (Or.inl g), _, by rw [g]; exact t0.2.2.2.2.1.1⟩
    · exact ⟨Or.inr (Or.inr (Or.inl ⟨g, fun z => g2 (kT _ _ z).1⟩)), _, by rw [g]; exact hct⟩
    · obtain ⟨p, B0, hb0⟩ := t0.2.2.2.2.2.2.2.1 i hi
      exact ⟨Or.inr (Or.inr (Or.inr ⟨i, hi, g⟩)), _, by rw [g]; exact hb0.1⟩
  have qn : ∀ i : Nat, i < n → ¬ ba i = q := fun i hi g => by
    have := (p0.at hi).1
    rw [g, hTq] at this; cases this
  have kr : ∀ {b p : Nat} {B0 : Nat → Int32}, zBk (zn T q (2, 12)) F2 b p B0 → zBk T3 F3 b p B0 := fun {b p B0} hb9 => hb9.kp kD fun g => by
    rcases g with g | ⟨g, -⟩
    · have := hb9.1
      rw [g, lC.1] at this; cases this
    · have := hb9.1
      rw [g, (kC _ _ hce).1] at this; cases this
  have kQ4 := (kT _ _ q0).2 (nk q0 (by decide) (by decide))
  have hP3 : zPl T3 F3 (Q 4) (Q 8) e3 (n + 1) (upd1 ba n q) W np (Q 6) (upd1 bp n k) (upd1 B n (f_new j m p4 p5 (f_price td p4 p5 p6))) td := by
    refine ⟨(kT _ _ q0).1, (kQ4 0).trans q1, (kQ4 1).trans q2, (kQ4 2).trans q3, l3, by omega, fun i hi => ?_, fun i i' hi hi' => ?_⟩
    · by_cases g : i = n
      · rw [g, upd1_s, upd1_s, upd1_s]
        exact ⟨kr hb, hk⟩
      · rw [upd1_n g, upd1_n g, upd1_n g]
        exact ⟨kr ((q6 i (by omega)).1.kp kC fun g => g), (q6 i (by omega)).2⟩
    · by_cases g : i = n
      · by_cases g' : i' = n
        · intro; omega
        · rw [g, upd1_s, upd1_n g']; intro z; exact absurd z.symm (qn i' (by omega))
      · by_cases g' : i' = n
        · rw [g', upd1_s, upd1_n g]; intro z; exact absurd z (qn i (by omega))
        · rw [upd1_n g, upd1_n g']; exact q7 i i' (by omega) (by omega)
  have hR : RmX T3 F3 zE Q W np fm as r V CC AA G (n + 1) (upd1 bp n k) (upd1 B n (f_new j m p4 p5 (f_price td p4 p5 p6))) td e3 te nt (upd1 ba n q) ra := by
    refine h.asm kT (nk a0 (by decide) (by decide)) m1.1 m1.2 m6.1 m6.2 (fun i hi => (l1 i hi).kp kT (nk (l1 i hi).1 (by decide) (by decide)) (nk (l1 i hi).2.2.1 (by decide) (by decide))) ⟨(kT _ _ g0).1, fun i hi => ((kT _ _ g0).2 (nk g0 (by decide) (by decide)) i).trans (g1 i hi)⟩ (fun i hi => ?_) hP3 c3 (t0.kp kT (nk t0.1 (by decide) (by decide)) m9.1 m9.2 fun i hi => ?_) (by omega) ⟨fun a ha g => ?_, ⟨s2a, s2b, s2c, s2d⟩, fun z => ?_, s4, s5, s6, s7⟩
    · obtain ⟨x0, x1, x2, x3, x4, x5, x6, x7, x8, x9, x10, x11⟩ := id (w2 i hi).1
      have mi := nl x6 (s2d i hi) fun z => (s3 z).2.2.2 i hi
      refine (w2 i hi).1.kp kT (nk x0 (by decide) (by decide)) mi.1 mi.2 fun j hj => ?_
      by_cases g : j = 0
      · subst g; exact nk x8 (by decide) (by decide)
      · rw [show W 3 i 0 + j = W 3 i 0 + 1 + (j - 1) by omega]
        exact nk (x10 (j - 1) (by omega)) (by decide) (by decide)
    · obtain ⟨p, B0, hb0⟩ := t0.2.2.2.2.2.2.2.1 i hi
      exact nk hb0.1 (by decide) (by decide)
    · obtain ⟨zt1, t, ht⟩ := zt a g
      have old : inRm Q W np n e ba a → False := fun q => s1 a q zt1
      rcases ha with ha | ha | ha | ha | ha | ha | ha | ha | ha | ⟨i, hi, ha⟩
      · exact old (Or.inl ha)
      · exact old (Or.inr (Or.inl ha))
      · exact old (Or.inr (Or.inr (Or.inl ha)))
      · exact old (Or.inr (Or.inr (Or.inr (Or.inl ha))))
      · exact old (Or.inr (Or.inr (Or.inr (Or.inr (Or.inl ha)))))
      · exact old (Or.inr (Or.inr (Or.inr (Or.inr (Or.inr (Or.inl ha))))))
      · exact old (Or.inr (Or.inr (Or.inr (Or.inr (Or.inr (Or.inr (Or.inl ha)))))))
      · exact old (Or.inr (Or.inr (Or.inr (Or.inr (Or.inr (Or.inr (Or.inr (Or.inl ha))))))))
      · rcases d3' with d | d
        · exact old (Or.inr (Or.inr (Or.inr (Or.inr (Or.inr (Or.inr (Or.inr (Or.inr (Or.inl (ha.trans d))))))))))
        · rw [ha, d] at ht; cases ht
      · by_cases g : i = n
        · rw [ha, g, upd1_s, hTq] at ht; cases ht
        · rw [upd1_n g] at ha
          exact old (Or.inr (Or.inr (Or.inr (Or.inr (Or.inr (Or.inr (Or.inr (Or.inr (Or.inr ⟨i, by omega, ha⟩)))))))))
    · rcases d3' with d | d
      · rw [d] at z ⊢
        exact s3 fun w => z (kT _ _ w).1
      · obtain ⟨c1, hc1⟩ := l0.er
        obtain ⟨c6, hc6⟩ := w0.er
        refine ⟨fun w => ?_, fun w => ?_, fun w => ?_, fun i hi w => ?_⟩
        · rw [← w, d] at hc1; cases hc1
        · rw [← w, d] at hc6; cases hc6
        · rw [← w, d] at hct; cases hct
        · obtain ⟨c9, hc9⟩ := (w2 i hi).1.2.2.2.2.2.2.1.er
          rw [← w, d] at hc9; cases hc9
  refine ⟨hR.1.1, _, hR.1.2.2.2.1, hR.pl.1, _, hR.pl.2.1, hR.pl.2.2.2.2.1.1, s_size hR.pl.2.2.2.2.1 ?_⟩
  rw [nI_succ, show nI n + 1 - 1 = nI n from Int32.add_sub_cancel _ _]
  exact hp hn nt' T3 F3 e3 _ kT hR
end WR2
