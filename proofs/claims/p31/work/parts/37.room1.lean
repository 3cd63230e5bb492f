/-! the whole object: Q 0 it, Q 1 its list of assets (row Q 2, the assets Q 20 on, their days Q 30 on), Q 3 the groups, Q 4 the plan, Q 5 the trial, Q 6 the list of pieces (row Q 7), Q 8 the plan's list of bookings, Q 9 the trial's -/
def inRm (Q : Nat → Nat) (W : Nat → Nat → Nat → Nat) (np n e : Nat) (ba : Nat → Nat) (a : Nat) : Prop := a = Q 0 ∨ a = Q 1 ∨ a = Q 2 ∨ a = Q 3 ∨ (∃ k : Nat, k < 3 ∧ (a = Q (20 + k) ∨ a = Q (30 + k))) ∨ inPW (Q 6) (Q 7) np W a ∨ inPl (Q 4) (Q 8) e n ba a
/-- what is apart -/
def Sep (T : zT) (zE : Nat) (Q : Nat → Nat) (W : Nat → Nat → Nat → Nat) (np n e te nt : Nat) (ba ra : Nat → Nat) : Prop :=
  (∀ a : Nat, inRm Q W np n e ba a → ¬ zTs T (Q 5) (Q 9) te nt ra a) ∧
  (Q 8 ≠ Q 1 ∧ Q 8 ≠ Q 6 ∧ Q 8 ≠ Q 9 ∧ ∀ k : Nat, k < np → Q 8 ≠ W 1 k 0) ∧
  (¬ T e = some (101, 0) → e ≠ Q 2 ∧ e ≠ Q 7 ∧ e ≠ te ∧ ∀ k : Nat, k < np → e ≠ W 2 k 0) ∧
  (∀ k j k' j' : Nat, k < np → j < 4 → k' < np → j' < 4 → W 3 k 0 + 1 + j = W 3 k' 0 + 1 + j' → k = k' ∧ j = j') ∧
  (∀ k j : Nat, k < np → j < 4 → W 3 k 0 + 1 + j ≠ Q 3) ∧
  (∀ j k : Nat, j < 3 → k < 3 → Q (20 + j) = Q (20 + k) → j = k) ∧ ∀ j k : Nat, j < 3 → k < 3 → Q (30 + j) = Q (30 + k) → j = k
def RmX (T : zT) (F : zF) (zE : Nat) (Q : Nat → Nat) (W : Nat → Nat → Nat → Nat) (np : Nat) (fm as : Nat → Int32) (r : Nat → Nat → Nat) (V : Nat → Nat → Nat → Int32) (CC AA : Nat → Nat → Int32) (G : Nat → Int32) (n : Nat) (bp : Nat → Nat) (B : Nat → Nat → Int32) (td : Int32) (e te nt : Nat) (ba ra : Nat → Nat) : Prop :=
  (T (Q 0) = some (5, 4) ∧ F (Q 0) 0 = .ref (Q 1) ∧ F (Q 0) 1 = .ref (Q 3) ∧ F (Q 0) 2 = .ref (Q 4) ∧ F (Q 0) 3 = .ref (Q 5)) ∧
  (yLs T F (Q 1) (Q 2) 3 (fun k => Q (20 + k)) ∧ ∀ k : Nat, k < 3 → zAs T F (Q (20 + k)) (Q (30 + k)) (CC k) (AA k)) ∧
  (T (Q 3) = some (100, 16) ∧ ∀ j : Nat, j < 16 → F (Q 3) j = .int (G j)) ∧
  (zPW T F (Q 6) (Q 7) np W fm as V (fun k i => CC (r k i)) (fun k i => AA (r k i)) ∧ ∀ k : Nat, k < np → ∀ i : Nat, i < W 4 k 0 → r k i < 3 ∧ W 5 k i = Q (20 + r k i) ∧ W 6 k i = Q (30 + r k i)) ∧
  (zPl T F (Q 4) (Q 8) e n ba W np (Q 6) bp B td ∧ yCap T e zE) ∧
  (zTr T F (Q 5) (Q 9) te nt ra zE ∧ nt ≤ n ∧ T zE = some (101, 0)) ∧ Sep T zE Q W np n e te nt ba ra
/-- the values that many tells -/
noncomputable def f_many (np n : Nat) (B : Nat → Nat → Int32) (td : Int32) (j : Nat) : Int32 :=
  if j = 0 then nI 3 else if j = 1 then nI np else if j = 2 then nI n else if j < 8 then f_cnt (fun i => B i 6 = nI j - 3) 0 n else if j = 8 then f_cnt (fun i => ¬ B i 10 = 0) 0 n else if j = 9 then f_sum (fun i => f_cost (B i)) n else td
def f_ofB (bp : Nat → Nat) (B : Nat → Nat → Int32) (i j : Nat) : Int32 :=
  if j = 0 then nI (bp i) else if j = 5 then B i 6 else if j = 6 then B i 5 else if j = 7 then f_cost (B i) else if j = 8 then B i 7 else if j = 9 then B i 8 else if j = 10 then B i 10 else if j = 11 then B i 9 else B i j
section ROOM
variable {T : zT} {F : zF} {zE : Nat} {Q : Nat → Nat} {W : Nat → Nat → Nat → Nat} {np : Nat} {fm as : Nat → Int32} {r : Nat → Nat → Nat} {V : Nat → Nat → Nat → Int32} {CC AA : Nat → Nat → Int32} {G : Nat → Int32} {n : Nat} {bp : Nat → Nat} {B : Nat → Nat → Int32} {td : Int32} {e te nt : Nat} {ba ra : Nat → Nat}
theorem RmX.pl (h : RmX T F zE Q W np fm as r V CC AA G n bp B td e te nt ba ra) : zPl T F (Q 4) (Q 8) e n ba W np (Q 6) bp B td := h.2.2.2.2.1.1
theorem RmX.pw (h : RmX T F zE Q W np fm as r V CC AA G n bp B td e te nt ba ra) : zPW T F (Q 6) (Q 7) np W fm as V (fun k i => CC (r k i)) (fun k i => AA (r k i)) := h.2.2.2.1.1
theorem s_assetAt (h : RmX T F zE Q W np fm as r V CC AA G n bp B td e te nt ba ra) {k : Nat} (hk : k < 3) {Post : Nat → Prop} {PX : String → Prop} (hp : Post (Q (20 + k))) : v_X4_assetAt (Q 0) (nI k) T F Post PX := by
  obtain ⟨⟨x0, x1, -⟩, ⟨l0, l1⟩, -⟩ := h
  exact ⟨fun z => absurd z (nI_pos (by omega)), fun _ => ⟨x0, _, x1, l0.1, s_size l0 ⟨fun _ => s_get l0 hk ⟨(l1 k hk).1, hp⟩, fun z => absurd (nI_lt hk (by omega)) z⟩⟩⟩
theorem s_pieceAt (h : RmX T F zE Q W np fm as r V CC AA G n bp B td e te nt ba ra) {k : Nat} (hk : k < np) {Post : Nat → Prop} {PX : String → Prop} (hp : Post (W 0 k 0)) : v_X4_pieceAt (Q 0) (nI k) T F Post PX := by
  have hW := h.pw
  have hnp := hW.2.1
  obtain ⟨⟨x0, x1, x2, x3, x4⟩, -⟩ := id h
  obtain ⟨p0, p1, p2, -⟩ := h.pl
  exact ⟨fun z => absurd z (nI_pos (by omega)), fun _ => ⟨x0, _, x3, p0, _, p2, hW.1.1, s_size hW.1 ⟨fun _ => s_get hW.1 hk ⟨(hW.2.2.1 k hk).1.1, hp⟩, fun z => absurd (nI_lt hk (by omega)) z⟩⟩⟩
theorem s_bookingAt (h : RmX T F zE Q W np fm as r V CC AA G n bp B td e te nt ba ra) {i : Nat} (hi : i < n) {Post : Nat → Prop} {PX : String → Prop} (hp : Post (ba i)) : v_X4_bookingAt (Q 0) (nI i) T F Post PX := by
  obtain ⟨⟨x0, x1, x2, x3, x4⟩, -⟩ := id h
  obtain ⟨p0, p1, p2, p3, p4, p5, p6, p7⟩ := h.pl
  exact ⟨fun z => absurd z (nI_pos (by omega)), fun _ => ⟨x0, _, x3, p0, _, p1, p4.1, s_size p4 ⟨fun _ => s_get p4 hi ⟨(p6 i hi).1.1, hp⟩, fun z => absurd (nI_lt hi (by omega)) z⟩⟩⟩
/-- there is no booking at all -/
theorem s_bookingAt0 (h : RmX T F zE Q W np fm as r V CC AA G n bp B td e te nt ba ra) {i : Int32} (h0 : n = 0) {Post : Nat → Prop} {PX : String → Prop} (hx : PX "java/lang/IndexOutOfBoundsException") : v_X4_bookingAt (Q 0) i T F Post PX := by
  obtain ⟨⟨x0, x1, x2, x3, x4⟩, -⟩ := id h
  obtain ⟨p0, p1, p2, p3, p4, p5, p6, p7⟩ := h.pl
  subst h0
  exact ⟨fun _ => hx, fun g => ⟨x0, _, x3, p0, _, p1, p4.1, s_size p4 ⟨fun z => absurd z g, fun _ => hx⟩⟩⟩
theorem s_many (h : RmX T F zE Q W np fm as r V CC AA G n bp B td e te nt ba ra) {j : Nat} (hj : j ≤ 10) {Post : Int32 → Prop} {PX : String → Prop} (hp : Post (f_many np n B td j)) : v_X4_many (Q 0) (nI j) T F Post PX := by
  have hW := h.pw
  have hP := h.pl
  obtain ⟨⟨x0, x1, x2, x3, x4⟩, ⟨l0, l1⟩, -⟩ := id h
  obtain ⟨p0, p1, p2, p3, p4, p5, p6, p7⟩ := id hP
  have hjj : (nI j).toInt = (j : Int) := y_nIc (by omega)
  have nj : ∀ q : Nat, q ≤ 10 → nI j = nI q → j = q := fun q hq g => (nI_eq (by omega) (by omega)).mp g
  have cs : ∀ q : Nat, 3 ≤ q → q < 8 → nI j = nI q → v_X3_countInState (Q 4) (nI j - 3) T F (fun (r : Int32) => Post r) := fun q h3 h8 g => by
    have := nj q (by omega) g
    subst this
    unfold f_many at hp
    rw [if_neg (by omega), if_neg (by omega), if_neg (by omega), if_pos h8] at hp
    exact s_countInState hP hp
  refine ⟨fun z => by rw [hjj] at z; omega, fun g => ?_, fun g => ?_, fun g => ?_, fun g => ⟨x0, _, x3, p0, cs 3 (by omega) (by omega) g⟩, fun g => ⟨x0, _, x3, p0, cs 4 (by omega) (by omega) g⟩, fun g => ⟨x0, _, x3, p0, cs 5 (by omega) (by omega) g⟩, fun g => ⟨x0, _, x3, p0, cs 6 (by omega) (by omega) g⟩, fun g => ⟨x0, _, x3, p0, cs 7 (by omega) (by omega) g⟩, fun g => ?_, fun g => ?_, fun g => ?_⟩
  · have := nj 0 (by omega) g
    subst this
    exact ⟨x0, _, x1, l0.1, s_size l0 hp⟩
  · have := nj 1 (by omega) g
    subst this
    exact ⟨x0, _, x3, p0, _, p2, hW.1.1, s_size hW.1 hp⟩
  · have := nj 2 (by omega) g
    subst this
    exact ⟨x0, _, x3, p0, _, p1, p4.1, s_size p4 hp⟩
  · have := nj 8 (by omega) g
    subst this
    exact ⟨x0, _, x3, p0, s_countOn hP hp⟩
  · have := nj 9 (by omega) g
    subst this
    exact ⟨x0, _, x3, p0, s_costOfAll hP hp⟩
  · have := nj 10 (by omega) g
    subst this
    exact ⟨x0, _, x3, p0, td, p3, hp⟩
theorem s_ofBooking (h : RmX T F zE Q W np fm as r V CC AA G n bp B td e te nt ba ra) {i j : Nat} (hi : i < n) (hj : j ≤ 11) {Post : Int32 → Prop} {PX : String → Prop} (hp : Post (f_ofB bp B i j)) : v_X4_ofBooking (Q 0) (nI i) (nI j) T F Post PX := by
  have hb := h.pl.at hi
  have hpc := (h.pw.2.2.1 _ (h.pl.2.2.2.2.2.2.1 i hi).2).1
  have hjj : (nI j).toInt = (j : Int) := y_nIc (by omega)
  have nj : ∀ q : Nat, q ≤ 11 → nI j = nI q → j = q := fun q hq g => (nI_eq (by omega) (by omega)).mp g
  refine ⟨h.1.1, s_bookingAt h hi ⟨fun z => by rw [hjj] at z; omega, fun g => ?_, fun g => ?_, fun g => ?_, fun g => ?_, fun g => ?_, fun g => ?_, fun g => ?_, fun g => ?_, fun g => ?_, fun g => ?_, fun g => ?_, fun g => ?_⟩⟩
  · have := nj 0 (by omega) g
    subst this
    exact ⟨hb.1, _, hb.2.1, hpc.1, _, hpc.2.1, hp⟩
  · have := nj 1 (by omega) g
    subst this
    exact ⟨hb.1, _, hb.i 1, hp⟩
  · have := nj 2 (by omega) g
    subst this
    exact ⟨hb.1, _, hb.i 2, hp⟩
  · have := nj 3 (by omega) g
    subst this
    exact ⟨hb.1, _, hb.i 3, hp⟩
  · have := nj 4 (by omega) g
    subst this
    exact ⟨hb.1, _, hb.i 4, hp⟩
  · have := nj 5 (by omega) g
    subst this
    exact ⟨hb.1, _, hb.i 6, hp⟩
  · have := nj 6 (by omega) g
    subst this
    exact ⟨hb.1, _, hb.i 5, hp⟩
  · have := nj 7 (by omega) g
    subst this
    exact ⟨hb.1, s_costNow hb hp⟩
  · have := nj 8 (by omega) g
    subst this
    exact ⟨hb.1, _, hb.i 7, hp⟩
  · have := nj 9 (by omega) g
    subst this
    exact ⟨hb.1, _, hb.i 8, hp⟩
  · have := nj 10 (by omega) g
    subst this
    have hp : Post (B i 10) := hp
    refine ⟨hb.1, _, hb.i 10, fun e0 => ?_, fun n0 => ?_⟩
    · rw [e0] at hp; exact hp
    · rw [hb.2.2.2.1.resolve_left n0] at hp; exact hp
  · have := nj 11 (by omega) g
    subst this
    exact ⟨hb.1, _, hb.i 9, hp⟩
theorem s_needLand {j : Nat} (hj : j < 4) {Post : Prop} {PX : String → Prop} (hp : Post) : v_X4_needLand (nI j) T F Post PX :=
  ⟨fun z => absurd z (nI_pos (by omega)), fun _ => ⟨fun z => absurd ((nI_leI (a := 4) (b := j) (by omega) (by omega)).mp z) (by omega), fun _ => ⟨fun _ => hp, fun z => absurd z (by decide)⟩⟩⟩
theorem s_needMedium {j : Nat} (hj : j < 4) {Post : Prop} {PX : String → Prop} (hp : Post) : v_X4_needMedium (nI j) T F Post PX :=
  ⟨fun z => absurd z (nI_pos (by omega)), fun _ => ⟨fun z => absurd ((nI_leI (a := 4) (b := j) (by omega) (by omega)).mp z) (by omega), fun _ => ⟨fun _ => hp, fun z => absurd z (by decide)⟩⟩⟩
theorem s_needDay {d : Int32} (h0 : 0 ≤ d.toInt) (h1 : d.toInt ≤ 99) {Post : Prop} {PX : String → Prop} (hp : Post) : v_X4_needDay d T F Post PX :=
  ⟨fun z => by rw [Int32.lt_iff_toInt_lt, y_toInt0] at z; omega, fun _ => ⟨fun _ => hp, fun z => by rw [Int32.le_iff_toInt_le, show (99 : Int32).toInt = 99 by decide] at z; omega⟩⟩
theorem s_reason (h : RmX T F zE Q W np fm as r V CC AA G n bp B td e te nt ba ra) {k j : Nat} (hk : k < np) (hj : j < 4) {d : Int32} (h0 : 0 ≤ d.toInt) (h1 : d.toInt ≤ 99) {Post : Int32 → Prop} {PX : String → Prop} (hp : Post (f_rs (W 4 k 0) (fun i => CC (r k i)) (fun i => AA (r k i)) (V k j) (nI j) d)) : v_X4_reason (Q 0) (nI k) (nI j) d T F Post PX := by
  obtain ⟨pc, pa⟩ := h.pw.2.2.1 k hk
  exact ⟨h.1.1, s_pieceAt h hk (s_needLand hj (s_needDay h0 h1 ⟨pc.1, s_reasonOn pc pa hj fun r' hr => by rw [p_rs_one hr f_rs_p]; exact hp⟩))⟩
theorem s_isFit (h : RmX T F zE Q W np fm as r V CC AA G n bp B td e te nt ba ra) {k j : Nat} (hk : k < np) (hj : j < 4) {d : Int32} (h0 : 0 ≤ d.toInt) (h1 : d.toInt ≤ 99) {Post : Int32 → Prop} {PX : String → Prop} (hp1 : p_fit (W 4 k 0) (fun i => CC (r k i)) (V k j) d → Post 1) (hp0 : ¬ p_fit (W 4 k 0) (fun i => CC (r k i)) (V k j) d → Post 0) : v_X4_isFit (Q 0) (nI k) (nI j) d T F Post PX := by
  obtain ⟨pc, pa⟩ := h.pw.2.2.1 k hk
  exact ⟨h.1.1, s_pieceAt h hk (s_needLand hj (s_needDay h0 h1 ⟨pc.1, s_isFitOn pc pa hj (fun q => ⟨Or.inr rfl, hp1 q⟩) (fun q => ⟨Or.inl rfl, hp0 q⟩)⟩))⟩
theorem s_hasRights (h : RmX T F zE Q W np fm as r V CC AA G n bp B td e te nt ba ra) {k j : Nat} (hk : k < 3) (hj : j < 4) {d : Int32} (h0 : 0 ≤ d.toInt) (h1 : d.toInt ≤ 99) {Post : Int32 → Prop} {PX : String → Prop} (hp1 : p_gr (AA k) (nI j) d d → Post 1) (hp0 : ¬ p_gr (AA k) (nI j) d d → Post 0) : v_X4_hasRights (Q 0) (nI k) (nI j) d T F Post PX :=
  ⟨h.1.1, s_assetAt h hk (s_needLand hj (s_needDay h0 h1 ⟨(h.2.1.2 k hk).1, s_isGranted (h.2.1.2 k hk) (fun q => ⟨Or.inr rfl, hp1 q⟩) (fun q => ⟨Or.inl rfl, hp0 q⟩)⟩))⟩
theorem s_versionOn (h : RmX T F zE Q W np fm as r V CC AA G n bp B td e te nt ba ra) {k : Nat} (hk : k < 3) {d : Int32} (h0 : 0 ≤ d.toInt) (h1 : d.toInt ≤ 99) {Post : Int32 → Prop} {PX : String → Prop} (hp : Post (f_ver (CC k) d)) : v_X4_versionOn (Q 0) (nI k) d T F Post PX :=
  ⟨h.1.1, s_assetAt h hk (s_needDay h0 h1 ⟨(h.2.1.2 k hk).1, s_versionAt (h.2.1.2 k hk) hp⟩)⟩
theorem s_at (h : RmX T F zE Q W np fm as r V CC AA G n bp B td e te nt ba ra) {j m : Nat} (hj : j < 4) (hm : m < 4) {d : Int32} (h0 : 0 ≤ d.toInt) (h1 : d.toInt ≤ 99) {Post : Int32 → Prop} {PX : String → Prop} (hp : Post (f_at n B (nI j) (nI m) d)) : v_X4_at (Q 0) (nI j) (nI m) d T F Post PX :=
  s_needLand hj (s_needMedium hm (s_needDay h0 h1 ⟨h.1.1, _, h.1.2.2.2.1, h.pl.1, s_bookingShownAt h.pl hp⟩))
noncomputable def f_lf (n : Nat) (C : Nat → Nat → Int32) (V : Nat → Nat → Int32) (d : Int32) : Nat → Int32
  | 0 => 0
  | j + 1 => f_if (p_fit n C (V j) d) (f_lf n C V d j + 1) (f_lf n C V d j)
noncomputable def f_ofP (W : Nat → Nat → Nat → Nat) (fm as : Nat → Int32) (r : Nat → Nat → Nat) (V : Nat → Nat → Nat → Int32) (CC : Nat → Nat → Int32) (n : Nat) (bp : Nat → Nat) (B : Nat → Nat → Int32) (td : Int32) (k j : Nat) : Int32 :=
  if j = 0 then fm k else if j = 1 then as k else if j = 2 then f_lf (W 4 k 0) (fun i => CC (r k i)) (V k) td 4 else if j = 3 then f_cnt (fun i => p_op (B i) ∧ bp i = k) 0 n else f_fd (W 4 k 0) (fun i => CC (r k i))
theorem s_ofPiece (h : RmX T F zE Q W np fm as r V CC AA G n bp B td e te nt ba ra) {k j : Nat} (hk : k < np) (hj : j ≤ 4) {Post : Int32 → Prop} {PX : String → Prop} (hp : Post (f_ofP W fm as r V CC n bp B td k j)) : v_X4_ofPiece (Q 0) (nI k) (nI j) T F Post PX := by
  obtain ⟨pc, pa⟩ := h.pw.2.2.1 k hk
  have hjj : (nI j).toInt = (j : Int) := y_nIc (by omega)
  have nj : ∀ q : Nat, q ≤ 4 → nI j = nI q → j = q := fun q hq g => (nI_eq (by omega) (by omega)).mp g
  refine ⟨h.1.1, s_pieceAt h hk ⟨fun z => by rw [hjj] at z; omega, fun g => ?_, fun g => ?_, fun g => ?_, fun g => ?_, fun g => ?_⟩⟩
  · have := nj 0 (by omega) g
    subst this
    exact ⟨pc.1, _, pc.2.2.1, hp⟩
  · have := nj 1 (by omega) g
    subst this
    exact ⟨pc.1, _, pc.2.2.2.1, hp⟩
  · have := nj 2 (by omega) g
    subst this
    exact ⟨_, h.1.2.2.2.1, h.pl.1, td, h.pl.2.2.2.1, pc.1, s_landsFitOn pc pa (f_lf (W 4 k 0) (fun i => CC (r k i)) (V k) td) rfl (fun j _ q => f_if_t q) (fun j _ q => f_if_f q) hp⟩
  · have := nj 3 (by omega) g
    subst this
    exact ⟨_, h.1.2.2.2.1, h.pl.1, s_openBookingsOf h.pl h.pw hk hp⟩
  · have := nj 4 (by omega) g
    subst this
    exact ⟨pc.1, s_firstLaidDay pc pa hp⟩
/-- the number of the first piece that may be swapped for that of a booking -/
noncomputable def f_sw (n np : Nat) (W : Nat → Nat → Nat → Nat) (fm : Nat → Int32) (r : Nat → Nat → Nat) (V : Nat → Nat → Nat → Int32) (CC AA : Nat → Nat → Int32) (bp : Nat → Nat) (B : Nat → Nat → Int32) (td : Int32) (i : Nat) : Option Nat := f_fst (p_cs n W fm V (fun k i => CC (r k i)) (fun k i => AA (r k i)) bp B td i (ld (B i))) np
def f_oi (o : Option Nat) : Int32 := match o with
  | some k => nI k
  | none => -1
theorem s_swapFor (h : RmX T F zE Q W np fm as r V CC AA G n bp B td e te nt ba ra) {i : Nat} (hi : i < n) (hl : ∃ j : Nat, j < 4 ∧ B i 1 = nI j) {Post : Int32 → Prop} {PX : String → Prop} (hp : Post (f_oi (f_sw n np W fm r V CC AA bp B td i))) : v_X4_swapFor (Q 0) (nI i) T F Post PX := by
  obtain ⟨j4, ej⟩ := y_ld hl
  refine ⟨h.1.1, _, h.1.2.2.2.1, s_bookingAt h hi ⟨h.pl.1, s_firstSwap h.pl h.pw hi j4 ej ⟨fun z => ?_, fun y hy => ?_⟩⟩⟩
  · have e0 : f_sw n np W fm r V CC AA bp B td i = none := by
      show f_fst _ np = none
      cases g : f_fst (p_cs n W fm V (fun k i => CC (r k i)) (fun k i => AA (r k i)) bp B td i (ld (B i))) np with
      | none => rfl
      | some k => rw [g] at z; cases z
    rw [e0] at hp
    exact hp
  · obtain ⟨k, hk, rfl⟩ : ∃ k : Nat, f_sw n np W fm r V CC AA bp B td i = some k ∧ W 0 k 0 = y := by
      show ∃ k : Nat, f_fst _ np = some k ∧ _
      cases g : f_fst (p_cs n W fm V (fun k i => CC (r k i)) (fun k i => AA (r k i)) bp B td i (ld (B i))) np with
      | none => rw [g] at hy; cases hy
      | some k => rw [g] at hy; exact ⟨k, rfl, Option.some.inj hy⟩
    have hkn : k < np := (f_fst_i hk).1
    have pc := (h.pw.2.2.1 k hkn).1
    rw [hk] at hp
    exact ⟨pc.1, _, pc.2.1, hp⟩
theorem s_price (h : RmX T F zE Q W np fm as r V CC AA G n bp B td e te nt ba ra) {p4 p5 p6 : Int32} (h1 : td < p4) (h2 : ¬ p5 < p4) (h3 : p5 ≤ 99) (h4 : ¬ p6 < 1) (h5 : p6 ≤ 999) {Post : Int32 → Prop} {PX : String → Prop} (hp : Post (f_price td p4 p5 p6)) : v_X4_price (Q 0) p4 p5 p6 T F Post PX :=
  ⟨h.1.1, ⟨h.1.1, _, h.1.2.2.2.1, h.pl.1, td, h.pl.2.2.2.1, fun _ => ⟨fun z => absurd z h2, fun _ => ⟨fun _ => ⟨fun z => absurd z h4, fun _ => ⟨fun _ => ⟨_, h.1.2.2.2.1, h.pl.1, s_priceToday h.pl.1 h.pl.2.2.2.1 hp⟩, fun z => absurd h5 z⟩⟩, fun z => absurd h3 z⟩⟩, fun z => absurd h1 z⟩⟩
end ROOM
