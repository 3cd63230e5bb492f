/-! reach -/
def f_bc (p0 : Int32) : Int32 :=
  let y1 := (p0 - (((p0.toUInt32 >>> ((1 : Int32).toUInt32 &&& Int32.toUInt32 31)).toInt32) &&& 1431655765))
  let y3 := ((y1 &&& 858993459) + (((y1.toUInt32 >>> ((2 : Int32).toUInt32 &&& Int32.toUInt32 31)).toInt32) &&& 858993459))
  let y5 := ((y3 + ((y3.toUInt32 >>> ((4 : Int32).toUInt32 &&& Int32.toUInt32 31)).toInt32)) &&& 252645135)
  let y7 := (y5 + ((y5.toUInt32 >>> ((8 : Int32).toUInt32 &&& Int32.toUInt32 31)).toInt32))
  let y9 := (y7 + ((y7.toUInt32 >>> ((16 : Int32).toUInt32 &&& Int32.toUInt32 31)).toInt32))
  y9 &&& 63
theorem s_bits {p : Int32} {T : zT} {F : zF} {Post : Int32 → Prop} (h : Post (f_bc p)) : v_J6_bitCount_0f7a4 p T F Post := by
  intro y1 e1 y3 e3 y5 e5 y7 e7 y9 e9
  subst e1 e3 e5 e7 e9
  exact h
/-- the groups that are reached in a land by the first k -/
noncomputable def f_grp (B : Nat → Nat → Int32) (G : Nat → Int32) (j : Nat) : Nat → Int32
  | 0 => 0
  | k + 1 => f_if (¬ B k 10 = 0 ∧ B k 1 = nI j) (f_grp B G j k ||| G ((B k 2).toNatClampNeg * 4 + j)) (f_grp B G j k)
/-- on how many of the days from s on g isn't 0 -/
def f_off (g : Int32 → Int32) (s : Int32) : Nat → Int32
  | 0 => 0
  | k + 1 => if g (s + nI k) = 0 then f_off g s k else f_off g s k + 1
/-- the days to come, tried out -/
noncomputable def f_dys (n np : Nat) (W : Nat → Nat → Nat → Nat) (fm : Nat → Int32) (V C A : Nat → Nat → Nat → Int32) (td : Int32) (bp : Nat → Nat) (B : Nat → Nat → Int32) : Nat → (Nat → Nat) × (Nat → Nat → Int32) × Int32
  | 0 => (bp, B, td)
  | k + 1 =>
    let s := f_dys n np W fm V C A td bp B k
    ((f_day n np W fm V C A (s.2.2 + 1) s.1 s.2.1).1, (f_day n np W fm V C A (s.2.2 + 1) s.1 s.2.1).2.1, s.2.2 + 1)
theorem f_day_n {n np : Nat} {W : Nat → Nat → Nat → Nat} {fm : Nat → Int32} {V C A : Nat → Nat → Nat → Int32} {td : Int32} {bp : Nat → Nat} {B : Nat → Nat → Int32} {j : Nat} (h : j = 1 ∨ j = 2 ∨ j = 11) (i : Nat) : (f_day n np W fm V C A td bp B).2.1 i j = B i j := by
  show f_show ((f_dls n np W fm V C A td bp (fun i => f_end (B i) td) n).2.1 i) _ j = _
  rw [f_show_n (by omega) (by omega), f_dls_n (by omega), f_end_n (by omega) (by omega)]
theorem f_dys_n {n np : Nat} {W : Nat → Nat → Nat → Nat} {fm : Nat → Int32} {V C A : Nat → Nat → Nat → Int32} {td : Int32} {bp : Nat → Nat} {B : Nat → Nat → Int32} {j : Nat} (h : j = 1 ∨ j = 2 ∨ j = 11) (i : Nat) : ∀ k : Nat, (f_dys n np W fm V C A td bp B k).2.1 i j = B i j
  | 0 => rfl
  | k + 1 => (f_day_n h i).trans (f_dys_n h i k)
theorem f_dys_t {n np : Nat} {W : Nat → Nat → Nat → Nat} {fm : Nat → Int32} {V C A : Nat → Nat → Nat → Int32} {td : Int32} {bp : Nat → Nat} {B : Nat → Nat → Int32} : ∀ k : Nat, (f_dys n np W fm V C A td bp B k).2.2 = td + nI k
  | 0 => (Int32.add_zero td).symm
  | k + 1 => by
    show (f_dys n np W fm V C A td bp B k).2.2 + 1 = _
    rw [f_dys_t k, nI_succ, Int32.add_assoc]
noncomputable def f_lost (n np : Nat) (W : Nat → Nat → Nat → Nat) (fm : Nat → Int32) (V C A : Nat → Nat → Nat → Int32) (td : Int32) (bp : Nat → Nat) (B : Nat → Nat → Int32) (k : Nat) : Int32 := f_cnt (fun i => (f_dys n np W fm V C A td bp B k).2.1 i 6 = 4) 0 n - f_cnt (fun i => B i 6 = 4) 0 n
section ROOM2
variable {T : zT} {F : zF} {zE : Nat} {Q : Nat → Nat} {W : Nat → Nat → Nat → Nat} {np : Nat} {fm as : Nat → Int32} {r : Nat → Nat → Nat} {V : Nat → Nat → Nat → Int32} {CC AA : Nat → Nat → Int32} {G : Nat → Int32} {n : Nat} {bp : Nat → Nat} {B : Nat → Nat → Int32} {td : Int32} {e te nt : Nat} {ba ra : Nat → Nat}
theorem s_groupsOf (h : RmX T F zE Q W np fm as r V CC AA G n bp B td e te nt ba ra) {m j : Nat} (hm : m < 4) (hj : j < 4) {Post : Int32 → Prop} (hp : Post (G (m * 4 + j))) : v_X4_groupsOf (Q 0) (nI m) (nI j) T F Post := by
  have e0 : nI m * 4 + nI j = nI (m * 4 + j) := by
    rw [← nI_add]
    rcases (show m = 0 ∨ m = 1 ∨ m = 2 ∨ m = 3 by omega) with rfl | rfl | rfl | rfl <;> rfl
  have l4 : ∀ {q : Nat}, q < 4 → ¬ (4 : Int32) ≤ nI q := fun hq z => absurd ((nI_leI (a := 4) (b := _) (by omega) (by omega)).mp z) (by omega)
  refine ⟨fun z => absurd z (nI_pos (by omega)), fun _ => ⟨fun z => absurd z (l4 hm), fun _ => ⟨fun z => absurd z (by decide), fun _ => ⟨fun z => absurd z (nI_pos (by omega)), fun _ => ⟨fun z => absurd z (l4 hj), fun _ => ⟨fun z => absurd z (by decide), fun _ => ⟨h.1.1, _, h.1.2.2.1, 16, h.2.2.1.1, ?_, G (m * 4 + j), ?_, hp⟩⟩⟩⟩⟩⟩⟩
  · rw [e0]; exact vp_in_nI (by omega) (by omega)
  · rw [e0, y_nIn (by omega)]; exact h.2.2.1.2 _ (by omega)
theorem s_reach (h : RmX T F zE Q W np fm as r V CC AA G n bp B td e te nt ba ra) {j : Nat} (hj : j < 4) (hm : ∀ i : Nat, i < n → ∃ m : Nat, m < 4 ∧ B i 2 = nI m) {Post : Int32 → Prop} {PX : String → Prop} (hp : Post (f_bc (f_grp B G j n))) : v_X4_reach (Q 0) (nI j) T F Post PX := by
  refine s_needLand hj ⟨h.1.1, ?_⟩
  obtain ⟨p0, p1, p2, p3, p4, p5, p6, p7⟩ := h.pl
  refine ⟨fun m s y => ∃ k : Nat, k ≤ n ∧ m = n - k ∧ y.toInt = k ∧ s = f_grp B G j k, ⟨n, 0, Nat.zero_le _, rfl, by decide, rfl⟩, ?_⟩
  rintro m s y ⟨k, hkn, rfl, hy, rfl⟩
  have e0 : y = nI k := y_nI hy (by omega)
  subst e0
  obtain ⟨L1, L2⟩ := y_lp hkn (by omega)
  refine ⟨h.1.1, _, h.1.2.2.2.1, p0, _, p1, p4.1, s_size p4 ⟨fun hge => ?_, fun hlt => ?_⟩⟩
  · have := L1 hge
    subst this
    exact s_bits hp
  · have hk1 := L2 hlt
    have hb := (p6 k hk1).1
    have st : ∀ v : Int32, f_grp B G j (k + 1) = v → ∃ n16 : Nat, n16 < n - k ∧ ∃ k' : Nat, k' ≤ n ∧ n16 = n - k' ∧ (nI k + 1).toInt = k' ∧ v = f_grp B G j k' := fun v hv => ⟨n - (k + 1), by omega, k + 1, by omega, rfl, y_inc hy (by omega), hv.symm⟩
    obtain ⟨m, hm4, em⟩ := hm k hk1
    refine s_get p4 hk1 ⟨hb.1, B k 10, hb.i 10, fun e0 => st _ (f_if_f fun z => z.1 e0), fun n0 => ⟨B k 1, hb.i 1, fun ne => st _ (f_if_f fun z => ne z.2), fun eq => ⟨B k 2, hb.i 2, ?_⟩⟩⟩
    rw [em]
    refine s_groupsOf h hm4 hj (st _ ?_)
    have e5 : f_grp B G j (k + 1) = f_grp B G j k ||| G ((B k 2).toNatClampNeg * 4 + j) := f_if_t ⟨n0, eq⟩
    rw [em, y_nIn (by omega)] at e5
    exact e5
/-- how many days of a booking that are to come its piece can't be shown -/
noncomputable def f_ofn (W : Nat → Nat → Nat → Nat) (r : Nat → Nat → Nat) (V : Nat → Nat → Nat → Int32) (CC AA : Nat → Nat → Int32) (bp : Nat → Nat) (B : Nat → Nat → Int32) (td : Int32) (i : Nat) : Int32 :=
  f_off (fun d => f_rs (W 4 (bp i) 0) (fun q => CC (r (bp i) q)) (fun q => AA (r (bp i) q)) (V (bp i) (ld (B i))) (B i 1) d) (if B i 3 < td then td else B i 3) ((B i 4).toInt - (if B i 3 < td then td else B i 3).toInt + 1).toNat
theorem s_offIn (h : RmX T F zE Q W np fm as r V CC AA G n bp B td e te nt ba ra) {i : Nat} (hi : i < n) (hl : ∃ j : Nat, j < 4 ∧ B i 1 = nI j) (h3 : 0 ≤ (B i 3).toInt ∧ (B i 3).toInt ≤ 200) (h4 : 0 ≤ (B i 4).toInt ∧ (B i 4).toInt ≤ 200) (ht : 0 ≤ td.toInt ∧ td.toInt ≤ 200) {Post : Int32 → Prop} {PX : String → Prop} (hp : Post (f_ofn W r V CC AA bp B td i)) : v_X4_offIn (Q 0) (nI i) T F Post PX := by
  obtain ⟨j4, ej⟩ := y_ld hl
  have hb := h.pl.at hi
  obtain ⟨pc, pa⟩ := h.pw.2.2.1 _ (h.pl.2.2.2.2.2.2.1 i hi).2
  unfold f_ofn at hp
  generalize hs : (if B i 3 < td then td else B i 3) = s0 at hp
  have hs0 : 0 ≤ s0.toInt ∧ s0.toInt ≤ 200 := by rw [← hs]; split <;> assumption
  refine ⟨h.1.1, s_bookingAt h hi ⟨hb.1, B i 3, hb.i 3, _, h.1.2.2.2.1, h.pl.1, td, h.pl.2.2.2.1, ?_⟩⟩
  rw [hs]
  refine ⟨fun m c y => ∃ k : Nat, k ≤ ((B i 4).toInt - s0.toInt + 1).toNat ∧ m = ((B i 4).toInt - s0.toInt + 1).toNat - k ∧ y = s0 + nI k ∧ c = f_off (fun d => f_rs (W 4 (bp i) 0) (fun q => CC (r (bp i) q)) (fun q => AA (r (bp i) q)) (V (bp i) (ld (B i))) (B i 1) d) s0 k, ⟨_, 0, Nat.zero_le _, rfl, (Int32.add_zero s0).symm, rfl⟩, ?_⟩
  rintro m c y ⟨k, hk, rfl, rfl, rfl⟩
  have hk500 : k < 500 := by omega
  have hyt : (s0 + nI k).toInt = s0.toInt + k := by
    rw [Int32.toInt_add, y_nIc (by omega), Int.bmod_def]
    omega
  refine ⟨B i 4, hb.i 4, fun hlt => ?_, fun hge => ⟨W 0 (bp i) 0, hb.2.1, B i 1, hb.i 1, pc.1, ?_⟩⟩
  · rw [Int32.lt_iff_toInt_lt, hyt] at hlt
    have : k = ((B i 4).toInt - s0.toInt + 1).toNat := by omega
    rw [← this] at hp
    exact hp
  · rw [Int32.lt_iff_toInt_lt, hyt] at hge
    have hk1 : k < ((B i 4).toInt - s0.toInt + 1).toNat := by omega
    have es : s0 + nI k + 1 = s0 + nI (k + 1) := by rw [nI_succ, Int32.add_assoc]
    have st0 : f_rs (W 4 (bp i) 0) (fun q => CC (r (bp i) q)) (fun q => AA (r (bp i) q)) (V (bp i) (ld (B i))) (B i 1) (s0 + nI k) = 0 → f_off (fun d => f_rs (W 4 (bp i) 0) (fun q => CC (r (bp i) q)) (fun q => AA (r (bp i) q)) (V (bp i) (ld (B i))) (B i 1) d) s0 k = f_off (fun d => f_rs (W 4 (bp i) 0) (fun q => CC (r (bp i) q)) (fun q => AA (r (bp i) q)) (V (bp i) (ld (B i))) (B i 1) d) s0 (k + 1) := fun z => (if_pos z).symm
    have st1 : ¬ f_rs (W 4 (bp i) 0) (fun q => CC (r (bp i) q)) (fun q => AA (r (bp i) q)) (V (bp i) (ld (B i))) (B i 1) (s0 + nI k) = 0 → f_off (fun d => f_rs (W 4 (bp i) 0) (fun q => CC (r (bp i) q)) (fun q => AA (r (bp i) q)) (V (bp i) (ld (B i))) (B i 1) d) s0 k + 1 = f_off (fun d => f_rs (W 4 (bp i) 0) (fun q => CC (r (bp i) q)) (fun q => AA (r (bp i) q)) (V (bp i) (ld (B i))) (B i 1) d) s0 (k + 1) := fun z => (if_neg z).symm
    rw [ej] at st0 st1 ⊢
    refine s_reasonOn pc pa j4 fun r' hr => ?_
    have er := p_rs_one hr f_rs_p
    refine ⟨fun z => ⟨_, ?_, k + 1, hk1, rfl, es, ?_⟩, fun z => ⟨_, ?_, k + 1, hk1, rfl, es, ?_⟩⟩
    · omega
    · rw [er] at z
      exact st0 z
    · omega
    · rw [er] at z
      exact st1 z
end ROOM2
