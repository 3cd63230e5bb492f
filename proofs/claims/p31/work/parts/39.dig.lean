/-! what would be, and the digest: the trial alone changes -/
def f_fold (g : Nat → Int32) (s : Int64) : Nat → Int64
  | 0 => s
  | k + 1 => f_fold g s k * 31 + (g k).toInt64
def f_vs (CC : Nat → Nat → Int32) (td : Int32) (s : Int64) : Nat → Int64
  | 0 => s
  | k + 1 => (f_vs CC td s k * 31 + (f_ver (CC k) td).toInt64) * 31 + (f_ver (CC k) 99).toInt64
def f_lm (td d : Int32) : Nat := (if ((99 : Int32) - td) < d then ((99 : Int32) - td) else d).toInt.toNat
section DIG
variable {T : zT} {F : zF} {zE : Nat} {Q : Nat → Nat} {W : Nat → Nat → Nat → Nat} {np : Nat} {fm as : Nat → Int32} {r : Nat → Nat → Nat} {V : Nat → Nat → Nat → Int32} {CC AA : Nat → Nat → Int32} {G : Nat → Int32} {n : Nat} {bp : Nat → Nat} {B : Nat → Nat → Int32} {td : Int32} {e te nt : Nat} {ba ra : Nat → Nat}
/-- each of its cells is there -/
theorem RmX.kd (h : RmX T F zE Q W np fm as r V CC AA G n bp B td e te nt ba ra) {a : Nat} (ha : inRm Q W np n e ba a) : ∃ t : Nat × Nat, T a = some t := by
  obtain ⟨h0, h1, h2, h3, h4, -, -⟩ := h
  rcases ha with ha | ha | ha | ha | ⟨k, hk, ha | ha⟩ | ha | ha | ha | ha | ⟨i, hi, ha⟩
  · rw [ha]; exact ⟨_, h0.1⟩
  · rw [ha]; exact ⟨_, h1.1.1⟩
  · obtain ⟨c, hc, -⟩ := h1.1.2.2.2.1
    rw [ha]; exact ⟨_, hc⟩
  · rw [ha]; exact ⟨_, h2.1⟩
  · rw [ha]; exact ⟨_, (h1.2 k hk).1⟩
  · rw [ha]; exact ⟨_, (h1.2 k hk).2.2.1⟩
  · obtain ⟨t, ht, -⟩ := h3.1.kd ha
    exact ⟨t, ht⟩
  · rw [ha]; exact ⟨_, h4.1.1⟩
  · rw [ha]; exact ⟨_, h4.1.2.2.2.2.1.1⟩
  · obtain ⟨c, hc, -⟩ := h4.1.2.2.2.2.1.2.2.2.1
    rw [ha]; exact ⟨_, hc⟩
  · rw [ha]; exact ⟨_, (h4.1.at hi).1⟩
/-- what changes no cell of it -/
theorem RmX.kp {X : Nat → Prop} {T' : zT} {F' : zF} {te' nt' : Nat} {ra' : Nat → Nat} (h : RmX T F zE Q W np fm as r V CC AA G n bp B td e te nt ba ra) (k : yE X T F T' F') (hX : ∀ a : Nat, inRm Q W np n e ba a → ¬ X a) (hT : zTr T' F' (Q 5) (Q 9) te' nt' ra' zE) (hn : nt' ≤ n) (hS : Sep T' zE Q W np n e te' nt' ba ra') : RmX T' F' zE Q W np fm as r V CC AA G n bp B td e te' nt' ba ra' := by
  obtain ⟨⟨a0, a1, a2, a3, a4⟩, ⟨l0, l1⟩, ⟨g0, g1⟩, ⟨w0, w1⟩, ⟨p0, p1⟩, ⟨t0, t1, t2⟩, s⟩ := h
  have k0 := (k _ _ a0).2 (hX _ (Or.inl rfl))
  exact ⟨⟨(k _ _ a0).1, (k0 0).trans a1, (k0 1).trans a2, (k0 2).trans a3, (k0 3).trans a4⟩, ⟨l0.kp k (hX _ (Or.inr (Or.inl rfl))) (hX _ (Or.inr (Or.inr (Or.inl rfl)))), fun j hj => (l1 j hj).kp k (hX _ (Or.inr (Or.inr (Or.inr (Or.inr (Or.inl ⟨j, hj, Or.inl rfl⟩)))))) (hX _ (Or.inr (Or.inr (Or.inr (Or.inr (Or.inl ⟨j, hj, Or.inr rfl⟩))))))⟩, ⟨(k _ _ g0).1, fun j hj => ((k _ _ g0).2 (hX _ (Or.inr (Or.inr (Or.inr (Or.inl rfl))))) j).trans (g1 j hj)⟩, ⟨w0.kp k fun a ha => hX a (Or.inr (Or.inr (Or.inr (Or.inr (Or.inr (Or.inl ha)))))), w1⟩, ⟨p0.kp k fun a ha => hX a (Or.inr (Or.inr (Or.inr (Or.inr (Or.inr (Or.inr ha)))))), p1.kp k⟩, ⟨hT, hn, (k _ _ t2).1⟩, hS⟩
/-- the trial with other rows -/
theorem RmX.sep {T' : zT} {F' : zF} {te' : Nat} {ra' : Nat → Nat} (h : RmX T F zE Q W np fm as r V CC AA G n bp B td e te nt ba ra) (k : yE (zTs T (Q 5) (Q 9) te nt ra) T F T' F') (c2 : te' = te ∨ T te' = none) (c3 : ∀ i : Nat, i < n → (i < nt ∧ ra' i = ra i) ∨ T (ra' i) = none) : Sep T' zE Q W np n e te' n ba ra' := by
  obtain ⟨s1, s2, s3, s4, s5, s6, s7⟩ := h.2.2.2.2.2.2
  refine ⟨fun a ha => ?_, s2, fun he => ?_, s4, s5, s6, s7⟩
  · obtain ⟨t, ht⟩ := h.kd ha
    have hs := s1 a ha
    rintro (g | g | ⟨g, g2⟩ | ⟨i, hi, g⟩)
    · exact hs (Or.inl g)
    · exact hs (Or.inr (Or.inl g))
    · rcases c2 with c2 | c2
      · refine hs (Or.inr (Or.inr (Or.inl ⟨g.trans c2, fun z => g2 ?_⟩)))
        rw [c2]
        exact (k _ _ z).1
      · rw [g, c2] at ht; cases ht
    · rcases c3 i hi with ⟨q, q2⟩ | q
      · exact hs (Or.inr (Or.inr (Or.inr ⟨i, q, g.trans q2⟩)))
      · rw [g, q] at ht; cases ht
  · obtain ⟨q1, q2, q3, q4⟩ := s3 fun z => he (k _ _ z).1
    refine ⟨q1, q2, fun g => ?_, q4⟩
    rcases c2 with c2 | c2
    · exact q3 (g.trans c2)
    · obtain ⟨c, hc, -⟩ := h.pl.2.2.2.2.1.2.2.2.1
      rw [g, c2] at hc; cases hc
theorem s_lostIn (h : RmX T F zE Q W np fm as r V CC AA G n bp B td e te nt ba ra) {d : Nat} (hd1 : 1 ≤ d) (hd : d ≤ 30) (ht : 0 ≤ td.toInt ∧ td.toInt ≤ 99) (hl : ∀ i : Nat, i < n → ∃ j : Nat, j < 4 ∧ B i 1 = nI j) {Post : Int32 → zT → zF → Prop} {PX : String → zT → zF → Prop} (hp : ∀ (T' : zT) (F' : zF) (te' : Nat) (ra' : Nat → Nat), yE (zTs T (Q 5) (Q 9) te nt ra) T F T' F' → RmX T' F' zE Q W np fm as r V CC AA G n bp B td e te' n ba ra' → Post (f_lost n np W fm V (fun k i => CC (r k i)) (fun k i => AA (r k i)) td bp B (f_lm td (nI d))) T' F') : v_X4_lostIn zE (Q 0) (nI d) T F Post PX := by
  have hdd : (nI d).toInt = (d : Int) := y_nIc (by omega)
  obtain ⟨⟨a0, a1, a2, a3, a4⟩, -, -, -, ⟨p0, p1⟩, ⟨t0, t1, t2⟩, s⟩ := id h
  have nz := s.1
  refine ⟨fun z => ?_, fun _ => ⟨fun _ => ⟨a0, _, a4, _, a3, t0.1, s_copyFrom t0 p0 (fun a ha => nz a (Or.inr (Or.inr (Or.inr (Or.inr (Or.inr (Or.inr ha))))))) t1 fun T1 F1 te1 ra1 k1 q1 c1 c2 c3 => ?_⟩, fun z => ?_⟩⟩
  · rw [Int32.lt_iff_toInt_lt, hdd, show (1 : Int32).toInt = 1 by decide] at z
    omega
  · have k10 := (k1 _ _ a0).2 (nz _ (Or.inl rfl))
    have p1' := p0.kp k1 (fun a ha => nz a (Or.inr (Or.inr (Or.inr (Or.inr (Or.inr (Or.inr ha)))))))
    refine ⟨(k1 _ _ a0).1, _, (k10 2).trans a3, p1'.1, td, p1'.2.2.2.1, fun y hy => ?_⟩
    have hy0 : y.toInt.toNat = f_lm td (nI d) := by rw [hy]; rfl
    have hyr : 0 ≤ y.toInt ∧ y.toInt ≤ 30 := by
      have e99 : ((99 : Int32) - td).toInt = 99 - td.toInt := by
        rw [Int32.toInt_sub, show (99 : Int32).toInt = 99 by decide, Int.bmod_def]
        omega
      rw [hy]
      by_cases z : ((99 : Int32) - td) < nI d
      · rw [if_pos z, e99]
        rw [Int32.lt_iff_toInt_lt, e99, hdd] at z
        omega
      · rw [if_neg z, hdd]
        omega
    generalize f_lm td (nI d) = m at hp hy0
    have hym : y.toInt = (m : Int) := by omega
    have hm30 : m ≤ 30 := by omega
    refine ⟨fun j x F2 => ∃ k : Nat, k ≤ m ∧ j = m - k ∧ x.toInt = k ∧ yE (fun a => a = Q 5 ∨ ∃ i : Nat, i < n ∧ a = ra1 i) T1 F1 T1 F2 ∧ zPl T1 F2 (Q 5) (Q 9) te1 n ra1 W np (Q 6) (f_dys n np W fm V (fun k i => CC (r k i)) (fun k i => AA (r k i)) td bp B k).1 (f_dys n np W fm V (fun k i => CC (r k i)) (fun k i => AA (r k i)) td bp B k).2.1 (f_dys n np W fm V (fun k i => CC (r k i)) (fun k i => AA (r k i)) td bp B k).2.2, ⟨m, 0, Nat.zero_le _, rfl, by decide, yE.rf, q1⟩, ?_⟩
    rintro j x F2 ⟨k, hk, rfl, hx, k2, q2⟩
    have e0 : x = nI k := y_nI hx (by omega)
    subst e0
    have kT : yE (zTs T (Q 5) (Q 9) te nt ra) T F T1 F2 := fun a t ha => by
      have b1 := k1 a t ha
      refine ⟨b1.1, fun hp' j => ((k2 a t b1.1).2 (fun g => ?_) j).trans (b1.2 hp' j)⟩
      rcases g with g | ⟨i, hi, g⟩
      · exact hp' (Or.inl g)
      · rcases c3 i hi with ⟨q, q3⟩ | q
        · exact hp' (Or.inr (Or.inr (Or.inr ⟨i, q, g.trans q3⟩)))
        · rw [g, q] at ha; cases ha
    have h2 : RmX T1 F2 zE Q W np fm as r V CC AA G n bp B td e te1 n ba ra1 := h.kp kT nz ⟨q2.1, q2.2.1, ⟨_, q2.2.2.1⟩, ⟨_, q2.2.2.2.1⟩, q2.2.2.2.2.1, c1, q2.2.2.2.2.2.1, fun i hi => ⟨_, _, (q2.2.2.2.2.2.2.1 i hi).1⟩, q2.2.2.2.2.2.2.2⟩ (Nat.le_refl _) (h.sep kT c2 c3)
    obtain ⟨⟨b0, b1, b2, b3, b4⟩, -⟩ := id h2
    refine ⟨fun hge => ⟨_, b4, q2.1, s_countInState q2 ⟨_, b3, h2.pl.1, s_countInState h2.pl ?_⟩⟩, fun hlt => ⟨_, b4, q2.1, ?_⟩⟩
    · have : k = m := by
        rw [Int32.le_iff_toInt_le, hym, hx] at hge
        omega
      subst this
      exact hp T1 F2 te1 ra1 kT h2
    · have hk1 : k < m := by
        rw [Int32.le_iff_toInt_le, hym, hx] at hlt
        omega
      refine s_beginDay q2 h2.pw (fun i hi => ?_) fun F3 k3 q3 => ⟨m - (k + 1), by omega, k + 1, by omega, rfl, y_inc hx (by omega), k2.tr k3, q3⟩
      obtain ⟨j, hj, ej⟩ := hl i hi
      exact ⟨j, hj, (f_dys_n (Or.inl rfl) i k).trans ej⟩
  · rw [Int32.le_iff_toInt_le, hdd, show (30 : Int32).toInt = 30 by decide] at z
    omega
noncomputable def f_aP (W : Nat → Nat → Nat → Nat) (fm as : Nat → Int32) (r : Nat → Nat → Nat) (V : Nat → Nat → Nat → Int32) (CC AA : Nat → Nat → Int32) (n : Nat) (bp : Nat → Nat) (B : Nat → Nat → Int32) (td : Int32) (k : Nat) (s : Int64) : Int64 :=
  f_fold (fun j => f_rs (W 4 k 0) (fun i => CC (r k i)) (fun i => AA (r k i)) (V k j) (nI j) td) (f_fold (fun j => f_ofP W fm as r V CC n bp B td k j) s 5) 4
theorem s_addPiece (h : RmX T F zE Q W np fm as r V CC AA G n bp B td e te nt ba ra) {k : Nat} (hk : k < np) (ht : 0 ≤ td.toInt ∧ td.toInt ≤ 99) {s : Int64} {Post : Int64 → Prop} (hp : Post (f_aP W fm as r V CC AA n bp B td k s)) : v_X4_addPiece (Q 0) s (nI k) T F Post := by
  refine ⟨fun m v y => ∃ q : Nat, q ≤ 5 ∧ m = 5 - q ∧ y.toInt = q ∧ v = f_fold (fun j => f_ofP W fm as r V CC n bp B td k j) s q, ⟨5, 0, by decide, rfl, by decide, rfl⟩, ?_⟩
  rintro m v y ⟨q, hq, rfl, hy, rfl⟩
  have e0 : y = nI q := y_nI hy (by omega)
  subst e0
  refine ⟨fun hgt => ?_, fun hle => ?_⟩
  · have : q = 5 := by
      rw [Int32.lt_iff_toInt_lt, hy, show (4 : Int32).toInt = 4 by decide] at hgt
      omega
    subst this
    refine ⟨fun m v y => ∃ q : Nat, q ≤ 4 ∧ m = 4 - q ∧ y.toInt = q ∧ v = f_fold (fun j => f_rs (W 4 k 0) (fun i => CC (r k i)) (fun i => AA (r k i)) (V k j) (nI j) td) (f_fold (fun j => f_ofP W fm as r V CC n bp B td k j) s 5) q, ⟨4, 0, by decide, rfl, by decide, rfl⟩, ?_⟩
    rintro m v y ⟨q, hq, rfl, hy, rfl⟩
    have e0 : y = nI q := y_nI hy (by omega)
    subst e0
    obtain ⟨L1, L2⟩ := y_lp (n := 4) hq (by omega)
    refine ⟨fun hge => ?_, fun hlt => ?_⟩
    · have := L1 hge
      subst this
      exact hp
    · have hq4 := L2 hlt
      exact ⟨h.1.1, _, h.1.2.2.2.1, h.pl.1, td, h.pl.2.2.2.1, s_reason h hk hq4 ht.1 ht.2 ⟨4 - (q + 1), by omega, q + 1, by omega, rfl, y_inc hy (by omega), rfl⟩⟩
  · have hq5 : q ≤ 4 := by
      rw [Int32.lt_iff_toInt_lt, hy, show (4 : Int32).toInt = 4 by decide] at hle
      omega
    exact ⟨h.1.1, s_ofPiece h hk hq5 ⟨5 - (q + 1), by omega, q + 1, by omega, rfl, y_inc hy (by omega), rfl⟩⟩
noncomputable def f_aB (np : Nat) (W : Nat → Nat → Nat → Nat) (fm : Nat → Int32) (r : Nat → Nat → Nat) (V : Nat → Nat → Nat → Int32) (CC AA : Nat → Nat → Int32) (n : Nat) (bp : Nat → Nat) (B : Nat → Nat → Int32) (td : Int32) (i : Nat) (s : Int64) : Int64 :=
  (f_fold (fun j => f_ofB bp B i j) s 12 * 31 + (f_oi (f_sw n np W fm r V CC AA bp B td i)).toInt64) * 31 + (f_ofn W r V CC AA bp B td i).toInt64
/-- the numbers of a booking are in their bounds -/
def p_bd (b : Nat → Int32) : Prop := (∃ j : Nat, j < 4 ∧ b 1 = nI j) ∧ (∃ j : Nat, j < 4 ∧ b 2 = nI j) ∧ (0 ≤ (b 3).toInt ∧ (b 3).toInt ≤ 200) ∧ (0 ≤ (b 4).toInt ∧ (b 4).toInt ≤ 200)
theorem s_addBooking (h : RmX T F zE Q W np fm as r V CC AA G n bp B td e te nt ba ra) {i : Nat} (hi : i < n) (ht : 0 ≤ td.toInt ∧ td.toInt ≤ 99) (hb : p_bd (B i)) {s : Int64} {Post : Int64 → Prop} (hp : Post (f_aB np W fm r V CC AA n bp B td i s)) : v_X4_addBooking (Q 0) s (nI i) T F Post := by
  refine ⟨fun m v y => ∃ q : Nat, q ≤ 12 ∧ m = 12 - q ∧ y.toInt = q ∧ v = f_fold (fun j => f_ofB bp B i j) s q, ⟨12, 0, by decide, rfl, by decide, rfl⟩, ?_⟩
  rintro m v y ⟨q, hq, rfl, hy, rfl⟩
  have e0 : y = nI q := y_nI hy (by omega)
  subst e0
  refine ⟨fun hgt => ?_, fun hle => ?_⟩
  · have : q = 12 := by
      rw [Int32.lt_iff_toInt_lt, hy, show (11 : Int32).toInt = 11 by decide] at hgt
      omega
    subst this
    exact ⟨h.1.1, s_swapFor h hi hb.1 (s_offIn h hi hb.1 hb.2.2.1 hb.2.2.2 ⟨ht.1, by omega⟩ hp)⟩
  · have hq11 : q ≤ 11 := by
      rw [Int32.lt_iff_toInt_lt, hy, show (11 : Int32).toInt = 11 by decide] at hle
      omega
    exact ⟨h.1.1, s_ofBooking h hi hq11 ⟨12 - (q + 1), by omega, q + 1, by omega, rfl, y_inc hy (by omega), rfl⟩⟩
noncomputable def f_aPs (W : Nat → Nat → Nat → Nat) (fm as : Nat → Int32) (r : Nat → Nat → Nat) (V : Nat → Nat → Nat → Int32) (CC AA : Nat → Nat → Int32) (n : Nat) (bp : Nat → Nat) (B : Nat → Nat → Int32) (td : Int32) (s : Int64) : Nat → Int64
  | 0 => s
  | k + 1 => f_aP W fm as r V CC AA n bp B td k (f_aPs W fm as r V CC AA n bp B td s k)
noncomputable def f_aBs (np : Nat) (W : Nat → Nat → Nat → Nat) (fm : Nat → Int32) (r : Nat → Nat → Nat) (V : Nat → Nat → Nat → Int32) (CC AA : Nat → Nat → Int32) (n : Nat) (bp : Nat → Nat) (B : Nat → Nat → Int32) (td : Int32) (s : Int64) : Nat → Int64
  | 0 => s
  | k + 1 => f_aB np W fm r V CC AA n bp B td k (f_aBs np W fm r V CC AA n bp B td s k)
noncomputable def f_dig1 (np n : Nat) (B : Nat → Nat → Int32) (td : Int32) : Int64 := f_fold (f_many np n B td) 5741 11
noncomputable def f_dig2 (np : Nat) (CC : Nat → Nat → Int32) (n : Nat) (B : Nat → Nat → Int32) (td : Int32) : Int64 := f_vs CC td (f_dig1 np n B td) 3
noncomputable def f_dig3 (np : Nat) (W : Nat → Nat → Nat → Nat) (fm as : Nat → Int32) (r : Nat → Nat → Nat) (V : Nat → Nat → Nat → Int32) (CC AA : Nat → Nat → Int32) (n : Nat) (bp : Nat → Nat) (B : Nat → Nat → Int32) (td : Int32) : Int64 := f_aPs W fm as r V CC AA n bp B td (f_dig2 np CC n B td) np
noncomputable def f_dig4 (np : Nat) (W : Nat → Nat → Nat → Nat) (fm as : Nat → Int32) (r : Nat → Nat → Nat) (V : Nat → Nat → Nat → Int32) (CC AA : Nat → Nat → Int32) (n : Nat) (bp : Nat → Nat) (B : Nat → Nat → Int32) (td : Int32) : Int64 := f_aBs np W fm r V CC AA n bp B td (f_dig3 np W fm as r V CC AA n bp B td) n
noncomputable def f_dig5 (np : Nat) (W : Nat → Nat → Nat → Nat) (fm as : Nat → Int32) (r : Nat → Nat → Nat) (V : Nat → Nat → Nat → Int32) (CC AA : Nat → Nat → Int32) (G : Nat → Int32) (n : Nat) (bp : Nat → Nat) (B : Nat → Nat → Int32) (td : Int32) : Int64 := f_fold (fun j => f_bc (f_grp B G j n)) (f_dig4 np W fm as r V CC AA n bp B td) 4
noncomputable def f_dig (np : Nat) (W : Nat → Nat → Nat → Nat) (fm as : Nat → Int32) (r : Nat → Nat → Nat) (V : Nat → Nat → Nat → Int32) (CC AA : Nat → Nat → Int32) (G : Nat → Int32) (n : Nat) (bp : Nat → Nat) (B : Nat → Nat → Int32) (td : Int32) : Int64 := f_dig5 np W fm as r V CC AA G n bp B td * 31 + (f_lost n np W fm V (fun k i => CC (r k i)) (fun k i => AA (r k i)) td bp B (f_lm td (nI 20))).toInt64
theorem s_digest (h : RmX T F zE Q W np fm as r V CC AA G n bp B td e te nt ba ra) (ht : 0 ≤ td.toInt ∧ td.toInt ≤ 99) (hb : ∀ i : Nat, i < n → p_bd (B i)) {Post : Int64 → zT → zF → Prop} (hp : ∀ (T' : zT) (F' : zF) (te' : Nat) (ra' : Nat → Nat), yE (zTs T (Q 5) (Q 9) te nt ra) T F T' F' → RmX T' F' zE Q W np fm as r V CC AA G n bp B td e te' n ba ra' → Post (f_dig np W fm as r V CC AA G n bp B td) T' F') : v_X4_digest zE (Q 0) T F Post := by
  obtain ⟨⟨a0, a1, a2, a3, a4⟩, ⟨l0, l1⟩, -⟩ := id h
  obtain ⟨p0, p1, p2, p3, p4, p5, p6, p7⟩ := h.pl
  have hW := h.pw
  have hnp := hW.2.1
  refine ⟨fun m v y => ∃ q : Nat, q ≤ 11 ∧ m = 11 - q ∧ y.toInt = q ∧ v = f_fold (f_many np n B td) 5741 q, ⟨11, 0, by decide, rfl, by decide, rfl⟩, ?_⟩
  rintro m v y ⟨q, hq, rfl, hy, rfl⟩
  have e0 : y = nI q := y_nI hy (by omega)
  subst e0
  refine ⟨fun hgt => ?_, fun hle => ?_⟩
  · have : q = 11 := by
      rw [Int32.lt_iff_toInt_lt, hy, show (10 : Int32).toInt = 10 by decide] at hgt
      omega
    subst this
    -- the versions
    refine ⟨fun m v y => ∃ q : Nat, q ≤ 3 ∧ m = 3 - q ∧ y.toInt = q ∧ v = f_vs CC td (f_dig1 np n B td) q, ⟨3, 0, by decide, rfl, by decide, rfl⟩, ?_⟩
    rintro m v y ⟨q, hq, rfl, hy, rfl⟩
    have e0 : y = nI q := y_nI hy (by omega)
    subst e0
    obtain ⟨L1, L2⟩ := y_lp hq (by omega)
    refine ⟨a0, _, a1, l0.1, s_size l0 ⟨fun hge => ?_, fun hlt => ?_⟩⟩
    · have := L1 hge
      subst this
      -- the pieces
      refine ⟨fun m v y => ∃ q : Nat, q ≤ np ∧ m = np - q ∧ y.toInt = q ∧ v = f_aPs W fm as r V CC AA n bp B td (f_dig2 np CC n B td) q, ⟨np, 0, Nat.zero_le _, rfl, by decide, rfl⟩, ?_⟩
      rintro m v y ⟨q, hq, rfl, hy, rfl⟩
      have e0 : y = nI q := y_nI hy (by omega)
      subst e0
      obtain ⟨L1, L2⟩ := y_lp hq (by omega)
      refine ⟨_, a3, p0, _, p2, hW.1.1, s_size hW.1 ⟨fun hge => ?_, fun hlt => ?_⟩⟩
      · have := L1 hge
        subst this
        -- the bookings
        refine ⟨fun m v y => ∃ k : Nat, k ≤ n ∧ m = n - k ∧ y.toInt = k ∧ v = f_aBs q W fm r V CC AA n bp B td (f_dig3 q W fm as r V CC AA n bp B td) k, ⟨n, 0, Nat.zero_le _, rfl, by decide, rfl⟩, ?_⟩
        rintro m v y ⟨k, hk, rfl, hy, rfl⟩
        have e0 : y = nI k := y_nI hy (by omega)
        subst e0
        obtain ⟨L1, L2⟩ := y_lp hk (by omega)
        refine ⟨_, p1, p4.1, s_size p4 ⟨fun hge => ?_, fun hlt => ?_⟩⟩
        · have := L1 hge
          subst this
          -- what is reached
          refine ⟨fun m v y => ∃ j : Nat, j ≤ 4 ∧ m = 4 - j ∧ y.toInt = j ∧ v = f_fold (fun j => f_bc (f_grp B G j k)) (f_dig4 q W fm as r V CC AA k bp B td) j, ⟨4, 0, by decide, rfl, by decide, rfl⟩, ?_⟩
          rintro m v y ⟨j, hj, rfl, hy, rfl⟩
          have e0 : y = nI j := y_nI hy (by omega)
          subst e0
          obtain ⟨L1, L2⟩ := y_lp (n := 4) hj (by omega)
          refine ⟨fun hge => ?_, fun hlt => ?_⟩
          · have := L1 hge
            subst this
            exact s_lostIn h (d := 20) (by decide) (by decide) ht (fun i hi => (hb i hi).1) fun T' F' te' ra' k' h' => hp T' F' te' ra' k' h'
          · have hj4 := L2 hlt
            exact s_reach h hj4 (fun i hi => (hb i hi).2.1) ⟨4 - (j + 1), by omega, j + 1, by omega, rfl, y_inc hy (by omega), rfl⟩
        · have hk1 := L2 hlt
          exact s_addBooking h hk1 ht (hb k hk1) ⟨n - (k + 1), by omega, k + 1, by omega, rfl, y_inc hy (by omega), rfl⟩
      · have hq1 := L2 hlt
        exact s_addPiece h hq1 ht ⟨np - (q + 1), by omega, q + 1, by omega, rfl, y_inc hy (by omega), rfl⟩
    · have hq1 := L2 hlt
      exact ⟨_, a3, p0, td, p3, s_versionOn h hq1 ht.1 ht.2 (s_versionOn h hq1 (d := 99) (by decide) (by decide) ⟨3 - (q + 1), by omega, q + 1, by omega, rfl, y_inc hy (by omega), rfl⟩)⟩
  · have hq10 : q ≤ 10 := by
      rw [Int32.lt_iff_toInt_lt, hy, show (10 : Int32).toInt = 10 by decide] at hle
      omega
    exact ⟨a0, s_many h hq10 ⟨11 - (q + 1), by omega, q + 1, by omega, rfl, y_inc hy (by omega), rfl⟩⟩
end DIG
