/-! the law's look at the places -/
theorem bc_all : ∀ k : Fin 1024, 0 ≤ (f_bc (nI k.val)).toInt ∧ (f_bc (nI k.val)).toInt ≤ 10 := by decide +kernel
theorem bc_le {p : Int32} (h0 : 0 ≤ p.toInt) (h1 : p.toInt ≤ 1023) : 0 ≤ (f_bc p).toInt ∧ (f_bc p).toInt ≤ 10 := by
  have e : p = nI p.toInt.toNat := Int32.toInt_inj.mp (by rw [nI_toInt (by omega)]; omega)
  rw [e]
  exact bc_all ⟨p.toInt.toNat, by omega⟩
theorem or_le {p q : Int32} (h0 : 0 ≤ p.toInt) (h1 : p.toInt ≤ 1023) (g0 : 0 ≤ q.toInt) (g1 : q.toInt ≤ 1023) : 0 ≤ (p ||| q).toInt ∧ (p ||| q).toInt ≤ 1023 := by
  have hx : ∀ x : Int32, 0 ≤ x.toInt → x.toInt = (x.toBitVec.toNat : Int) := fun x hx => by
    have e : x.toInt = x.toBitVec.toInt := rfl
    rw [e, BitVec.toInt_eq_toNat_cond] at hx ⊢
    have := x.toBitVec.isLt
    split at hx <;> rename_i g
    · rw [if_pos g]
    · omega
  have ep := hx p h0
  have eq := hx q g0
  have e : (p ||| q).toInt = (p.toBitVec ||| q.toBitVec).toInt := rfl
  have lt : (p.toBitVec.toNat ||| q.toBitVec.toNat) < 2 ^ 10 := Nat.or_lt_two_pow (by omega) (by omega)
  rw [e, BitVec.toInt_eq_toNat_cond, BitVec.toNat_or, if_pos (by omega)]
  omega
theorem grp_le {B : Nat → Nat → Int32} {G : Nat → Int32} {j : Nat} (hj : j < 4) (hG : ∀ x : Nat, x < 16 → 0 ≤ (G x).toInt ∧ (G x).toInt ≤ 1023) : ∀ k : Nat, (∀ i : Nat, i < k → ∃ m : Nat, m < 4 ∧ B i 2 = nI m) → 0 ≤ (f_grp B G j k).toInt ∧ (f_grp B G j k).toInt ≤ 1023
  | 0, _ => ⟨by show 0 ≤ (0 : Int32).toInt; decide, by show (0 : Int32).toInt ≤ 1023; decide⟩
  | k + 1, h => by
    have ih := grp_le (B := B) hj hG k fun i hi => h i (by omega)
    obtain ⟨m, hm, em⟩ := h k (by omega)
    by_cases g : ¬ B k 10 = 0 ∧ B k 1 = nI j
    · rw [show f_grp B G j (k + 1) = f_grp B G j k ||| G ((B k 2).toNatClampNeg * 4 + j) from f_if_t g, em, y_nIn (by omega)]
      have := hG (m * 4 + j) (by omega)
      exact or_le ih.1 ih.2 this.1 this.2
    · rw [show f_grp B G j (k + 1) = f_grp B G j k from f_if_f g]
      exact ih
theorem cnt_one {p : Nat → Prop} : ∀ n : Nat, (∀ i j : Nat, i < n → j < n → p i → p j → i = j) → ((∃ i : Nat, i < n ∧ p i) → f_cnt p 0 n = 1) ∧ ((¬ ∃ i : Nat, i < n ∧ p i) → f_cnt p 0 n = 0)
  | 0, _ => ⟨fun ⟨i, hi, _⟩ => absurd hi (Nat.not_lt_zero i), fun _ => rfl⟩
  | k + 1, h => by
    obtain ⟨i1, i0⟩ := cnt_one k fun i j hi hj => h i j (by omega) (by omega)
    by_cases g : p k
    · have no : ¬ ∃ i : Nat, i < k ∧ p i := fun ⟨i, hi, q⟩ => by
        have := h i k (by omega) (by omega) q g
        omega
      have e : f_cnt p 0 (k + 1) = f_cnt p 0 k + 1 := f_if_t g
      exact ⟨fun _ => by rw [e, i0 no, Int32.zero_add], fun z => absurd ⟨k, by omega, g⟩ z⟩
    · have e : f_cnt p 0 (k + 1) = f_cnt p 0 k := f_if_f g
      have hx : (∃ i : Nat, i < k + 1 ∧ p i) → ∃ i : Nat, i < k ∧ p i := fun ⟨i, hi, q⟩ => by
        have ne : ¬ i = k := fun w => g (by rw [← w]; exact q)
        exact ⟨i, by omega, q⟩
      exact ⟨fun z => by rw [e]; exact i1 (hx z), fun z => by rw [e]; exact i0 fun ⟨i, hi, q⟩ => z ⟨i, by omega, q⟩⟩
/-- at a place there is one on a day, at most -/
theorem sh_one {n : Nat} {B : Nat → Nat → Int32} {land med d : Int32} (hd : p_dj n B) (i j : Nat) (hi : i < n) (hj : j < n) (a : p_sh (B i) land med d) (b : p_sh (B j) land med d) : i = j := by
  refine Classical.byContradiction fun ne => ?_
  have lv : ∀ {b : Nat → Int32}, (p_op b ∨ b 6 = 2) → p_lv b := fun z => by
    rcases z with (z | z) | z
    · exact Or.inl z
    · exact Or.inr (Or.inl z)
    · exact Or.inr (Or.inr z)
  have := hd i j hi hj ne (lv a.1) (lv b.1) (a.2.1.1.trans b.2.1.1.symm) (a.2.1.2.trans b.2.1.2.symm)
  have a3 := a.2.2.1
  have a4 := a.2.2.2
  have b3 := b.2.2.1
  have b4 := b.2.2.2
  rw [Int32.lt_iff_toInt_lt] at a3 a4 b3 b4
  omega
theorem at_cnt {n : Nat} {B : Nat → Nat → Int32} {land med d : Int32} (hd : p_dj n B) (hn : n ≤ 16) : (0 ≤ f_at n B land med d → f_cnt (fun i => p_sh (B i) land med d) 0 n = 1) ∧ (¬ 0 ≤ f_at n B land med d → f_cnt (fun i => p_sh (B i) land med d) 0 n = 0) := by
  obtain ⟨c1, c0⟩ := cnt_one (p := fun i => p_sh (B i) land med d) n (sh_one hd)
  unfold f_at
  cases hf : f_fst (fun i => p_sh (B i) land med d) n with
  | some k =>
    obtain ⟨hk, hc, -⟩ := f_fst_i hf
    exact ⟨fun _ => c1 ⟨k, hk, hc⟩, fun z => absurd (nI_pos' (n := k) (by omega)) z⟩
  | none =>
    have hz := f_fst_z hf
    exact ⟨fun z => absurd z (show ¬ (0 : Int32) ≤ -1 by decide), fun _ => c0 fun ⟨i, hi, q⟩ => hz i hi q⟩
section PLC
variable {T : zT} {F : zF} {zE : Nat} {Q : Nat → Nat} {W : Nat → Nat → Nat → Nat} {fm as : Nat → Int32} {r : Nat → Nat → Nat} {V : Nat → Nat → Nat → Int32} {CC AA : Nat → Nat → Int32} {G : Nat → Int32} {n : Nat} {bp : Nat → Nat} {B : Nat → Nat → Int32} {td : Int32} {e te nt : Nat} {ba ra : Nat → Nat} {t0 : Nat}
theorem s_places (h : RmX T F zE Q W 5 fm as r V CC AA G n bp B td e te nt ba ra) (iv : Inv n B td G CC t0) {p : Nat} (hp9 : p < 9) {Post : Int32 → zT → zF → Prop} (hp : ∀ (T' : zT) (F' : zF), yE (fun _ => False) T F T' F' → Post 1 T' F') : v_L_arePlacesRight (Q 0) (nI p) T F Post := by
  have hn16 := h.pl.2.2.2.2.2.1
  refine ⟨h.1.1, s_many h (j := 2) (by decide) ?_⟩
  rw [show f_many 5 n B td 2 = nI n from rfl, y_nIn (show n < 1000 by omega)]
  refine ⟨nI_pos (by omega), hn16, fun q hq => ?_⟩
  have kA : yE (fun _ => False) T F (znm T q n 6) (zmm F q n) := yE.mm hq
  have hTn : ∀ i : Nat, T (q + 1 + i) = none := fun i => hq _ (by omega)
  have tR : ∀ i : Nat, i < n → znm T q n 6 (q + 1 + i) = some (100, 6) := fun i hi => by
    unfold znm
    rw [if_neg (by omega), if_pos (by omega)]
  refine ⟨fun m y F1 => ∃ k : Nat, k ≤ n ∧ m = n - k ∧ y.toInt = k ∧ yE (fun _ => False) T F (znm T q n 6) F1 ∧ (∀ i : Nat, i < n → F1 q i = .ref (q + 1 + i)) ∧ ∀ i : Nat, i < k → ∀ w : Nat, 1 ≤ w → w < 6 → F1 (q + 1 + i) w = .int (f_ofB bp B i w), ⟨n, 0, Nat.zero_le _, rfl, by decide, kA, fun i hi => ?_, fun i hi => absurd hi (Nat.not_lt_zero i)⟩, ?_⟩
  · unfold zmm
    rw [if_pos rfl, if_pos hi]
  rintro m y F1 ⟨k, hk, rfl, hy, k1, hr, hv⟩
  have e0 : y = nI k := y_nI hy (by omega)
  subst e0
  obtain ⟨L1, L2⟩ := y_lp hk (by omega)
  have r1 := h.ext k1
  refine ⟨fun hge => ?_, fun hlt => ?_⟩
  · have ek := L1 hge
    subst ek
    refine ⟨fun m y => ∃ j : Nat, j ≤ 4 ∧ m = 4 - j ∧ y.toInt = j, ⟨4, 0, by decide, rfl, by decide⟩, ?_⟩
    rintro m y ⟨j, hj, rfl, hy2⟩
    have e0 : y = nI j := y_nI hy2 (by omega)
    subst e0
    obtain ⟨M1, M2⟩ := y_lp (n := 4) hj (by omega)
    refine ⟨fun _ => hp _ _ k1, fun hlt => ?_⟩
    have j4 := M2 hlt
    have hm : ∀ i : Nat, i < k → ∃ m : Nat, m < 4 ∧ B i 2 = nI m := fun i hi => (iv.2.1 i hi).1.2
    have gl := grp_le (B := B) j4 iv.2.2.2.1 k hm
    have bl := bc_le gl.1 gl.2
    refine ⟨r1.1.1, s_reach r1 j4 hm ⟨fun z => absurd z ?_, fun _ => s_reach r1 j4 hm ⟨fun _ => ?_, fun z => absurd ?_ z⟩⟩⟩
    · rw [Int32.lt_iff_toInt_lt, y_toInt0]
      omega
    · refine ⟨fun m y => ∃ u : Nat, u ≤ 2 ∧ m = 2 - u ∧ y.toInt = u, ⟨2, 0, by decide, rfl, by decide⟩, ?_⟩
      rintro m y ⟨u, hu, rfl, hy3⟩
      have e0 : y = nI u := y_nI hy3 (by omega)
      subst e0
      obtain ⟨N1, N2⟩ := y_lp (n := 2) hu (by omega)
      refine ⟨fun _ => ⟨4 - (j + 1), by omega, j + 1, by omega, rfl, y_inc hy2 (by omega)⟩, fun hlt => ?_⟩
      have u2 := N2 hlt
      refine ⟨fun m y => 0 ≤ y.toInt ∧ y.toInt ≤ 108 ∧ m = (108 - y.toInt).toNat, ⟨_, ?_, ?_, rfl⟩, ?_⟩
      · rw [y_nIc (by omega)]
        omega
      · rw [y_nIc (by omega)]
        omega
      rintro m d ⟨d0, d1, rfl⟩
      refine ⟨fun _ => ⟨2 - (u + 1), by omega, u + 1, by omega, rfl, y_inc hy3 (by omega)⟩, fun hd => ?_⟩
      rw [Int32.le_iff_toInt_le, show (100 : Int32).toInt = 100 by decide] at hd
      have e9 : (d + 9).toInt = d.toInt + 9 := y_add (k := 9) (by omega) (by omega) (by omega)
      obtain ⟨a1, a0⟩ := at_cnt (land := nI j) (med := nI u) (d := d) iv.2.2.1 hn16
      refine ⟨fun m f y => ∃ i : Nat, i ≤ k ∧ m = k - i ∧ y.toInt = i ∧ f = f_cnt (fun i => p_sh (B i) (nI j) (nI u) d) 0 i, ⟨k, 0, Nat.zero_le _, rfl, by decide, rfl⟩, ?_⟩
      rintro m f y ⟨i, hi, rfl, hy4, rfl⟩
      have e0 : y = nI i := y_nI hy4 (by omega)
      subst e0
      obtain ⟨O1, O2⟩ := y_lp hi (by omega)
      refine ⟨fun hge => ?_, fun hlt => ?_⟩
      · have ei := O1 hge
        subst ei
        exact s_at r1 j4 (show u < 4 by omega) d0 (by omega) ⟨fun v => v = f_cnt (fun i => p_sh (B i) (nI j) (nI u) d) 0 i, fun v hv => ⟨fun _ => ⟨(108 - (d + 9).toInt).toNat, by omega, by omega, by omega, rfl⟩, fun z => absurd hv.symm z⟩, fun z => (a1 z).symm, fun z => (a0 z).symm⟩
      · have i1 := O2 hlt
        have b6 := (iv.2.1 i i1).2.2.2.1
        have hrow := hv i i1
        rw [y_nIn (show i < 1000 by omega), show (5 : Int32).toNatClampNeg = 5 by decide, show (1 : Int32).toNatClampNeg = 1 by decide, show (2 : Int32).toNatClampNeg = 2 by decide, show (3 : Int32).toNatClampNeg = 3 by decide, show (4 : Int32).toNatClampNeg = 4 by decide]
        refine ⟨vp_in_nI i1 (by omega), q + 1 + i, hr i i1, 6, tR i i1, by unfold vp_in; decide, B i 6, hrow 5 (by decide) (by decide), fun v => (v = 1 ∧ p_sh (B i) (nI j) (nI u) d) ∨ (v = 0 ∧ ¬ p_sh (B i) (nI j) (nI u) d), fun v hv2 => ⟨k - (i + 1), by omega, i + 1, by omega, rfl, y_inc hy4 (by omega), ?_⟩, ¬ p_sh (B i) (nI j) (nI u) d, fun z => Or.inr ⟨rfl, z⟩, fun z l => ?_, fun z => ⟨by unfold vp_in; decide, B i 1, hrow 1 (by decide) (by decide), fun z1 l => z1 l.2.1.1, fun z1 => ⟨by unfold vp_in; decide, B i 2, hrow 2 (by decide) (by decide), fun z2 l => z2 l.2.1.2, fun z2 => ⟨by unfold vp_in; decide, B i 3, hrow 3 (by decide) (by decide), fun z3 l => l.2.2.1 z3, fun z3 => ⟨by unfold vp_in; decide, B i 4, hrow 4 (by decide) (by decide), fun z4 l => l.2.2.2 z4, fun z4 => Or.inl ⟨rfl, ?_, ⟨z1, z2⟩, z3, z4⟩⟩⟩⟩⟩⟩
        · rcases hv2 with ⟨rfl, l⟩ | ⟨rfl, l⟩
          · exact (f_if_t l).symm
          · exact (Int32.add_zero _).trans (f_if_f l).symm
        · rcases l.1 with (l | l) | l
          · rw [l] at z; exact absurd z (by decide)
          · rw [l] at z; exact absurd z (by decide)
          · rw [l] at z; exact absurd z (by decide)
        · rcases b6 with l | l | l | l | l
          · exact Or.inl (Or.inl l)
          · exact Or.inl (Or.inr l)
          · exact Or.inr l
          · rw [l] at z; exact absurd (by decide) z
          · rw [l] at z; exact absurd (by decide) z
    · rw [Int32.le_iff_toInt_le, show (10 : Int32).toInt = 10 by decide]
      omega
  · have k1n := L2 hlt
    refine ⟨fun m y F2 => ∃ w : Nat, 1 ≤ w ∧ w ≤ 6 ∧ m = 6 - w ∧ y.toInt = w ∧ yE (fun _ => False) T F (znm T q n 6) F2 ∧ (∀ i : Nat, i < n → F2 q i = .ref (q + 1 + i)) ∧ (∀ i : Nat, i < k → ∀ w : Nat, 1 ≤ w → w < 6 → F2 (q + 1 + i) w = .int (f_ofB bp B i w)) ∧ ∀ v : Nat, 1 ≤ v → v < w → F2 (q + 1 + k) v = .int (f_ofB bp B k v), ⟨5, 1, by decide, by decide, rfl, by decide, k1, hr, hv, fun v v1 v2 => by omega⟩, ?_⟩
    rintro m y F2 ⟨w, w1, w6, rfl, hy2, k2, hr2, hv2, hw2⟩
    have e0 : y = nI w := y_nI hy2 (by omega)
    subst e0
    obtain ⟨M1, M2⟩ := y_lp (n := 6) w6 (by omega)
    have r2 := h.ext k2
    refine ⟨fun hge => ?_, fun hlt => ?_⟩
    · have ew := M1 hge
      subst ew
      refine ⟨n - (k + 1), by omega, k + 1, by omega, rfl, y_inc hy (by omega), k2, hr2, fun i hi v v1 v6 => ?_⟩
      by_cases g : i = k
      · rw [g]; exact hw2 v v1 v6
      · exact hv2 i (by omega) v v1 v6
    · have w6' := M2 hlt
      rw [y_nIn (show k < 1000 by omega), y_nIn (show w < 1000 by omega)]
      refine ⟨vp_in_nI k1n (by omega), q + 1 + k, hr2 k k1n, r2.1.1, s_ofBooking r2 (j := w) k1n (by omega) ⟨6, tR k k1n, vp_in_nI w6' (by omega), 6 - (w + 1), by omega, w + 1, by omega, by omega, rfl, y_inc hy2 (by omega), k2.un (hTn k), fun i hi => ?_, fun i hi v v1 v6 => ?_, fun v v1 v2 => ?_⟩⟩
      · rw [y_zu, if_neg (fun g => absurd g.1 (by omega))]; exact hr2 i hi
      · rw [y_zu, if_neg (fun g => absurd g.1 (by omega))]; exact hv2 i hi v v1 v6
      · rw [y_zu]
        by_cases g : v = w
        · rw [if_pos ⟨rfl, g⟩, g]
        · rw [if_neg (fun z => g z.2)]; exact hw2 v v1 (by omega)
end PLC
