/-! the law's body -/
/-- the script -/
def Sc (T : zT) (F : zF) (b L : Nat) (xs : Nat → Int32) : Prop := T b = some (104, L) ∧ ∀ j : Nat, j < L → F b j = .int (xs j)
theorem Sc.kp {P : Nat → Prop} {T T' : zT} {F F' : zF} {b L : Nat} {xs : Nat → Int32} (h : Sc T F b L xs) (k : yE P T F T' F') (hp : ¬ P b) : Sc T' F' b L xs := ⟨(k _ _ h.1).1, fun j hj => ((k _ _ h.1).2 hp j).trans (h.2 j hj)⟩
theorem s_cell {T : zT} {F : zF} {b L : Nat} {xs : Nat → Int32} (h : Sc T F b L xs) (hL : L ≤ 260) {p : Int32} (hp0 : 0 ≤ p.toInt) {Post : Int32 → Prop} (hk : ∀ v : Int32, Post v) : v_L_cell b p T F Post := by
  refine ⟨L, h.1, fun _ => hk _, fun z => ?_⟩
  rw [Int32.le_iff_toInt_le, y_nIc (by omega)] at z
  have e : p.toNatClampNeg = p.toInt.toNat := rfl
  exact ⟨y_in (k := p.toInt.toNat) (by omega) (by omega), xs p.toNatClampNeg, h.2 _ (by rw [e]; omega), hk _⟩
theorem idx_all : ∀ k : Fin 60, 0 ≤ ((9 : Int32) + (nI k.val - nI k.val / 20 * 20)).toInt := by decide +kernel
theorem fm_all : ∀ (u : Fin 2) (k : Fin 5), ¬ nI u.val * (nI k.val - nI k.val / 2 * 2) < 0 ∧ nI u.val * (nI k.val - nI k.val / 2 * 2) < 3 := by decide +kernel
section LAW
variable {T : zT} {F : zF} {zE : Nat} {Q : Nat → Nat} {W : Nat → Nat → Nat → Nat} {np : Nat} {fm as : Nat → Int32} {r : Nat → Nat → Nat} {V : Nat → Nat → Nat → Int32} {CC AA : Nat → Nat → Int32} {G : Nat → Int32} {n : Nat} {bp : Nat → Nat} {B : Nat → Nat → Int32} {td : Int32} {e te nt : Nat} {ba ra : Nat → Nat}
/-- no cell of the object is a script -/
theorem RmX.nb (h : RmX T F zE Q W np fm as r V CC AA G n bp B td e te nt ba ra) {a : Nat} (ha : inRm Q W np n e ba a ∨ a = Q 5 ∨ a = Q 9 ∨ a = te ∨ ∃ i : Nat, i < nt ∧ a = ra i) : ∃ t : Nat × Nat, T a = some t ∧ ¬ t.1 = 104 := by
  obtain ⟨h0, h1, h2, h3, h4, ⟨h5, -⟩, -⟩ := h
  rcases ha with (ha | ha | ha | ha | ⟨k, hk, ha | ha⟩ | ha | ha | ha | ha | ⟨i, hi, ha⟩) | ha | ha | ha | ⟨i, hi, ha⟩
  · rw [ha]; exact ⟨_, h0.1, by decide⟩
  · rw [ha]; exact ⟨_, h1.1.1, by decide⟩
  · obtain ⟨c, hc⟩ := h1.1.er
    rw [ha]; exact ⟨_, hc, by simp⟩
  · rw [ha]; exact ⟨_, h2.1, by decide⟩
  · rw [ha]; exact ⟨_, (h1.2 k hk).1, by decide⟩
  · rw [ha]; exact ⟨_, (h1.2 k hk).2.2.1, by decide⟩
  · obtain ⟨t, ht, h9⟩ := h3.1.kd ha
    exact ⟨t, ht, by omega⟩
  · rw [ha]; exact ⟨_, h4.1.1, by decide⟩
  · rw [ha]; exact ⟨_, h4.1.2.2.2.2.1.1, by decide⟩
  · obtain ⟨c, hc⟩ := h4.1.2.2.2.2.1.er
    rw [ha]; exact ⟨_, hc, by simp⟩
  · rw [ha]; exact ⟨_, (h4.1.at hi).1, by decide⟩
  · rw [ha]; exact ⟨_, h5.1, by decide⟩
  · rw [ha]; exact ⟨_, h5.2.2.2.2.1.1, by decide⟩
  · obtain ⟨c, hc⟩ := h5.2.2.2.2.1.er
    rw [ha]; exact ⟨_, hc, by simp⟩
  · obtain ⟨p, B0, hb⟩ := h5.2.2.2.2.2.2.2.1 i hi
    rw [ha]; exact ⟨_, hb.1, by decide⟩
theorem al_w {T2 : zT} {a : Nat} (h : inAl T2 Q W n e te nt ba ra a) : inRm Q W 5 n e ba a ∨ a = Q 5 ∨ a = Q 9 ∨ a = te ∨ ∃ i : Nat, i < nt ∧ a = ra i := by
  rcases h with g | g | g | ⟨g, -⟩ | g
  · exact Or.inl g
  · exact Or.inr (Or.inl g)
  · exact Or.inr (Or.inr (Or.inl g))
  · exact Or.inr (Or.inr (Or.inr (Or.inl g)))
  · exact Or.inr (Or.inr (Or.inr (Or.inr g)))
end LAW
theorem vl_all {zE b L : Nat} {xs : Nat → Int32} {T : zT} {F : zF} (hL : L ≤ 260) (hs : Sc T F b L xs) (hE : T zE = some (101, 0)) : vl_law zE b T F := by
  intro q1 hq1
  have k0 : yE (fun _ => False) T F (zn T q1 (5, 4)) (zm F q1 (fun j => defaultValue (tyX4 j))) := yE.nn hq1
  refine s_X4_init z_nq (k0 _ _ hE).1 fun la gs pl tr lb lp tb T3 F4 e4 hfr hla hlp => ?_
  have s3 := hs.kp (y_fr hq1 e4) (fun g => g)
  refine ⟨fun m y T9 F10 => ∃ (a e1 : Nat) (qa qc : Nat → Nat) (CC AA : Nat → Nat → Int32), a ≤ 3 ∧ m = 3 - a ∧ y.toInt = a ∧ Fr T9 F10 zE q1 la gs pl tr lb lp tb ∧ yL T9 F10 lp zE ∧ zAl T9 F10 zE la e1 a qa qc CC AA ∧ Sc T9 F10 b L xs, ⟨3, by decide, 0, zE, fun _ => 0, fun _ => 0, fun _ _ => 0, fun _ _ => 0, by decide, rfl, by decide, hfr, hlp, ⟨hla.ls hfr.2.2.2.2.1 _, Or.inl ⟨hfr.2.2.2.2.1, rfl⟩, fun k hk => absurd hk (Nat.not_lt_zero k), fun j k hj => absurd hj (Nat.not_lt_zero j), fun j k hj => absurd hj (Nat.not_lt_zero j), fun j k hj => absurd hj (Nat.not_lt_zero j)⟩, s3⟩, ?_⟩
  rintro m y T9 F10 - ⟨a, e1, qa, qc, CC, AA, ha, rfl, hy, fr, yl, al, sc⟩
  have e0 : y = nI a := y_nI hy (by omega)
  subst e0
  obtain ⟨L1, L2⟩ := y_lp (n := 3) ha (by omega)
  refine ⟨fun hge => ?_, fun hlt => ?_⟩
  · have ea := L1 hge
    subst ea
    clear hfr hla hlp s3 hge L1 L2 hy ha e4 k0
    -- the pieces
    refine ⟨fun m y T17 F18 => ∃ (np e6 : Nat) (W : Nat → Nat → Nat → Nat) (fm as : Nat → Int32) (r : Nat → Nat → Nat) (V : Nat → Nat → Nat → Int32), np ≤ 5 ∧ m = 5 - np ∧ y.toInt = np ∧ Fr T17 F18 zE q1 la gs pl tr lb lp tb ∧ zAl T17 F18 zE la e1 3 qa qc CC AA ∧ zPs T17 F18 zE la gs lb lp tb e1 e6 np W fm as r V qa qc CC AA ∧ Sc T17 F18 b L xs, ⟨5, by decide, 0, zE, fun _ _ _ => 0, fun _ => 0, fun _ => 0, fun _ _ => 0, fun _ _ _ => 0, by decide, rfl, by decide, fr, al, ⟨⟨yl.ls fr.2.2.2.2.1 _, by decide, fun k hk => absurd hk (Nat.not_lt_zero k), fun j k hj => absurd hj (Nat.not_lt_zero j)⟩, Or.inl ⟨fr.2.2.2.2.1, rfl⟩, fun k hk => absurd hk (Nat.not_lt_zero k), fun z => absurd fr.2.2.2.2.1 z, fun k j k' j' hk => absurd hk (Nat.not_lt_zero k)⟩, sc⟩, ?_⟩
    clear fr al sc yl
    rintro m y T17 F18 - ⟨np, e6, W, fm, as, r, V, hnp, rfl, hy, fr, al, ps, sc⟩
    have e0 : y = nI np := y_nI hy (by omega)
    subst e0
    obtain ⟨L1, L2⟩ := y_lp (n := 5) hnp (by omega)
    refine ⟨fun hge => ?_, fun hlt => ?_⟩
    · have enp := L1 hge
      subst enp
      have hw : ∀ k : Nat, k < 5 → 1 ≤ W 4 k 0 := fun k hk => (ps.2.2.1 k hk).1
      have hS : ∀ k : Nat, k < 5 → ∀ q : Nat, q < 3 → (¬ ((as k >>> (nI q &&& 31)) &&& 1) = 0 ↔ ∃ i : Nat, i < W 4 k 0 ∧ r k i = q) := fun k hk => (ps.2.2.1 k hk).2.2.1
      have hCC := al.2.2.2.2.2
      obtain ⟨Q, hQ, rm⟩ := set_end fr al ps
      subst hQ
      clear fr al ps hge L1 L2 hy hnp hq1
      -- the turns
      refine ⟨fun m y T25 F26 => ∃ (k : Nat) (V : Nat → Nat → Nat → Int32) (CC AA : Nat → Nat → Int32) (G : Nat → Int32) (n : Nat) (bp : Nat → Nat) (B : Nat → Nat → Int32) (td : Int32) (e te nt : Nat) (ba ra : Nat → Nat) (t0 : Nat), k ≤ 60 ∧ m = 60 - k ∧ y.toInt = k ∧ t0 ≤ k ∧ RmX T25 F26 zE Q W 5 fm as r V CC AA G n bp B td e te nt ba ra ∧ Inv n B td G CC t0 ∧ Sc T25 F26 b L xs, ⟨60, by decide, 0, V, CC, AA, _, 0, _, _, 0, zE, zE, 0, _, _, 0, by decide, rfl, by decide, Nat.le_refl _, rm, ⟨by decide, fun i hi => absurd hi (Nat.not_lt_zero i), fun i j hi => absurd hi (Nat.not_lt_zero i), fun _ _ => ⟨show 0 ≤ (0 : Int32).toInt by decide, show (0 : Int32).toInt ≤ 1023 by decide⟩, hCC⟩, sc⟩, ?_⟩
      clear rm sc hCC
      rintro m y T25 F26 - ⟨k, V, CC, AA, G, n, bp, B, td, e, te, nt, ba, ra, t0, hk, rfl, hy, ht, rm, iv, sc⟩
      have e0 : y = nI k := y_nI hy (by omega)
      subst e0
      obtain ⟨L1, L2⟩ := y_lp (n := 60) hk (by omega)
      refine ⟨fun _ => trivial, fun hlt => ?_⟩
      have k60 := L2 hlt
      have hn16 := rm.pl.2.2.2.2.2.1
      refine s_cell sc hL (idx_all ⟨k, k60⟩) fun v => ⟨rm.1.1, s_many rm (j := 2) (by decide) ?_⟩
      rw [show f_many 5 n B td 2 = nI n from rfl]
      refine fun q32 hq32 q34 hq34 => ?_
      have kA : yE (fun _ => False) T25 F26 (zn T25 q32 (100, 16)) (zm F26 q32 (fun _ => .int 0)) := yE.nn hq32
      have kB : yE (fun _ => False) (zn T25 q32 (100, 16)) (zm F26 q32 (fun _ => .int 0)) (zn (zn T25 q32 (100, 16)) q34 (100, 16)) (zm (zm F26 q32 (fun _ => .int 0)) q34 (fun _ => .int 0)) := yE.nn hq34
      have k2 := kA.tr kB
      have n32 : T25 q32 = none := hq32 q32 (Nat.le_refl _)
      have ne : q32 ≠ q34 := Nat.ne_of_lt (y_nq z_nq hq34)
      have n34 : T25 q34 = none := (if_neg (fun g => ne g.symm)).symm.trans (hq34 q34 (Nat.le_refl _))
      have t32 : zn (zn T25 q32 (100, 16)) q34 (100, 16) q32 = some (100, 16) := (kB _ _ z_nq).1
      have t34 : zn (zn T25 q32 (100, 16)) q34 (100, 16) q34 = some (100, 16) := z_nq
      generalize zn (zn T25 q32 (100, 16)) q34 (100, 16) = T2 at k2 t32 t34 ⊢
      generalize zm (zm F26 q32 (fun _ => .int 0)) q34 (fun _ => .int 0) = F2 at k2 ⊢
      clear kA kB hq32 hq34
      refine ⟨fun m y F40 => ∃ i : Nat, i ≤ n ∧ m = n - i ∧ y.toInt = i ∧ yE (fun _ => False) T25 F26 T2 F40 ∧ ∀ j : Nat, j < i → F40 q32 j = .int (B j 5) ∧ F40 q34 j = .int (B j 7), ⟨n, 0, Nat.zero_le _, rfl, by decide, k2, fun j hj => absurd hj (Nat.not_lt_zero j)⟩, ?_⟩
      clear k2 F2
      rintro m y F40 ⟨i, hi, rfl, hy2, k4, hv⟩
      have e0 : y = nI i := y_nI hy2 (by omega)
      subst e0
      obtain ⟨M1, M2⟩ := y_lp hi (by omega)
      have rm4 := rm.ext k4
      refine ⟨fun hge => ?_, fun hlt => ?_⟩
      · have ei := M1 hge
        subst ei
        have sc4 := sc.kp k4 (fun g => g)
        have nal : ∀ {a : Nat}, (T25 a = none ∨ T25 a = some (104, L)) → ¬ inAl T2 Q W i e te nt ba ra a := fun {a} ha g => by
          obtain ⟨t, ht, h9⟩ := rm.nb (al_w g)
          rcases ha with ha | ha
          · rw [ha] at ht; cases ht
          · rw [ha] at ht; cases ht; exact h9 rfl
        refine s_act rm4 iv (by omega) hw ?_
        intro T' F' V' CC' AA' G' n' bp' B' td' e' te' nt' ba' ra' t' k5 rm5 iv5 ht5 hnn hpm _
        refine ⟨fun _ => ?_, fun z => absurd z (by decide)⟩
        have sc5 := sc4.kp k5 (nal (Or.inr sc.1))
        have t5a := k5 _ _ t32
        have t5b := k5 _ _ t34
        have v32 : ∀ j : Nat, j < i → F' q32 j = .int (B j 5) := fun j hj => (t5a.2 (nal (Or.inl n32)) j).trans (hv j hj).1
        have v34 : ∀ j : Nat, j < i → F' q34 j = .int (B j 7) := fun j hj => (t5b.2 (nal (Or.inl n34)) j).trans (hv j hj).2
        refine ⟨fun m y => ∃ j : Nat, j ≤ i ∧ m = i - j ∧ y.toInt = j, ⟨i, 0, Nat.zero_le _, rfl, by decide⟩, ?_⟩
        rintro m y ⟨j, hj, rfl, hy3⟩
        have e0 : y = nI j := y_nI hy3 (by omega)
        subst e0
        obtain ⟨N1, N2⟩ := y_lp hj (by omega)
        refine ⟨fun _ => ⟨fun _ => ?_, fun _ => ?_⟩, fun hlt => ?_⟩
        · -- the looks
          have h0 := iv5.1
          have hb5 : ∀ i : Nat, i < n' → p_bd (B' i) := fun i hi => by
            obtain ⟨⟨a1, a2⟩, a3, -⟩ := iv5.2.1 i hi
            exact ⟨a1, a2, ⟨by omega, by omega⟩, ⟨by omega, by omega⟩⟩
          refine ⟨rm5.1.1, s_digest rm5 ⟨by omega, by omega⟩ hb5 fun T6 F6 te6 ra6 k6 rm6 => s_bookings rm6 iv5 (by omega) fun T7 F7 k7 => ?_⟩
          have rm7 := rm6.ext k7
          refine ⟨fun z => absurd z (by decide), fun _ => s_pieces rm7 iv5 hS ⟨fun z => absurd z (by decide), fun _ => s_below (m := 9) (by decide) (by decide) (s_places rm7 iv5 (f_bl_lt (by decide)) fun T8 F8 k8 => ⟨fun z => absurd z (by decide), fun _ => ?_⟩)⟩⟩
          have rm8 := rm7.ext k8
          have sc6 := sc5.kp k6 fun g => by
            obtain ⟨t, ht, h9⟩ := rm5.nb (al_w (T2 := T') (Or.inr g))
            rw [sc5.1] at ht; cases ht; exact h9 rfl
          have sc8 := (sc6.kp k7 (fun g => g)).kp k8 (fun g => g)
          refine ⟨rm8.1.1, s_digest rm8 ⟨by omega, by omega⟩ hb5 fun T9 F9 te9 ra9 k9 rm9 => ⟨fun _ => ⟨60 - (k + 1), by omega, k + 1, V', CC', AA', G', n', bp', B', td', e', te9, n', ba', ra9, t', by omega, rfl, y_inc hy (by omega), by omega, rm9, iv5, sc8.kp k9 fun g => ?_⟩, fun z => absurd (y_cmp _) z⟩⟩
          obtain ⟨t, ht, h9⟩ := rm8.nb (al_w (T2 := T8) (Or.inr g))
          rw [sc8.1] at ht; cases ht; exact h9 rfl
        · exact ⟨60 - (k + 1), by omega, k + 1, V', CC', AA', G', n', bp', B', td', e', te', nt', ba', ra', t', by omega, rfl, y_inc hy (by omega), by omega, rm5, iv5, sc5⟩
        · -- the prices
          have j1 := N2 hlt
          have hj' : j < n' := by omega
          have b7 := (iv.2.1 j j1).2.2.1
          have eb1 : (B j 7 + 1).toInt = (B j 7).toInt + 1 := y_add (k := 1) (by omega) (by omega) (by omega)
          have hvp : vp_in (nI j) 16 := vp_in_nI (by omega) (by omega)
          have o6 : f_ofB bp' B' j 6 = B' j 5 := rfl
          have o8 : f_ofB bp' B' j 8 = B' j 7 := rfl
          have e7 : ((B' j 7).toInt = (B j 7).toInt ∧ B' j 5 = B j 5) ∨ ((B' j 7).toInt = (B j 7).toInt + 1 ∧ B' j 5 = B j 5 + B j 5 / 5) := by
            rcases hpm j j1 with ⟨p7, p5⟩ | ⟨p7, p5⟩
            · exact Or.inl ⟨by rw [p7], p5⟩
            · exact Or.inr ⟨by rw [p7]; exact eb1, p5⟩
          rw [y_nIn (show j < 1000 by omega)]
          have nx : ∃ n109 : Nat, n109 < i - j ∧ ∃ j' : Nat, j' ≤ i ∧ n109 = i - j' ∧ (nI j + 1).toInt = j' := ⟨i - (j + 1), by omega, j + 1, by omega, rfl, y_inc hy3 (by omega)⟩
          have g2 : ¬ f_ofB bp' B' j 8 < B j 7 := by
            rw [o8, Int32.lt_iff_toInt_lt]
            omega
          have g3 : f_ofB bp' B' j 8 ≤ B j 7 + 1 := by
            rw [o8, Int32.le_iff_toInt_le, eb1]
            omega
          refine ⟨rm5.1.1, s_ofBooking rm5 (j := 6) hj' (by decide) (s_ofBooking rm5 (j := 8) hj' (by decide) ⟨16, t5b.1, hvp, B j 7, v34 j j1, fun le => ⟨16, t5a.1, hvp, B j 5, v32 j j1, fun z => absurd ?_ z, fun _ => s_ofBooking rm5 (j := 8) hj' (by decide) ⟨hvp, B j 7, v34 j j1, fun z => absurd z g2, fun _ => s_ofBooking rm5 (j := 8) hj' (by decide) ⟨hvp, B j 7, v34 j j1, fun _ => nx, fun z => absurd g3 z⟩⟩⟩, fun gt => ⟨16, t5a.1, hvp, B j 5, v32 j j1, hvp, B j 5, v32 j j1, fun z => absurd ?_ z, fun _ => s_ofBooking rm5 (j := 8) hj' (by decide) ⟨hvp, B j 7, v34 j j1, fun z => absurd z g2, fun _ => s_ofBooking rm5 (j := 8) hj' (by decide) ⟨hvp, B j 7, v34 j j1, fun _ => nx, fun z => absurd g3 z⟩⟩⟩⟩)⟩
          · rw [o8, Int32.le_iff_toInt_le] at le
            rcases e7 with ⟨_, p5⟩ | ⟨p7, _⟩
            · exact p5
            · omega
          · rw [o8, Int32.le_iff_toInt_le] at gt
            rcases e7 with ⟨p7, _⟩ | ⟨_, p5⟩
            · omega
            · exact p5
      · have i1 := M2 hlt
        rw [y_nIn (show i < 1000 by omega)]
        have hvp : vp_in (nI i) 16 := vp_in_nI (by omega) (by omega)
        refine ⟨rm4.1.1, s_ofBooking rm4 (j := 6) i1 (by decide) ⟨16, t32, hvp, s_ofBooking (rm.ext (k4.un n32)) (j := 8) i1 (by decide) ⟨hvp, n - (i + 1), by omega, i + 1, by omega, rfl, y_inc hy2 (by omega), (k4.un n32).un n34, fun j hj => ?_⟩⟩⟩
        by_cases g : j = i
        · subst g
          exact ⟨by rw [y_zu, if_neg (fun z => ne z.1), y_zu, if_pos ⟨rfl, rfl⟩] <;> rfl, by rw [y_zu, if_pos ⟨rfl, rfl⟩] <;> rfl⟩
        · obtain ⟨h1, h2⟩ := hv j (by omega)
          exact ⟨by rw [y_zu, if_neg (fun z => ne z.1), y_zu, if_neg (fun z => g z.2)]; exact h1, by rw [y_zu, if_neg (fun z => g z.2), y_zu, if_neg (fun z => g z.2)]; exact h2⟩
    · have np5 := L2 hlt
      obtain ⟨ce, hce⟩ := ps.1.1.er
      refine s_cell sc hL (by decide) fun v => s_below (m := 2) (by decide) (by decide) (s_cell sc hL ?_ fun w => s_below (m := 7) (by decide) (by decide) ⟨fr.1.1, ?_⟩)
      · have := y_add (x := 4) (k := np) (by omega) (by decide) (by decide)
        rw [this, show (4 : Int32).toInt = 4 by decide]
        omega
      · have b2 := f_bl_lt (p := v) (m := 2) (by decide)
        have b7 := f_bl_lt (p := w) (m := 7) (by decide)
        generalize f_bl v 2 = u at b2 ⊢
        generalize f_bl w 7 = s at b7 ⊢
        rw [show (1 : Int32) + nI s = nI (1 + s) from nI_add 1 s]
        obtain ⟨f0, f3⟩ := fm_all ⟨u, b2⟩ ⟨np, np5⟩
        refine s_piece0 fr al ps np5 f0 f3 (by omega) (by omega) fun e' W' fm' as' r' V' T' F' kT ps' _ => ⟨5 - (np + 1), by omega, np + 1, e', W', fm', as', r', V', by omega, rfl, y_inc hy (by omega), fr.kp kT fun a g => ?_, al.kp kT (fun g => ?_) (fun g => ?_) (fun a g t hta => ?_), ps', sc.kp kT fun g => ?_⟩
        · rcases g with g | ⟨g, -⟩
          · rw [g]; exact ⟨fr.2.2.2.2.2.2.2.2.2.1, fr.2.2.2.2.2.2.2.2.2.2.1, _, ps.1.1.1, by decide⟩
          · rw [g]; exact ⟨y_ne hce fr.2.2.1.2.2.2.2.1 (by simp), y_ne hce fr.2.2.2.1.2.2.2.2.1 (by simp), _, hce, by simp⟩
        · rcases g with g | ⟨g, -⟩
          · exact fr.2.2.2.2.2.2.1 g
          · exact y_ne al.1.1 hce (by simp) g
        · obtain ⟨cl, hcl⟩ := al.1.er
          rcases g with g | ⟨g, g2⟩
          · exact y_ne hcl ps.1.1.1 (by simp) g
          · exact (ps.2.2.2.1 g2).1 g.symm
        · rcases g with g | ⟨g, -⟩
          · rw [g, ps.1.1.1] at hta; cases hta; decide
          · rw [g, hce] at hta; cases hta; simp
        · rcases g with g | ⟨g, -⟩
          · exact y_ne sc.1 ps.1.1.1 (by simp) g
          · exact y_ne sc.1 hce (by simp) g
  · have a3 := L2 hlt
    obtain ⟨ce, hce⟩ := al.1.er
    refine s_cell sc hL (by rw [y_nIc (by omega)]; omega) fun v => ⟨fr.1.1, s_asset fr al a3 fun q c e' T1 F1 k1 al1 => ?_⟩
    have fr1 := fr.kp k1 fun a g => by
      rcases g with g | ⟨g, -⟩
      · rw [g]; exact ⟨fr.2.2.2.2.2.2.2.1, fr.2.2.2.2.2.2.2.2.1, _, al.1.1, by decide⟩
      · rw [g]; exact ⟨y_ne hce fr.2.2.1.2.2.2.2.1 (by simp), y_ne hce fr.2.2.2.1.2.2.2.2.1 (by simp), _, hce, by simp⟩
    have yl1 := yl.kp k1 fun g => by
      rcases g with g | ⟨g, -⟩
      · exact fr.2.2.2.2.2.2.1 g.symm
      · exact y_ne yl.1 hce (by simp) g
    have sc1 := sc.kp k1 fun g => by
      rcases g with g | ⟨g, -⟩
      · exact y_ne sc.1 al.1.1 (by simp) g
      · exact y_ne sc.1 hce (by simp) g
    have h1 : upd1 AA a (fun _ => 0) a 1 = 0 := by rw [upd1_s]
    have a1 := (al1.2.2.1 a (Nat.lt_succ_self a)).1
    have a2 := (al1.2.2.1 a (Nat.lt_succ_self a)).2.2.1
    have nx : ∀ (F' : zF) (CC' AA' : Nat → Nat → Int32), yE (fun z => z = upd1 qa a q a ∨ z = upd1 qc a c a) T1 F1 T1 F' → zAl T1 F' zE la e' (a + 1) (upd1 qa a q) (upd1 qc a c) CC' AA' → ∃ n217 : Nat, n217 < 3 - a ∧ ∃ (a' e1 : Nat) (qa qc : Nat → Nat) (CC AA : Nat → Nat → Int32), a' ≤ 3 ∧ n217 = 3 - a' ∧ (nI a + 1).toInt = a' ∧ Fr T1 F' zE q1 la gs pl tr lb lp tb ∧ yL T1 F' lp zE ∧ zAl T1 F' zE la e1 a' qa qc CC AA ∧ Sc T1 F' b L xs := fun F' CC' AA' k2 al2 => by
      refine ⟨3 - (a + 1), by omega, a + 1, e', _, _, CC', AA', by omega, rfl, y_inc hy (by omega), fr1.kp k2 fun z g => ?_, yl1.kp k2 fun g => ?_, al2, sc1.kp k2 fun g => ?_⟩
      · rcases g with g | g
        · rw [g]; exact ⟨y_ne a1 fr1.2.2.1.2.2.2.2.1 (by decide), y_ne a1 fr1.2.2.2.1.2.2.2.2.1 (by decide), _, a1, by decide⟩
        · rw [g]; exact ⟨y_ne a2 fr1.2.2.1.2.2.2.2.1 (by decide), y_ne a2 fr1.2.2.2.1.2.2.2.2.1 (by decide), _, a2, by decide⟩
      · rcases g with g | g
        · exact y_ne yl1.1 a1 (by decide) g
        · exact y_ne yl1.1 a2 (by decide) g
      · rcases g with g | g
        · exact y_ne sc1.1 a1 (by simp) g
        · exact y_ne sc1.1 a2 (by simp) g
    refine s_below (m := 3) (by decide) (by decide) ⟨fun _ => ⟨fr1.1.1, s_vr fr1 al1 (Nat.lt_succ_self a) h1 (by decide) (by decide) nx⟩, fun _ => s_below (m := 9) (by decide) (by decide) ⟨fr1.1.1, s_vr fr1 al1 (Nat.lt_succ_self a) h1 ?_ ?_ nx⟩⟩
    · rw [y_nIc (by have := f_bl_lt (p := v >>> (2 &&& 31)) (m := 9) (by decide); omega)]
      omega
    · have := f_bl_lt (p := v >>> (2 &&& 31)) (m := 9) (by decide)
      rw [y_nIc (by omega)]
      omega
