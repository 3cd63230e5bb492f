/-! act itself -/
section ACT3
variable {T : zT} {F : zF} {zE : Nat} {Q : Nat → Nat} {W : Nat → Nat → Nat → Nat} {fm as : Nat → Int32} {r : Nat → Nat → Nat} {V : Nat → Nat → Nat → Int32} {CC AA : Nat → Nat → Int32} {G : Nat → Int32} {n : Nat} {bp : Nat → Nat} {B : Nat → Nat → Int32} {td : Int32} {e te nt : Nat} {ba ra : Nat → Nat} {t0 : Nat}
theorem y_sb (a b : Int32) : a + (b - a) = b := by
  rw [Int32.add_comm, Int32.sub_add_cancel]
theorem y_m7 {m : Nat} {b : Nat → Nat → Int32} {t : Int32} : f_many 5 m b t 7 = f_cnt (fun i => b i 6 = 4) 0 m := by
  show f_cnt (fun i => b i 6 = nI 7 - 3) 0 m = _
  rw [show nI 7 - 3 = 4 by decide]
theorem a_book (h : RmX T F zE Q W 5 fm as r V CC AA G n bp B td e te nt ba ra) (iv : Inv n B td G CC t0) {Post : Int32 → zT → zF → Prop} (hp : Nx T F zE Q W fm as r AA n B e te nt ba ra t0 (fun T' F' => Post 1 T' F')) {k j m : Nat} (hk : k < 5) (hj : j < 4) (hm : m < 4) {p4 p5 p6 : Int32} (h1 : (t0 : Int) + 1 ≤ p4.toInt) (h2 : p4.toInt ≤ p5.toInt) (h3 : p5.toInt ≤ 99) (h4 : 1 ≤ p6.toInt) (h5 : p6.toInt ≤ 999) {PX : String → zT → zF → Prop} {PY : zT → zF → String → Prop} (hx : PX "java/lang/IllegalStateException" T F) :
    v_X4_book zE (Q 0) (nI k) (nI j) (nI m) p4 p5 p6 T F (fun x T1 F1 => ((¬ x = nI n → Post 0 T1 F1) ∧ (x = nI n → (T1 (Q 0) = some (5, 4) ∧ (v_X4_ofBooking (Q 0) (nI n) 6 T1 F1 (fun y => ((¬ y = f_price td p4 p5 p6 → Post 0 T1 F1) ∧ (y = f_price td p4 p5 p6 → (v_X4_ofBooking (Q 0) (nI n) 7 T1 F1 (fun w => ((¬ w = f_price td p4 p5 p6 → Post 0 T1 F1) ∧ (w = f_price td p4 p5 p6 → Post 1 T1 F1))) (PY T1 F1))))) (PY T1 F1)))))) PX := by
  have h0 := iv.1
  have f99 : (99 : Int32).toInt = 99 := by decide
  refine s_book h hk hj hm (by rw [Int32.lt_iff_toInt_lt]; omega) (by rw [Int32.lt_iff_toInt_lt]; omega) (by rw [Int32.le_iff_toInt_le, f99]; exact h3) (by rw [Int32.lt_iff_toInt_lt, show (1 : Int32).toInt = 1 by decide]; omega) (by rw [Int32.le_iff_toInt_le, show (999 : Int32).toInt = 999 by decide]; exact h5) (fun hn ntk T1 F1 e1 ba1 ke r1 => ?_) hx
  generalize hpr : f_price td p4 p5 p6 = pr at r1 ⊢
  have hb : bkI (f_new j m p4 p5 pr) ((t0 : Int) + 1) t0 t0 := by
    show bkP (nI j) (nI m) p4 p5 0 0 0 0 0 _ _ _
    exact ⟨⟨⟨j, hj, rfl⟩, m, hm, rfl⟩, ⟨by omega, h2, h3⟩, ⟨by decide, by decide⟩, Or.inl rfl, fun _ => h1, fun z => absurd z (by decide), fun z => absurd z (by decide), ⟨fun _ => rfl, Or.inl rfl⟩, ⟨by decide, Or.inl (by decide)⟩, fun _ => rfl⟩
  obtain ⟨i1, i2, i3, i4, i5⟩ := id iv
  have iv1 : Inv (n + 1) (upd1 B n (f_new j m p4 p5 pr)) td G CC t0 := by
    refine ⟨i1, fun i hi => ?_, dj_new i3 fun i hi l e1 e2 => ?_, i4, i5⟩
    · by_cases g : i = n
      · rw [g, upd1_s]; exact hb
      · rw [upd1_n g]; exact i2 i (by omega)
    · show p5.toInt < _ ∨ _ < p4.toInt
      have f1 : nI j = B i 1 := e1
      have f2 : nI m = B i 2 := e2
      rcases l with l | l | l
      · refine Classical.byContradiction fun z => ntk ⟨i, hi, fun w => (by cases w), Or.inl l, ⟨f1.symm, f2.symm⟩, fun w => z (Or.inl (Int32.lt_iff_toInt_lt.mp w)), fun w => z (Or.inr (Int32.lt_iff_toInt_lt.mp w))⟩
      · refine Classical.byContradiction fun z => ntk ⟨i, hi, fun w => (by cases w), Or.inr l, ⟨f1.symm, f2.symm⟩, fun w => z (Or.inl (Int32.lt_iff_toInt_lt.mp w)), fun w => z (Or.inr (Int32.lt_iff_toInt_lt.mp w))⟩
      · have := (i2 i hi).2.2.2.2.2.2.1 l
        omega
  have P1 : Post 1 T1 F1 := by
    refine hp T1 F1 _ _ _ _ _ _ _ _ _ _ _ _ _ t0 (ke.wk fun a g => Or.inl (Or.inr (Or.inr (Or.inr (Or.inr (Or.inr (Or.inr (Or.inr ?_)))))))) r1 iv1 (Nat.le_succ _) (Nat.le_succ _) (fun i hi => ?_) (fun _ _ _ _ => rfl)
    · rcases g with g | ⟨g, -⟩
      · exact Or.inl g
      · exact Or.inr (Or.inl g)
    · rw [upd1_n (Nat.ne_of_lt hi)]; exact pm_rf
  have c5 : f_cost (f_new j m p4 p5 pr) = pr := by
    show (if ¬ (0 : Int32) = 0 then 0 else if (0 : Int32) = 4 then 0 else if 0 < (p5 - p4) + 1 then pr - (0 * (pr / ((p5 - p4) + 1))) else 0) = pr
    have d0 : 0 < (p5 - p4) + 1 := by
      have es : (p5 - p4).toInt = p5.toInt - p4.toInt := by
        rw [Int32.toInt_sub, Int.bmod_def]
        omega
      rw [Int32.lt_iff_toInt_lt, y_toInt0, Int32.toInt_add, es, show (1 : Int32).toInt = 1 by decide, Int.bmod_def]
      omega
    rw [if_neg (by decide), if_neg (by decide), if_pos d0, Int32.zero_mul, Int32.sub_zero]
  refine ⟨fun z => absurd rfl z, fun _ => ⟨r1.1.1, s_ofBooking r1 (j := 6) (Nat.lt_succ_self n) (by decide) ⟨fun z => absurd ?_ z, fun _ => s_ofBooking r1 (j := 7) (Nat.lt_succ_self n) (by decide) ⟨fun z => absurd ?_ z, fun _ => P1⟩⟩⟩⟩
  · show upd1 B n (f_new j m p4 p5 pr) n 5 = pr
    rw [upd1_s]
    rfl
  · show f_cost (upd1 B n (f_new j m p4 p5 pr) n) = pr
    rw [upd1_s]
    exact c5
theorem a_day (h : RmX T F zE Q W 5 fm as r V CC AA G n bp B td e te nt ba ra) (iv : Inv n B td G CC t0) (ht : t0 ≤ 60) {Post : Int32 → zT → zF → Prop} (hp : Nx T F zE Q W fm as r AA n B e te nt ba ra t0 (fun T' F' => Post 1 T' F')) {PX : String → zT → zF → Prop} {PY : zT → zF → String → Prop} {PZ : zT → String → zF → Prop} :
    v_X4_lostIn zE (Q 0) 1 T F (fun x T1 F1 => (T1 (Q 0) = some (5, 4) ∧ (v_X4_many (Q 0) 7 T1 F1 (fun y => (v_X4_day (Q 0) T1 F1 (fun u F2 => (v_X4_many (Q 0) 10 T1 F2 (fun w => ((¬ w = (td + 1) → Post 0 T1 F2) ∧ (w = (td + 1) → (v_X4_many (Q 0) 7 T1 F2 (fun v => ((¬ v = (y + x) → Post 0 T1 F2) ∧ (v = (y + x) → ((u < x → Post 0 T1 F2) ∧ (¬ u < x → (v_X4_many (Q 0) 2 T1 F2 (fun s => ((s < u → Post 0 T1 F2) ∧ (¬ s < u → Post 1 T1 F2))) (PY T1 F2))))))) (PY T1 F2))))) (PY T1 F2))) (PZ T1))) (PY T1 F1)))) PX := by
  have h0 := iv.1
  have hn16 := h.pl.2.2.2.2.2.1
  have hl : ∀ i : Nat, i < n → ∃ j : Nat, j < 4 ∧ B i 1 = nI j := fun i hi => (iv.2.1 i hi).1.1
  refine s_lostIn h (d := 1) (by decide) (by decide) (by omega) hl fun T1 F1 te1 ra1 k1 r1 => ?_
  obtain ⟨d1, d2, d3, c, hc, d4, d5⟩ := day_inv (np := 5) (W := W) (fm := fm) (V := V) (C := fun k i => CC (r k i)) (A := fun k i => AA (r k i)) (bp := bp) h0 (by omega) (by omega) iv.2.1 iv.2.2.1
  have em : f_lm td (nI 1) = 1 := by
    unfold f_lm
    have e99 : ((99 : Int32) - td).toInt = 99 - td.toInt := by
      rw [Int32.toInt_sub, show (99 : Int32).toInt = 99 by decide, Int.bmod_def]
      omega
    rw [if_neg (by rw [Int32.lt_iff_toInt_lt, e99, y_nIc (by decide)]; omega)]
    decide
  rw [em]
  have el : f_lost n 5 W fm V (fun k i => CC (r k i)) (fun k i => AA (r k i)) td bp B 1 = f_cnt (fun i => (f_day n 5 W fm V (fun k i => CC (r k i)) (fun k i => AA (r k i)) (td + 1) bp B).2.1 i 6 = 4) 0 n - f_cnt (fun i => B i 6 = 4) 0 n := rfl
  rw [el]
  have ht1 : (td + 1).toInt = ((t0 + 1 : Nat) : Int) := by
    rw [Int32.toInt_add, h0, show (1 : Int32).toInt = 1 by decide, Int.bmod_def]
    omega
  refine ⟨r1.1.1, s_many r1 (j := 7) (by decide) (s_day r1 (by rw [Int32.lt_iff_toInt_lt, show (99 : Int32).toInt = 99 by decide]; omega) hl fun F2 k2 r2 => ?_)⟩
  generalize hD : f_day n 5 W fm V (fun k i => CC (r k i)) (fun k i => AA (r k i)) (td + 1) bp B = D at d1 d2 d3 d4 d5 r2 ⊢
  have P1 : Post 1 T1 F2 := by
    refine hp T1 F2 _ _ _ _ _ _ _ _ _ _ _ _ _ (t0 + 1) (fun a t ha => ?_) r2 ⟨ht1, fun i hi => ?_, d2, iv.2.2.2.1, iv.2.2.2.2⟩ (Nat.le_refl _) (Nat.le_refl _) d3 (fun _ _ _ _ => rfl)
    · have b1 := k1 a t ha
      refine ⟨b1.1, fun hn j => ((k2 a t b1.1).2 (fun g => hn (Or.inl (Or.inr (Or.inr (Or.inr (Or.inr (Or.inr (Or.inr ?_)))))))) j).trans (b1.2 (fun g => hn (Or.inr g)) j)⟩
      rcases g with g | ⟨i, hi, g⟩
      · exact Or.inl g
      · exact Or.inr (Or.inr (Or.inr ⟨i, hi, g⟩))
    · have := d1 i hi
      rw [show ((t0 + 1 : Nat) : Int) + 1 = (t0 : Int) + 2 by omega, show ((t0 + 1 : Nat) : Int) = (t0 : Int) + 1 by omega]
      exact this
  refine s_many r2 (j := 10) (by decide) ⟨fun z => absurd rfl z, fun _ => s_many r2 (j := 7) (by decide) ⟨fun z => absurd ?_ z, fun _ => ⟨fun z => ?_, fun _ => s_many r2 (j := 2) (by decide) ⟨fun z => ?_, fun _ => P1⟩⟩⟩⟩
  · rw [y_m7, y_m7]
    exact (y_sb _ _).symm
  · rw [d4, cnt_cn, cnt_cn, Int32.lt_iff_toInt_lt, Int32.toInt_sub] at z
    have c1 := cn_le (p := fun i => D.2.1 i 6 = 4) n
    have c2 := cn_le (p := fun i => B i 6 = 4) n
    rw [y_nIc (by omega), y_nIc (by omega), y_nIc (by omega), Int.bmod_def] at z
    omega
  · have z : nI n < D.2.2 := z
    rw [d4, Int32.lt_iff_toInt_lt, y_nIc (by omega), y_nIc (by omega)] at z
    omega
theorem y_bl {x : Int32} {m : Nat} (hm : m < 2000) : (nI (f_bl x m)).toInt = (f_bl x m : Nat) ∨ m = 0 := by
  by_cases g : m = 0
  · exact Or.inr g
  · left
    have := f_bl_lt (p := x) (m := m) (by omega)
    exact nI_toInt (by omega)
theorem y_mn {a : Int32} {c : Nat} (h : a.toInt ≤ 99) : (if a < (99 : Int32) then a else (99 : Int32)) = a := by
  by_cases g : a < 99
  · exact if_pos g
  · rw [if_neg g]
    rw [Int32.lt_iff_toInt_lt, show (99 : Int32).toInt = 99 by decide] at g
    exact Int32.toInt_inj.mp (by rw [show (99 : Int32).toInt = 99 by decide]; omega)
/-- one call, drawn from x -/
theorem s_act (h : RmX T F zE Q W 5 fm as r V CC AA G n bp B td e te nt ba ra) (iv : Inv n B td G CC t0) (ht : t0 ≤ 59) (hw : ∀ k : Nat, k < 5 → 1 ≤ W 4 k 0) {x : Int32} {Post : Int32 → zT → zF → Prop} (hp : Nx T F zE Q W fm as r AA n B e te nt ba ra t0 (fun T' F' => Post 1 T' F')) : v_L_act zE (Q 0) x T F Post := by
  have h0 := iv.1
  have hn16 := h.pl.2.2.2.2.2.1
  have P0 : Post 1 T F := Nx.same h iv hp
  have bl : ∀ (y : Int32) (m : Nat), 0 < m → f_bl y m < m := fun y m hm => f_bl_lt hm
  have c13 : ∀ c : Nat, c < 13 → nI (f_bl x 13) = nI c → f_bl x 13 = c := fun c hc z => by
    have := bl x 13 (by decide)
    exact (nI_eq (by omega) (by omega)).mp z
  refine s_below (m := 5) (by decide) (by decide) (s_below (m := 3) (by decide) (by decide) ⟨h.1.1, s_many h (j := 10) (by decide) (s_many h (j := 2) (by decide) ?_)⟩)
  have k5 := bl (x >>> (3 &&& 31)) 5 (by decide)
  have j3 := bl (x >>> (5 &&& 31)) 3 (by decide)
  generalize f_bl (x >>> (3 &&& 31)) 5 = k at k5 ⊢
  generalize f_bl (x >>> (5 &&& 31)) 3 = j at j3 ⊢
  have hk := hw k k5
  have em : (if (1 : Int32) < f_many 5 n B td 2 then f_many 5 n B td 2 else (1 : Int32)) = nI (if 1 < n then n else 1) := by
    show (if nI 1 < nI n then nI n else nI 1) = _
    by_cases g : 1 < n
    · rw [if_pos g, if_pos (nI_lt (a := 1) g (by omega))]
    · rw [if_neg g, if_neg (nI_nlt (a := 1) (b := n) (by omega) (by omega))]
  rw [em]
  refine s_below (by split <;> omega) (by split <;> omega) ?_
  have bq := bl (x >>> (4 &&& 31)) (if 1 < n then n else 1) (by split <;> omega)
  generalize f_bl (x >>> (4 &&& 31)) (if 1 < n then n else 1) = q at bq ⊢
  have hq : ¬ n = 0 → q < n := fun g => by
    by_cases g1 : 1 < n
    · rw [if_pos g1] at bq; exact bq
    · rw [if_neg g1] at bq; omega
  refine s_below (m := 13) (by decide) (by decide) ⟨fun _ => ?_, fun z => ?_, fun z => ?_, fun z => ?_, fun z => ?_, fun z => ?_, fun z => ?_, fun z => ?_, fun z => ?_, fun z => ?_, fun z => ?_⟩
  · exact a_day h iv (by omega) hp
  · have e := c13 0 (by decide) z
    exact a_approve h iv (by omega) hp k5 (by omega) (Or.inr ⟨rfl, s_cat (by omega) (by omega) (by omega) (by omega) P0⟩)
  · have e := c13 1 (by decide) z
    exact a_approve h iv (by omega) hp k5 (by omega) (Or.inr ⟨rfl, s_cat (by omega) (by omega) (by omega) (by omega) P0⟩)
  · exact a_hold h iv (by omega) hp k5 (by omega) hk
  · have e := c13 3 (by decide) z
    refine s_below (m := 9) (by decide) (by decide) fun y hy => s_below (m := 5) (by decide) (by decide) fun y2 hy2 => s_below (m := 90) (by decide) (by decide) ?_
    have b9 := bl (x >>> (6 &&& 31)) 9 (by decide)
    have b5 := bl (x >>> (7 &&& 31)) 5 (by decide)
    have b90 := bl (x >>> (4 &&& 31)) 90 (by decide)
    have b2 := bl (x >>> (4 &&& 31)) 2 (by decide)
    generalize f_bl (x >>> (6 &&& 31)) 9 = d at b9 hy
    generalize f_bl (x >>> (7 &&& 31)) 5 = d2 at b5 hy2
    have ht1 : (td + 1).toInt = td.toInt + (1 : Nat) := y_add (k := 1) (by omega) (by omega) (by omega)
    have e1 : ((td + 1) + nI d).toInt = (td + 1).toInt + d := y_add (by omega) (by omega) (by omega)
    rw [show f_many 5 n B td 10 = td from rfl, y_mn (c := 0) (by omega)] at hy
    have ey : y.toInt = (t0 : Int) + 1 + d := by rw [hy]; omega
    have e2 : (y + nI d2).toInt = y.toInt + d2 := y_add (by omega) (by omega) (by omega)
    have ey2 : y.toInt ≤ y2.toInt ∧ y2.toInt ≤ 99 := by
      rw [hy2]
      by_cases g : (y + nI d2) < 99
      · rw [if_pos g]
        rw [Int32.lt_iff_toInt_lt, e2, show (99 : Int32).toInt = 99 by decide] at g
        omega
      · rw [if_neg g, show (99 : Int32).toInt = 99 by decide]
        omega
    have e6 : ((10 : Int32) + nI (f_bl (x >>> (4 &&& 31)) 90)).toInt = (10 : Int32).toInt + (f_bl (x >>> (4 &&& 31)) 90 : Nat) := y_add (by omega) (by decide) (by decide)
    rw [show (10 : Int32).toInt = 10 by decide] at e6
    refine s_price h (by rw [Int32.lt_iff_toInt_lt]; omega) (by rw [Int32.lt_iff_toInt_lt]; omega) (by rw [Int32.le_iff_toInt_le, show (99 : Int32).toInt = 99 by decide]; omega) (by rw [Int32.lt_iff_toInt_lt, e6, show (1 : Int32).toInt = 1 by decide]; omega) (by rw [Int32.le_iff_toInt_le, e6, show (999 : Int32).toInt = 999 by decide]; omega) (s_many h (j := 2) (by decide) (s_below (m := 2) (by decide) (by decide) (s_below (m := 90) (by decide) (by decide) ?_)))
    exact a_book h iv hp k5 (by omega) (by omega) (by omega) (by omega) (by omega) (by omega) (by omega) (Or.inr ⟨rfl, s_cat (by omega) (by omega) (by omega) (by omega) P0⟩)
  · have e := c13 4 (by decide) z
    refine s_below (m := 9) (by decide) (by decide) fun y hy => s_below (m := 5) (by decide) (by decide) fun y2 hy2 => s_below (m := 90) (by decide) (by decide) ?_
    have b9 := bl (x >>> (6 &&& 31)) 9 (by decide)
    have b5 := bl (x >>> (7 &&& 31)) 5 (by decide)
    have b90 := bl (x >>> (4 &&& 31)) 90 (by decide)
    have b2 := bl (x >>> (4 &&& 31)) 2 (by decide)
    generalize f_bl (x >>> (6 &&& 31)) 9 = d at b9 hy
    generalize f_bl (x >>> (7 &&& 31)) 5 = d2 at b5 hy2
    have ht1 : (td + 1).toInt = td.toInt + (1 : Nat) := y_add (k := 1) (by omega) (by omega) (by omega)
    have e1 : ((td + 1) + nI d).toInt = (td + 1).toInt + d := y_add (by omega) (by omega) (by omega)
    rw [show f_many 5 n B td 10 = td from rfl, y_mn (c := 0) (by omega)] at hy
    have ey : y.toInt = (t0 : Int) + 1 + d := by rw [hy]; omega
    have e2 : (y + nI d2).toInt = y.toInt + d2 := y_add (by omega) (by omega) (by omega)
    have ey2 : y.toInt ≤ y2.toInt ∧ y2.toInt ≤ 99 := by
      rw [hy2]
      by_cases g : (y + nI d2) < 99
      · rw [if_pos g]
        rw [Int32.lt_iff_toInt_lt, e2, show (99 : Int32).toInt = 99 by decide] at g
        omega
      · rw [if_neg g, show (99 : Int32).toInt = 99 by decide]
        omega
    have e6 : ((10 : Int32) + nI (f_bl (x >>> (4 &&& 31)) 90)).toInt = (10 : Int32).toInt + (f_bl (x >>> (4 &&& 31)) 90 : Nat) := y_add (by omega) (by decide) (by decide)
    rw [show (10 : Int32).toInt = 10 by decide] at e6
    refine s_price h (by rw [Int32.lt_iff_toInt_lt]; omega) (by rw [Int32.lt_iff_toInt_lt]; omega) (by rw [Int32.le_iff_toInt_le, show (99 : Int32).toInt = 99 by decide]; omega) (by rw [Int32.lt_iff_toInt_lt, e6, show (1 : Int32).toInt = 1 by decide]; omega) (by rw [Int32.le_iff_toInt_le, e6, show (999 : Int32).toInt = 999 by decide]; omega) (s_many h (j := 2) (by decide) (s_below (m := 2) (by decide) (by decide) (s_below (m := 90) (by decide) (by decide) ?_)))
    exact a_book h iv hp k5 (by omega) (by omega) (by omega) (by omega) (by omega) (by omega) (by omega) (Or.inr ⟨rfl, s_cat (by omega) (by omega) (by omega) (by omega) P0⟩)
  · have e := c13 5 (by decide) z
    by_cases g : n = 0
    · exact s_cancel0 h g (Or.inl ⟨rfl, s_many h (j := 2) (by decide) ⟨fun z => absurd (show nI n = 0 by rw [g]; rfl) z, fun _ => P0⟩⟩)
    · exact a_cancel h iv hp (hq g) (Or.inr ⟨rfl, s_cat (by omega) (by omega) (by omega) (by omega) P0⟩)
  · have e := c13 6 (by decide) z
    by_cases g : n = 0
    · exact s_swapFor0 h g (Or.inl ⟨rfl, s_many h (j := 2) (by decide) ⟨fun z => absurd (show nI n = 0 by rw [g]; rfl) z, fun _ => P0⟩⟩)
    · exact a_swap h iv hp (hq g)
  · have e := c13 7 (by decide) z
    refine s_below (m := 3) (by decide) (by decide) (s_below (m := 5) (by decide) (by decide) ?_)
    have b5 := bl (x >>> (6 &&& 31)) 5 (by decide)
    generalize f_bl (x >>> (6 &&& 31)) 5 = d at b5 ⊢
    have ed : (td + nI d).toInt = td.toInt + d := y_add (by omega) (by omega) (by omega)
    have e10 : f_many 5 n B td 10 = td := rfl
    rw [e10, y_mn (c := 0) (by omega)]
    exact a_version h iv hp (bl _ 3 (by decide)) (by omega) (by omega) (Or.inr ⟨rfl, s_cat (by omega) (by omega) (by omega) (by omega) P0⟩)
  · have e := c13 8 (by decide) z
    refine s_below (m := 3) (by decide) (by decide) (s_below (m := 5) (by decide) (by decide) ?_)
    have b5 := bl (x >>> (6 &&& 31)) 5 (by decide)
    generalize f_bl (x >>> (6 &&& 31)) 5 = d at b5 ⊢
    have ed : ((1 : Int32) + nI d).toInt = (1 : Int32).toInt + d := y_add (by omega) (by decide) (by decide)
    rw [show (1 : Int32).toInt = 1 by decide] at ed
    exact a_late h iv (by omega) hp (bl _ 3 (by decide)) (by omega) (by omega) (Or.inr ⟨rfl, s_cat (by omega) (by omega) (by omega) (by omega) P0⟩)
  · have e := c13 9 (by decide) z
    refine s_below (m := 2) (by decide) (by decide) (s_below (m := 1024) (by decide) (by decide) ?_)
    have b2 := bl (x >>> (4 &&& 31)) 2 (by decide)
    have b5 := bl (x >>> (2 &&& 31)) 1024 (by decide)
    have ep : (nI (f_bl (x >>> (2 &&& 31)) 1024)).toInt = (f_bl (x >>> (2 &&& 31)) 1024 : Nat) := nI_toInt (by omega)
    exact a_groups h iv hp (by omega) (by omega) (by omega) (by omega)
end ACT3
