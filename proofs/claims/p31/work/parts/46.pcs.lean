/-! the law's look at the pieces -/
theorem mn_le {C : Nat → Int32} {d : Int32} (hd : d.toInt ≤ 99) : ∀ k : Nat, ((f_mn C k).toInt ≤ d.toInt ↔ ∃ v : Nat, v < k ∧ (C v).toInt ≤ d.toInt)
  | 0 => ⟨fun h => by
      have h : (100 : Int32).toInt ≤ d.toInt := h
      rw [show (100 : Int32).toInt = 100 by decide] at h
      omega, fun ⟨v, hv, _⟩ => absurd hv (Nat.not_lt_zero v)⟩
  | k + 1 => by
    have ih := mn_le (C := C) hd k
    have e : f_mn C (k + 1) = if C k < f_mn C k then C k else f_mn C k := rfl
    rw [e]
    by_cases g : C k < f_mn C k
    · rw [if_pos g]
      rw [Int32.lt_iff_toInt_lt] at g
      refine ⟨fun h => ⟨k, Nat.lt_succ_self k, h⟩, fun ⟨v, hv, hc⟩ => ?_⟩
      by_cases g2 : v = k
      · rw [← g2]; exact hc
      · have := ih.mpr ⟨v, by omega, hc⟩
        omega
    · rw [if_neg g]
      rw [Int32.lt_iff_toInt_lt] at g
      refine ⟨fun h => ?_, fun ⟨v, hv, hc⟩ => ?_⟩
      · obtain ⟨v, hv, hc⟩ := ih.mp h
        exact ⟨v, by omega, hc⟩
      · by_cases g2 : v = k
        · rw [g2] at hc; omega
        · exact ih.mpr ⟨v, by omega, hc⟩
theorem ver_no {C : Nat → Int32} {d : Int32} : ¬ f_ver C d = -1 ↔ ∃ v : Nat, v < 5 ∧ (C v).toInt ≤ d.toInt := by
  constructor
  · intro h
    refine Classical.byContradiction fun z => h (f_ver_no fun v hv => ?_)
    rw [Int32.lt_iff_toInt_lt]
    exact Int.not_le.mp fun w => z ⟨v, hv, w⟩
  · rintro ⟨v, hv, hc⟩ h
    have hc : C v ≤ d := Int32.le_iff_toInt_le.mpr hc
    unfold f_ver at h
    by_cases g4 : C 4 ≤ d
    · rw [if_pos g4] at h; exact absurd h (by decide)
    · rw [if_neg g4] at h
      by_cases g3 : C 3 ≤ d
      · rw [if_pos g3] at h; exact absurd h (by decide)
      · rw [if_neg g3] at h
        by_cases g2 : C 2 ≤ d
        · rw [if_pos g2] at h; exact absurd h (by decide)
        · rw [if_neg g2] at h
          by_cases g1 : C 1 ≤ d
          · rw [if_pos g1] at h; exact absurd h (by decide)
          · rw [if_neg g1] at h
            by_cases g0 : C 0 ≤ d
            · rw [if_pos g0] at h; exact absurd h (by decide)
            · rcases (show v = 0 ∨ v = 1 ∨ v = 2 ∨ v = 3 ∨ v = 4 by omega) with rfl | rfl | rfl | rfl | rfl <;> contradiction
theorem mx_le {C : Nat → Nat → Int32} {d : Int32} (h0 : 0 ≤ d.toInt) : ∀ n : Nat, ((f_mx C n).toInt ≤ d.toInt ↔ ∀ i : Nat, i < n → (f_mn (C i) 5).toInt ≤ d.toInt)
  | 0 => ⟨fun _ i hi => absurd hi (Nat.not_lt_zero i), fun _ => h0⟩
  | k + 1 => by
    have ih := mx_le (C := C) h0 k
    have e : f_mx C (k + 1) = if f_mx C k < f_mn (C k) 5 then f_mn (C k) 5 else f_mx C k := rfl
    rw [e]
    by_cases g : f_mx C k < f_mn (C k) 5
    · rw [if_pos g]
      rw [Int32.lt_iff_toInt_lt] at g
      refine ⟨fun h i hi => ?_, fun h => h k (Nat.lt_succ_self k)⟩
      by_cases g2 : i = k
      · rw [g2]; exact h
      · exact ih.mp (by omega) i (by omega)
    · rw [if_neg g]
      rw [Int32.lt_iff_toInt_lt] at g
      refine ⟨fun h i hi => ?_, fun h => ih.mpr fun i hi => h i (by omega)⟩
      by_cases g2 : i = k
      · rw [g2]; omega
      · exact ih.mp h i (by omega)
theorem mx_0 {C : Nat → Nat → Int32} : ∀ n : Nat, 0 ≤ (f_mx C n).toInt
  | 0 => by
    show 0 ≤ (0 : Int32).toInt
    decide
  | k + 1 => by
    have ih := mx_0 (C := C) k
    have e : f_mx C (k + 1) = if f_mx C k < f_mn (C k) 5 then f_mn (C k) 5 else f_mx C k := rfl
    rw [e]
    by_cases g : f_mx C k < f_mn (C k) 5
    · rw [if_pos g]
      rw [Int32.lt_iff_toInt_lt] at g
      omega
    · rw [if_neg g]; exact ih
theorem laid_mx {n : Nat} {C : Nat → Nat → Int32} {d : Int32} (h0 : 0 ≤ d.toInt) (h1 : d.toInt ≤ 99) : p_laid n C d ↔ (f_mx C n).toInt ≤ d.toInt := by
  rw [mx_le h0]
  exact ⟨fun h i hi => (mn_le h1 5).mpr (ver_no.mp (h i hi)), fun h i hi => ver_no.mpr ((mn_le h1 5).mp (h i hi))⟩
/-- not laid is: it has no first day, or the day is ahead of it -/
theorem laid_fd {n : Nat} {C : Nat → Nat → Int32} {d : Int32} (h0 : 0 ≤ d.toInt) (h1 : d.toInt ≤ 99) : p_laid n C d ↔ (¬ f_fd n C < 0 ∧ f_fd n C ≤ d) := by
  rw [laid_mx h0 h1]
  have m0 := mx_0 (C := C) n
  unfold f_fd
  by_cases g : f_mx C n ≤ 99
  · rw [if_pos g, Int32.lt_iff_toInt_lt, Int32.le_iff_toInt_le, y_toInt0]
    exact ⟨fun h => ⟨by omega, h⟩, fun h => h.2⟩
  · rw [if_neg g]
    rw [Int32.le_iff_toInt_le, show (99 : Int32).toInt = 99 by decide] at g
    exact ⟨fun h => by omega, fun h => absurd (show (-1 : Int32) < 0 by decide) h.1⟩
section PCS
variable {T : zT} {F : zF} {zE : Nat} {Q : Nat → Nat} {W : Nat → Nat → Nat → Nat} {fm as : Nat → Int32} {r : Nat → Nat → Nat} {V : Nat → Nat → Nat → Int32} {CC AA : Nat → Nat → Int32} {G : Nat → Int32} {n : Nat} {bp : Nat → Nat} {B : Nat → Nat → Int32} {td : Int32} {e te nt : Nat} {ba ra : Nat → Nat} {t0 : Nat}
theorem s_pieces (h : RmX T F zE Q W 5 fm as r V CC AA G n bp B td e te nt ba ra) (iv : Inv n B td G CC t0) (hS : ∀ k : Nat, k < 5 → ∀ q : Nat, q < 3 → (¬ ((as k >>> (nI q &&& 31)) &&& 1) = 0 ↔ ∃ i : Nat, i < W 4 k 0 ∧ r k i = q)) {x : Int32} {Post : Int32 → Prop} (hp : Post 1) : v_L_arePiecesRight (Q 0) x T F Post := by
  have hn16 := h.pl.2.2.2.2.2.1
  refine ⟨fun m y => ∃ k : Nat, k ≤ 5 ∧ m = 5 - k ∧ y.toInt = k, ⟨5, 0, by decide, rfl, by decide⟩, ?_⟩
  rintro m y ⟨k, hk, rfl, hy⟩
  have e0 : y = nI k := y_nI hy (by omega)
  subst e0
  obtain ⟨L1, L2⟩ := y_lp (n := 5) hk (by omega)
  refine ⟨fun _ => hp, fun hlt => ?_⟩
  have k5 := L2 hlt
  have w4 := h.2.2.2.1.2 k k5
  refine ⟨h.1.1, s_ofPiece h k5 (j := 4) (by decide) ?_⟩
  refine ⟨fun m s y => ∃ q : Nat, q ≤ n ∧ m = n - q ∧ y.toInt = q ∧ s = f_cnt (fun i => p_op (B i) ∧ bp i = k) 0 q, ⟨n, 0, Nat.zero_le _, rfl, by decide, rfl⟩, ?_⟩
  rintro m s y ⟨q, hq, rfl, hy2, rfl⟩
  have e0 : y = nI q := y_nI hy2 (by omega)
  subst e0
  obtain ⟨M1, M2⟩ := y_lp hq (by omega)
  refine s_many h (j := 2) (by decide) ⟨fun hge => ?_, fun hlt2 => ?_⟩
  · have eq := M1 hge
    subst eq
    refine s_ofPiece h k5 (j := 3) (by decide) ⟨fun _ => ?_, fun z => absurd rfl z⟩
    refine ⟨fun m y => ∃ j : Nat, j ≤ 4 ∧ m = 4 - j ∧ y.toInt = j, ⟨4, 0, by decide, rfl, by decide⟩, ?_⟩
    rintro m y ⟨j, hj, rfl, hy3⟩
    have e0 : y = nI j := y_nI hy3 (by omega)
    subst e0
    obtain ⟨N1, N2⟩ := y_lp (n := 4) hj (by omega)
    refine ⟨fun hge => ⟨5 - (k + 1), by omega, k + 1, by omega, rfl, y_inc hy (by omega)⟩, fun hlt3 => ?_⟩
    have j4 := N2 hlt3
    refine s_below (m := 100) (by decide) (by decide) ?_
    have d99 := f_bl_lt (p := x >>> (nI j &&& 31)) (m := 100) (by decide)
    generalize f_bl (x >>> (nI j &&& 31)) 100 = dn at d99 ⊢
    have dt : (nI dn).toInt = dn := y_nIc (by omega)
    generalize nI dn = d at dt ⊢
    refine s_reason h k5 j4 (by omega) (by omega) ?_
    have hr := f_rs_p (n := W 4 k 0) (C := fun i => CC (r k i)) (A := fun i => AA (r k i)) (V := V k j) (land := nI j) (d := d)
    generalize f_rs (W 4 k 0) (fun i => CC (r k i)) (fun i => AA (r k i)) (V k j) (nI j) d = rs at hr ⊢
    have lf := laid_fd (n := W 4 k 0) (C := fun i => CC (r k i)) (d := d) (by omega) (by omega)
    refine ⟨fun m a y => ∃ q : Nat, q ≤ 3 ∧ m = 3 - q ∧ y.toInt = q ∧ ((a = 1 ∧ ∀ u : Nat, u < q → (((as k >>> (nI u &&& 31)) &&& 1) = 0 ∨ p_gr (AA u) (nI j) d d)) ∨ (a = 0 ∧ ∃ u : Nat, u < q ∧ ¬ ((as k >>> (nI u &&& 31)) &&& 1) = 0 ∧ ¬ p_gr (AA u) (nI j) d d)), ⟨3, 0, by decide, rfl, by decide, Or.inl ⟨rfl, fun u hu => absurd hu (Nat.not_lt_zero u)⟩⟩, ?_⟩
    rintro m a y ⟨u, hu, rfl, hy4, ha⟩
    have e0 : y = nI u := y_nI hy4 (by omega)
    subst e0
    obtain ⟨O1, O2⟩ := y_lp (n := 3) hu (by omega)
    refine ⟨fun hge => ?_, fun hlt4 => ?_⟩
    · have eu := O1 hge
      subst eu
      have hm : (¬ a = 0 ↔ p_grd (W 4 k 0) (fun i => AA (r k i)) (nI j) d d) := by
        rcases ha with ⟨rfl, ha⟩ | ⟨rfl, u, hu, a1, a2⟩
        · refine ⟨fun _ i hi => ?_, fun _ => by decide⟩
          rcases ha (r k i) (w4 i hi).1 with z | z
          · exact absurd z ((hS k k5 (r k i) (w4 i hi).1).mpr ⟨i, hi, rfl⟩)
          · exact z
        · refine ⟨fun z => absurd rfl z, fun z => ?_⟩
          obtain ⟨i, hi, e⟩ := (hS k k5 u hu).mp a1
          have := z i hi
          rw [← e] at a2
          exact absurd this a2
      have fin : ∀ b : Int32, (¬ b = 0 ↔ p_fit (W 4 k 0) (fun i => CC (r k i)) (V k j) d) → ∃ J101 : Int32 → Prop, (∀ (y35 : Int32), J101 y35 → (∃ J134 : Int32 → Prop, (∀ (y104 : Int32), J134 y104 → ((¬ y35 = y104 → Post 0) ∧ (y35 = y104 → (∃ J150 : Prop, (J150  → (∃ J158 : Prop, (J158  → (∃ J162 : Prop, (J162  → (∃ n165 : Nat, n165 < 4 - j ∧ ∃ j' : Nat, j' ≤ 4 ∧ n165 = 4 - j' ∧ (nI j + 1).toInt = j')) ∧ ((¬ rs = 0 → (J162)) ∧ (rs = 0 → ((a = 0 → Post 0) ∧ (¬ a = 0 → ((¬ b = 0 → (J162)) ∧ (b = 0 → Post 0)))))))) ∧ ((¬ rs = 3 → (J158)) ∧ (rs = 3 → ((a = 0 → Post 0) ∧ (¬ a = 0 → ((¬ b = 0 → Post 0) ∧ (b = 0 → (J158))))))))) ∧ ((¬ rs = 2 → (J150)) ∧ (rs = 2 → ((¬ a = 0 → Post 0) ∧ (a = 0 → (J150))))))))) ∧ ∃ J166 : Prop, (J166  → (J134 1)) ∧ ((f_fd (W 4 k 0) (fun i => CC (r k i)) < 0 → (J166)) ∧ (¬ f_fd (W 4 k 0) (fun i => CC (r k i)) < 0 → ((f_fd (W 4 k 0) (fun i => CC (r k i)) ≤ d → (J134 0)) ∧ (¬ f_fd (W 4 k 0) (fun i => CC (r k i)) ≤ d → (J166))))))) ∧ ((¬ rs = 1 → (J101 0)) ∧ (rs = 1 → (J101 1))) := fun b hb => by
        refine ⟨fun v => (v = 1 ∧ ¬ p_laid (W 4 k 0) (fun i => CC (r k i)) d) ∨ (v = 0 ∧ p_laid (W 4 k 0) (fun i => CC (r k i)) d), fun v hv => ⟨fun w => (w = 1 ∧ ¬ p_laid (W 4 k 0) (fun i => CC (r k i)) d) ∨ (w = 0 ∧ p_laid (W 4 k 0) (fun i => CC (r k i)) d), fun w hw => ⟨fun z => ?_, fun _ => ⟨True, fun _ => ⟨True, fun _ => ⟨True, fun _ => ⟨4 - (j + 1), by omega, j + 1, by omega, rfl, y_inc hy3 (by omega)⟩, fun _ => trivial, fun z => ⟨fun z2 => ?_, fun _ => ⟨fun _ => trivial, fun z2 => ?_⟩⟩⟩, fun _ => trivial, fun z => ⟨fun z2 => ?_, fun _ => ⟨fun z2 => ?_, fun _ => trivial⟩⟩⟩, fun _ => trivial, fun z => ⟨fun z2 => ?_, fun _ => trivial⟩⟩⟩, ¬ p_laid (W 4 k 0) (fun i => CC (r k i)) d, fun z => Or.inl ⟨rfl, z⟩, fun z => fun l => absurd z (lf.mp l).1, fun z => ⟨fun z2 => Or.inr ⟨rfl, lf.mpr ⟨z, z2⟩⟩, fun z2 l => absurd (lf.mp l).2 z2⟩⟩, fun z => ?_, fun z => ?_⟩
        · exfalso
          rcases hv with ⟨rfl, l⟩ | ⟨rfl, l⟩ <;> rcases hw with ⟨rfl, l2⟩ | ⟨rfl, l2⟩ <;> first | exact z rfl | contradiction
        · rcases hr with ⟨_, q⟩ | ⟨_, _, q⟩ | ⟨_, _, _, q⟩ | ⟨_, g, f, q⟩
          · rw [q] at z; exact absurd z (by decide)
          · rw [q] at z; exact absurd z (by decide)
          · rw [q] at z; exact absurd z (by decide)
          · exact absurd z2 (hm.mpr g)
        · rcases hr with ⟨_, q⟩ | ⟨_, _, q⟩ | ⟨_, _, _, q⟩ | ⟨_, g, f, q⟩
          · rw [q] at z; exact absurd z (by decide)
          · rw [q] at z; exact absurd z (by decide)
          · rw [q] at z; exact absurd z (by decide)
          · exact absurd z2 (hb.mpr f)
        · rcases hr with ⟨_, q⟩ | ⟨_, _, q⟩ | ⟨_, g, f, q⟩ | ⟨_, _, _, q⟩
          · rw [q] at z; exact absurd z (by decide)
          · rw [q] at z; exact absurd z (by decide)
          · exact absurd z2 (hm.mpr g)
          · rw [q] at z; exact absurd z (by decide)
        · rcases hr with ⟨_, q⟩ | ⟨_, _, q⟩ | ⟨_, g, f, q⟩ | ⟨_, _, _, q⟩
          · rw [q] at z; exact absurd z (by decide)
          · rw [q] at z; exact absurd z (by decide)
          · exact absurd (hb.mp z2) f
          · rw [q] at z; exact absurd z (by decide)
        · rcases hr with ⟨_, q⟩ | ⟨_, g, q⟩ | ⟨_, _, _, q⟩ | ⟨_, _, _, q⟩
          · rw [q] at z; exact absurd z (by decide)
          · exact absurd (hm.mp z2) g
          · rw [q] at z; exact absurd z (by decide)
          · rw [q] at z; exact absurd z (by decide)
        · rcases hr with ⟨_, q⟩ | ⟨l, _, q⟩ | ⟨l, _, _, q⟩ | ⟨l, _, _, q⟩
          · exact absurd q z
          · exact Or.inr ⟨rfl, l⟩
          · exact Or.inr ⟨rfl, l⟩
          · exact Or.inr ⟨rfl, l⟩
        · rcases hr with ⟨l, q⟩ | ⟨_, _, q⟩ | ⟨_, _, _, q⟩ | ⟨_, _, _, q⟩
          · exact Or.inl ⟨rfl, l⟩
          · rw [q] at z; exact absurd z (by decide)
          · rw [q] at z; exact absurd z (by decide)
          · rw [q] at z; exact absurd z (by decide)
      exact s_isFit h k5 j4 (by omega) (by omega) (fun f => fin 1 ⟨fun _ => f, fun _ => by decide⟩) (fun f => fin 0 ⟨fun z => absurd rfl z, fun z => absurd z f⟩)
    · have u3 := O2 hlt4
      refine s_ofPiece h k5 (j := 1) (by decide) ⟨fun v => (v = 1 ∧ (((as k >>> (nI u &&& 31)) &&& 1) = 0 ∨ p_gr (AA u) (nI j) d d)) ∨ (v = 0 ∧ ¬ ((as k >>> (nI u &&& 31)) &&& 1) = 0 ∧ ¬ p_gr (AA u) (nI j) d d), fun v hv => ⟨3 - (u + 1), by omega, u + 1, by omega, rfl, y_inc hy4 (by omega), ?_⟩, ((as k >>> (nI u &&& 31)) &&& 1) = 0 ∨ p_gr (AA u) (nI j) d d, fun z => Or.inl ⟨rfl, z⟩, fun z => Or.inl z, fun z => s_hasRights h u3 j4 (by omega) (by omega) (fun g => ⟨fun z => absurd z (by decide), fun _ => Or.inr g⟩) (fun g => ⟨fun _ => Or.inr ⟨rfl, z, g⟩, fun z => absurd rfl z⟩)⟩
      rcases ha with ⟨rfl, ha⟩ | ⟨rfl, u', hu', a1, a2⟩
      · rcases hv with ⟨rfl, hv⟩ | ⟨rfl, v1, v2⟩
        · refine Or.inl ⟨by decide, fun w hw => ?_⟩
          by_cases g : w = u
          · rw [g]; exact hv
          · exact ha w (by omega)
        · exact Or.inr ⟨by decide, u, Nat.lt_succ_self u, v1, v2⟩
      · refine Or.inr ⟨?_, u', by omega, a1, a2⟩
        rcases hv with ⟨rfl, -⟩ | ⟨rfl, -, -⟩ <;> decide
  · have q1 := M2 hlt2
    have hb := iv.2.1 q q1
    have st : ∀ v : Int32, ((v = 1 ∧ p_op (B q) ∧ bp q = k) ∨ (v = 0 ∧ ¬ (p_op (B q) ∧ bp q = k))) → f_cnt (fun i => p_op (B i) ∧ bp i = k) 0 q + v = f_cnt (fun i => p_op (B i) ∧ bp i = k) 0 (q + 1) := fun v hv => by
      rcases hv with ⟨rfl, hv⟩ | ⟨rfl, hv⟩
      · exact (f_if_t hv).symm
      · exact (Int32.add_zero _).trans (f_if_f hv).symm
    refine s_ofBooking h (j := 5) q1 (by decide) ⟨fun v => (v = 1 ∧ p_op (B q) ∧ bp q = k) ∨ (v = 0 ∧ ¬ (p_op (B q) ∧ bp q = k)), fun v hv => ⟨n - (q + 1), by omega, q + 1, by omega, rfl, y_inc hy2 (by omega), st v hv⟩, ¬ (p_op (B q) ∧ bp q = k), fun z => Or.inr ⟨rfl, z⟩, fun z l => ?_, fun z => s_ofBooking h (j := 0) q1 (by decide) ⟨fun z2 l => z2 ?_, fun z2 => Or.inl ⟨rfl, ?_, ?_⟩⟩⟩
    · have z : (2 : Int32) ≤ B q 6 := z
      rcases l.1 with l | l
      · rw [l] at z; exact absurd z (by decide)
      · rw [l] at z; exact absurd z (by decide)
    · show nI (bp q) = nI k
      rw [l.2]
    · have z : ¬ (2 : Int32) ≤ B q 6 := z
      rcases hb.2.2.2.1 with l | l | l | l | l
      · exact Or.inl l
      · exact Or.inr l
      · rw [l] at z; exact absurd (by decide) z
      · rw [l] at z; exact absurd (by decide) z
      · rw [l] at z; exact absurd (by decide) z
    · have z2 : nI (bp q) = nI k := z2
      have := (h.pl.2.2.2.2.2.2.1 q q1).2
      exact (nI_eq (by omega) (by omega)).mp z2
end PCS
