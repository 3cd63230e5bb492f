/-! the first call, case by case: the calls that may be answered -/
theorem s_fin {m o b : Nat} {v : Int32} {T : zT} {F : zF} (hm : T m = some (12, 6)) (h0 : F m 0 = .int 0) (ho : T o = some (103, 1)) (hv : F o 0 = .long v.toInt64) (hb : T b = some (104, 7)) :
    v_X9_thrown m T F (fun (r9 : Int32) => ((r9 = 0 → ((¬ (0 : Int32) = 0 → (∃ L9 : Nat, T b = some (104, L9) ∧ L9 ≤ 7)) ∧ ((0 : Int32) = 0 → (∃ n10 : Nat, T o = some (103, n10) ∧ vp_in 0 n10 ∧ ∃ x13 : Int64, F o (0 : Int32).toNatClampNeg = .long x13 ∧ (((lg_cmp x13 v.toInt64) = 0 → (∃ L9 : Nat, T b = some (104, L9) ∧ L9 ≤ 7)) ∧ (¬ (lg_cmp x13 v.toInt64) = 0 → False)))))) ∧ (¬ r9 = 0 → False))) :=
  ⟨hm, 0, h0, fun _ => ⟨fun h => absurd rfl h, fun _ => ⟨1, ho, y_in0, v.toInt64, hv, fun _ => ⟨7, hb, Nat.le_refl _⟩, fun h => h (y_cmp _)⟩⟩, fun h => absurd rfl h⟩
theorem s_fine {m b : Nat} {k : Int32} {A : Prop} {T : zT} {F : zF} (hm : T m = some (12, 6)) (h0 : F m 0 = .int k) (hk : ¬ k = 0) (hb : T b = some (104, 7)) :
    v_X9_thrown m T F (fun (r9 : Int32) => ((r9 = k → ((¬ k = 0 → (∃ L9 : Nat, T b = some (104, L9) ∧ L9 ≤ 7)) ∧ (k = 0 → A))) ∧ (¬ r9 = k → False))) :=
  ⟨hm, k, h0, fun _ => ⟨fun _ => ⟨7, hb, Nat.le_refl _⟩, fun h => absurd h hk⟩, fun h => absurd rfl h⟩
theorem y_o {F : zF} {o : Nat} {v : Value} : zu F o (0 : Int32).toNatClampNeg v o 0 = v := if_pos ⟨rfl, by decide⟩
theorem s_is {p lo hi : Int32} {T : zT} {F : zF} {Post : Int32 → Prop} (h0 : (p < lo ∨ hi < p) → Post 0) (h1 : ¬ (p < lo ∨ hi < p) → Post 1) : v_X9_is p lo hi T F Post :=
  ⟨fun h => h0 (Or.inl h), fun h => ⟨fun g => h0 (Or.inr g), fun g => h1 (fun q => q.elim h g)⟩⟩
theorem s_isLand {p : Int32} {T : zT} {F : zF} {Post : Int32 → Prop} (h0 : (p < 0 ∨ 4 ≤ p) → Post 0) (h1 : ¬ (p < 0 ∨ 4 ≤ p) → Post 1) : v_X9_isLand p T F Post :=
  s_is (fun h => ⟨Or.inl rfl, h0 (h.imp id (fun g => (y_lt4 p).mp g))⟩) (fun h => ⟨Or.inr rfl, h1 (fun g => h (g.imp id (fun q => (y_lt4 p).mpr q)))⟩)
theorem s_isMedium {p : Int32} {T : zT} {F : zF} {Post : Int32 → Prop} (h0 : (p < 0 ∨ 4 ≤ p) → Post 0) (h1 : ¬ (p < 0 ∨ 4 ≤ p) → Post 1) : v_X9_isMedium p T F Post :=
  s_is (fun h => ⟨Or.inl rfl, h0 (h.imp id (fun g => (y_lt4 p).mp g))⟩) (fun h => ⟨Or.inr rfl, h1 (fun g => h (g.imp id (fun q => (y_lt4 p).mpr q)))⟩)
theorem s_isDay {p : Int32} {T : zT} {F : zF} {Post : Int32 → Prop} (h0 : (p < 0 ∨ ¬ p ≤ 99) → Post 0) (h1 : ¬ (p < 0 ∨ ¬ p ≤ 99) → Post 1) : v_X9_isDay p T F Post :=
  s_is (fun h => ⟨Or.inl rfl, h0 (h.imp id (fun g => y_nle.mp g))⟩) (fun h => ⟨Or.inr rfl, h1 (fun g => h (g.imp id (fun q => y_nle.mpr q)))⟩)
theorem s_needLand {p : Int32} {T : zT} {F : zF} {Post : Prop} {PX : String → Prop} (hx : (p < 0 ∨ 4 ≤ p) → PX "java/lang/IndexOutOfBoundsException") (hk : ¬ (p < 0 ∨ 4 ≤ p) → Post) : v_X4_needLand p T F Post PX :=
  ⟨fun g => ⟨fun n => absurd rfl n, fun _ => hx (Or.inl g)⟩, fun g => ⟨fun g4 => ⟨fun n => absurd rfl n, fun _ => hx (Or.inr g4)⟩, fun g4 => ⟨fun _ => hk (fun q => q.elim g g4), fun n => absurd n (by decide)⟩⟩⟩
theorem s_needMedium {p : Int32} {T : zT} {F : zF} {Post : Prop} {PX : String → Prop} (hx : (p < 0 ∨ 4 ≤ p) → PX "java/lang/IndexOutOfBoundsException") (hk : ¬ (p < 0 ∨ 4 ≤ p) → Post) : v_X4_needMedium p T F Post PX :=
  ⟨fun g => ⟨fun n => absurd rfl n, fun _ => hx (Or.inl g)⟩, fun g => ⟨fun g4 => ⟨fun n => absurd rfl n, fun _ => hx (Or.inr g4)⟩, fun g4 => ⟨fun _ => hk (fun q => q.elim g g4), fun n => absurd n (by decide)⟩⟩⟩
theorem s_needDay {p : Int32} {T : zT} {F : zF} {Post : Prop} {PX : String → Prop} (hx : (p < 0 ∨ ¬ p ≤ 99) → PX "java/lang/IllegalArgumentException") (hk : ¬ (p < 0 ∨ ¬ p ≤ 99) → Post) : v_X4_needDay p T F Post PX :=
  ⟨fun g => hx (Or.inl g), fun g => ⟨fun g9 => hk (fun q => q.elim g (fun n => n g9)), fun g9 => hx (Or.inr g9)⟩⟩
theorem yl_0 {T : zT} {F : zF} {xs : Nat → Int32} {zE x m o b la gs pl tr lb lp tb tp ma mp mg mb ml : Nat} (hw : yW T F xs zE x m o b la gs pl tr lb lp tb tp ma mp mg mb ml) : vl_0 zE x m o b T F := by
  obtain ⟨hX, hM, ho, hb, hbv, hE, n1, n2, n3, n4, n5⟩ := hw
  have la0 : T la = some (2, 3) := hX.2.2.2.2.2.1.1
  refine ⟨hX.1, s_assetX hX hE fun T1 F1 e1 => ⟨1, (e1 _ _ ho).1, y_in0, ?_⟩⟩
  have hM1 : yM T1 F1 zE m ma mp mg mb ml := hM.kp e1 (fun a g => by
    subst g
    obtain ⟨-, -, -, -, -, k5, k6, k7, -, k9, -, k11, -, -, -, k15⟩ := hM
    exact ⟨n1, n2, y_ne la0 k11 (by decide), n3, y_ne la0 k7 (by decide), fun j hj => y_ne la0 (k9 j hj) (by decide)⟩) (fun j _ _ => (e1 _ _ hM.1).2 (y_ne hM.1 la0 (by decide)) j)
  have ho1 := (e1 _ _ ho).1
  have hM2 := hM1.kk (F' := zu F1 o (0 : Int32).toNatClampNeg (.long (0 : Int32).toInt64)) yE.us ho1 (by decide) (by decide) (by decide) (by decide) (by decide)
  refine ⟨hM2.1, s_assetM hM2 (e1 _ _ hE).1 fun T3 F3 e3 h0 => ⟨(e3 _ _ hM2.1).1, ?_⟩⟩
  have nom : ¬ (o = ma ∨ o = m) := fun g => g.elim (y_ne ho1 hM2.2.2.2.2.2.1.1 (by decide)) (y_ne ho1 hM2.1 (by decide))
  exact s_fin (e3 _ _ hM2.1).1 h0 (e3 _ _ ho1).1 (((e3 _ _ ho1).2 nom 0).trans y_o) (e3 _ _ (e1 _ _ hb).1).1
theorem yl_16 {T : zT} {F : zF} {xs : Nat → Int32} {zE x m o b la gs pl tr lb lp tb tp ma mp mg mb ml : Nat} (hw : yW T F xs zE x m o b la gs pl tr lb lp tb tp ma mp mg mb ml) : vl_16 x m o b T F := by
  obtain ⟨hX, hM, ho, hb, hbv, hE, n1, n2, n3, n4, n5⟩ := hw
  have p0 : T pl = some (6, 3) := hX.2.2.2.2.2.2.2.2.1.1
  refine ⟨hX.1, s_dayX hX fun F1 e1 => ⟨1, ho, y_in0, ?_⟩⟩
  have hM1 := hM.kk e1 p0 (by decide) (by decide) (by decide) (by decide) (by decide)
  have hM2 := hM1.kk (F' := zu F1 o (0 : Int32).toNatClampNeg (.long (0 : Int32).toInt64)) yE.us ho (by decide) (by decide) (by decide) (by decide) (by decide)
  have hM3 := hM2.km (v := .int 0) (Or.inl rfl)
  have om : o ≠ m := y_ne ho hM.1 (by decide)
  obtain ⟨k0, k1, k2, k3, k4, k5, k6, k7, k8, k9, k10, k11, k12, k13, k14, k15⟩ := hM3
  refine ⟨hM.1, hM.1, mb, k4, k11, 0, k13, fun _ => s_next k11 k12 k13 k15 fun T' F' e' => ⟨(e' _ _ hM.1).1, ?_⟩, fun h => absurd h (by decide)⟩
  refine s_fin (e' _ _ hM.1).1 (((e' _ _ hM.1).2 (fun g => g) 0).trans (z_une z_ueq (by decide))) (e' _ _ ho).1 (((e' _ _ ho).2 (fun g => g) 0).trans (z_une ?_ (by decide))) (e' _ _ hb).1
  exact ((yE.us (a := m) _ _ ho).2 om 0).trans y_o
theorem yl_17 {T : zT} {F : zF} {xs : Nat → Int32} {zE x m o b la gs pl tr lb lp tb tp ma mp mg mb ml : Nat} (hw : yW T F xs zE x m o b la gs pl tr lb lp tb tp ma mp mg mb ml) : vl_17 x m o b T F := by
  obtain ⟨hX, hM, ho, hb, hbv, hE, n1, n2, n3, n4, n5⟩ := hw
  have b1 : F b (1 : Int32).toNatClampNeg = .int (xs 1) := hbv 1 (by decide)
  have b2 : F b (2 : Int32).toNatClampNeg = .int (xs 2) := hbv 2 (by decide)
  have b3 : F b (3 : Int32).toNatClampNeg = .int (xs 3) := hbv 3 (by decide)
  have om : o ≠ m := y_ne ho hM.1 (by decide)
  have bo : b ≠ o := y_ne hb ho (by decide)
  refine ⟨7, hb, y_in1, xs 1, b1, y_in2, xs 2, b2, y_in3, xs 3, b3, hX.1, s_needLand (fun c1 => ?_) (fun c1 => s_needMedium (fun c2 => ?_) (fun c2 => s_needDay (fun c3 => ?_) (fun c3 => ?_)))⟩
  · exact Or.inl ⟨rfl, y_in1, _, b1, y_in2, _, b2, y_in3, _, b3, hM.1, hM.1, s_isLand (fun _ => ⟨fun _ => ⟨hM.1, s_fine hM.1 z_ueq (by decide) hb⟩, fun h => absurd rfl h⟩) (fun c => absurd c1 c)⟩
  · exact Or.inl ⟨rfl, y_in1, _, b1, y_in2, _, b2, y_in3, _, b3, hM.1, hM.1, s_isLand (fun c => absurd c c1) (fun _ => ⟨fun h => absurd h (by decide), fun _ => s_isMedium (fun _ => ⟨fun h => absurd rfl h, fun _ => ⟨hM.1, s_fine hM.1 z_ueq (by decide) hb⟩⟩) (fun c => absurd c2 c)⟩)⟩
  · exact Or.inr ⟨rfl, y_in1, _, b1, y_in2, _, b2, y_in3, _, b3, hM.1, hM.1, s_isLand (fun c => absurd c c1) (fun _ => ⟨fun h => absurd h (by decide), fun _ => s_isMedium (fun c => absurd c c2) (fun _ => ⟨fun _ => s_isDay (fun _ => ⟨fun _ => ⟨hM.1, s_fine hM.1 z_ueq (by decide) hb⟩, fun h => absurd rfl h⟩) (fun c => absurd c3 c), fun h => absurd h (by decide)⟩)⟩)⟩
  · obtain ⟨x0, x1, x2, x3, x4, x5, x6, x7, ⟨p0, p1, p2, p3, p4, p5⟩, -, -⟩ := hX
    have hM2 := hM.kk (F' := zu F o (0 : Int32).toNatClampNeg (.long (-1 : Int32).toInt64)) yE.us ho (by decide) (by decide) (by decide) (by decide) (by decide)
    have hM3 := hM2.km (v := .int 0) (Or.inl rfl)
    have eb := (yE.us (F := F) (a := o) (k := (0 : Int32).toNatClampNeg) (v := .long (-1 : Int32).toInt64) _ _ hb).2 bo
    obtain ⟨k0, k1, k2, k3, k4, k5, k6, k7, k8, k9, k10, k11, k12, k13, k14, k15⟩ := hM3
    exact ⟨x0, pl, x3, p0, p0, lb, p1, p4.1, p4.1, 0, p4.2.2.2, fun _ => ⟨1, ho, y_in0, y_in1, _, (eb _).trans b1, y_in2, _, (eb _).trans b2, y_in3, _, (eb _).trans b3, hM.1, hM.1, s_isLand (fun c => absurd c c1) (fun _ => ⟨fun h => absurd h (by decide), fun _ => s_isMedium (fun c => absurd c c2) (fun _ => ⟨fun _ => s_isDay (fun c => absurd c c3) (fun _ => ⟨fun h => absurd h (by decide), fun _ => ⟨hM.1, mb, k4, k11, ml, k12, k15.1, k15.1, 0, k15.2.2.2, fun _ => s_fin hM.1 z_ueq ho (((yE.us (a := m) _ _ ho).2 om 0).trans y_o) hb, fun h => absurd (by decide) h⟩⟩), fun h => absurd h (by decide)⟩)⟩)⟩, fun h => absurd (by decide) h⟩
theorem yl_18 {T : zT} {F : zF} {xs : Nat → Int32} {zE x m o b la gs pl tr lb lp tb tp ma mp mg mb ml : Nat} (hw : yW T F xs zE x m o b la gs pl tr lb lp tb tp ma mp mg mb ml) : vl_18 x m o b T F := by
  obtain ⟨hX, hM, ho, hb, hbv, hE, n1, n2, n3, n4, n5⟩ := hw
  have b1 : F b (1 : Int32).toNatClampNeg = .int (xs 1) := hbv 1 (by decide)
  have om : o ≠ m := y_ne ho hM.1 (by decide)
  have bo : b ≠ o := y_ne hb ho (by decide)
  have ci : (xs 1 < 0 ∨ 10 < xs 1) ↔ ((xs 1).toInt < 0 ∨ 10 < (xs 1).toInt) := by
    rw [Int32.lt_iff_toInt_lt, Int32.lt_iff_toInt_lt, show (0 : Int32).toInt = 0 by decide, show (10 : Int32).toInt = 10 by decide]
  refine ⟨7, hb, y_in1, xs 1, b1, hX.1, s_many hX (fun c => ⟨rfl, y_in1, xs 1, b1, hM.1, hM.1, s_is (fun _ => ⟨fun _ => ⟨hM.1, hM.1, s_fine hM.1 z_ueq (by decide) hb⟩, fun h => absurd rfl h⟩) (fun g => absurd (ci.mpr c) g)⟩) (fun c => ⟨1, ho, y_in0, y_in1, xs 1, ?_, hM.1, hM.1, s_is (fun g => absurd (ci.mp g) c) (fun _ => ⟨fun h => absurd h (by decide), fun _ => ?_⟩)⟩)⟩
  · exact ((yE.us (F := F) (a := o) (k := (0 : Int32).toNatClampNeg) (v := .long (0 : Int32).toInt64) _ _ hb).2 bo _).trans b1
  · have hM2 := hM.kk (F' := zu F o (0 : Int32).toNatClampNeg (.long (0 : Int32).toInt64)) yE.us ho (by decide) (by decide) (by decide) (by decide) (by decide)
    refine s_manyNow (hM2.km (v := .int 0) (Or.inl rfl)) fun T' F' e' => ⟨(e' _ _ hM.1).1, s_fin (e' _ _ hM.1).1 (((e' _ _ hM.1).2 (fun g => g) 0).trans z_ueq) (e' _ _ ho).1 (((e' _ _ ho).2 (fun g => g) 0).trans ?_) (e' _ _ hb).1⟩
    exact ((yE.us (a := m) _ _ ho).2 om 0).trans y_o
theorem s_isEmpty {l zE : Nat} {T : zT} {F : zF} {Post : Int32 → Prop} (hl : yL T F l zE) (hk : Post 1) : v_Jx4a65c_isEmpty_aae02 l T F Post := ⟨hl.1, 0, hl.2.2.2, fun h => absurd rfl h, fun _ => hk⟩
theorem y_dc : Op.cmpValue (FP.dcmp FP.dconst0 FP.dconst0) .l = 0 := by decide +kernel
theorem yl_19 {T : zT} {F : zF} {xs : Nat → Int32} {zE x m o b la gs pl tr lb lp tb tp ma mp mg mb ml : Nat} (hw : yW T F xs zE x m o b la gs pl tr lb lp tb tp ma mp mg mb ml) : vl_19 x m o b T F := by
  obtain ⟨⟨x0, x1, x2, x3, x4, x5, x6, x7, ⟨p0, p1, p2, p3, p4, p5⟩, -, -⟩, hM, ho, hb, hbv, hE, n1, n2, n3, n4, n5⟩ := hw
  have hM3 := hM.km (v := .int 0) (Or.inl rfl)
  obtain ⟨k0, k1, k2, k3, k4, k5, k6, k7, k8, k9, k10, k11, k12, k13, k14, k15⟩ := id hM3
  refine ⟨x0, x0, pl, x3, p0, lb, p1, p4.1, p4.1, 0, p4.2.2.2, fun h => absurd rfl h, fun _ => ⟨k0, k0, mb, k4, k11, ml, k12, k15.1, s_it (c := 0) k15.1 k15.2.1 k15.2.2.2 fun T' F' e' => ?_⟩⟩
  obtain ⟨j0, j1, j2, j3, j4, j5, j6, j7, j8, j9, j10, j11, j12, j13, j14, j15⟩ := hM3.k0 e'
  exact ⟨j0, mb, j4, j11, ml, j12, j15.1, s_isEmpty j15 ⟨fun h => absurd h (by decide), fun _ => ⟨fun _ => ⟨7, (e' _ _ hb).1, Nat.le_refl _⟩, fun h => absurd y_dc h⟩⟩⟩
theorem y_pl {p q : Int32} (hp : ¬ (p < 0 ∨ 4 ≤ p)) (hq : ¬ (q < 0 ∨ 4 ≤ q)) : vp_in ((p * 4) + q) 16 := by
  rw [Int32.lt_iff_toInt_lt, Int32.le_iff_toInt_le, show (0 : Int32).toInt = 0 by decide, show (4 : Int32).toInt = 4 by decide] at hp hq
  refine y_in (k := (p.toInt * 4 + q.toInt).toNat) ?_ (by omega)
  rw [Int32.toInt_add, Int32.toInt_mul, show (4 : Int32).toInt = 4 by decide, Int.bmod_def, Int.bmod_def]
  omega
theorem y_p4 {p : Int32} (hp : ¬ (p < 0 ∨ 4 ≤ p)) : vp_in p 4 ∧ p.toNatClampNeg < 4 := by
  rw [Int32.lt_iff_toInt_lt, Int32.le_iff_toInt_le, show (0 : Int32).toInt = 0 by decide, show (4 : Int32).toInt = 4 by decide] at hp
  refine ⟨y_in (k := p.toInt.toNat) (by omega) (by omega), ?_⟩
  show p.toInt.toNat < 4
  omega
theorem s_groups {zE x la gs pl tr lb lp tb tp : Nat} {p q r : Int32} {T : zT} {F : zF} {Post : Int32 → zF → Prop} {PX : String → zF → Prop} (h : yX T F zE x la gs pl tr lb lp tb tp) (hx : (p < 0 ∨ 4 ≤ p) → PX "java/lang/IndexOutOfBoundsException" F) (hy : ¬ (p < 0 ∨ 4 ≤ p) → (q < 0 ∨ 4 ≤ q) → PX "java/lang/IndexOutOfBoundsException" F) (hz : ¬ (p < 0 ∨ 4 ≤ p) → ¬ (q < 0 ∨ 4 ≤ q) → (r < 0 ∨ 1023 < r) → PX "java/lang/IllegalArgumentException" F) (hk : ¬ (p < 0 ∨ 4 ≤ p) → ¬ (q < 0 ∨ 4 ≤ q) → ¬ (r < 0 ∨ 1023 < r) → ∀ F' : zF, yE (fun a => a = gs) T F T F' → Post 0 F') : v_X4_groups x p q r T F Post PX := by
  obtain ⟨h0, h1, h2, h3, h4, h5, h6, h7, -⟩ := h
  exact s_needMedium hx fun c1 => s_needLand (hy c1) fun c2 => ⟨fun g => hz c1 c2 (Or.inl g), fun g => ⟨fun g9 => ⟨h0, gs, h2, 16, h6, y_pl c1 c2, 0, h7 _, y_pl c1 c2, hk c1 c2 (fun n => n.elim g (fun w => y_nle.mp w g9)) _ yE.us⟩, fun g9 => hz c1 c2 (Or.inr (y_nle.mpr g9))⟩⟩
theorem yl_20 {T : zT} {F : zF} {xs : Nat → Int32} {zE x m o b la gs pl tr lb lp tb tp ma mp mg mb ml : Nat} (hw : yW T F xs zE x m o b la gs pl tr lb lp tb tp ma mp mg mb ml) : vl_20 x m o b T F := by
  obtain ⟨hX, hM, ho, hb, hbv, hE, n1, n2, n3, n4, n5⟩ := hw
  have b1 : F b (1 : Int32).toNatClampNeg = .int (xs 1) := hbv 1 (by decide)
  have b2 : F b (2 : Int32).toNatClampNeg = .int (xs 2) := hbv 2 (by decide)
  have b3 : F b (3 : Int32).toNatClampNeg = .int (xs 3) := hbv 3 (by decide)
  have om : o ≠ m := y_ne ho hM.1 (by decide)
  have bo : b ≠ o := y_ne hb ho (by decide)
  have gs0 : T gs = some (100, 16) := hX.2.2.2.2.2.2.1
  have bg : b ≠ gs := y_ne hb gs0 (by decide)
  refine ⟨7, hb, y_in1, xs 1, b1, y_in2, xs 2, b2, y_in3, xs 3, b3, hX.1, s_groups hX (fun c1 => ?_) (fun c1 c2 => ?_) (fun c1 c2 c3 => ?_) (fun c1 c2 c3 F1 e1 => ?_)⟩
  · exact Or.inl ⟨rfl, y_in1, _, b1, y_in2, _, b2, y_in3, _, b3, hM.1, hM.1, s_isMedium (fun _ => ⟨fun _ => ⟨hM.1, s_fine hM.1 z_ueq (by decide) hb⟩, fun h => absurd rfl h⟩) (fun c => absurd c1 c)⟩
  · exact Or.inl ⟨rfl, y_in1, _, b1, y_in2, _, b2, y_in3, _, b3, hM.1, hM.1, s_isMedium (fun c => absurd c c1) (fun _ => ⟨fun h => absurd h (by decide), fun _ => s_isLand (fun _ => ⟨fun h => absurd rfl h, fun _ => ⟨hM.1, s_fine hM.1 z_ueq (by decide) hb⟩⟩) (fun c => absurd c2 c)⟩)⟩
  · exact Or.inr ⟨rfl, y_in1, _, b1, y_in2, _, b2, y_in3, _, b3, hM.1, hM.1, s_isMedium (fun c => absurd c c1) (fun _ => ⟨fun h => absurd h (by decide), fun _ => s_isLand (fun c => absurd c c2) (fun _ => ⟨fun _ => s_is (fun _ => ⟨fun h => absurd rfl h, fun _ => ⟨hM.1, s_fine hM.1 z_ueq (by decide) hb⟩⟩) (fun c => absurd c3 c), fun h => absurd h (by decide)⟩)⟩)⟩
  · have hM1 := hM.kk e1 gs0 (by decide) (by decide) (by decide) (by decide) (by decide)
    have hM2 := hM1.kk (F' := zu F1 o (0 : Int32).toNatClampNeg (.long (0 : Int32).toInt64)) yE.us ho (by decide) (by decide) (by decide) (by decide) (by decide)
    have eb : ∀ j : Nat, zu F1 o (0 : Int32).toNatClampNeg (.long (0 : Int32).toInt64) b j = F b j := fun j => ((yE.us (F := F1) (a := o) (k := (0 : Int32).toNatClampNeg) (v := .long (0 : Int32).toInt64) _ _ hb).2 bo j).trans ((e1 _ _ hb).2 bg j)
    obtain ⟨k0, k1, k2, k3, k4, k5, k6, k7, k8, k9, k10, k11, k12, k13, k14, k15⟩ := hM2.km (v := .int 0) (Or.inl rfl)
    obtain ⟨i1, j1⟩ := y_p4 c1
    obtain ⟨i2, j2⟩ := y_p4 c2
    have hr := k9 _ j1
    have mr : m ≠ mg + 1 + (xs 1).toNatClampNeg := y_ne k0 hr (by decide)
    have or' : o ≠ mg + 1 + (xs 1).toNatClampNeg := y_ne ho hr (by decide)
    refine ⟨1, ho, y_in0, y_in1, _, (eb _).trans b1, y_in2, _, (eb _).trans b2, y_in3, _, (eb _).trans b3, hM.1, hM.1, s_isMedium (fun c => absurd c c1) (fun _ => ⟨fun h => absurd h (by decide), fun _ => s_isLand (fun c => absurd c c2) (fun _ => ⟨fun _ => s_is (fun c => absurd c c3) (fun _ => ⟨fun _ => ⟨mg, k3, 4, k7, i1, _, k8 _ j1, 4, hr, i2, 0, k10 _ _ j1, i1, _, k8 _ j1, 4, hr, i2, ?_⟩, fun h => absurd h (by decide)⟩), fun h => absurd h (by decide)⟩)⟩)⟩
    exact s_fin k0 (((yE.us (a := mg + 1 + (xs 1).toNatClampNeg) _ _ k0).2 mr 0).trans z_ueq) ho (((yE.us (a := mg + 1 + (xs 1).toNatClampNeg) _ _ ho).2 or' 0).trans (((yE.us (a := m) _ _ ho).2 om 0).trans y_o)) hb
theorem yl_21 {T : zT} {F : zF} {xs : Nat → Int32} {zE x m o b la gs pl tr lb lp tb tp ma mp mg mb ml : Nat} (hw : yW T F xs zE x m o b la gs pl tr lb lp tb tp ma mp mg mb ml) : vl_21 x m o b T F := by
  obtain ⟨hX, hM, ho, hb, hbv, hE, n1, n2, n3, n4, n5⟩ := hw
  have b1 : F b (1 : Int32).toNatClampNeg = .int (xs 1) := hbv 1 (by decide)
  have om : o ≠ m := y_ne ho hM.1 (by decide)
  have bo : b ≠ o := y_ne hb ho (by decide)
  refine ⟨7, hb, y_in1, xs 1, b1, hX.1, s_reach hX (fun c => ⟨rfl, y_in1, xs 1, b1, hM.1, hM.1, s_isLand (fun _ => ⟨fun _ => ⟨hM.1, hM.1, s_fine hM.1 z_ueq (by decide) hb⟩, fun h => absurd rfl h⟩) (fun g => absurd c g)⟩) (fun c => ⟨1, ho, y_in0, y_in1, xs 1, ?_, hM.1, hM.1, s_isLand (fun g => absurd g c) (fun _ => ⟨fun h => absurd h (by decide), fun _ => ?_⟩)⟩)⟩
  · exact ((yE.us (F := F) (a := o) (k := (0 : Int32).toNatClampNeg) (v := .long (0 : Int32).toInt64) _ _ hb).2 bo _).trans b1
  · have hM2 := hM.kk (F' := zu F o (0 : Int32).toNatClampNeg (.long (0 : Int32).toInt64)) yE.us ho (by decide) (by decide) (by decide) (by decide) (by decide)
    refine s_reachNow (hM2.km (v := .int 0) (Or.inl rfl)) fun T' F' e' => ⟨(e' _ _ hM.1).1, s_fin (e' _ _ hM.1).1 (((e' _ _ hM.1).2 (fun g => g) 0).trans z_ueq) (e' _ _ ho).1 (((e' _ _ ho).2 (fun g => g) 0).trans ?_) (e' _ _ hb).1⟩
    exact ((yE.us (a := m) _ _ ho).2 om 0).trans y_o
theorem yl_25 {T : zT} {F : zF} {xs : Nat → Int32} {zE x m o b la gs pl tr lb lp tb tp ma mp mg mb ml : Nat} (hw : yW T F xs zE x m o b la gs pl tr lb lp tb tp ma mp mg mb ml) : vl_25 zE x m o b T F := by
  obtain ⟨hX, hM, ho, hb, hbv, hE, n1, n2, n3, n4, n5⟩ := hw
  have b1 : F b (1 : Int32).toNatClampNeg = .int (xs 1) := hbv 1 (by decide)
  have om : o ≠ m := y_ne ho hM.1 (by decide)
  have bo : b ≠ o := y_ne hb ho (by decide)
  have tr0 : T tr = some (6, 3) := hX.2.2.2.2.2.2.2.2.2.1.1
  have bt : b ≠ tr := y_ne hb tr0 (by decide)
  have ci : (xs 1 < 1 ∨ ¬ xs 1 ≤ 30) ↔ (xs 1 < 1 ∨ 30 < xs 1) := ⟨fun h => h.imp id (fun g => y_nle.mpr g), fun h => h.imp id (fun g => y_nle.mp g)⟩
  refine ⟨7, hb, y_in1, xs 1, b1, hX.1, s_lostIn hX (fun c => ⟨rfl, y_in1, xs 1, b1, hM.1, hM.1, s_is (fun _ => ⟨fun _ => ⟨hM.1, hM.1, s_fine hM.1 z_ueq (by decide) hb⟩, fun h => absurd rfl h⟩) (fun g => absurd (ci.mp c) g)⟩) (fun c F1 e1 => ⟨1, ho, y_in0, y_in1, xs 1, ?_, hM.1, hM.1, s_is (fun g => absurd (ci.mpr g) c) (fun _ => ⟨fun h => absurd h (by decide), fun _ => ?_⟩)⟩)⟩
  · exact ((yE.us (F := F1) (a := o) (k := (0 : Int32).toNatClampNeg) (v := .long (0 : Int32).toInt64) _ _ hb).2 bo _).trans (((e1 _ _ hb).2 bt _).trans b1)
  · have hM1 := hM.kk e1 tr0 (by decide) (by decide) (by decide) (by decide) (by decide)
    have hM2 := hM1.kk (F' := zu F1 o (0 : Int32).toNatClampNeg (.long (0 : Int32).toInt64)) yE.us ho (by decide) (by decide) (by decide) (by decide) (by decide)
    have hp : (xs 1).toInt ≤ 30 := by
      have h30 : ¬ ¬ xs 1 ≤ 30 := fun g => c (Or.inr g)
      rw [Int32.le_iff_toInt_le, show (30 : Int32).toInt = 30 by decide] at h30
      omega
    refine s_lostInNow (hM2.km (v := .int 0) (Or.inl rfl)) hp fun T' F' e' => ⟨(e' _ _ hM.1).1, s_fin (e' _ _ hM.1).1 (((e' _ _ hM.1).2 (fun g => g) 0).trans z_ueq) (e' _ _ ho).1 (((e' _ _ ho).2 (fun g => g) 0).trans ?_) (e' _ _ hb).1⟩
    exact ((yE.us (a := m) _ _ ho).2 om 0).trans y_o
theorem yl_27 {T : zT} {F : zF} {xs : Nat → Int32} {zE x m o b la gs pl tr lb lp tb tp ma mp mg mb ml : Nat} (hw : yW T F xs zE x m o b la gs pl tr lb lp tb tp ma mp mg mb ml) : vl_27 zE x m o b T F := by
  obtain ⟨hX, hM, ho, hb, hbv, hE, n1, n2, n3, n4, n5⟩ := hw
  have tr0 : T tr = some (6, 3) := hX.2.2.2.2.2.2.2.2.2.1.1
  refine ⟨hX.1, s_digestX hX fun F1 e1 => ⟨hM.1, s_digestM (hM.kk e1 tr0 (by decide) (by decide) (by decide) (by decide) (by decide)) fun T' F' e' => ⟨fun _ => ⟨7, (e' _ _ hb).1, Nat.le_refl _⟩, fun h => h (y_cmp _)⟩⟩⟩
/-! the price -/
theorem y_day (p : Int32) : (0 : Int32) - (p - 10) = ((0 : Int32) - p) + 10 := by
  apply Int32.toInt_inj.mp
  rw [Int32.toInt_sub, Int32.toInt_sub, Int32.toInt_add, Int32.toInt_sub, show (0 : Int32).toInt = 0 by decide, show (10 : Int32).toInt = 10 by decide]
  have h1 := p.le_toInt
  have h2 := p.toInt_lt
  simp only [Int.bmod_def]
  omega
theorem s_offer {zE x la gs pl tr lb lp tb tp : Nat} {p q r : Int32} {T : zT} {F : zF} {Post : Prop} {PX : String → Prop} (h : yX T F zE x la gs pl tr lb lp tb tp) (hx : (p ≤ 0 ∨ q < p ∨ 99 < q ∨ r < 1 ∨ 999 < r) → PX "java/lang/IllegalArgumentException") (hk : ¬ (p ≤ 0 ∨ q < p ∨ 99 < q ∨ r < 1 ∨ 999 < r) → Post) : v_X4_needOffer x p q r T F Post PX := by
  obtain ⟨h0, h1, h2, h3, h4, h5, h6, h7, ⟨p0, p1, p2, p3, p4, p5⟩, -, -⟩ := h
  refine ⟨h0, pl, h3, p0, 0, p3, fun g1 => ⟨fun g2 => hx (Or.inr (Or.inl g2)), fun g2 => ⟨fun g3 => ⟨fun g4 => hx (Or.inr (Or.inr (Or.inr (Or.inl g4)))), fun g4 => ⟨fun g5 => hk ?_, fun g5 => hx (Or.inr (Or.inr (Or.inr (Or.inr (y_nle.mpr g5)))))⟩⟩, fun g3 => hx (Or.inr (Or.inr (Or.inl (y_nle.mpr g3))))⟩⟩, fun g1 => hx (Or.inl ?_)⟩
  · rintro (n | n | n | n | n)
    · exact y_nle.mp g1 n
    · exact g2 n
    · exact y_nle.mp n g3
    · exact g4 n
    · exact y_nle.mp n g5
  · exact Classical.byContradiction fun n => g1 (y_nle.mpr n)
theorem s_isSpan {zE m ma mp mg mb ml : Nat} {p q r : Int32} {T : zT} {F : zF} {Post : Int32 → Prop} (h : yM T F zE m ma mp mg mb ml) (hx : (p ≤ 0 ∨ q < p ∨ 99 < q ∨ r < 1 ∨ 999 < r) → Post 0) (hk : ¬ (p ≤ 0 ∨ q < p ∨ 99 < q ∨ r < 1 ∨ 999 < r) → Post 1) : v_X9_isSpan m p q r T F Post := by
  obtain ⟨k0, k1, k2, k3, k4, k5, k6, k7, k8, k9, k10, k11, k12, k13, k14, k15⟩ := h
  refine ⟨k0, mb, k4, k11, 0, k13, fun g1 => hx (Or.inl g1), fun g1 => s_is (fun c => ⟨fun _ => hx (Or.inr (c.elim Or.inl (fun w => Or.inr (Or.inl w)))), fun n => absurd rfl n⟩) (fun c => ⟨fun n => absurd n (by decide), fun _ => s_is (fun d => ⟨fun _ => hx (Or.inr (Or.inr (Or.inr d))), fun n => absurd rfl n⟩) (fun d => ⟨fun n => absurd n (by decide), fun _ => hk ?_⟩)⟩)⟩
  rintro (n | n | n | n | n)
  · exact g1 n
  · exact c (Or.inl n)
  · exact c (Or.inr n)
  · exact d (Or.inl n)
  · exact d (Or.inr n)
theorem yl_22 {T : zT} {F : zF} {xs : Nat → Int32} {zE x m o b la gs pl tr lb lp tb tp ma mp mg mb ml : Nat} (hw : yW T F xs zE x m o b la gs pl tr lb lp tb tp ma mp mg mb ml) : vl_22 x m o b T F := by
  obtain ⟨hX, hM, ho, hb, hbv, hE, n1, n2, n3, n4, n5⟩ := hw
  have b1 : F b (1 : Int32).toNatClampNeg = .int (xs 1) := hbv 1 (by decide)
  have b2 : F b (2 : Int32).toNatClampNeg = .int (xs 2) := hbv 2 (by decide)
  have b3 : F b (3 : Int32).toNatClampNeg = .int (xs 3) := hbv 3 (by decide)
  have om : o ≠ m := y_ne ho hM.1 (by decide)
  have bo : b ≠ o := y_ne hb ho (by decide)
  refine ⟨7, hb, y_in1, xs 1, b1, y_in2, xs 2, b2, y_in3, xs 3, b3, hX.1, hX.1, s_offer hX (fun c => ?_) (fun c => ?_)⟩
  · exact ⟨rfl, y_in1, _, b1, y_in2, _, b2, y_in3, _, b3, hM.1, hM.1, s_isSpan (hM.km (v := .int 0) (Or.inl rfl)) (fun _ => ⟨fun _ => ⟨hM.1, s_fine hM.1 z_ueq (by decide) hb⟩, fun h => absurd rfl h⟩) (fun g => absurd c g)⟩
  · obtain ⟨x0, x1, x2, x3, x4, x5, x6, x7, ⟨p0, p1, p2, p3, p4, p5⟩, -, -⟩ := hX
    refine ⟨pl, x3, p0, p0, 0, p3, fun y4 hy4 => ⟨1, ho, y_in0, ?_⟩⟩
    rw [y_day] at hy4
    subst hy4
    generalize hv : ((xs 3 * ((xs 2 - xs 1) + 1)) + ((if (0 : Int32) < (((0 : Int32) - xs 1) + 10) then (((0 : Int32) - xs 1) + 10) else (0 : Int32)) * ((xs 3 * ((xs 2 - xs 1) + 1)) / 10))) = v
    have eb : ∀ j : Nat, zu F o (0 : Int32).toNatClampNeg (.long v.toInt64) b j = F b j := (yE.us (F := F) (a := o) (k := (0 : Int32).toNatClampNeg) (v := .long v.toInt64) _ _ hb).2 bo
    have hM2 := hM.kk (F' := zu F o (0 : Int32).toNatClampNeg (.long v.toInt64)) yE.us ho (by decide) (by decide) (by decide) (by decide) (by decide)
    have hM3 := hM2.km (v := .int 0) (Or.inl rfl)
    refine ⟨y_in1, _, (eb _).trans b1, y_in2, _, (eb _).trans b2, y_in3, _, (eb _).trans b3, hM.1, hM.1, s_isSpan hM3 (fun g => absurd g c) (fun _ => ⟨fun h => absurd h (by decide), fun _ => ⟨hM.1, mb, hM3.2.2.2.2.1, hM3.2.2.2.2.2.2.2.2.2.2.2.1, 0, hM3.2.2.2.2.2.2.2.2.2.2.2.2.2.1, ?_⟩⟩)⟩
    rw [hv]
    exact s_fin hM.1 z_ueq ho (((yE.us (a := m) _ _ ho).2 om 0).trans y_o) hb
