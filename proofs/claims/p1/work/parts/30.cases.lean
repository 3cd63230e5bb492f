/-! the first call, case by case: the calls that are refused, whatever their numbers -/
theorem yc_a {p : Int32} (h : p < 0) : ¬ 0 ≤ p ∧ p ≤ -1 := by
  rw [Int32.lt_iff_toInt_lt, show (0 : Int32).toInt = 0 by decide] at h
  rw [Int32.le_iff_toInt_le, Int32.le_iff_toInt_le, show (0 : Int32).toInt = 0 by decide, show (-1 : Int32).toInt = -1 by decide]
  omega
theorem yc_b {p : Int32} (h : ¬ p < 0) : 0 ≤ p ∧ ¬ p ≤ -1 := by
  rw [Int32.lt_iff_toInt_lt, show (0 : Int32).toInt = 0 by decide] at h
  rw [Int32.le_iff_toInt_le, Int32.le_iff_toInt_le, show (0 : Int32).toInt = 0 by decide, show (-1 : Int32).toInt = -1 by decide]
  omega
theorem yc_c {p : Int32} (h : p < 3) : ¬ 3 ≤ p ∧ p ≤ 2 := by
  rw [Int32.lt_iff_toInt_lt, show (3 : Int32).toInt = 3 by decide] at h
  rw [Int32.le_iff_toInt_le, Int32.le_iff_toInt_le, show (3 : Int32).toInt = 3 by decide, show (2 : Int32).toInt = 2 by decide]
  omega
theorem yc_d {p : Int32} (h : ¬ p < 3) : 3 ≤ p ∧ ¬ p ≤ 2 := by
  rw [Int32.lt_iff_toInt_lt, show (3 : Int32).toInt = 3 by decide] at h
  rw [Int32.le_iff_toInt_le, Int32.le_iff_toInt_le, show (3 : Int32).toInt = 3 by decide, show (2 : Int32).toInt = 2 by decide]
  omega
theorem yc_e {p : Int32} (h : p < 1) : ¬ 1 ≤ p ∧ p ≤ 0 := by
  rw [Int32.lt_iff_toInt_lt, show (1 : Int32).toInt = 1 by decide] at h
  rw [Int32.le_iff_toInt_le, Int32.le_iff_toInt_le, show (1 : Int32).toInt = 1 by decide, show (0 : Int32).toInt = 0 by decide]
  omega
theorem yc_f {p : Int32} (h : ¬ p < 1) : 1 ≤ p ∧ ¬ p ≤ 0 := by
  rw [Int32.lt_iff_toInt_lt, show (1 : Int32).toInt = 1 by decide] at h
  rw [Int32.le_iff_toInt_le, Int32.le_iff_toInt_le, show (1 : Int32).toInt = 1 by decide, show (0 : Int32).toInt = 0 by decide]
  omega
set_option maxHeartbeats 4000000 in
theorem yl_1 {T : zT} {F : zF} {xs : Nat → Int32} {zE x m o b la gs pl tr lb lp tb tp ma mp mg mb ml : Nat} (hw : yW T F xs zE x m o b la gs pl tr lb lp tb tp ma mp mg mb ml) : vl_1 x m o b T F := by
  obtain ⟨⟨x0, x1, x2, x3, x4, ⟨la0, la1, la2, la3⟩, gs0, gsv, ⟨p0, p1, p2, p3, ⟨lb0, lb1, lb2, lb3⟩, ⟨lp0, lp1, lp2, lp3⟩⟩, ⟨t0, t1, t2, t3, ⟨tb0, tb1, tb2, tb3⟩, ⟨tp0, tp1, tp2, tp3⟩⟩, xne⟩, ⟨m0, m1, m2, m3, m4, ⟨ma0, ma1, ma2, ma3⟩, ⟨mp0, mp1, mp2, mp3⟩, mg0, mgv, mgr, mgw, mb0, mb1, mb2, mb3, ⟨ml0, ml1, ml2, ml3⟩⟩, ho, hb, hbv, hE, n1, n2, n3, n4, n5⟩ := hw
  have mbm : ¬ mb = m := y_ne mb0 m0 (by decide)
  have b1 : F b 1 = .int (xs 1) := hbv 1 (by decide)
  have b2 : F b 2 = .int (xs 2) := hbv 2 (by decide)
  simp only [vl_1, v_X9_thrown, v_X9_version, v_X9_refuse, v_X9_is, v_X9_isAsset, v_Jx4a65c_size_8abf5, v_L_version, v_X4_version, v_X4_assetAt]
  by_cases h1 : xs 1 < 0
  · simp [x0, x1, x2, x3, x4, la0, la1, la2, la3, gs0, p0, p1, p2, p3, lb0, lb1, lb2, lb3, lp0, lp1, lp2, lp3, m0, m1, m2, m3, m4, ma0, ma1, ma2, ma3, mp0, mp1, mp2, mp3, mb0, mb1, mb2, ml0, ml1, ml2, ml3, ho, hb, b1, y_c1, y_in1, b2, y_c2, y_in2, y_zu, mbm, h1, (yc_a h1).1, (yc_a h1).2]
  · simp [x0, x1, x2, x3, x4, la0, la1, la2, la3, gs0, p0, p1, p2, p3, lb0, lb1, lb2, lb3, lp0, lp1, lp2, lp3, m0, m1, m2, m3, m4, ma0, ma1, ma2, ma3, mp0, mp1, mp2, mp3, mb0, mb1, mb2, ml0, ml1, ml2, ml3, ho, hb, b1, y_c1, y_in1, b2, y_c2, y_in2, y_zu, mbm, h1, (yc_b h1).1, (yc_b h1).2, (y_m1' _).mpr h1]
set_option maxHeartbeats 4000000 in
theorem yl_2 {T : zT} {F : zF} {xs : Nat → Int32} {zE x m o b la gs pl tr lb lp tb tp ma mp mg mb ml : Nat} (hw : yW T F xs zE x m o b la gs pl tr lb lp tb tp ma mp mg mb ml) : vl_2 x m o b T F := by
  obtain ⟨⟨x0, x1, x2, x3, x4, ⟨la0, la1, la2, la3⟩, gs0, gsv, ⟨p0, p1, p2, p3, ⟨lb0, lb1, lb2, lb3⟩, ⟨lp0, lp1, lp2, lp3⟩⟩, ⟨t0, t1, t2, t3, ⟨tb0, tb1, tb2, tb3⟩, ⟨tp0, tp1, tp2, tp3⟩⟩, xne⟩, ⟨m0, m1, m2, m3, m4, ⟨ma0, ma1, ma2, ma3⟩, ⟨mp0, mp1, mp2, mp3⟩, mg0, mgv, mgr, mgw, mb0, mb1, mb2, mb3, ⟨ml0, ml1, ml2, ml3⟩⟩, ho, hb, hbv, hE, n1, n2, n3, n4, n5⟩ := hw
  have mbm : ¬ mb = m := y_ne mb0 m0 (by decide)
  have b1 : F b 1 = .int (xs 1) := hbv 1 (by decide)
  have b2 : F b 2 = .int (xs 2) := hbv 2 (by decide)
  simp only [vl_2, v_X9_thrown, v_X9_late, v_X9_refuse, v_X9_is, v_X9_isAsset, v_Jx4a65c_size_8abf5, v_L_late, v_X4_late, v_X4_assetAt]
  by_cases h1 : xs 1 < 0
  · simp [x0, x1, x2, x3, x4, la0, la1, la2, la3, gs0, p0, p1, p2, p3, lb0, lb1, lb2, lb3, lp0, lp1, lp2, lp3, m0, m1, m2, m3, m4, ma0, ma1, ma2, ma3, mp0, mp1, mp2, mp3, mb0, mb1, mb2, ml0, ml1, ml2, ml3, ho, hb, b1, y_c1, y_in1, b2, y_c2, y_in2, y_zu, mbm, h1, (yc_a h1).1, (yc_a h1).2]
  · simp [x0, x1, x2, x3, x4, la0, la1, la2, la3, gs0, p0, p1, p2, p3, lb0, lb1, lb2, lb3, lp0, lp1, lp2, lp3, m0, m1, m2, m3, m4, ma0, ma1, ma2, ma3, mp0, mp1, mp2, mp3, mb0, mb1, mb2, ml0, ml1, ml2, ml3, ho, hb, b1, y_c1, y_in1, b2, y_c2, y_in2, y_zu, mbm, h1, (yc_b h1).1, (yc_b h1).2, (y_m1' _).mpr h1]
set_option maxHeartbeats 4000000 in
theorem yl_3 {T : zT} {F : zF} {xs : Nat → Int32} {zE x m o b la gs pl tr lb lp tb tp ma mp mg mb ml : Nat} (hw : yW T F xs zE x m o b la gs pl tr lb lp tb tp ma mp mg mb ml) : vl_3 x m o b T F := by
  obtain ⟨⟨x0, x1, x2, x3, x4, ⟨la0, la1, la2, la3⟩, gs0, gsv, ⟨p0, p1, p2, p3, ⟨lb0, lb1, lb2, lb3⟩, ⟨lp0, lp1, lp2, lp3⟩⟩, ⟨t0, t1, t2, t3, ⟨tb0, tb1, tb2, tb3⟩, ⟨tp0, tp1, tp2, tp3⟩⟩, xne⟩, ⟨m0, m1, m2, m3, m4, ⟨ma0, ma1, ma2, ma3⟩, ⟨mp0, mp1, mp2, mp3⟩, mg0, mgv, mgr, mgw, mb0, mb1, mb2, mb3, ⟨ml0, ml1, ml2, ml3⟩⟩, ho, hb, hbv, hE, n1, n2, n3, n4, n5⟩ := hw
  have mbm : ¬ mb = m := y_ne mb0 m0 (by decide)
  have b1 : F b 1 = .int (xs 1) := hbv 1 (by decide)
  have b2 : F b 2 = .int (xs 2) := hbv 2 (by decide)
  have b3 : F b 3 = .int (xs 3) := hbv 3 (by decide)
  have b4 : F b 4 = .int (xs 4) := hbv 4 (by decide)
  simp only [vl_3, v_X9_thrown, v_X9_rights, v_X9_refuse, v_X9_is, v_X9_isDay, v_X9_isAsset, v_Jx4a65c_size_8abf5, v_L_rights, v_X4_rights, v_X4_assetAt]
  by_cases h1 : xs 1 < 0
  · simp [x0, x1, x2, x3, x4, la0, la1, la2, la3, gs0, p0, p1, p2, p3, lb0, lb1, lb2, lb3, lp0, lp1, lp2, lp3, m0, m1, m2, m3, m4, ma0, ma1, ma2, ma3, mp0, mp1, mp2, mp3, mb0, mb1, mb2, ml0, ml1, ml2, ml3, ho, hb, b1, y_c1, y_in1, b2, y_c2, y_in2, b3, y_c3, y_in3, b4, y_c4, y_in4, y_zu, mbm, h1, (yc_a h1).1, (yc_a h1).2]
  · simp [x0, x1, x2, x3, x4, la0, la1, la2, la3, gs0, p0, p1, p2, p3, lb0, lb1, lb2, lb3, lp0, lp1, lp2, lp3, m0, m1, m2, m3, m4, ma0, ma1, ma2, ma3, mp0, mp1, mp2, mp3, mb0, mb1, mb2, ml0, ml1, ml2, ml3, ho, hb, b1, y_c1, y_in1, b2, y_c2, y_in2, b3, y_c3, y_in3, b4, y_c4, y_in4, y_zu, mbm, h1, (yc_b h1).1, (yc_b h1).2, (y_m1' _).mpr h1]
set_option maxHeartbeats 4000000 in
theorem yl_4 {T : zT} {F : zF} {xs : Nat → Int32} {zE x m o b la gs pl tr lb lp tb tp ma mp mg mb ml : Nat} (hw : yW T F xs zE x m o b la gs pl tr lb lp tb tp ma mp mg mb ml) : vl_4 x m o b T F := by
  obtain ⟨⟨x0, x1, x2, x3, x4, ⟨la0, la1, la2, la3⟩, gs0, gsv, ⟨p0, p1, p2, p3, ⟨lb0, lb1, lb2, lb3⟩, ⟨lp0, lp1, lp2, lp3⟩⟩, ⟨t0, t1, t2, t3, ⟨tb0, tb1, tb2, tb3⟩, ⟨tp0, tp1, tp2, tp3⟩⟩, xne⟩, ⟨m0, m1, m2, m3, m4, ⟨ma0, ma1, ma2, ma3⟩, ⟨mp0, mp1, mp2, mp3⟩, mg0, mgv, mgr, mgw, mb0, mb1, mb2, mb3, ⟨ml0, ml1, ml2, ml3⟩⟩, ho, hb, hbv, hE, n1, n2, n3, n4, n5⟩ := hw
  have mbm : ¬ mb = m := y_ne mb0 m0 (by decide)
  have b1 : F b 1 = .int (xs 1) := hbv 1 (by decide)
  have b2 : F b 2 = .int (xs 2) := hbv 2 (by decide)
  simp only [vl_4, v_X9_thrown, v_X9_versionOn, v_X9_refuse, v_X9_isDay, v_X9_is, v_X9_isAsset, v_Jx4a65c_size_8abf5, v_L_versionOn, v_X4_versionOn, v_X4_assetAt]
  by_cases h1 : xs 1 < 0
  · simp [x0, x1, x2, x3, x4, la0, la1, la2, la3, gs0, p0, p1, p2, p3, lb0, lb1, lb2, lb3, lp0, lp1, lp2, lp3, m0, m1, m2, m3, m4, ma0, ma1, ma2, ma3, mp0, mp1, mp2, mp3, mb0, mb1, mb2, ml0, ml1, ml2, ml3, ho, hb, b1, y_c1, y_in1, b2, y_c2, y_in2, y_zu, mbm, h1, (yc_a h1).1, (yc_a h1).2]
  · simp [x0, x1, x2, x3, x4, la0, la1, la2, la3, gs0, p0, p1, p2, p3, lb0, lb1, lb2, lb3, lp0, lp1, lp2, lp3, m0, m1, m2, m3, m4, ma0, ma1, ma2, ma3, mp0, mp1, mp2, mp3, mb0, mb1, mb2, ml0, ml1, ml2, ml3, ho, hb, b1, y_c1, y_in1, b2, y_c2, y_in2, y_zu, mbm, h1, (yc_b h1).1, (yc_b h1).2, (y_m1' _).mpr h1]
set_option maxHeartbeats 4000000 in
theorem yl_5 {T : zT} {F : zF} {xs : Nat → Int32} {zE x m o b la gs pl tr lb lp tb tp ma mp mg mb ml : Nat} (hw : yW T F xs zE x m o b la gs pl tr lb lp tb tp ma mp mg mb ml) : vl_5 x m o b T F := by
  obtain ⟨⟨x0, x1, x2, x3, x4, ⟨la0, la1, la2, la3⟩, gs0, gsv, ⟨p0, p1, p2, p3, ⟨lb0, lb1, lb2, lb3⟩, ⟨lp0, lp1, lp2, lp3⟩⟩, ⟨t0, t1, t2, t3, ⟨tb0, tb1, tb2, tb3⟩, ⟨tp0, tp1, tp2, tp3⟩⟩, xne⟩, ⟨m0, m1, m2, m3, m4, ⟨ma0, ma1, ma2, ma3⟩, ⟨mp0, mp1, mp2, mp3⟩, mg0, mgv, mgr, mgw, mb0, mb1, mb2, mb3, ⟨ml0, ml1, ml2, ml3⟩⟩, ho, hb, hbv, hE, n1, n2, n3, n4, n5⟩ := hw
  have mbm : ¬ mb = m := y_ne mb0 m0 (by decide)
  have b1 : F b 1 = .int (xs 1) := hbv 1 (by decide)
  have b2 : F b 2 = .int (xs 2) := hbv 2 (by decide)
  have b3 : F b 3 = .int (xs 3) := hbv 3 (by decide)
  simp only [vl_5, v_X9_thrown, v_X9_hasRights, v_X9_isDay, v_X9_is, v_X9_isLand, v_X9_isAsset, v_Jx4a65c_size_8abf5, v_L_hasRights, v_X4_hasRights, v_X4_assetAt]
  by_cases h1 : xs 1 < 0
  · simp [x0, x1, x2, x3, x4, la0, la1, la2, la3, gs0, p0, p1, p2, p3, lb0, lb1, lb2, lb3, lp0, lp1, lp2, lp3, m0, m1, m2, m3, m4, ma0, ma1, ma2, ma3, mp0, mp1, mp2, mp3, mb0, mb1, mb2, ml0, ml1, ml2, ml3, ho, hb, b1, y_c1, y_in1, b2, y_c2, y_in2, b3, y_c3, y_in3, y_zu, mbm, h1, (yc_a h1).1, (yc_a h1).2]
  · simp [x0, x1, x2, x3, x4, la0, la1, la2, la3, gs0, p0, p1, p2, p3, lb0, lb1, lb2, lb3, lp0, lp1, lp2, lp3, m0, m1, m2, m3, m4, ma0, ma1, ma2, ma3, mp0, mp1, mp2, mp3, mb0, mb1, mb2, ml0, ml1, ml2, ml3, ho, hb, b1, y_c1, y_in1, b2, y_c2, y_in2, b3, y_c3, y_in3, y_zu, mbm, h1, (yc_b h1).1, (yc_b h1).2, (y_m1' _).mpr h1]
set_option maxHeartbeats 4000000 in
theorem yl_6 {T : zT} {F : zF} {xs : Nat → Int32} {zE x m o b la gs pl tr lb lp tb tp ma mp mg mb ml : Nat} (hw : yW T F xs zE x m o b la gs pl tr lb lp tb tp ma mp mg mb ml) : vl_6 x m o b T F := by
  obtain ⟨⟨x0, x1, x2, x3, x4, ⟨la0, la1, la2, la3⟩, gs0, gsv, ⟨p0, p1, p2, p3, ⟨lb0, lb1, lb2, lb3⟩, ⟨lp0, lp1, lp2, lp3⟩⟩, ⟨t0, t1, t2, t3, ⟨tb0, tb1, tb2, tb3⟩, ⟨tp0, tp1, tp2, tp3⟩⟩, xne⟩, ⟨m0, m1, m2, m3, m4, ⟨ma0, ma1, ma2, ma3⟩, ⟨mp0, mp1, mp2, mp3⟩, mg0, mgv, mgr, mgw, mb0, mb1, mb2, mb3, ⟨ml0, ml1, ml2, ml3⟩⟩, ho, hb, hbv, hE, n1, n2, n3, n4, n5⟩ := hw
  have mbm : ¬ mb = m := y_ne mb0 m0 (by decide)
  have b1 : F b 1 = .int (xs 1) := hbv 1 (by decide)
  have b2 : F b 2 = .int (xs 2) := hbv 2 (by decide)
  simp only [vl_6, v_X9_thrown, v_X9_piece, v_X9_refuse, v_Jx4a65c_size_8abf5, v_X9_is, v_L_piece, v_X4_piece]
  have k0 : xs 2 = 0 → ¬ 1 ≤ xs 2 := fun e => by rw [e]; decide
  by_cases h1 : xs 1 < 0
  · simp [x0, x1, x2, x3, x4, la0, la1, la2, la3, gs0, p0, p1, p2, p3, lb0, lb1, lb2, lb3, lp0, lp1, lp2, lp3, m0, m1, m2, m3, m4, ma0, ma1, ma2, ma3, mp0, mp1, mp2, mp3, mb0, mb1, mb2, ml0, ml1, ml2, ml3, ho, hb, b1, y_c1, y_in1, b2, y_c2, y_in2, y_zu, mbm, h1, (yc_a h1).1, (yc_a h1).2]
  by_cases h2 : xs 1 < 3
  rotate_left
  · simp [x0, x1, x2, x3, x4, la0, la1, la2, la3, gs0, p0, p1, p2, p3, lb0, lb1, lb2, lb3, lp0, lp1, lp2, lp3, m0, m1, m2, m3, m4, ma0, ma1, ma2, ma3, mp0, mp1, mp2, mp3, mb0, mb1, mb2, ml0, ml1, ml2, ml3, ho, hb, b1, y_c1, y_in1, b2, y_c2, y_in2, y_zu, mbm, h1, (yc_b h1).1, (yc_b h1).2, h2, (yc_d h2).1, (yc_d h2).2]
  by_cases h3 : xs 2 < 1
  · simp [x0, x1, x2, x3, x4, la0, la1, la2, la3, gs0, p0, p1, p2, p3, lb0, lb1, lb2, lb3, lp0, lp1, lp2, lp3, m0, m1, m2, m3, m4, ma0, ma1, ma2, ma3, mp0, mp1, mp2, mp3, mb0, mb1, mb2, ml0, ml1, ml2, ml3, ho, hb, b1, y_c1, y_in1, b2, y_c2, y_in2, y_zu, mbm, h1, (yc_b h1).1, (yc_b h1).2, h2, (yc_c h2).1, (yc_c h2).2, h3, (yc_e h3).1]
  have h4 : ¬ xs 2 = 0 := fun e => k0 e (yc_f h3).1
  simp [x0, x1, x2, x3, x4, la0, la1, la2, la3, gs0, p0, p1, p2, p3, lb0, lb1, lb2, lb3, lp0, lp1, lp2, lp3, m0, m1, m2, m3, m4, ma0, ma1, ma2, ma3, mp0, mp1, mp2, mp3, mb0, mb1, mb2, ml0, ml1, ml2, ml3, ho, hb, b1, y_c1, y_in1, b2, y_c2, y_in2, y_zu, mbm, h1, (yc_b h1).1, (yc_b h1).2, h2, (yc_c h2).1, (yc_c h2).2, h3, (yc_f h3).1, (yc_f h3).2, h4, y_sh]
set_option maxHeartbeats 4000000 in
theorem yl_7 {T : zT} {F : zF} {xs : Nat → Int32} {zE x m o b la gs pl tr lb lp tb tp ma mp mg mb ml : Nat} (hw : yW T F xs zE x m o b la gs pl tr lb lp tb tp ma mp mg mb ml) : vl_7 x m o b T F := by
  obtain ⟨⟨x0, x1, x2, x3, x4, ⟨la0, la1, la2, la3⟩, gs0, gsv, ⟨p0, p1, p2, p3, ⟨lb0, lb1, lb2, lb3⟩, ⟨lp0, lp1, lp2, lp3⟩⟩, ⟨t0, t1, t2, t3, ⟨tb0, tb1, tb2, tb3⟩, ⟨tp0, tp1, tp2, tp3⟩⟩, xne⟩, ⟨m0, m1, m2, m3, m4, ⟨ma0, ma1, ma2, ma3⟩, ⟨mp0, mp1, mp2, mp3⟩, mg0, mgv, mgr, mgw, mb0, mb1, mb2, mb3, ⟨ml0, ml1, ml2, ml3⟩⟩, ho, hb, hbv, hE, n1, n2, n3, n4, n5⟩ := hw
  have mbm : ¬ mb = m := y_ne mb0 m0 (by decide)
  have b1 : F b 1 = .int (xs 1) := hbv 1 (by decide)
  have b2 : F b 2 = .int (xs 2) := hbv 2 (by decide)
  simp only [vl_7, v_X9_thrown, v_X9_approve, v_X9_isLand, v_X9_is, v_X9_isPiece, v_Jx4a65c_size_8abf5, v_L_approve, v_X4_approve, v_X4_pieceAt]
  by_cases h1 : xs 1 < 0
  · simp [x0, x1, x2, x3, x4, la0, la1, la2, la3, gs0, p0, p1, p2, p3, lb0, lb1, lb2, lb3, lp0, lp1, lp2, lp3, m0, m1, m2, m3, m4, ma0, ma1, ma2, ma3, mp0, mp1, mp2, mp3, mb0, mb1, mb2, ml0, ml1, ml2, ml3, ho, hb, b1, y_c1, y_in1, b2, y_c2, y_in2, y_zu, mbm, h1, (yc_a h1).1, (yc_a h1).2]
  · simp [x0, x1, x2, x3, x4, la0, la1, la2, la3, gs0, p0, p1, p2, p3, lb0, lb1, lb2, lb3, lp0, lp1, lp2, lp3, m0, m1, m2, m3, m4, ma0, ma1, ma2, ma3, mp0, mp1, mp2, mp3, mb0, mb1, mb2, ml0, ml1, ml2, ml3, ho, hb, b1, y_c1, y_in1, b2, y_c2, y_in2, y_zu, mbm, h1, (yc_b h1).1, (yc_b h1).2, (y_m1' _).mpr h1]
set_option maxHeartbeats 4000000 in
theorem yl_8 {T : zT} {F : zF} {xs : Nat → Int32} {zE x m o b la gs pl tr lb lp tb tp ma mp mg mb ml : Nat} (hw : yW T F xs zE x m o b la gs pl tr lb lp tb tp ma mp mg mb ml) : vl_8 x m o b T F := by
  obtain ⟨⟨x0, x1, x2, x3, x4, ⟨la0, la1, la2, la3⟩, gs0, gsv, ⟨p0, p1, p2, p3, ⟨lb0, lb1, lb2, lb3⟩, ⟨lp0, lp1, lp2, lp3⟩⟩, ⟨t0, t1, t2, t3, ⟨tb0, tb1, tb2, tb3⟩, ⟨tp0, tp1, tp2, tp3⟩⟩, xne⟩, ⟨m0, m1, m2, m3, m4, ⟨ma0, ma1, ma2, ma3⟩, ⟨mp0, mp1, mp2, mp3⟩, mg0, mgv, mgr, mgw, mb0, mb1, mb2, mb3, ⟨ml0, ml1, ml2, ml3⟩⟩, ho, hb, hbv, hE, n1, n2, n3, n4, n5⟩ := hw
  have mbm : ¬ mb = m := y_ne mb0 m0 (by decide)
  have b1 : F b 1 = .int (xs 1) := hbv 1 (by decide)
  have b2 : F b 2 = .int (xs 2) := hbv 2 (by decide)
  simp only [vl_8, v_X9_thrown, v_X9_hold, v_X9_isLand, v_X9_is, v_X9_isPiece, v_Jx4a65c_size_8abf5, v_L_hold, v_X4_hold, v_X4_pieceAt]
  by_cases h1 : xs 1 < 0
  · simp [x0, x1, x2, x3, x4, la0, la1, la2, la3, gs0, p0, p1, p2, p3, lb0, lb1, lb2, lb3, lp0, lp1, lp2, lp3, m0, m1, m2, m3, m4, ma0, ma1, ma2, ma3, mp0, mp1, mp2, mp3, mb0, mb1, mb2, ml0, ml1, ml2, ml3, ho, hb, b1, y_c1, y_in1, b2, y_c2, y_in2, y_zu, mbm, h1, (yc_a h1).1, (yc_a h1).2]
  · simp [x0, x1, x2, x3, x4, la0, la1, la2, la3, gs0, p0, p1, p2, p3, lb0, lb1, lb2, lb3, lp0, lp1, lp2, lp3, m0, m1, m2, m3, m4, ma0, ma1, ma2, ma3, mp0, mp1, mp2, mp3, mb0, mb1, mb2, ml0, ml1, ml2, ml3, ho, hb, b1, y_c1, y_in1, b2, y_c2, y_in2, y_zu, mbm, h1, (yc_b h1).1, (yc_b h1).2, (y_m1' _).mpr h1]
set_option maxHeartbeats 4000000 in
theorem yl_9 {T : zT} {F : zF} {xs : Nat → Int32} {zE x m o b la gs pl tr lb lp tb tp ma mp mg mb ml : Nat} (hw : yW T F xs zE x m o b la gs pl tr lb lp tb tp ma mp mg mb ml) : vl_9 x m o b T F := by
  obtain ⟨⟨x0, x1, x2, x3, x4, ⟨la0, la1, la2, la3⟩, gs0, gsv, ⟨p0, p1, p2, p3, ⟨lb0, lb1, lb2, lb3⟩, ⟨lp0, lp1, lp2, lp3⟩⟩, ⟨t0, t1, t2, t3, ⟨tb0, tb1, tb2, tb3⟩, ⟨tp0, tp1, tp2, tp3⟩⟩, xne⟩, ⟨m0, m1, m2, m3, m4, ⟨ma0, ma1, ma2, ma3⟩, ⟨mp0, mp1, mp2, mp3⟩, mg0, mgv, mgr, mgw, mb0, mb1, mb2, mb3, ⟨ml0, ml1, ml2, ml3⟩⟩, ho, hb, hbv, hE, n1, n2, n3, n4, n5⟩ := hw
  have mbm : ¬ mb = m := y_ne mb0 m0 (by decide)
  have b1 : F b 1 = .int (xs 1) := hbv 1 (by decide)
  have b2 : F b 2 = .int (xs 2) := hbv 2 (by decide)
  have b3 : F b 3 = .int (xs 3) := hbv 3 (by decide)
  simp only [vl_9, v_X9_thrown, v_X9_reason, v_X9_refuse, v_X9_isDay, v_X9_is, v_X9_isLand, v_X9_isPiece, v_Jx4a65c_size_8abf5, v_L_reason, v_X4_reason, v_X4_pieceAt]
  by_cases h1 : xs 1 < 0
  · simp [x0, x1, x2, x3, x4, la0, la1, la2, la3, gs0, p0, p1, p2, p3, lb0, lb1, lb2, lb3, lp0, lp1, lp2, lp3, m0, m1, m2, m3, m4, ma0, ma1, ma2, ma3, mp0, mp1, mp2, mp3, mb0, mb1, mb2, ml0, ml1, ml2, ml3, ho, hb, b1, y_c1, y_in1, b2, y_c2, y_in2, b3, y_c3, y_in3, y_zu, mbm, h1, (yc_a h1).1, (yc_a h1).2]
  · simp [x0, x1, x2, x3, x4, la0, la1, la2, la3, gs0, p0, p1, p2, p3, lb0, lb1, lb2, lb3, lp0, lp1, lp2, lp3, m0, m1, m2, m3, m4, ma0, ma1, ma2, ma3, mp0, mp1, mp2, mp3, mb0, mb1, mb2, ml0, ml1, ml2, ml3, ho, hb, b1, y_c1, y_in1, b2, y_c2, y_in2, b3, y_c3, y_in3, y_zu, mbm, h1, (yc_b h1).1, (yc_b h1).2, (y_m1' _).mpr h1]
set_option maxHeartbeats 4000000 in
theorem yl_10 {T : zT} {F : zF} {xs : Nat → Int32} {zE x m o b la gs pl tr lb lp tb tp ma mp mg mb ml : Nat} (hw : yW T F xs zE x m o b la gs pl tr lb lp tb tp ma mp mg mb ml) : vl_10 x m o b T F := by
  obtain ⟨⟨x0, x1, x2, x3, x4, ⟨la0, la1, la2, la3⟩, gs0, gsv, ⟨p0, p1, p2, p3, ⟨lb0, lb1, lb2, lb3⟩, ⟨lp0, lp1, lp2, lp3⟩⟩, ⟨t0, t1, t2, t3, ⟨tb0, tb1, tb2, tb3⟩, ⟨tp0, tp1, tp2, tp3⟩⟩, xne⟩, ⟨m0, m1, m2, m3, m4, ⟨ma0, ma1, ma2, ma3⟩, ⟨mp0, mp1, mp2, mp3⟩, mg0, mgv, mgr, mgw, mb0, mb1, mb2, mb3, ⟨ml0, ml1, ml2, ml3⟩⟩, ho, hb, hbv, hE, n1, n2, n3, n4, n5⟩ := hw
  have mbm : ¬ mb = m := y_ne mb0 m0 (by decide)
  have b1 : F b 1 = .int (xs 1) := hbv 1 (by decide)
  have b2 : F b 2 = .int (xs 2) := hbv 2 (by decide)
  have b3 : F b 3 = .int (xs 3) := hbv 3 (by decide)
  simp only [vl_10, v_X9_thrown, v_X9_isFit, v_X9_isDay, v_X9_is, v_X9_isLand, v_X9_isPiece, v_Jx4a65c_size_8abf5, v_L_isFit, v_X4_isFit, v_X4_pieceAt]
  by_cases h1 : xs 1 < 0
  · simp [x0, x1, x2, x3, x4, la0, la1, la2, la3, gs0, p0, p1, p2, p3, lb0, lb1, lb2, lb3, lp0, lp1, lp2, lp3, m0, m1, m2, m3, m4, ma0, ma1, ma2, ma3, mp0, mp1, mp2, mp3, mb0, mb1, mb2, ml0, ml1, ml2, ml3, ho, hb, b1, y_c1, y_in1, b2, y_c2, y_in2, b3, y_c3, y_in3, y_zu, mbm, h1, (yc_a h1).1, (yc_a h1).2]
  · simp [x0, x1, x2, x3, x4, la0, la1, la2, la3, gs0, p0, p1, p2, p3, lb0, lb1, lb2, lb3, lp0, lp1, lp2, lp3, m0, m1, m2, m3, m4, ma0, ma1, ma2, ma3, mp0, mp1, mp2, mp3, mb0, mb1, mb2, ml0, ml1, ml2, ml3, ho, hb, b1, y_c1, y_in1, b2, y_c2, y_in2, b3, y_c3, y_in3, y_zu, mbm, h1, (yc_b h1).1, (yc_b h1).2, (y_m1' _).mpr h1]
set_option maxHeartbeats 4000000 in
theorem yl_11 {T : zT} {F : zF} {xs : Nat → Int32} {zE x m o b la gs pl tr lb lp tb tp ma mp mg mb ml : Nat} (hw : yW T F xs zE x m o b la gs pl tr lb lp tb tp ma mp mg mb ml) : vl_11 x m o b T F := by
  obtain ⟨⟨x0, x1, x2, x3, x4, ⟨la0, la1, la2, la3⟩, gs0, gsv, ⟨p0, p1, p2, p3, ⟨lb0, lb1, lb2, lb3⟩, ⟨lp0, lp1, lp2, lp3⟩⟩, ⟨t0, t1, t2, t3, ⟨tb0, tb1, tb2, tb3⟩, ⟨tp0, tp1, tp2, tp3⟩⟩, xne⟩, ⟨m0, m1, m2, m3, m4, ⟨ma0, ma1, ma2, ma3⟩, ⟨mp0, mp1, mp2, mp3⟩, mg0, mgv, mgr, mgw, mb0, mb1, mb2, mb3, ⟨ml0, ml1, ml2, ml3⟩⟩, ho, hb, hbv, hE, n1, n2, n3, n4, n5⟩ := hw
  have mbm : ¬ mb = m := y_ne mb0 m0 (by decide)
  have b1 : F b 1 = .int (xs 1) := hbv 1 (by decide)
  have b2 : F b 2 = .int (xs 2) := hbv 2 (by decide)
  simp only [vl_11, v_X9_thrown, v_X9_ofPiece, v_X9_refuse, v_X9_is, v_X9_isPiece, v_Jx4a65c_size_8abf5, v_L_ofPiece, v_X4_ofPiece, v_X4_pieceAt]
  by_cases h1 : xs 1 < 0
  · simp [x0, x1, x2, x3, x4, la0, la1, la2, la3, gs0, p0, p1, p2, p3, lb0, lb1, lb2, lb3, lp0, lp1, lp2, lp3, m0, m1, m2, m3, m4, ma0, ma1, ma2, ma3, mp0, mp1, mp2, mp3, mb0, mb1, mb2, ml0, ml1, ml2, ml3, ho, hb, b1, y_c1, y_in1, b2, y_c2, y_in2, y_zu, mbm, h1, (yc_a h1).1, (yc_a h1).2]
  · simp [x0, x1, x2, x3, x4, la0, la1, la2, la3, gs0, p0, p1, p2, p3, lb0, lb1, lb2, lb3, lp0, lp1, lp2, lp3, m0, m1, m2, m3, m4, ma0, ma1, ma2, ma3, mp0, mp1, mp2, mp3, mb0, mb1, mb2, ml0, ml1, ml2, ml3, ho, hb, b1, y_c1, y_in1, b2, y_c2, y_in2, y_zu, mbm, h1, (yc_b h1).1, (yc_b h1).2, (y_m1' _).mpr h1]
set_option maxHeartbeats 4000000 in
theorem yl_12 {T : zT} {F : zF} {xs : Nat → Int32} {zE x m o b la gs pl tr lb lp tb tp ma mp mg mb ml : Nat} (hw : yW T F xs zE x m o b la gs pl tr lb lp tb tp ma mp mg mb ml) : vl_12 x m o b T F := by
  obtain ⟨⟨x0, x1, x2, x3, x4, ⟨la0, la1, la2, la3⟩, gs0, gsv, ⟨p0, p1, p2, p3, ⟨lb0, lb1, lb2, lb3⟩, ⟨lp0, lp1, lp2, lp3⟩⟩, ⟨t0, t1, t2, t3, ⟨tb0, tb1, tb2, tb3⟩, ⟨tp0, tp1, tp2, tp3⟩⟩, xne⟩, ⟨m0, m1, m2, m3, m4, ⟨ma0, ma1, ma2, ma3⟩, ⟨mp0, mp1, mp2, mp3⟩, mg0, mgv, mgr, mgw, mb0, mb1, mb2, mb3, ⟨ml0, ml1, ml2, ml3⟩⟩, ho, hb, hbv, hE, n1, n2, n3, n4, n5⟩ := hw
  have mbm : ¬ mb = m := y_ne mb0 m0 (by decide)
  have b1 : F b 1 = .int (xs 1) := hbv 1 (by decide)
  have b2 : F b 2 = .int (xs 2) := hbv 2 (by decide)
  have b3 : F b 3 = .int (xs 3) := hbv 3 (by decide)
  have b4 : F b 4 = .int (xs 4) := hbv 4 (by decide)
  have b5 : F b 5 = .int (xs 5) := hbv 5 (by decide)
  have b6 : F b 6 = .int (xs 6) := hbv 6 (by decide)
  simp only [vl_12, v_X9_thrown, v_X9_book, v_X9_refuse, v_X9_priceOf, v_X9_isSpan, v_X9_is, v_X9_isMedium, v_X9_isLand, v_X9_isPiece, v_Jx4a65c_size_8abf5, v_L_book, v_X4_book, v_X4_pieceAt]
  by_cases h1 : xs 1 < 0
  · simp [x0, x1, x2, x3, x4, la0, la1, la2, la3, gs0, p0, p1, p2, p3, lb0, lb1, lb2, lb3, lp0, lp1, lp2, lp3, m0, m1, m2, m3, m4, ma0, ma1, ma2, ma3, mp0, mp1, mp2, mp3, mb0, mb1, mb2, ml0, ml1, ml2, ml3, ho, hb, b1, y_c1, y_in1, b2, y_c2, y_in2, b3, y_c3, y_in3, b4, y_c4, y_in4, b5, y_c5, y_in5, b6, y_c6, y_in6, y_zu, mbm, h1, (yc_a h1).1, (yc_a h1).2]
  · simp [x0, x1, x2, x3, x4, la0, la1, la2, la3, gs0, p0, p1, p2, p3, lb0, lb1, lb2, lb3, lp0, lp1, lp2, lp3, m0, m1, m2, m3, m4, ma0, ma1, ma2, ma3, mp0, mp1, mp2, mp3, mb0, mb1, mb2, ml0, ml1, ml2, ml3, ho, hb, b1, y_c1, y_in1, b2, y_c2, y_in2, b3, y_c3, y_in3, b4, y_c4, y_in4, b5, y_c5, y_in5, b6, y_c6, y_in6, y_zu, mbm, h1, (yc_b h1).1, (yc_b h1).2, (y_m1' _).mpr h1]
set_option maxHeartbeats 4000000 in
theorem yl_13 {T : zT} {F : zF} {xs : Nat → Int32} {zE x m o b la gs pl tr lb lp tb tp ma mp mg mb ml : Nat} (hw : yW T F xs zE x m o b la gs pl tr lb lp tb tp ma mp mg mb ml) : vl_13 x m o b T F := by
  obtain ⟨⟨x0, x1, x2, x3, x4, ⟨la0, la1, la2, la3⟩, gs0, gsv, ⟨p0, p1, p2, p3, ⟨lb0, lb1, lb2, lb3⟩, ⟨lp0, lp1, lp2, lp3⟩⟩, ⟨t0, t1, t2, t3, ⟨tb0, tb1, tb2, tb3⟩, ⟨tp0, tp1, tp2, tp3⟩⟩, xne⟩, ⟨m0, m1, m2, m3, m4, ⟨ma0, ma1, ma2, ma3⟩, ⟨mp0, mp1, mp2, mp3⟩, mg0, mgv, mgr, mgw, mb0, mb1, mb2, mb3, ⟨ml0, ml1, ml2, ml3⟩⟩, ho, hb, hbv, hE, n1, n2, n3, n4, n5⟩ := hw
  have mbm : ¬ mb = m := y_ne mb0 m0 (by decide)
  have b1 : F b 1 = .int (xs 1) := hbv 1 (by decide)
  simp only [vl_13, v_X9_thrown, v_X9_cancel, v_X9_refuse, v_X9_isBooking, v_X9_is, v_Jx4a65c_size_8abf5, v_L_cancel, v_X4_cancel, v_X4_bookingAt]
  by_cases h1 : xs 1 < 0
  · simp [x0, x1, x2, x3, x4, la0, la1, la2, la3, gs0, p0, p1, p2, p3, lb0, lb1, lb2, lb3, lp0, lp1, lp2, lp3, m0, m1, m2, m3, m4, ma0, ma1, ma2, ma3, mp0, mp1, mp2, mp3, mb0, mb1, mb2, ml0, ml1, ml2, ml3, ho, hb, b1, y_c1, y_in1, y_zu, mbm, h1, (yc_a h1).1, (yc_a h1).2]
  · simp [x0, x1, x2, x3, x4, la0, la1, la2, la3, gs0, p0, p1, p2, p3, lb0, lb1, lb2, lb3, lp0, lp1, lp2, lp3, m0, m1, m2, m3, m4, ma0, ma1, ma2, ma3, mp0, mp1, mp2, mp3, mb0, mb1, mb2, ml0, ml1, ml2, ml3, ho, hb, b1, y_c1, y_in1, y_zu, mbm, h1, (yc_b h1).1, (yc_b h1).2, (y_m1' _).mpr h1]
set_option maxHeartbeats 4000000 in
theorem yl_14 {T : zT} {F : zF} {xs : Nat → Int32} {zE x m o b la gs pl tr lb lp tb tp ma mp mg mb ml : Nat} (hw : yW T F xs zE x m o b la gs pl tr lb lp tb tp ma mp mg mb ml) : vl_14 x m o b T F := by
  obtain ⟨⟨x0, x1, x2, x3, x4, ⟨la0, la1, la2, la3⟩, gs0, gsv, ⟨p0, p1, p2, p3, ⟨lb0, lb1, lb2, lb3⟩, ⟨lp0, lp1, lp2, lp3⟩⟩, ⟨t0, t1, t2, t3, ⟨tb0, tb1, tb2, tb3⟩, ⟨tp0, tp1, tp2, tp3⟩⟩, xne⟩, ⟨m0, m1, m2, m3, m4, ⟨ma0, ma1, ma2, ma3⟩, ⟨mp0, mp1, mp2, mp3⟩, mg0, mgv, mgr, mgw, mb0, mb1, mb2, mb3, ⟨ml0, ml1, ml2, ml3⟩⟩, ho, hb, hbv, hE, n1, n2, n3, n4, n5⟩ := hw
  have mbm : ¬ mb = m := y_ne mb0 m0 (by decide)
  have b1 : F b 1 = .int (xs 1) := hbv 1 (by decide)
  have b2 : F b 2 = .int (xs 2) := hbv 2 (by decide)
  simp only [vl_14, v_X9_thrown, v_X9_swap, v_X9_refuse, v_X9_isPiece, v_X9_is, v_Jx4a65c_size_8abf5, v_X9_isBooking, v_L_swap, v_X4_swap, v_X4_bookingAt]
  by_cases h1 : xs 1 < 0
  · simp [x0, x1, x2, x3, x4, la0, la1, la2, la3, gs0, p0, p1, p2, p3, lb0, lb1, lb2, lb3, lp0, lp1, lp2, lp3, m0, m1, m2, m3, m4, ma0, ma1, ma2, ma3, mp0, mp1, mp2, mp3, mb0, mb1, mb2, ml0, ml1, ml2, ml3, ho, hb, b1, y_c1, y_in1, b2, y_c2, y_in2, y_zu, mbm, h1, (yc_a h1).1, (yc_a h1).2]
  · simp [x0, x1, x2, x3, x4, la0, la1, la2, la3, gs0, p0, p1, p2, p3, lb0, lb1, lb2, lb3, lp0, lp1, lp2, lp3, m0, m1, m2, m3, m4, ma0, ma1, ma2, ma3, mp0, mp1, mp2, mp3, mb0, mb1, mb2, ml0, ml1, ml2, ml3, ho, hb, b1, y_c1, y_in1, b2, y_c2, y_in2, y_zu, mbm, h1, (yc_b h1).1, (yc_b h1).2, (y_m1' _).mpr h1]
set_option maxHeartbeats 4000000 in
theorem yl_15 {T : zT} {F : zF} {xs : Nat → Int32} {zE x m o b la gs pl tr lb lp tb tp ma mp mg mb ml : Nat} (hw : yW T F xs zE x m o b la gs pl tr lb lp tb tp ma mp mg mb ml) : vl_15 x m o b T F := by
  obtain ⟨⟨x0, x1, x2, x3, x4, ⟨la0, la1, la2, la3⟩, gs0, gsv, ⟨p0, p1, p2, p3, ⟨lb0, lb1, lb2, lb3⟩, ⟨lp0, lp1, lp2, lp3⟩⟩, ⟨t0, t1, t2, t3, ⟨tb0, tb1, tb2, tb3⟩, ⟨tp0, tp1, tp2, tp3⟩⟩, xne⟩, ⟨m0, m1, m2, m3, m4, ⟨ma0, ma1, ma2, ma3⟩, ⟨mp0, mp1, mp2, mp3⟩, mg0, mgv, mgr, mgw, mb0, mb1, mb2, mb3, ⟨ml0, ml1, ml2, ml3⟩⟩, ho, hb, hbv, hE, n1, n2, n3, n4, n5⟩ := hw
  have mbm : ¬ mb = m := y_ne mb0 m0 (by decide)
  have b1 : F b 1 = .int (xs 1) := hbv 1 (by decide)
  have b2 : F b 2 = .int (xs 2) := hbv 2 (by decide)
  simp only [vl_15, v_X9_thrown, v_X9_ofBooking, v_X9_refuse, v_X9_is, v_X9_isBooking, v_Jx4a65c_size_8abf5, v_L_ofBooking, v_X4_ofBooking, v_X4_bookingAt]
  by_cases h1 : xs 1 < 0
  · simp [x0, x1, x2, x3, x4, la0, la1, la2, la3, gs0, p0, p1, p2, p3, lb0, lb1, lb2, lb3, lp0, lp1, lp2, lp3, m0, m1, m2, m3, m4, ma0, ma1, ma2, ma3, mp0, mp1, mp2, mp3, mb0, mb1, mb2, ml0, ml1, ml2, ml3, ho, hb, b1, y_c1, y_in1, b2, y_c2, y_in2, y_zu, mbm, h1, (yc_a h1).1, (yc_a h1).2]
  · simp [x0, x1, x2, x3, x4, la0, la1, la2, la3, gs0, p0, p1, p2, p3, lb0, lb1, lb2, lb3, lp0, lp1, lp2, lp3, m0, m1, m2, m3, m4, ma0, ma1, ma2, ma3, mp0, mp1, mp2, mp3, mb0, mb1, mb2, ml0, ml1, ml2, ml3, ho, hb, b1, y_c1, y_in1, b2, y_c2, y_in2, y_zu, mbm, h1, (yc_b h1).1, (yc_b h1).2, (y_m1' _).mpr h1]
set_option maxHeartbeats 4000000 in
theorem yl_23 {T : zT} {F : zF} {xs : Nat → Int32} {zE x m o b la gs pl tr lb lp tb tp ma mp mg mb ml : Nat} (hw : yW T F xs zE x m o b la gs pl tr lb lp tb tp ma mp mg mb ml) : vl_23 x m o b T F := by
  obtain ⟨⟨x0, x1, x2, x3, x4, ⟨la0, la1, la2, la3⟩, gs0, gsv, ⟨p0, p1, p2, p3, ⟨lb0, lb1, lb2, lb3⟩, ⟨lp0, lp1, lp2, lp3⟩⟩, ⟨t0, t1, t2, t3, ⟨tb0, tb1, tb2, tb3⟩, ⟨tp0, tp1, tp2, tp3⟩⟩, xne⟩, ⟨m0, m1, m2, m3, m4, ⟨ma0, ma1, ma2, ma3⟩, ⟨mp0, mp1, mp2, mp3⟩, mg0, mgv, mgr, mgw, mb0, mb1, mb2, mb3, ⟨ml0, ml1, ml2, ml3⟩⟩, ho, hb, hbv, hE, n1, n2, n3, n4, n5⟩ := hw
  have mbm : ¬ mb = m := y_ne mb0 m0 (by decide)
  have b1 : F b 1 = .int (xs 1) := hbv 1 (by decide)
  simp only [vl_23, v_X9_thrown, v_X9_swapFor, v_X9_refuse, v_X9_isBooking, v_X9_is, v_Jx4a65c_size_8abf5, v_L_swapFor, v_X4_swapFor, v_X4_bookingAt]
  by_cases h1 : xs 1 < 0
  · simp [x0, x1, x2, x3, x4, la0, la1, la2, la3, gs0, p0, p1, p2, p3, lb0, lb1, lb2, lb3, lp0, lp1, lp2, lp3, m0, m1, m2, m3, m4, ma0, ma1, ma2, ma3, mp0, mp1, mp2, mp3, mb0, mb1, mb2, ml0, ml1, ml2, ml3, ho, hb, b1, y_c1, y_in1, y_zu, mbm, h1, (yc_a h1).1, (yc_a h1).2]
  · simp [x0, x1, x2, x3, x4, la0, la1, la2, la3, gs0, p0, p1, p2, p3, lb0, lb1, lb2, lb3, lp0, lp1, lp2, lp3, m0, m1, m2, m3, m4, ma0, ma1, ma2, ma3, mp0, mp1, mp2, mp3, mb0, mb1, mb2, ml0, ml1, ml2, ml3, ho, hb, b1, y_c1, y_in1, y_zu, mbm, h1, (yc_b h1).1, (yc_b h1).2, (y_m1' _).mpr h1]
set_option maxHeartbeats 4000000 in
theorem yl_24 {T : zT} {F : zF} {xs : Nat → Int32} {zE x m o b la gs pl tr lb lp tb tp ma mp mg mb ml : Nat} (hw : yW T F xs zE x m o b la gs pl tr lb lp tb tp ma mp mg mb ml) : vl_24 x m o b T F := by
  obtain ⟨⟨x0, x1, x2, x3, x4, ⟨la0, la1, la2, la3⟩, gs0, gsv, ⟨p0, p1, p2, p3, ⟨lb0, lb1, lb2, lb3⟩, ⟨lp0, lp1, lp2, lp3⟩⟩, ⟨t0, t1, t2, t3, ⟨tb0, tb1, tb2, tb3⟩, ⟨tp0, tp1, tp2, tp3⟩⟩, xne⟩, ⟨m0, m1, m2, m3, m4, ⟨ma0, ma1, ma2, ma3⟩, ⟨mp0, mp1, mp2, mp3⟩, mg0, mgv, mgr, mgw, mb0, mb1, mb2, mb3, ⟨ml0, ml1, ml2, ml3⟩⟩, ho, hb, hbv, hE, n1, n2, n3, n4, n5⟩ := hw
  have mbm : ¬ mb = m := y_ne mb0 m0 (by decide)
  have b1 : F b 1 = .int (xs 1) := hbv 1 (by decide)
  simp only [vl_24, v_X9_thrown, v_X9_offIn, v_X9_refuse, v_X9_isBooking, v_X9_is, v_Jx4a65c_size_8abf5, v_L_offIn, v_X4_offIn, v_X4_bookingAt]
  by_cases h1 : xs 1 < 0
  · simp [x0, x1, x2, x3, x4, la0, la1, la2, la3, gs0, p0, p1, p2, p3, lb0, lb1, lb2, lb3, lp0, lp1, lp2, lp3, m0, m1, m2, m3, m4, ma0, ma1, ma2, ma3, mp0, mp1, mp2, mp3, mb0, mb1, mb2, ml0, ml1, ml2, ml3, ho, hb, b1, y_c1, y_in1, y_zu, mbm, h1, (yc_a h1).1, (yc_a h1).2]
  · simp [x0, x1, x2, x3, x4, la0, la1, la2, la3, gs0, p0, p1, p2, p3, lb0, lb1, lb2, lb3, lp0, lp1, lp2, lp3, m0, m1, m2, m3, m4, ma0, ma1, ma2, ma3, mp0, mp1, mp2, mp3, mb0, mb1, mb2, ml0, ml1, ml2, ml3, ho, hb, b1, y_c1, y_in1, y_zu, mbm, h1, (yc_b h1).1, (yc_b h1).2, (y_m1' _).mpr h1]
set_option maxHeartbeats 4000000 in
theorem yl_26 {T : zT} {F : zF} {xs : Nat → Int32} {zE x m o b la gs pl tr lb lp tb tp ma mp mg mb ml : Nat} (hw : yW T F xs zE x m o b la gs pl tr lb lp tb tp ma mp mg mb ml) : vl_26 x m o b T F := by
  obtain ⟨⟨x0, x1, x2, x3, x4, ⟨la0, la1, la2, la3⟩, gs0, gsv, ⟨p0, p1, p2, p3, ⟨lb0, lb1, lb2, lb3⟩, ⟨lp0, lp1, lp2, lp3⟩⟩, ⟨t0, t1, t2, t3, ⟨tb0, tb1, tb2, tb3⟩, ⟨tp0, tp1, tp2, tp3⟩⟩, xne⟩, ⟨m0, m1, m2, m3, m4, ⟨ma0, ma1, ma2, ma3⟩, ⟨mp0, mp1, mp2, mp3⟩, mg0, mgv, mgr, mgw, mb0, mb1, mb2, mb3, ⟨ml0, ml1, ml2, ml3⟩⟩, ho, hb, hbv, hE, n1, n2, n3, n4, n5⟩ := hw
  have mbm : ¬ mb = m := y_ne mb0 m0 (by decide)
  have b1 : F b 1 = .int (xs 1) := hbv 1 (by decide)
  simp only [vl_26, v_X9_thrown, v_X9_reachWith, v_X9_refuse, v_X9_isBooking, v_X9_is, v_Jx4a65c_size_8abf5, v_L_reachWith, v_X4_reachWith, v_X4_bookingAt]
  by_cases h1 : xs 1 < 0
  · simp [x0, x1, x2, x3, x4, la0, la1, la2, la3, gs0, p0, p1, p2, p3, lb0, lb1, lb2, lb3, lp0, lp1, lp2, lp3, m0, m1, m2, m3, m4, ma0, ma1, ma2, ma3, mp0, mp1, mp2, mp3, mb0, mb1, mb2, ml0, ml1, ml2, ml3, ho, hb, b1, y_c1, y_in1, y_zu, mbm, h1, (yc_a h1).1, (yc_a h1).2]
  · simp [x0, x1, x2, x3, x4, la0, la1, la2, la3, gs0, p0, p1, p2, p3, lb0, lb1, lb2, lb3, lp0, lp1, lp2, lp3, m0, m1, m2, m3, m4, ma0, ma1, ma2, ma3, mp0, mp1, mp2, mp3, mb0, mb1, mb2, ml0, ml1, ml2, ml3, ho, hb, b1, y_c1, y_in1, y_zu, mbm, h1, (yc_b h1).1, (yc_b h1).2, (y_m1' _).mpr h1]
