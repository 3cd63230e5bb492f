/-! the setup: what the constructors leave; assets -/
theorem y_fr {T0 T1 : zT} {F0 F1 : zF} {q : Nat} {t : Nat × Nat} {V : Nat → Value} (hq : ∀ b, q ≤ b → T0 b = none) (e : yE (fun a => a = q) (zn T0 q t) (zm F0 q V) T1 F1) : yE (fun _ => False) T0 F0 T1 F1 := fun a s h => by
  have e0 := (yE.nn (P := fun _ => False) (t := t) (V := V) (F := F0) hq) a s h
  exact ⟨(e _ _ e0.1).1, fun hp j => ((e _ _ e0.1).2 (Nat.ne_of_lt (y_nq h hq)) j).trans (e0.2 hp j)⟩
/-- a fresh list -/
def yL (T : zT) (F : zF) (l zE : Nat) : Prop := T l = some (0, 3) ∧ F l 0 = .int 0 ∧ F l 1 = .ref zE ∧ F l 2 = .int 0
theorem yL.kp {P : Nat → Prop} {T T' : zT} {F F' : zF} {l zE : Nat} (h : yL T F l zE) (e : yE P T F T' F') (hp : ¬ P l) : yL T' F' l zE :=
  ⟨(e l _ h.1).1, ((e l _ h.1).2 hp 0).trans h.2.1, ((e l _ h.1).2 hp 1).trans h.2.2.1, ((e l _ h.1).2 hp 2).trans h.2.2.2⟩
theorem yL.ls {T : zT} {F : zF} {l zE : Nat} (h : yL T F l zE) (hz : T zE = some (101, 0)) (ad : Nat → Nat) : yLs T F l zE 0 ad := ⟨h.1, h.2.2.1, h.2.2.2, ⟨0, hz, Nat.le_refl _, by decide⟩, ⟨0, h.2.1⟩, fun i hi => absurd hi (Nat.not_lt_zero i)⟩
theorem yLs.cg {T : zT} {F : zF} {l e n : Nat} {ad ad' : Nat → Nat} (h : yLs T F l e n ad) (g : ∀ i : Nat, i < n → ad i = ad' i) : yLs T F l e n ad' := ⟨h.1, h.2.1, h.2.2.1, h.2.2.2.1, h.2.2.2.2.1, fun i hi => by rw [← g i hi]; exact h.2.2.2.2.2 i hi⟩
theorem s_list {q zE : Nat} {T : zT} {F : zF} {Post : zF → Prop} (hq : ∀ b, q ≤ b → T b = none)
    (hk : ∀ F' : zF, yE (fun _ => False) T F (zn T q (0, 3)) F' → yL (zn T q (0, 3)) F' q zE → Post F') : v_Jx4a65c_init_da8c8 zE q (zn T q (0, 3)) (zm F q (fun j => defaultValue (tyJx4a65c j))) Post := by
  have e1 : zn T q (0, 3) q = some (0, 3) := z_nq
  have hn : T q = none := hq q (Nat.le_refl _)
  refine ⟨e1, e1, hk _ (((yE.nn hq).un hn).un hn) ⟨e1, ?_, ?_, ?_⟩⟩
  · simp [zu]
  · simp [zu]
  · simp [zu, zm, tyJx4a65c, defaultValue]
theorem s_X3_init {zE a : Nat} {T : zT} {F : zF} {Post : zT → zF → Prop} (ha : T a = some (4, 3)) (hk : ∀ (l1 l2 : Nat) (T' : zT) (F' : zF), yE (fun q => q = a) T F T' F' → T l1 = none → T l2 = none → l1 ≠ l2 → F' a 0 = .ref l1 → F' a 1 = .ref l2 → F' a 2 = .int 0 → yL T' F' l1 zE → yL T' F' l2 zE → Post T' F') : v_X3_init zE a T F Post := by
  refine fun q hq => s_list hq fun F3 e3 g3 => ⟨(e3 _ _ ha).1, fun q5 hq5 => s_list hq5 fun F7 e7 g7 => ?_⟩
  have hn : T q = none := hq q (Nat.le_refl _)
  have nqq : q ≠ q5 := Nat.ne_of_lt (y_nq g3.1 hq5)
  have hn5 : T q5 = none := (if_neg (fun g => nqq g.symm)).symm.trans (hq5 q5 (Nat.le_refl _))
  have na : ∀ {r : Nat}, T r = none → r ≠ a := fun h e => by rw [e, ha] at h; cases h
  have ea3 := (e3 _ _ ha)
  have ea7 := (e7 _ _ ea3.1)
  have e : yE (fun q => q = a) T F (zn (zn T q (0, 3)) q5 (0, 3)) (zu (zu F7 a 1 (.ref q5)) a 2 (.int 0)) := (((e3.w0.tr yE.us).tr e7.w0).tr yE.us).tr yE.us
  have eL : yE (fun q => q = a) (zn (zn T q (0, 3)) q5 (0, 3)) F7 (zn (zn T q (0, 3)) q5 (0, 3)) (zu (zu F7 a 1 (.ref q5)) a 2 (.int 0)) := yE.us.tr yE.us
  exact ⟨ea7.1, hk q q5 _ _ e hn hn5 nqq (z_une (z_une ((ea7.2 (fun g => g) 0).trans z_ueq) (by decide)) (by decide)) (z_une z_ueq (by decide)) z_ueq ((((g3.kp (P := fun b => b = a) yE.us (na hn)).kp e7 (fun g => g))).kp eL (na hn)) (g7.kp eL (na hn5))⟩
/-- all but the assets and the pieces, as the constructor leaves it -/
def Fr (T : zT) (F : zF) (zE x la gs pl tr lb lp tb : Nat) : Prop :=
  (T x = some (5, 4) ∧ F x 0 = .ref la ∧ F x 1 = .ref gs ∧ F x 2 = .ref pl ∧ F x 3 = .ref tr) ∧ (T gs = some (100, 16) ∧ ∀ j : Nat, j < 16 → F gs j = .int 0) ∧
  (T pl = some (4, 3) ∧ F pl 0 = .ref lb ∧ F pl 1 = .ref lp ∧ F pl 2 = .int 0 ∧ yL T F lb zE) ∧ (T tr = some (4, 3) ∧ F tr 0 = .ref tb ∧ (∃ q : Nat, F tr 1 = .ref q) ∧ F tr 2 = .int 0 ∧ yL T F tb zE) ∧ T zE = some (101, 0) ∧
  pl ≠ tr ∧ la ≠ lp ∧ la ≠ lb ∧ la ≠ tb ∧ lp ≠ lb ∧ lp ≠ tb ∧ lb ≠ tb
theorem s_X4_init {zE x : Nat} {T : zT} {F : zF} {Post : zT → zF → Prop} (hx : T x = some (5, 4)) (hE : T zE = some (101, 0)) (hk : ∀ (la gs pl tr lb lp tb : Nat) (T' : zT) (F' : zF), yE (fun q => q = x) T F T' F' → Fr T' F' zE x la gs pl tr lb lp tb → yL T' F' la zE → yL T' F' lp zE → Post T' F') : v_X4_init zE x T F Post := by
  refine fun q1 hq1 => s_list hq1 fun F3 e3 g3 => ⟨(e3 _ _ hx).1, fun q5 hq5 => ?_⟩
  have na : ∀ {r : Nat}, T r = none → r ≠ x := fun h e => by rw [e, hx] at h; cases h
  have hn1 : T q1 = none := hq1 q1 (Nat.le_refl _)
  have eA : yE (fun q => q = x) T F (zn T q1 (0, 3)) (zu F3 x 0 (.ref q1)) := e3.w0.tr yE.us
  have gA : yL (zn T q1 (0, 3)) (zu F3 x 0 (.ref q1)) q1 zE := g3.kp (P := fun b => b = x) yE.us (na hn1)
  have a0 : zu F3 x 0 (.ref q1) x 0 = .ref q1 := z_ueq
  generalize zu F3 x 0 (.ref q1) = FA at eA gA a0 ⊢
  generalize hTA : zn T q1 (0, 3) = TA at eA gA hq5 ⊢
  have xA := (eA _ _ hx).1
  have eB : yE (fun _ => False) TA FA (zn TA q5 (100, 16)) (zm FA q5 (fun _ => .int 0)) := yE.nn hq5
  have xB := (eB _ _ xA)
  refine ⟨xB.1, fun q8 hq8 => ?_⟩
  have gs0 : zn TA q5 (100, 16) q5 = some (100, 16) := z_nq
  have hlt5 : x < q5 := y_nq xA hq5
  have gsv : ∀ j : Nat, zu (zm FA q5 (fun _ => .int 0)) x 1 (.ref q5) q5 j = .int 0 := fun j => by
    simp [zu, zm, Nat.ne_of_gt hlt5]
  have eC : yE (fun q => q = x) T F (zn TA q5 (100, 16)) (zu (zm FA q5 (fun _ => .int 0)) x 1 (.ref q5)) := (eA.tr eB.w0).tr yE.us
  have gC : yL (zn TA q5 (100, 16)) (zu (zm FA q5 (fun _ => .int 0)) x 1 (.ref q5)) q1 zE := (gA.kp eB (fun g => g)).kp (P := fun b => b = x) yE.us (na hn1)
  have c0 : zu (zm FA q5 (fun _ => .int 0)) x 1 (.ref q5) x 0 = .ref q1 := z_une ((xB.2 (fun g => g) 0).trans a0) (by decide)
  have c1 : zu (zm FA q5 (fun _ => .int 0)) x 1 (.ref q5) x 1 = .ref q5 := z_ueq
  generalize zu (zm FA q5 (fun _ => .int 0)) x 1 (.ref q5) = FC at eC gC c0 c1 gsv ⊢
  have xC := xB.1
  generalize zn TA q5 (100, 16) = TC at eC gC hq8 gs0 xC ⊢
  have eD : yE (fun _ => False) TC FC (zn TC q8 (4, 3)) (zm FC q8 (fun j => defaultValue (tyX3 j))) := yE.nn hq8
  refine s_X3_init z_nq fun lb lp T10 F11 e11 nb np nbp b0 b1 b2 gb gp => ?_
  have eE : yE (fun _ => False) TC FC T10 F11 := fun a t h => ⟨(e11 _ _ (eD a t h).1).1, fun hp j => ((e11 _ _ (eD a t h).1).2 (Nat.ne_of_lt (y_nq h hq8)) j).trans ((eD a t h).2 hp j)⟩
  have xE := eE _ _ xC
  refine ⟨xE.1, fun q13 hq13 => ?_⟩
  have p10 : T10 q8 = some (4, 3) := (e11 _ _ z_nq).1
  have np8 : q8 ≠ x := Nat.ne_of_gt (y_nq xC hq8)
  have la8 := (eD _ _ gC.1).1
  have nab : q1 ≠ lb := fun g => by rw [← g, la8] at nb; cases nb
  have nap : q1 ≠ lp := fun g => by rw [← g, la8] at np; cases np
  have eF : yE (fun q => q = x) T F T10 (zu F11 x 2 (.ref q8)) := (eC.tr eE.w0).tr yE.us
  have eX : yE (fun q => q = x) T10 F11 T10 (zu F11 x 2 (.ref q8)) := yE.us
  have nl : ∀ {r : Nat}, T10 r = some (0, 3) → r ≠ x := fun h => y_ne h xE.1 (by decide)
  have gF := (gC.kp eE (fun g => g)).kp eX (na hn1)
  have gbF := gb.kp eX (nl gb.1)
  have gpF := gp.kp eX (nl gp.1)
  have d0 : zu F11 x 2 (.ref q8) x 0 = .ref q1 := z_une ((xE.2 (fun g => g) 0).trans c0) (by decide)
  have d1 : zu F11 x 2 (.ref q8) x 1 = .ref q5 := z_une ((xE.2 (fun g => g) 1).trans c1) (by decide)
  have d2 : zu F11 x 2 (.ref q8) x 2 = .ref q8 := z_ueq
  have pF : ∀ j : Nat, zu F11 x 2 (.ref q8) q8 j = F11 q8 j := fun j => (eX _ _ p10).2 np8 j
  have gsF : T10 q5 = some (100, 16) ∧ ∀ j : Nat, zu F11 x 2 (.ref q8) q5 j = .int 0 := ⟨(eE _ _ gs0).1, fun j => ((eX _ _ (eE _ _ gs0).1).2 (y_ne (eE _ _ gs0).1 xE.1 (by decide)) j).trans (((eE _ _ gs0).2 (fun g => g) j).trans (gsv j))⟩
  have f0 := (pF 0).trans b0
  have f1 := (pF 1).trans b1
  have f2 := (pF 2).trans b2
  generalize zu F11 x 2 (.ref q8) = FF at eF gF gbF gpF d0 d1 d2 gsF f0 f1 f2 ⊢
  have xF := xE.1
  refine s_X3_init z_nq fun tb tp T15 F16 e16 nb' np' nbp' t0 t1 t2 gtb gtp => ?_
  have eG0 : yE (fun _ => False) T10 FF (zn T10 q13 (4, 3)) (zm FF q13 (fun j => defaultValue (tyX3 j))) := yE.nn hq13
  have eG : yE (fun _ => False) T10 FF T15 F16 := fun a t h => ⟨(e16 _ _ (eG0 a t h).1).1, fun hp j => ((e16 _ _ (eG0 a t h).1).2 (Nat.ne_of_lt (y_nq h hq13)) j).trans ((eG0 a t h).2 hp j)⟩
  have nt : ∀ {r : Nat}, T10 r = some (0, 3) → r ≠ tb := fun h g => by
    have := (eG0 _ _ h).1
    rw [g, nb'] at this; cases this
  have xG := eG _ _ xF
  have tr0 : T15 q13 = some (4, 3) := (e16 _ _ z_nq).1
  have eH : yE (fun q => q = x) T15 F16 T15 (zu F16 x 3 (.ref q13)) := yE.us
  have nl2 : ∀ {r : Nat}, T15 r = some (0, 3) → r ≠ x := fun h => y_ne h xG.1 (by decide)
  have pG := eG _ _ p10
  have pH := eH _ _ pG.1
  have tH := eH _ _ tr0
  have ntr : q13 ≠ x := Nat.ne_of_gt (y_nq xF hq13)
  have gsG := eG _ _ gsF.1
  have gsH := eH _ _ gsG.1
  have ngs : q5 ≠ x := y_ne gsG.1 xG.1 (by decide)
  have eZ := (eF.tr eG.w0).tr eH
  exact ⟨xG.1, hk q1 q5 q8 q13 lb lp tb _ _ eZ ⟨⟨xG.1, z_une ((xG.2 (fun g => g) 0).trans d0) (by decide), z_une ((xG.2 (fun g => g) 1).trans d1) (by decide), z_une ((xG.2 (fun g => g) 2).trans d2) (by decide), z_ueq⟩, ⟨gsG.1, fun j _ => (gsH.2 ngs j).trans ((gsG.2 (fun g => g) j).trans (gsF.2 j))⟩, ⟨pG.1, (pH.2 np8 0).trans ((pG.2 (fun g => g) 0).trans f0), (pH.2 np8 1).trans ((pG.2 (fun g => g) 1).trans f1), (pH.2 np8 2).trans ((pG.2 (fun g => g) 2).trans f2), (gbF.kp eG (fun g => g)).kp eH (nl2 (gbF.kp eG (fun g => g)).1)⟩, ⟨tr0, (tH.2 ntr 0).trans t0, ⟨tp, (tH.2 ntr 1).trans t1⟩, (tH.2 ntr 2).trans t2, gtb.kp eH (nl2 gtb.1)⟩, (eZ _ _ hE).1, Nat.ne_of_lt (y_nq p10 hq13), nap, nab, nt gF.1, fun g => nbp g.symm, nt gpF.1, nt gbF.1⟩ ((gF.kp eG (fun g => g)).kp eH (nl2 (gF.kp eG (fun g => g)).1)) ((gpF.kp eG (fun g => g)).kp eH (nl2 (gpF.kp eG (fun g => g)).1))⟩
theorem Fr.kp {P : Nat → Prop} {T T' : zT} {F F' : zF} {zE x la gs pl tr lb lp tb : Nat} (h : Fr T F zE x la gs pl tr lb lp tb) (k : yE P T F T' F') (hP : ∀ a : Nat, P a → a ≠ lb ∧ a ≠ tb ∧ ∃ t : Nat × Nat, T a = some t ∧ (t.1 = 0 ∨ t.1 = 1 ∨ t = (100, 5) ∨ t.1 = 101)) : Fr T' F' zE x la gs pl tr lb lp tb := by
  obtain ⟨⟨x0, x1, x2, x3, x4⟩, ⟨g0, g1⟩, ⟨p0, p1, p2, p3, p4⟩, ⟨t0, t1, ⟨t2, t3⟩, t4, t5⟩, hz, hd⟩ := h
  have nk : ∀ {a : Nat} {s : Nat × Nat}, T a = some s → ¬ (s.1 = 0 ∨ s.1 = 1 ∨ s = (100, 5) ∨ s.1 = 101) → ¬ P a := fun {a s} ha hs g => by
    obtain ⟨-, -, t, ht, h9⟩ := hP a g
    cases ha.symm.trans ht
    exact hs h9
  have kx := (k _ _ x0).2 (nk x0 (by decide))
  have kp := (k _ _ p0).2 (nk p0 (by decide))
  have kt := (k _ _ t0).2 (nk t0 (by decide))
  exact ⟨⟨(k _ _ x0).1, (kx 0).trans x1, (kx 1).trans x2, (kx 2).trans x3, (kx 3).trans x4⟩, ⟨(k _ _ g0).1, fun j hj => ((k _ _ g0).2 (nk g0 (by decide)) j).trans (g1 j hj)⟩, ⟨(k _ _ p0).1, (kp 0).trans p1, (kp 1).trans p2, (kp 2).trans p3, p4.kp k fun g => (hP _ g).1 rfl⟩, ⟨(k _ _ t0).1, (kt 0).trans t1, ⟨t2, (kt 1).trans t3⟩, (kt 2).trans t4, t5.kp k fun g => (hP _ g).2.1 rfl⟩, (k _ _ hz).1, hd⟩
theorem s_newAs {q : Nat} {T : zT} {F : zF} {Post : zT → zF → Prop} (hq : T q = some (1, 5)) (hk : ∀ (c : Nat) (T' : zT) (F' : zF), yE (fun a => a = q) T F T' F' → T c = none → zAs T' F' q c (fun _ => 100) (fun _ => 0) → Post T' F') : v_X0_init q T F Post := by
  intro c hc
  have hn : T c = none := hc c (Nat.le_refl _)
  have nqc : q ≠ c := Nat.ne_of_lt (y_nq hq hc)
  have k0 : yE (fun _ => False) T F (zn T c (100, 5)) (zm F c (fun _ => .int 0)) := yE.nn hc
  have hq1 := (k0 _ _ hq).1
  refine ⟨hq1, ?_⟩
  have kU : yE (fun a => a = q) (zn T c (100, 5)) (zm F c (fun _ => .int 0)) (zn T c (100, 5)) (zu (zu (zu (zu (zu (zm F c (fun _ => .int 0)) q 0 (.ref c)) q 1 (.int 0)) q 2 (.int 0)) q 3 (.int 0)) q 4 (.int 0)) := (((yE.us.tr yE.us).tr yE.us).tr yE.us).tr yE.us
  refine s_fill (m := 5) (by decide) z_nq fun F' ke hv => hk c _ F' (fun a t ha => ⟨(k0 a t ha).1, fun hp j => ((ke a t (k0 a t ha).1).2 (fun g => by rw [g, hn] at ha; cases ha) j).trans (((kU a t (k0 a t ha).1).2 hp j).trans ((k0 a t ha).2 (fun g => g) j))⟩) hn ⟨hq1, ?_, z_nq, fun v hv5 => hv v hv5, fun j j1 j5 => ?_⟩
  · exact ((ke _ _ hq1).2 nqc 0).trans (z_une (z_une (z_une (z_une z_ueq (by decide)) (by decide)) (by decide)) (by decide))
  · refine ((ke _ _ hq1).2 nqc j).trans ?_
    rcases (show j = 1 ∨ j = 2 ∨ j = 3 ∨ j = 4 by omega) with rfl | rfl | rfl | rfl <;> simp [y_zu]
/-- the first n assets -/
def zAl (T : zT) (F : zF) (zE la e1 n : Nat) (qa qc : Nat → Nat) (CC AA : Nat → Nat → Int32) : Prop :=
  yLs T F la e1 n qa ∧ yCap T e1 zE ∧ (∀ k : Nat, k < n → zAs T F (qa k) (qc k) (CC k) (AA k)) ∧ (∀ j k : Nat, j < n → k < n → qa j = qa k → j = k) ∧ (∀ j k : Nat, j < n → k < n → qc j = qc k → j = k) ∧ ∀ k v : Nat, k < n → v < 5 → 0 ≤ (CC k v).toInt ∧ (CC k v).toInt ≤ 100
section SET1
variable {T : zT} {F : zF} {zE x la gs pl tr lb lp tb e1 n : Nat} {qa qc : Nat → Nat} {CC AA : Nat → Nat → Int32}
theorem s_asAt (h : Fr T F zE x la gs pl tr lb lp tb) (hl : zAl T F zE la e1 n qa qc CC AA) {k : Nat} (hk : k < n) {Post : Nat → Prop} {PX : String → Prop} (hp : Post (qa k)) : v_X4_assetAt x (nI k) T F Post PX := by
  have hn := hl.1.lt
  exact ⟨fun z => absurd z (nI_pos (by omega)), fun _ => ⟨h.1.1, _, h.1.2.1, hl.1.1, s_size hl.1 ⟨fun _ => s_get hl.1 hk ⟨(hl.2.2.1 k hk).1, hp⟩, fun z => absurd (nI_lt hk (by omega)) z⟩⟩⟩
theorem zAl.kp {P : Nat → Prop} {T' : zT} {F' : zF} (hl : zAl T F zE la e1 n qa qc CC AA) (k : yE P T F T' F') (h1 : ¬ P la) (h2 : ¬ P e1) (h3 : ∀ a : Nat, P a → ∀ t : Nat × Nat, T a = some t → ¬ t = (1, 5) ∧ ¬ t = (100, 5)) : zAl T' F' zE la e1 n qa qc CC AA := by
  obtain ⟨l0, l1, l2, l3, l4, l5⟩ := hl
  exact ⟨l0.kp k h1 h2, l1.kp k, fun j hj => (l2 j hj).kp k (fun g => (h3 _ g _ (l2 j hj).1).1 rfl) (fun g => (h3 _ g _ (l2 j hj).2.2.1).2 rfl), l3, l4, l5⟩
theorem zAl.st {k : Nat} {F' : zF} {C' A' : Nat → Int32} (hl : zAl T F zE la e1 n qa qc CC AA) (hk : k < n) (ke : yE (fun a => a = qa k ∨ a = qc k) T F T F') (ha : zAs T F' (qa k) (qc k) C' A') (hb : ∀ v : Nat, v < 5 → 0 ≤ (C' v).toInt ∧ (C' v).toInt ≤ 100) : zAl T F' zE la e1 n qa qc (upd1 CC k C') (upd1 AA k A') := by
  obtain ⟨l0, l1, l2, l3, l4, l5⟩ := hl
  have a1 := (l2 k hk).1
  have a2 := (l2 k hk).2.2.1
  obtain ⟨ce, hce⟩ := l0.er
  refine ⟨l0.kp ke (fun g => ?_) (fun g => ?_), l1, fun j hj => ?_, l3, l4, fun j v hj hv => ?_⟩
  · rcases g with g | g
    · exact y_ne l0.1 a1 (by decide) g
    · exact y_ne l0.1 a2 (by decide) g
  · rcases g with g | g
    · exact y_ne hce a1 (by simp) g
    · exact y_ne hce a2 (by simp) g
  · by_cases g : j = k
    · rw [g, upd1_s, upd1_s]; exact ha
    · rw [upd1_n g, upd1_n g]
      refine (l2 j hj).kp ke (fun z => ?_) (fun z => ?_)
      · rcases z with z | z
        · exact g (l3 j k hj hk z)
        · exact y_ne (l2 j hj).1 a2 (by decide) z
      · rcases z with z | z
        · exact y_ne (l2 j hj).2.2.1 a1 (by decide) z
        · exact g (l4 j k hj hk z)
  · by_cases g : j = k
    · rw [g, upd1_s]; exact hb v hv
    · rw [upd1_n g]; exact l5 j v hj hv
theorem s_asset (h : Fr T F zE x la gs pl tr lb lp tb) (hl : zAl T F zE la e1 n qa qc CC AA) (hn : n < 3) {Post : Int32 → zT → zF → Prop} {PX : String → zT → zF → Prop} (hk : ∀ (q c e' : Nat) (T' : zT) (F' : zF), yE (fun a => a = la ∨ (a = e1 ∧ ¬ T e1 = some (101, 0))) T F T' F' → zAl T' F' zE la e' (n + 1) (upd1 qa n q) (upd1 qc n c) (upd1 CC n (fun _ => 100)) (upd1 AA n (fun _ => 0)) → Post (nI n) T' F') : v_X4_asset zE x T F Post PX := by
  obtain ⟨l0, l1, l2, l3, l4, l5⟩ := id hl
  refine ⟨h.1.1, la, h.1.2.1, l0.1, s_size l0 ⟨fun _ => fun q hq => s_newAs z_nq fun c T8 F9 e8 hc hz => ?_, fun z => absurd (nI_lt (a := n) (b := 16) (by omega) (by omega)) z⟩⟩
  have hTq : T q = none := hq q (Nat.le_refl _)
  have kC : yE (fun _ => False) T F T8 F9 := y_fr hq e8
  have hTc : T c = none := by
    by_cases g : c = q
    · rw [g]; exact hTq
    · exact (if_neg g).symm.trans hc
  have lC := l0.kp kC (fun g => g) (fun g => g)
  refine ⟨lC.1, s_add lC (l1.kp kC) (by omega) (fun i hi => (y_obA (l2 i hi).1).kp kC) (y_obA hz.1) fun T3 F3 e3 kD l9 c9 z9 d9 => ?_⟩
  have kT : yE (fun a => a = la ∨ (a = e1 ∧ ¬ T e1 = some (101, 0))) T F T3 F3 := fun a t ha => by
    have b1 := kC a t ha
    refine ⟨(kD a t b1.1).1, fun hp' j => ((kD a t b1.1).2 (fun g => hp' ?_) j).trans (b1.2 (fun g => g) j)⟩
    rcases g with g | ⟨g, g2⟩
    · exact Or.inl g
    · exact Or.inr ⟨g, fun z => g2 (kC _ _ z).1⟩
  obtain ⟨ce, hce⟩ := l0.er
  have nk : ∀ {a : Nat} {t : Nat × Nat}, T a = some t → ¬ t.1 = 0 → ¬ t.1 = 101 → ¬ (a = la ∨ (a = e1 ∧ ¬ T e1 = some (101, 0))) := fun {a t} ha h1 h2 g => by
    rcases g with g | ⟨g, -⟩
    · rw [g, l0.1] at ha; cases ha; exact h1 rfl
    · rw [g, hce] at ha; cases ha; exact h2 rfl
  have nk8 : ∀ {a : Nat} {t : Nat × Nat}, T8 a = some t → ¬ t.1 = 0 → ¬ t.1 = 101 → ¬ (a = la ∨ (a = e1 ∧ ¬ T8 e1 = some (101, 0))) := fun {a t} ha h1 h2 g => by
    rcases g with g | ⟨g, -⟩
    · rw [g, lC.1] at ha; cases ha; exact h1 rfl
    · rw [g, (kC _ _ hce).1] at ha; cases ha; exact h2 rfl
  have kx := (kT _ _ h.1.1).2 (nk h.1.1 (by decide) (by decide))
  refine ⟨(kT _ _ h.1.1).1, la, (kx 0).trans h.1.2.1, l9.1, s_size l9 ?_⟩
  rw [nI_succ, show nI n + 1 - 1 = nI n from Int32.add_sub_cancel _ _]
  refine hk q c e3 T3 F3 kT ⟨l9, c9, fun j hj => ?_, fun j k hj hk' => ?_, fun j k hj hk' => ?_, fun j v hj hv => ?_⟩
  · by_cases g : j = n
    · rw [g, upd1_s, upd1_s, upd1_s, upd1_s]
      exact hz.kp kD (nk8 hz.1 (by decide) (by decide)) (nk8 hz.2.2.1 (by decide) (by decide))
    · rw [upd1_n g, upd1_n g, upd1_n g, upd1_n g]
      have hj' := l2 j (by omega)
      exact hj'.kp kT (nk hj'.1 (by decide) (by decide)) (nk hj'.2.2.1 (by decide) (by decide))
  · have ne : ∀ i : Nat, i < n → qa i ≠ q := fun i hi g => by
      have := (l2 i hi).1
      rw [g, hTq] at this; cases this
    by_cases g : j = n
    · by_cases g' : k = n
      · intro; omega
      · rw [g, upd1_s, upd1_n g']; intro z; exact absurd z.symm (ne k (by omega))
    · by_cases g' : k = n
      · rw [g', upd1_s, upd1_n g]; intro z; exact absurd z (ne j (by omega))
      · rw [upd1_n g, upd1_n g']; exact l3 j k (by omega) (by omega)
  · have ne : ∀ i : Nat, i < n → qc i ≠ c := fun i hi g => by
      have := (l2 i hi).2.2.1
      rw [g, hTc] at this; cases this
    by_cases g : j = n
    · by_cases g' : k = n
      · intro; omega
      · rw [g, upd1_s, upd1_n g']; intro z; exact absurd z.symm (ne k (by omega))
    · by_cases g' : k = n
      · rw [g', upd1_s, upd1_n g]; intro z; exact absurd z (ne j (by omega))
      · rw [upd1_n g, upd1_n g']; exact l4 j k (by omega) (by omega)
  · by_cases g : j = n
    · rw [g, upd1_s]
      exact ⟨by decide, by decide⟩
    · rw [upd1_n g]; exact l5 j v (by omega) hv
theorem s_ver0 (h : Fr T F zE x la gs pl tr lb lp tb) (hl : zAl T F zE la e1 n qa qc CC AA) {k : Nat} (hk : k < n) (h1 : AA k 1 = 0) {d : Int32} (d0 : 0 ≤ d.toInt) (d9 : d.toInt ≤ 99) {Post : Int32 → zF → Prop} {PX : String → zF → Prop} (hp : ∀ F' : zF, yE (fun a => a = qa k ∨ a = qc k) T F T F' → zAl T F' zE la e1 n qa qc (upd1 CC k (ub (CC k) 0 d)) (upd1 AA k (ub (AA k) 1 1)) → ∀ y : Int32, Post y F') : v_X4_version x (nI k) d T F Post PX := by
  have ha := hl.2.2.1 k hk
  obtain ⟨x0, x1, x2, x3, x4⟩ := id ha
  have nac : qa k ≠ qc k := y_ne x0 x2 (by decide)
  refine ⟨h.1.1, s_asAt h hl hk ⟨pl, h.1.2.2.2.1, h.2.2.1.1, 0, h.2.2.1.2.2.2.1, fun z => ?_, fun _ => ⟨fun _ => ⟨x0, x0, 0, by rw [← h1]; exact x4 1 (by decide) (by decide), fun z => absurd z (by decide), fun _ => ⟨qc k, x1, 5, x2, fun _ => ?_, fun z => absurd (show (0 : Int32) < nI 5 by decide) z⟩⟩, fun z => ?_⟩⟩⟩
  · rw [Int32.lt_iff_toInt_lt, y_toInt0] at z
    omega
  · rw [show (0 : Int32).toNatClampNeg = 0 by decide]
    have ke : yE (fun a => a = qa k ∨ a = qc k) T F T (zu (zu F (qc k) 0 (.int d)) (qa k) 1 (.int (0 + 1))) := (yE.uu (Or.inr rfl)).tr (yE.uu (Or.inl rfl))
    refine ⟨by unfold vp_in; decide, 0, (if_neg fun g => nac g.1).trans (by rw [← h1]; exact x4 1 (by decide) (by decide)), ?_⟩
    refine ⟨fun _ => hp _ ke (hl.st hk ke ⟨x0, ?_, x2, fun v hv => ?_, fun j j1 j5 => ?_⟩ fun v hv => ?_) _, fun g => absurd g (by decide)⟩
    · rw [y_zu, if_neg (by simp), y_zu, if_neg (fun g => nac g.1)]; exact x1
    · rw [y_zu, if_neg (fun g => nac g.1.symm), y_zu]
      by_cases g : v = 0
      · rw [if_pos ⟨rfl, g⟩, g, ub_s]
      · rw [if_neg (fun g2 => g g2.2), ub_n g]; exact x3 v hv
    · rw [y_zu]
      by_cases g : j = 1
      · rw [if_pos ⟨rfl, g⟩, g, ub_s] <;> rfl
      · rw [if_neg (fun g2 => g g2.2), y_zu, if_neg (fun g2 => nac g2.1), ub_n g]; exact x4 j j1 j5
    · by_cases g : v = 0
      · rw [g, ub_s]; exact ⟨d0, by omega⟩
      · rw [ub_n g]; exact hl.2.2.2.2.2 k v hk hv
  · refine absurd ?_ z
    rw [Int32.le_iff_toInt_le, show (99 : Int32).toInt = 99 by decide]
    exact d9
theorem s_rights (h : Fr T F zE x la gs pl tr lb lp tb) (hl : zAl T F zE la e1 n qa qc CC AA) {k : Nat} (hk : k < n) {t : Int32} (t0 : 0 ≤ t.toInt) (t9 : t.toInt ≤ 99) {Post : Int32 → zF → Prop} {PX : String → zF → Prop} (hp : ∀ (F' : zF) (AA' : Nat → Nat → Int32), yE (fun a => a = qa k ∨ a = qc k) T F T F' → zAl T F' zE la e1 n qa qc CC AA' → ∀ y : Int32, Post y F') : v_X4_rights x (nI k) 15 0 t T F Post PX := by
  have ha := hl.2.2.1 k hk
  obtain ⟨x0, x1, x2, x3, x4⟩ := id ha
  have nac : qa k ≠ qc k := y_ne x0 x2 (by decide)
  refine ⟨h.1.1, s_asAt h hl hk ⟨fun z => absurd z (by decide), fun _ => ⟨fun _ => s_needDay (by decide) (by decide) (s_needDay t0 t9 ⟨fun _ => ⟨x0, AA k 2, x4 2 (by decide) (by decide), x0, ?_⟩, fun z => ?_⟩), fun z => absurd (by decide) z⟩⟩⟩
  · have ke : yE (fun a => a = qa k ∨ a = qc k) T F T (zu (zu (zu F (qa k) 2 (.int 15)) (qa k) 3 (.int 0)) (qa k) 4 (.int t)) := ((yE.uu (Or.inl rfl)).tr (yE.uu (Or.inl rfl))).tr (yE.uu (Or.inl rfl))
    have hs := hl.st hk ke (C' := CC k) (A' := ub (ub (ub (AA k) 2 15) 3 0) 4 t) ⟨x0, ?_, x2, fun v hv => ?_, fun j j1 j5 => ?_⟩ fun v hv => hl.2.2.2.2.2 k v hk hv
    · refine hp _ (upd1 AA k (ub (ub (ub (AA k) 2 15) 3 0) 4 t)) ke ?_ _
      have ec : upd1 CC k (CC k) = CC := by
        funext j
        by_cases g : j = k
        · rw [g, upd1_s]
        · rw [upd1_n g]
      rw [ec] at hs
      exact hs
    · rw [y_zu, if_neg (by simp), y_zu, if_neg (by simp), y_zu, if_neg (by simp)]; exact x1
    · rw [y_zu, if_neg (fun g => nac g.1.symm), y_zu, if_neg (fun g => nac g.1.symm), y_zu, if_neg (fun g => nac g.1.symm)]; exact x3 v hv
    · rcases (show j = 1 ∨ j = 2 ∨ j = 3 ∨ j = 4 by omega) with rfl | rfl | rfl | rfl
      · rw [ub_n (by decide), ub_n (by decide), ub_n (by decide), y_zu, if_neg (by simp), y_zu, if_neg (by simp), y_zu, if_neg (by simp)]; exact x4 1 (by decide) (by decide)
      · rw [ub_n (by decide), ub_n (by decide), ub_s, y_zu, if_neg (by simp), y_zu, if_neg (by simp), y_zu, if_pos ⟨rfl, rfl⟩]
      · rw [ub_n (by decide), ub_s, y_zu, if_neg (by simp), y_zu, if_pos ⟨rfl, rfl⟩]
      · rw [ub_s, y_zu, if_pos ⟨rfl, rfl⟩]
  · refine absurd ?_ z
    rw [Int32.le_iff_toInt_le, y_toInt0]
    exact t0
end SET1
