/-! the law from its entry -/
theorem in_J6 : ∀ w ∈ u_ws RJ6 TJ6 1, w ∈ zG := show ∀ w ∈ [u_lay RJ6 TJ6 0], w ∈ zG from List.forall_mem_cons.mpr ⟨zG_of 1042 (by decide +kernel) rfl, (fun _ h => nomatch h)⟩
theorem in_X1 : ∀ w ∈ u_ws RX1 TX1 12, w ∈ zG := show ∀ w ∈ [u_lay RX1 TX1 0, u_lay RX1 TX1 1, u_lay RX1 TX1 2, u_lay RX1 TX1 3, u_lay RX1 TX1 4, u_lay RX1 TX1 5, u_lay RX1 TX1 6, u_lay RX1 TX1 7, u_lay RX1 TX1 8, u_lay RX1 TX1 9, u_lay RX1 TX1 10, u_lay RX1 TX1 11], w ∈ zG from List.forall_mem_cons.mpr ⟨zG_of 478 (by decide +kernel) rfl, List.forall_mem_cons.mpr ⟨zG_of 480 (by decide +kernel) rfl, List.forall_mem_cons.mpr ⟨zG_of 482 (by decide +kernel) rfl, List.forall_mem_cons.mpr ⟨zG_of 484 (by decide +kernel) rfl, List.forall_mem_cons.mpr ⟨zG_of 486 (by decide +kernel) rfl, List.forall_mem_cons.mpr ⟨zG_of 488 (by decide +kernel) rfl, List.forall_mem_cons.mpr ⟨zG_of 490 (by decide +kernel) rfl, List.forall_mem_cons.mpr ⟨zG_of 492 (by decide +kernel) rfl, List.forall_mem_cons.mpr ⟨zG_of 494 (by decide +kernel) rfl, List.forall_mem_cons.mpr ⟨zG_of 496 (by decide +kernel) rfl, List.forall_mem_cons.mpr ⟨zG_of 498 (by decide +kernel) rfl, List.forall_mem_cons.mpr ⟨zG_of 500 (by decide +kernel) rfl, (fun _ h => nomatch h)⟩⟩⟩⟩⟩⟩⟩⟩⟩⟩⟩⟩
theorem zi_0 : Cond.instantiable RJ6 1 ∈ zG := zG_of 1033 (by decide +kernel) rfl
theorem zi_1 : Cond.instantiable RJx35411 4 ∈ zG := zG_of 1284 (by decide +kernel) rfl
theorem zi_2 : Cond.instantiable RJx4a65c 3 ∈ zG := zG_of 72 (by decide +kernel) rfl
theorem zi_3 : Cond.instantiable RX0 5 ∈ zG := zG_of 639 (by decide +kernel) rfl
theorem zi_4 : Cond.instantiable RX1 12 ∈ zG := zG_of 440 (by decide +kernel) rfl
theorem zi_5 : Cond.instantiable RX2 5 ∈ zG := zG_of 736 (by decide +kernel) rfl
theorem zi_6 : Cond.instantiable RX3 3 ∈ zG := zG_of 101 (by decide +kernel) rfl
theorem zi_7 : Cond.instantiable RX4 4 ∈ zG := zG_of 64 (by decide +kernel) rfl
theorem zi_8 : Cond.instantiable RX5 4 ∈ zG := zG_of 988 (by decide +kernel) rfl
theorem zi_9 : Cond.instantiable RX6 3 ∈ zG := zG_of 934 (by decide +kernel) rfl
theorem zi_10 : Cond.instantiable RX7 12 ∈ zG := zG_of 1345 (by decide +kernel) rfl
theorem zi_11 : Cond.instantiable RX8 4 ∈ zG := zG_of 1098 (by decide +kernel) rfl
theorem zi_12 : Cond.instantiable RX9 6 ∈ zG := zG_of 925 (by decide +kernel) rfl
theorem y_len {args : Array Value} {s : State} {t : Term} (h : (Term.length t).eval args s none [] s = some (.int 0)) : ∃ (a : Nat) (cell : Cell), t.eval args s none [] s = some (.ref a) ∧ s.heap[a]? = some cell ∧ cell.slots.size = 0 := by
  obtain ⟨a, cell, h1, h2, h3⟩ := Term.length_spec h
  refine ⟨a, cell, h1, (State.arrayAt?_spec h2).1, ?_⟩
  have hlt : cell.slots.size < 2 ^ 31 := by
    by_cases g : cell.slots.size < 2 ^ 31
    · exact g
    · simp [Term.eval, h1, h2] at h
      omega
  have h4 : Int32.ofNat cell.slots.size = 0 := (Value.int.inj h3).symm
  have h5 := congrArg Int32.toNatClampNeg h4
  rw [Int32.toNatClampNeg_ofNat_of_lt hlt] at h5
  exact h5.trans (by decide)
theorem y_K {s : State} {args : Array Value} (hG : ∀ w ∈ zG, w.before args s = true) : ∃ D : va_G, va_K D vwCl [] s := by
  have hAll : ∀ k : Nat, ∃ (cC : ClassId) (iS : Nat → Nat), ∀ q : vw_C, vwCl[k]? = some q → u_Kn s q.1 q.2.1 q.2.2 cC iS := by
    intro k
    match k with
  | 0 =>
    obtain ⟨cc, is, h⟩ := u_known hG in_J6 (hG _ zi_0)
    exact ⟨cc, is, fun q hq => by cases hq; exact h⟩
  | 1 =>
    obtain ⟨cc, is, h⟩ := u_known hG in_Jx35411 (hG _ zi_1)
    exact ⟨cc, is, fun q hq => by cases hq; exact h⟩
  | 2 =>
    obtain ⟨cc, is, h⟩ := u_known hG in_Jx4a65c (hG _ zi_2)
    exact ⟨cc, is, fun q hq => by cases hq; exact h⟩
  | 3 =>
    obtain ⟨cc, is, h⟩ := u_known hG in_X0 (hG _ zi_3)
    exact ⟨cc, is, fun q hq => by cases hq; exact h⟩
  | 4 =>
    obtain ⟨cc, is, h⟩ := u_known hG in_X1 (hG _ zi_4)
    exact ⟨cc, is, fun q hq => by cases hq; exact h⟩
  | 5 =>
    obtain ⟨cc, is, h⟩ := u_known hG in_X2 (hG _ zi_5)
    exact ⟨cc, is, fun q hq => by cases hq; exact h⟩
  | 6 =>
    obtain ⟨cc, is, h⟩ := u_known hG in_X3 (hG _ zi_6)
    exact ⟨cc, is, fun q hq => by cases hq; exact h⟩
  | 7 =>
    obtain ⟨cc, is, h⟩ := u_known hG in_X4 (hG _ zi_7)
    exact ⟨cc, is, fun q hq => by cases hq; exact h⟩
  | 8 =>
    obtain ⟨cc, is, h⟩ := u_known hG in_X5 (hG _ zi_8)
    exact ⟨cc, is, fun q hq => by cases hq; exact h⟩
  | 9 =>
    obtain ⟨cc, is, h⟩ := u_known hG in_X6 (hG _ zi_9)
    exact ⟨cc, is, fun q hq => by cases hq; exact h⟩
  | 10 =>
    obtain ⟨cc, is, h⟩ := u_known hG in_X7 (hG _ zi_10)
    exact ⟨cc, is, fun q hq => by cases hq; exact h⟩
  | 11 =>
    obtain ⟨cc, is, h⟩ := u_known hG in_X8 (hG _ zi_11)
    exact ⟨cc, is, fun q hq => by cases hq; exact h⟩
  | 12 =>
    obtain ⟨cc, is, h⟩ := u_known hG in_X9 (hG _ zi_12)
    exact ⟨cc, is, fun q hq => by cases hq; exact h⟩
    | k + 13 => exact ⟨default, fun _ => 0, fun q hq => by simp [vwCl] at hq⟩
  exact ⟨(fun k => (hAll k).choose, fun k => (hAll k).choose_spec.choose), fun k q hq => (hAll k).choose_spec.choose_spec q hq, fun k q h => by simp at h⟩
theorem y_strs : ∀ q ∈ z_strs, Cond.stringRef q.1 q.2.1 q.2.2 ∈ lw_tbl := by decide +kernel
theorem y_strs2 : ∀ q ∈ z_strs, Cond.exactly (Term.string q.1 q.2.1) "java/lang/String" ∈ flatC (Jvm.Cond.and given_1 narrow_1) := by decide +kernel
theorem y_ncs : ∀ q ∈ z_ncs, Cond.not (Cond.castable q.1 q.2) ∈ flatC (Jvm.Cond.and given_1 narrow_1) := by decide +kernel
theorem y_st1 : Cond.exactly (.static "java/util/ArrayList" "DEFAULTCAPACITY_EMPTY_ELEMENTDATA" "[Ljava/lang/Object;") "[Ljava/lang/Object;" ∈ flatC (Jvm.Cond.and given_1 narrow_1) := by decide +kernel
theorem y_st2 : Cond.arrayOf (.static "java/util/ArrayList" "DEFAULTCAPACITY_EMPTY_ELEMENTDATA" "[Ljava/lang/Object;") (.object "java/lang/Object") ∈ flatC (Jvm.Cond.and given_1 narrow_1) := by decide +kernel
theorem y_st3 : Cond.eq (.length (.static "java/util/ArrayList" "DEFAULTCAPACITY_EMPTY_ELEMENTDATA" "[Ljava/lang/Object;")) (.int 0) ∈ flatC (Jvm.Cond.and given_1 narrow_1) := by decide +kernel
theorem y_st4 : Cond.isRef (.static "java/lang/Throwable" "UNASSIGNED_STACK" "[Ljava/lang/StackTraceElement;") ∈ flatC (Jvm.Cond.and given_1 narrow_1) := by decide +kernel
theorem y_st5 : Cond.isRef (.static "java/lang/Throwable" "SUPPRESSED_SENTINEL" "Ljava/util/List;") ∈ flatC (Jvm.Cond.and given_1 narrow_1) := by decide +kernel
theorem y_arr {s : State} {c : ClassId} {ty : FieldType} {k : Class} {comp : ClassId} (h1 : s.vm.classes[c]? = some k) (h2 : k.kind = .array comp ty) : ArrOfT s c ty := fun n z => ⟨fun _ h => (by cases h), ⟨k, h1, comp, h2⟩⟩
/-- what stands outside the method's cells, as the Statement gives it -/
theorem y_start {l : Launch} (hflags : l.flags = flags0) {s : State} {b L : Nat} {xs : Nat → Int32} (hts : ∀ w ∈ lw_tbl, w.before #[Value.ref b] s = true) (hX : va_X b L xs s s.heap) (hgv : (Jvm.Cond.and given_1 narrow_1).before #[Value.ref b] s = true) :
    ∃ (D : va_G) (cA : Nat → ClassId) (zE : Nat) (F : zF), z_K l D cA s.heap.size zE s ∧ b ≠ zE ∧ (∀ j : Nat, j < L → F b j = .int (xs j)) ∧ z_P D cA s.heap.size (fun a => if a = b then some (104, L) else if a = zE then some (101, 0) else none) F s.heap := by
  have hG : ∀ w ∈ zG, w.before #[Value.ref b] s = true := fun w hw => hts w (List.mem_filter.mp hw).1
  have hs := flat_of_before _ hgv
  obtain ⟨D, hK⟩ := y_K hG
  obtain ⟨cI, kI, coI, i1, i2, i3⟩ := Cond.arrayClass_spec (hG (Cond.arrayClass .int) (zG_of 121 (by decide +kernel) rfl))
  obtain ⟨cL, kL, coL, l1, l2, l3⟩ := Cond.arrayClass_spec (hG (Cond.arrayClass .long) (zG_of 1583 (by decide +kernel) rfl))
  obtain ⟨coO, cO, kO, o1, o2, o3, o4, o5⟩ := Cond.arrayOver_spec (hG (Cond.arrayOver (.object "java/lang/Object")) (zG_of 555 (by decide +kernel) rfl))
  have hAA : z_AA .int s := z_AA.of (hts (Cond.arrayOver (.array .int)) (List.mem_of_getElem? (i := 744) (by decide +kernel)))
  obtain ⟨coA, cA2, kA, a1, a2, a3, a4, a5⟩ := id hAA
  obtain ⟨scr, g1, g2, g3, g4, g5⟩ := id hX
  obtain ⟨hst, kS, s1, coS, s2⟩ := g2
  obtain ⟨zE, cE, cellE, kE, e1, e2, e3, e4, e5, e6, -⟩ := Cond.exactly_spec (hs _ y_st1)
  obtain ⟨⟨n1, -⟩, n2⟩ := Cond.arrayOf_spec (hs _ y_st2) e1 e3
  obtain ⟨a9, cell9, r1, r2, r3⟩ := y_len (va_eqt (hs _ y_st3))
  cases Option.some.inj (e1.symm.trans r1)
  cases Option.some.inj (e3.symm.trans r2)
  have hcE : cE = cO := Option.some.inj (e2.symm.trans ((show s.vm.findClass "[Ljava/lang/Object;" = s.vm.findClass ("[" ++ (FieldType.object "java/lang/Object").toString) from congrArg _ (by decide +kernel)).trans o5))
  have hNA : ∀ a : Nat, a < s.heap.size → ¬ s.heap.size ≤ a := fun a h => Nat.not_le.mpr h
  have hbE : b ≠ zE := fun e => by
    subst e
    cases Option.some.inj (g1.symm.trans e3)
    have q1 := e4
    rw [← e6] at q1
    cases Option.some.inj (q1.symm.trans s1)
    have q2 : s.isArrayOf scr (.object "java/lang/Object") := (Cond.arrayOf_spec (hs _ y_st2) e1 e3).1
    obtain ⟨-, k9, q3, co9, q4⟩ := q2
    cases Option.some.inj (q3.symm.trans s1)
    rw [s2] at q4
    cases q4
  refine ⟨D, fun j => if j = 0 then cI else if j = 1 then cO else if j = 2 then cA2 else if j = 3 then cL else scr.cls, zE, fun a j => if a = b then .int (xs j) else .null, ⟨?_, Nat.le_refl _, hK, ?_, ?_, ?_, ?_, ?_, ?_, ?_, hAA⟩, hbE, fun j _ => if_pos rfl, ?_⟩
  · unfold Launch.stackTraces; rw [hflags]; decide
  · intro j ty hj
    match j with
    | 0 => cases hj; exact ⟨y_arr i2 i3, Or.inr i1⟩
    | 1 => cases hj; exact ⟨y_arr o3 o4, Or.inr ⟨kO, coO, o3, o4, o1, o5⟩⟩
    | 2 => cases hj; exact ⟨y_arr a3 a4, Or.inr a5⟩
    | 3 => cases hj; exact ⟨y_arr l2 l3, Or.inr l1⟩
    | 4 => cases hj; exact ⟨y_arr s1 s2, Or.inl rfl⟩
    | j + 5 => simp [z_tys] at hj
  · exact va_Zref (hts (Cond.laysStatic "java/util/ArrayList" "DEFAULTCAPACITY_EMPTY_ELEMENTDATA" "[Ljava/lang/Object;") (List.mem_of_getElem? (i := 84) (by decide +kernel))) (hts (Cond.initialized "java/util/ArrayList") (List.mem_of_getElem? (i := 34) (by decide +kernel))) e1 hNA
  · exact vx_Zqof (hts (Cond.laysStatic "java/lang/Throwable" "UNASSIGNED_STACK" "[Ljava/lang/StackTraceElement;") (List.mem_of_getElem? (i := 216) (by decide +kernel))) (hts (Cond.initialized "java/lang/Throwable") (List.mem_of_getElem? (i := 38) (by decide +kernel))) (hs _ y_st4) hNA
  · exact vx_Zqof (hts (Cond.laysStatic "java/lang/Throwable" "SUPPRESSED_SENTINEL" "Ljava/util/List;") (List.mem_of_getElem? (i := 218) (by decide +kernel))) (hts (Cond.initialized "java/lang/Throwable") (List.mem_of_getElem? (i := 38) (by decide +kernel))) (hs _ y_st5) hNA
  · intro q hq
    obtain ⟨sa, c, cell, k, t1, -⟩ := Cond.exactly_spec (hs _ (y_strs2 q hq))
    refine ⟨sa, ?_⟩
    have w1 := hts _ (y_strs q hq)
    exact ⟨w1, t1⟩
  · exact fun q hq => va_Nc.of (hs _ (y_ncs q hq))
  · intro q hq
    rcases List.mem_cons.mp hq with rfl | hq
    · exact (va_Fw.of (hts (Cond.declares ⟨"java/util/Iterator", "hasNext", "()Z"⟩) (List.mem_of_getElem? (i := 1305) (by decide +kernel))) (hts (Cond.interfaceMethod "java/util/Iterator" "java/util/Iterator" "hasNext" "()Z") (List.mem_of_getElem? (i := 1304) (by decide +kernel))) (hts (Cond.publicMethod ⟨"java/util/ArrayList$Itr", "hasNext", "()Z"⟩) (List.mem_of_getElem? (i := 1310) (by decide +kernel))) (hts (Cond.unhidden "java/util/ArrayList$Itr" "hasNext" "()Z") (List.mem_of_getElem? (i := 1308) (by decide +kernel))) (hts (Cond.castable "java/util/ArrayList$Itr" "java/util/Iterator") (List.mem_of_getElem? (i := 1306) (by decide +kernel))))
    rcases List.mem_cons.mp hq with rfl | hq
    · exact (va_Fw.of (hts (Cond.declares ⟨"java/util/Iterator", "next", "()Ljava/lang/Object;"⟩) (List.mem_of_getElem? (i := 1315) (by decide +kernel))) (hts (Cond.interfaceMethod "java/util/Iterator" "java/util/Iterator" "next" "()Ljava/lang/Object;") (List.mem_of_getElem? (i := 1314) (by decide +kernel))) (hts (Cond.publicMethod ⟨"java/util/ArrayList$Itr", "next", "()Ljava/lang/Object;"⟩) (List.mem_of_getElem? (i := 1319) (by decide +kernel))) (hts (Cond.unhidden "java/util/ArrayList$Itr" "next" "()Ljava/lang/Object;") (List.mem_of_getElem? (i := 1317) (by decide +kernel))) (hts (Cond.castable "java/util/ArrayList$Itr" "java/util/Iterator") (List.mem_of_getElem? (i := 1306) (by decide +kernel))))
    · cases hq
  · intro a t ha
    have ha : (if a = b then some (104, L) else if a = zE then some (101, 0) else none) = some t := ha
    by_cases c1 : a = b
    · rw [if_pos c1] at ha
      cases ha
      subst c1
      refine ⟨Or.inr (Or.inr rfl), ?_⟩
      unfold z_at
      rw [if_neg (by show ¬ 104 < 100; decide)]
      refine Or.inr ⟨Or.inr rfl, scr, g1, rfl, g4, fun j hj => ?_, g3, hst⟩
      exact (g5 j hj).trans (congrArg some (if_pos rfl).symm)
    · rw [if_neg c1] at ha
      by_cases c2 : a = zE
      · rw [if_pos c2] at ha
        cases ha
        subst c2
        refine ⟨Or.inr (Or.inl ⟨rfl, by show 100 ≤ 101; decide⟩), ?_⟩
        unfold z_at
        rw [if_neg (by show ¬ 101 < 100; decide)]
        exact Or.inr ⟨Or.inl rfl, cellE, e3, e6.trans hcE, r3, fun j hj => absurd hj (Nat.not_lt_zero j), n2, n1⟩
      · rw [if_neg c2] at ha
        cases ha
theorem y_fr {T0 T1 : zT} {F0 F1 : zF} {q : Nat} {t : Nat × Nat} {V : Nat → Value} (hq : ∀ b, q ≤ b → T0 b = none) (e : yE (fun a => a = q) (zn T0 q t) (zm F0 q V) T1 F1) : yE (fun _ => False) T0 F0 T1 F1 := fun a s h => by
  have e0 := (yE.nn (P := fun _ => False) (t := t) (V := V) (F := F0) hq) a s h
  exact ⟨(e _ _ e0.1).1, fun hp j => ((e _ _ e0.1).2 (Nat.ne_of_lt (y_nq h hq)) j).trans (e0.2 hp j)⟩
/-- the constructors, and then the first call -/
theorem yl_pro {zE b L : Nat} {xs : Nat → Int32} {T : zT} {F : zF} (hL : L ≤ 7) (hb : T b = some (104, L)) (hbv : ∀ j : Nat, j < L → F b j = .int (xs j)) (hE : T zE = some (101, 0)) : vl_pro zE b T F := by
  intro x hx
  have eA : yE (fun _ => False) T F (zn T x (7, 4)) (zm F x (fun j => defaultValue (tyX4 j))) := yE.nn hx
  have kb : ∀ {T' : zT} {F' : zF}, yE (fun _ => False) T F T' F' → T' b = some (104, L) ∧ (∀ j : Nat, j < L → F' b j = .int (xs j)) ∧ T' zE = some (101, 0) := fun e => ⟨(e _ _ hb).1, fun j hj => ((e _ _ hb).2 (fun g => g) j).trans (hbv j hj), (e _ _ hE).1⟩
  refine s_X4_init z_nq fun la gs pl tr lb lp tb tp T3 F4 e4 hX m hm => ?_
  have e03 := y_fr hx e4
  refine s_X9_init z_nq fun ma mp mg mb ml T7 F8 e8 hM na np nl n1 n2 o ho => ?_
  have e37 := y_fr hm e8
  have eO : yE (fun _ => False) T7 F8 (zn T7 o (103, 1)) (zm F8 o (fun _ => .long 0)) := yE.nn ho
  have e07 := e03.tr e37
  have e09 := e07.tr eO
  have hX9 := hX.kp (e37.tr eO)
  have hM9 := hM.k0 eO
  obtain ⟨b0, bv, E0⟩ := kb e09
  have laT : zn T3 m (12, 6) la = some (2, 3) := (if_neg (Nat.ne_of_lt (y_nq hX.2.2.2.2.2.1.1 hm))).trans hX.2.2.2.2.2.1.1
  have nla : ∀ {r : Nat}, zn T3 m (12, 6) r = none → la ≠ r := fun h e => by rw [← e, laT] at h; cases h
  refine ⟨L, b0, fun _ => trivial, fun hge => ?_⟩
  have L7 : L = 7 := by
    rcases (show L = 0 ∨ L = 1 ∨ L = 2 ∨ L = 3 ∨ L = 4 ∨ L = 5 ∨ L = 6 ∨ L = 7 by omega) with rfl | rfl | rfl | rfl | rfl | rfl | rfl | rfl <;> first | rfl | exact absurd (by decide) hge
  subst L7
  have hw : yW (zn T7 o (103, 1)) (zm F8 o (fun _ => .long 0)) xs zE x m o b la gs pl tr lb lp tb tp ma mp mg mb ml := ⟨hX9, hM9, z_nq, b0, bv, E0, nla na, nla np, nla nl, n1, n2⟩
  exact ⟨y_in (k := 0) (by decide) (by decide), xs 0, bv 0 (by decide), fun _ => ⟨7, b0, Nat.le_refl _⟩, fun _ => yl_0 hw, fun _ => yl_1 hw, fun _ => yl_2 hw, fun _ => yl_3 hw, fun _ => yl_4 hw, fun _ => yl_5 hw, fun _ => yl_6 hw, fun _ => yl_7 hw, fun _ => yl_8 hw, fun _ => yl_9 hw, fun _ => yl_10 hw, fun _ => yl_11 hw, fun _ => yl_12 hw, fun _ => yl_13 hw, fun _ => yl_14 hw, fun _ => yl_15 hw, fun _ => yl_16 hw, fun _ => yl_17 hw, fun _ => yl_18 hw, fun _ => yl_19 hw, fun _ => yl_20 hw, fun _ => yl_21 hw, fun _ => yl_22 hw, fun _ => yl_23 hw, fun _ => yl_24 hw, fun _ => yl_25 hw, fun _ => yl_26 hw, fun _ => yl_27 hw⟩
/-- YOUR PART: from the entry, for every script of at most 7 ints, the law comes to its end with true ('hflags': the launch's flags, for a law that throws: no stack traces) -/
theorem whole_start {p : Program} {e : Env} {s : State} {m : MethodId} {below : List Frame} {meth : Method} {c : Code} (l : Launch) (hflags : l.flags = flags0) {b L : Nat} {xs : Nat → Int32} (hL : L ≤ 7) (C0 : lw_At p s m meth c b L xs) : W p l e room_1 s m #[Value.ref b] below meth c s.heap [] 0 0 (lw_Z below #[Value.ref b] s) (entryFrame m ([Value.ref b] : List Value).toArray 9) := by
  obtain ⟨hx, hb, hr, hml, hown, hts, hX, hbl, hlocks, hgv⟩ := id C0
  obtain ⟨D, cA, zE, F, hK, hbE, hbv, hP⟩ := y_start hflags hts hX hgv
  have C : z_C p l s m #[Value.ref b] meth c RL cL_law 9 ret D cA s.heap.size zE := ⟨hx, hb, hml, hown, fun w hw => hts w (List.mem_filter.mp hw).1, hK, hlocks, hr⟩
  have hl := lv_entry ([.ref b]) (n := 9) (Nat.le_of_ble_eq_true rfl)
  rw [lg_entry_eq]
  refine kl_pro hr rfl C (yl_pro (T := fun a => if a = b then some (104, L) else if a = zE then some (101, 0) else none) (F := F) (xs := xs) hL (if_pos rfl) hbv ((if_neg (fun e => hbE e.symm)).trans (if_pos rfl))) s.heap [] _ hP va_S.rf ?_
  exact hl
