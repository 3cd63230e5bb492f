/-! the law from its entry -/
theorem zi_0 : Cond.instantiable RJx4a65c 3 ∈ zG := zG_of 47 (by decide +kernel) rfl
theorem zi_1 : Cond.instantiable RX0 5 ∈ zG := zG_of 184 (by decide +kernel) rfl
theorem zi_2 : Cond.instantiable RX1 12 ∈ zG := zG_of 561 (by decide +kernel) rfl
theorem zi_3 : Cond.instantiable RX2 5 ∈ zG := zG_of 346 (by decide +kernel) rfl
theorem zi_4 : Cond.instantiable RX3 3 ∈ zG := zG_of 73 (by decide +kernel) rfl
theorem zi_5 : Cond.instantiable RX4 4 ∈ zG := zG_of 39 (by decide +kernel) rfl
theorem y_len {args : Array Value} {s : State} {t : Term} (h : (Term.length t).eval args s none [] s = some (.int 0)) : ∃ (a : Nat) (cell : Cell), t.eval args s none [] s = some (.ref a) ∧ s.heap[a]? = some cell ∧ cell.slots.size = 0 := by
  obtain ⟨a, cell, h1, h2, h3⟩ := Term.length_spec h
  refine ⟨a, cell, h1, (State.arrayAt?_spec h2).1, ?_⟩
  have hlt : cell.slots.size < 2 ^ 31 := by
    by_cases g : cell.slots.size < 2 ^ 31
    · exact g
    · simp [Term.eval, h1, h2] at h
      omega
  have h4 : Int32.ofNat cell.slots.size = 0 := (Value.int.inj h3).symm
  have h5 := congrArg Int32.toNatClampNeg h4
  rw [Int32.toNatClampNeg_ofNat_of_lt hlt] at h5
  exact h5.trans (by decide)
theorem y_K {s : State} {args : Array Value} (hG : ∀ w ∈ zG, w.before args s = true) : ∃ D : va_G, va_K D vwCl [] s := by
  have hAll : ∀ k : Nat, ∃ (cC : ClassId) (iS : Nat → Nat), ∀ q : vw_C, vwCl[k]? = some q → u_Kn s q.1 q.2.1 q.2.2 cC iS := by
    intro k
    match k with
  | 0 =>
    obtain ⟨cc, is, h⟩ := u_known hG in_Jx4a65c (hG _ zi_0)
    exact ⟨cc, is, fun q hq => by cases hq; exact h⟩
  | 1 =>
    obtain ⟨cc, is, h⟩ := u_known hG in_X0 (hG _ zi_1)
    exact ⟨cc, is, fun q hq => by cases hq; exact h⟩
  | 2 =>
    obtain ⟨cc, is, h⟩ := u_known hG in_X1 (hG _ zi_2)
    exact ⟨cc, is, fun q hq => by cases hq; exact h⟩
  | 3 =>
    obtain ⟨cc, is, h⟩ := u_known hG in_X2 (hG _ zi_3)
    exact ⟨cc, is, fun q hq => by cases hq; exact h⟩
  | 4 =>
    obtain ⟨cc, is, h⟩ := u_known hG in_X3 (hG _ zi_4)
    exact ⟨cc, is, fun q hq => by cases hq; exact h⟩
  | 5 =>
    obtain ⟨cc, is, h⟩ := u_known hG in_X4 (hG _ zi_5)
    exact ⟨cc, is, fun q hq => by cases hq; exact h⟩
    | k + 6 => exact ⟨default, fun _ => 0, fun q hq => by simp [vwCl] at hq⟩
  exact ⟨(fun k => (hAll k).choose, fun k => (hAll k).choose_spec.choose), fun k q hq => (hAll k).choose_spec.choose_spec q hq, fun k q h => by simp at h⟩
theorem y_strs : ∀ q ∈ z_strs, Cond.stringRef q.1 q.2.1 q.2.2 ∈ lw_tbl := by decide +kernel
theorem y_strs2 : ∀ q ∈ z_strs, Cond.exactly (Term.string q.1 q.2.1) "java/lang/String" ∈ flatC (Jvm.Cond.and given_1 narrow_1) := by decide +kernel
theorem y_ncs : ∀ q ∈ z_ncs, Cond.not (Cond.castable q.1 q.2) ∈ flatC (Jvm.Cond.and given_1 narrow_1) := by decide +kernel
theorem y_st1 : Cond.exactly (.static "java/util/ArrayList" "DEFAULTCAPACITY_EMPTY_ELEMENTDATA" "[Ljava/lang/Object;") "[Ljava/lang/Object;" ∈ flatC (Jvm.Cond.and given_1 narrow_1) := by decide +kernel
theorem y_st2 : Cond.arrayOf (.static "java/util/ArrayList" "DEFAULTCAPACITY_EMPTY_ELEMENTDATA" "[Ljava/lang/Object;") (.object "java/lang/Object") ∈ flatC (Jvm.Cond.and given_1 narrow_1) := by decide +kernel
theorem y_st3 : Cond.eq (.length (.static "java/util/ArrayList" "DEFAULTCAPACITY_EMPTY_ELEMENTDATA" "[Ljava/lang/Object;")) (.int 0) ∈ flatC (Jvm.Cond.and given_1 narrow_1) := by decide +kernel
theorem y_st4 : Cond.isRef (.static "java/lang/Throwable" "UNASSIGNED_STACK" "[Ljava/lang/StackTraceElement;") ∈ flatC (Jvm.Cond.and given_1 narrow_1) := by decide +kernel
theorem y_st5 : Cond.isRef (.static "java/lang/Throwable" "SUPPRESSED_SENTINEL" "Ljava/util/List;") ∈ flatC (Jvm.Cond.and given_1 narrow_1) := by decide +kernel
theorem y_mir : Cond.isRef (.mirror "[Ljava/lang/Object;") ∈ flatC (Jvm.Cond.and given_1 narrow_1) := by decide +kernel
theorem y_arr {s : State} {c : ClassId} {ty : FieldType} {k : Class} {comp : ClassId} (h1 : s.vm.classes[c]? = some k) (h2 : k.kind = .array comp ty) : ArrOfT s c ty := fun n z => ⟨fun _ h => (by cases h), ⟨k, h1, comp, h2⟩⟩
/-- what stands outside the method's cells, as the Statement gives it -/
theorem y_start {l : Launch} (hflags : l.flags = flags0) {s : State} {b L : Nat} {xs : Nat → Int32} (hts : ∀ w ∈ lw_tbl, w.before #[Value.ref b] s = true) (hX : va_X b L xs s s.heap) (hgv : (Jvm.Cond.and given_1 narrow_1).before #[Value.ref b] s = true) :
    ∃ (D : va_G) (cA : Nat → ClassId) (zE : Nat) (F : zF), z_K l D cA s.heap.size zE s ∧ b ≠ zE ∧ (∀ j : Nat, j < L → F b j = .int (xs j)) ∧ z_P D cA s.heap.size (fun a => if a = b then some (104, L) else if a = zE then some (101, 0) else none) F s.heap := by
  have hG : ∀ w ∈ zG, w.before #[Value.ref b] s = true := fun w hw => hts w (List.mem_filter.mp hw).1
  have hs := flat_of_before _ hgv
  obtain ⟨D, hK⟩ := y_K hG
  obtain ⟨cI, kI, coI, i1, i2, i3⟩ := Cond.arrayClass_spec (hG (Cond.arrayClass .int) (zG_of 93 (by decide +kernel) rfl))
  obtain ⟨coO, cO, kO, o1, o2, o3, o4, o5⟩ := Cond.arrayOver_spec (hG (Cond.arrayOver (.object "java/lang/Object")) (zG_of 255 (by decide +kernel) rfl))
  have hAA : z_AA .int s := z_AA.of (hts (Cond.arrayOver (.array .int)) (List.mem_of_getElem? (i := 354) (by decide +kernel)))
  obtain ⟨mi, hMi⟩ := va_Mi.of (hs _ y_mir)
  have hDc : va_Dc s := va_Dc.of (hts (Cond.declares ⟨"java/lang/Object", "getClass", "()Ljava/lang/Class;"⟩) (List.mem_of_getElem? (i := 832) (by decide +kernel)))
  obtain ⟨coA, cA2, kA, a1, a2, a3, a4, a5⟩ := id hAA
  obtain ⟨scr, g1, g2, g3, g4, g5⟩ := id hX
  obtain ⟨hst, kS, s1, coS, s2⟩ := g2
  obtain ⟨zE, cE, cellE, kE, e1, e2, e3, e4, e5, e6, -⟩ := Cond.exactly_spec (hs _ y_st1)
  obtain ⟨⟨n1, -⟩, n2⟩ := Cond.arrayOf_spec (hs _ y_st2) e1 e3
  obtain ⟨a9, cell9, r1, r2, r3⟩ := y_len (va_eqt (hs _ y_st3))
  cases Option.some.inj (e1.symm.trans r1)
  cases Option.some.inj (e3.symm.trans r2)
  have hcE : cE = cO := Option.some.inj (e2.symm.trans ((show s.vm.findClass "[Ljava/lang/Object;" = s.vm.findClass ("[" ++ (FieldType.object "java/lang/Object").toString) from congrArg _ (by decide +kernel)).trans o5))
  have hNA : ∀ a : Nat, a < s.heap.size → ¬ s.heap.size ≤ a := fun a h => Nat.not_le.mpr h
  have hbE : b ≠ zE := fun e => by
    subst e
    cases Option.some.inj (g1.symm.trans e3)
    have q1 := e4
    rw [← e6] at q1
    cases Option.some.inj (q1.symm.trans s1)
    have q2 : s.isArrayOf scr (.object "java/lang/Object") := (Cond.arrayOf_spec (hs _ y_st2) e1 e3).1
    obtain ⟨-, k9, q3, co9, q4⟩ := q2
    cases Option.some.inj (q3.symm.trans s1)
    rw [s2] at q4
    cases q4
  refine ⟨D, fun j => if j = 0 then cI else if j = 1 then cO else if j = 2 then cA2 else if j = 3 then cI else if j = 5 then mi else scr.cls, zE, fun a j => if a = b then .int (xs j) else .null, ⟨?_, Nat.le_refl _, hK, ?_, ?_, ?_, ?_, ?_, ?_, ?_, hAA, hMi, hDc⟩, hbE, fun j _ => if_pos rfl, ?_⟩
  · unfold Launch.stackTraces; rw [hflags]; decide
  · intro j ty hj
    match j with
    | 0 => cases hj; exact ⟨y_arr i2 i3, Or.inr i1⟩
    | 1 => cases hj; exact ⟨y_arr o3 o4, Or.inr ⟨kO, coO, o3, o4, o1, o5⟩⟩
    | 2 => cases hj; exact ⟨y_arr a3 a4, Or.inr a5⟩
    | 3 => cases hj; exact ⟨y_arr i2 i3, Or.inr i1⟩
    | 4 => cases hj; exact ⟨y_arr s1 s2, Or.inl rfl⟩
    | j + 5 => simp [z_tys] at hj
  · exact va_Zref (hts (Cond.laysStatic "java/util/ArrayList" "DEFAULTCAPACITY_EMPTY_ELEMENTDATA" "[Ljava/lang/Object;") (List.mem_of_getElem? (i := 59) (by decide +kernel))) (hts (Cond.initialized "java/util/ArrayList") (List.mem_of_getElem? (i := 20) (by decide +kernel))) e1 hNA
  · exact vx_Zqof (hts (Cond.laysStatic "java/lang/Throwable" "UNASSIGNED_STACK" "[Ljava/lang/StackTraceElement;") (List.mem_of_getElem? (i := 142) (by decide +kernel))) (hts (Cond.initialized "java/lang/Throwable") (List.mem_of_getElem? (i := 22) (by decide +kernel))) (hs _ y_st4) hNA
  · exact vx_Zqof (hts (Cond.laysStatic "java/lang/Throwable" "SUPPRESSED_SENTINEL" "Ljava/util/List;") (List.mem_of_getElem? (i := 144) (by decide +kernel))) (hts (Cond.initialized "java/lang/Throwable") (List.mem_of_getElem? (i := 22) (by decide +kernel))) (hs _ y_st5) hNA
  · intro q hq
    obtain ⟨sa, c, cell, k, t1, -⟩ := Cond.exactly_spec (hs _ (y_strs2 q hq))
    refine ⟨sa, ?_⟩
    have w1 := hts _ (y_strs q hq)
    exact ⟨w1, t1⟩
  · exact fun q hq => va_Nc.of (hs _ (y_ncs q hq))
  · intro q hq
    cases hq
  · intro a t ha
    have ha : (if a = b then some (104, L) else if a = zE then some (101, 0) else none) = some t := ha
    by_cases c1 : a = b
    · rw [if_pos c1] at ha
      cases ha
      subst c1
      refine ⟨Or.inr (Or.inr rfl), ?_⟩
      unfold z_at
      rw [if_neg (by show ¬ 104 < 100; decide)]
      refine Or.inr ⟨Or.inr rfl, scr, g1, rfl, g4, fun j hj => ?_, g3, hst⟩
      exact (g5 j hj).trans (congrArg some (if_pos rfl).symm)
    · rw [if_neg c1] at ha
      by_cases c2 : a = zE
      · rw [if_pos c2] at ha
        cases ha
        subst c2
        refine ⟨Or.inr (Or.inl ⟨rfl, by show 100 ≤ 101; decide⟩), ?_⟩
        unfold z_at
        rw [if_neg (by show ¬ 101 < 100; decide)]
        exact Or.inr ⟨Or.inl rfl, cellE, e3, e6.trans hcE, r3, fun j hj => absurd hj (Nat.not_lt_zero j), n2, n1⟩
      · rw [if_neg c2] at ha
        cases ha
/-- YOUR PART: from the entry, for every script of at most 260 ints, the law comes to its end with true ('hflags': the launch's flags, for a law that throws: no stack traces) -/
theorem whole_start {p : Program} {e : Env} {s : State} {m : MethodId} {below : List Frame} {meth : Method} {c : Code} (l : Launch) (hflags : l.flags = flags0) {b L : Nat} {xs : Nat → Int32} (hL : L ≤ 260) (C0 : lw_At p s m meth c b L xs) : W p l e room_1 s m #[Value.ref b] below meth c s.heap [] 0 0 (lw_Z below #[Value.ref b] s) (entryFrame m ([Value.ref b] : List Value).toArray 9) := by
  obtain ⟨hx, hb, hr, hml, hown, hts, hX, hbl, hlocks, hgv⟩ := id C0
  obtain ⟨D, cA, zE, F, hK, hbE, hbv, hP⟩ := y_start hflags hts hX hgv
  have C : z_C p l s m #[Value.ref b] meth c RL cL_law 9 ret D cA s.heap.size zE := ⟨hx, hb, hml, hown, fun w hw => hts w (List.mem_filter.mp hw).1, hK, hlocks, hr⟩
  have hl := lv_entry ([.ref b]) (n := 9) (Nat.le_of_ble_eq_true rfl)
  rw [lg_entry_eq]
  refine kl_law hr rfl C (vl_all (T := fun a => if a = b then some (104, L) else if a = zE then some (101, 0) else none) (F := F) (xs := xs) hL ⟨if_pos rfl, hbv⟩ ((if_neg (fun e => hbE e.symm)).trans (if_pos rfl))) s.heap [] _ hP va_S.rf ?_
  exact hl
