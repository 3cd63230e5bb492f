/-! copies of arrays of references; getClass() of one; new T[n][m] of a number that is known but for its bound -/
def zcp (F : zF) (a0 a1 k : Nat) : zF := fun b j => if b = a1 ∧ j < k then F a0 j else F b j
section ZR7
variable {p : Program} {l : Launch} {e : Env} {R : Room} {s : State} {m : MethodId} {args : Array Value} {below : List Frame} {meth : Method} {c : Code} {Q : State → Prop}
variable {D : va_G} {cA : Nat → ClassId} {N0 zE nL cells slots pc : Nat} {own : String} {cc : ByteArray} {ret : Option FieldType} {T : zT} {F : zF} {lo lo' : List (Nat × Value)} {st : List Value}
theorem zr_ldcM (C : z_C p l s m args meth c own cc nL ret D cA N0 zE) {index : Nat} (hw : Cond.classLink own index "[Ljava/lang/Object;" ∈ zG) (hdg : decode cc pc = .ok (.ldc index, 2))
    (kk : z_w p l e R s m args below meth c D cA N0 nL cells slots Q (pc + 2) lo (.ref (cA 5) :: st) T F) : z_w p l e R s m args below meth c D cA N0 nL cells slots Q pc lo st T F :=
  fun H locs ls hP hS hL => va_ldcM C.1 C.2.1 C.2.2.2.1 (C.2.2.2.2.1 _ hw) C.2.2.2.2.2.1.2.2.2.2.2.2.2.2.2.2.2.1 hdg (kk H locs ls hP hS hL)
theorem zr_getC (C : z_C p l s m args meth c own cc nL ret D cA N0 zE) {a n index : Nat} (hj : z_tys[1]? = some (.object "java/lang/Object")) (hT : T a = some (101, n)) (h1 : Cond.methodLink own index ⟨"java/lang/Object", "getClass", "()Ljava/lang/Class;"⟩ ∈ zG) (h2 : Cond.selects "[Ljava/lang/Object;" ⟨"java/lang/Object", "getClass", "()Ljava/lang/Class;"⟩ ⟨"java/lang/Object", "getClass", "()Ljava/lang/Class;"⟩ ∈ zG) (h3 : Cond.instanceMethod ⟨"java/lang/Object", "getClass", "()Ljava/lang/Class;"⟩ ∈ zG) (h4 : Cond.native ⟨"java/lang/Object", "getClass", "()Ljava/lang/Class;"⟩ ∈ zG)
    (hf : 1 ≤ R.frames) (hlo : (st.map fun v => v.category).sum + 14 ≤ R.locals) (hdg : decode cc pc = .ok (.invokevirtual index, 3))
    (kk : z_w p l e R s m args below meth c D cA N0 nL cells slots Q (pc + 3) lo (.ref (cA 5) :: st) T F) : z_w p l e R s m args below meth c D cA N0 nL cells slots Q pc lo (.ref a :: st) T F := by
  intro H locs ls hP hS hL
  have hk1 := C.2.2.2.2.2.1.2.2.2.1 1 _ hj
  have hnm : s.vm.findClass "[Ljava/lang/Object;" = some (cA 1) := va_nmO (hk1.2.resolve_left (by decide)) (by decide +kernel)
  have h0 := (hP a _ hT).2
  unfold z_at at h0
  rw [if_neg (by show ¬ 101 < 100; decide)] at h0
  have hcell : ∃ cell : Cell, H[a]? = some cell ∧ cell.vm.isStatics = false ∧ s.vm.findClass "[Ljava/lang/Object;" = some cell.cls := by
    rcases h0 with h0 | ⟨-, cl, g1, g2, -, -, -, g6⟩
    · exact ⟨_, h0, rfl, hnm⟩
    · refine ⟨cl, g1, ?_, by rw [g2]; exact hnm⟩
      cases hv : cl.vm with
      | statics k => exact absurd hv (g6 k)
      | _ => rfl
  exact va_getC C.1 C.2.1 (by rw [C.2.2.1]; exact hL.1.symm) C.2.2.2.1 (C.2.2.2.2.1 _ h1) (va_Dc.use C.2.2.2.2.2.1.2.2.2.2.2.2.2.2.2.2.2.2) (C.2.2.2.2.1 _ h2) (C.2.2.2.2.1 _ h3) (C.2.2.2.2.1 _ h4) C.2.2.2.2.2.1.2.2.2.2.2.2.2.2.2.2.2.1 hcell hf hlo hdg (kk H locs ls hP hS hL)
/-- System.arraycopy of the first places of an Object[] into another -/
theorem zr_acopy (C : z_C p l s m args meth c own cc nL ret D cA N0 zE) {a0 a1 n0 n1 index : Nat} {n : Int32} (hj : z_tys[1]? = some (.object "java/lang/Object")) (hT0 : T a0 = some (101, n0)) (hT1 : T a1 = some (101, n1)) (hn0 : 0 < n0) (hn1 : 0 < n1) (h3 : ¬ n < 0) (h4 : n.toNatClampNeg ≤ n0) (h5 : n.toNatClampNeg ≤ n1) (hne : a0 ≠ a1)
    (hel : ∀ i : Nat, i < n.toNatClampNeg → F a0 i = .null ∨ ∃ y : Nat, F a0 i = .ref y ∧ z_ob T y)
    (w1 : Cond.methodLink own index arraycopyName ∈ zG) (w2 : Cond.native arraycopyName ∈ zG) (w3 : Cond.static arraycopyName ∈ zG) (w4 : Cond.initialized "java/lang/System" ∈ zG)
    (hf : 1 ≤ R.frames) (hlo : (st.map fun v => v.category).sum + (nativeFrameWords "java/lang/System" "arraycopy" 5 + 11) ≤ R.locals) (hdg : decode cc pc = .ok (.invokestatic index, 3))
    (kk : z_w p l e R s m args below meth c D cA N0 nL cells slots Q (pc + 3) lo st T (zcp F a0 a1 n.toNatClampNeg)) : z_w p l e R s m args below meth c D cA N0 nL cells slots Q pc lo (.int n :: .int 0 :: .ref a1 :: .int 0 :: .ref a0 :: st) T F := by
  intro H locs ls hP hS hL T9 hT9 X
  obtain ⟨hx, hb, hml, hown, hts, hK, -⟩ := id C
  have nn : n.toInt = (n.toNatClampNeg : Int) := by
    have hz0 : (0 : Int) ≤ n.toInt := by
      have := Int32.not_lt.mp h3
      simpa using Int32.le_iff_toInt_le.mp this
    show n.toInt = ((n.toInt.toNat : Nat) : Int)
    omega
  have hc0 : H[a0]? = some (arrV (cA 1) n0 (F a0)) := z_arr hP hT0 (by decide) hn0 (by decide)
  have hc1 : H[a1]? = some (arrV (cA 1) n1 (F a1)) := z_arr hP hT1 (by decide) hn1 (by decide)
  have hk1 := hK.2.2.2.1 1 _ hj
  obtain ⟨-, k0, hk0, cm0, hkk0⟩ := hk1.1 n0 (F a0)
  obtain ⟨kA, comp, r1, r2, r3, -⟩ := hk1.2.resolve_left (by decide)
  cases hk0.symm.trans r1
  cases hkk0.symm.trans r2
  obtain ⟨vm', X', step⟩ := X.arraycopy hx hown (hts _ w1) (hts _ w2) (hts _ w3) (hts _ w4) (src := a0) (dst := a1) (cs := arrV (cA 1) n0 (F a0)) (cd := arrV (cA 1) n1 (F a1)) (srcPos := 0) (destPos := 0) (n := n) (by rw [hT9]; exact hc0) (by rw [hT9]; exact hc1)
    (fun _ h => by cases h) (fun _ h => by cases h) (fun h => by cases h) (fun h => by cases h) hk0 hk0 hkk0 hkk0 rfl (by decide) (by decide) h3
    (by rw [nn, arrV_size, show ((0 : Int32)).toInt = 0 by decide]; omega)
    (by rw [nn, arrV_size, show ((0 : Int32)).toInt = 0 by decide]; omega)
    (fun vm₁ hal i hi => by
      have e : (arrV (cA 1) n0 (F a0)).slots.getD ((0 : Int32).toNatClampNeg + i) .null = F a0 i := by
        rw [show (0 : Int32).toNatClampNeg + i = i by rw [show (0 : Int32).toNatClampNeg = 0 by decide]; omega, Array.getD_eq_getD_getElem?, arrV_read _ _ (by omega)]
        rfl
      rw [e]
      rcases hel i hi with h | ⟨y, h, ci, N, r, hTy, hci, hc, hw⟩
      · rw [h]; exact ⟨rfl, trivial⟩
      · rw [h]
        obtain ⟨cellV, g1, g2, g3⟩ := z_obj hP hK hTy hci hc
        obtain ⟨kC, hkC, -⟩ := Vm.findClass_spec g3
        obtain ⟨kE, hkE, -⟩ := Vm.findClass_spec r3
        obtain ⟨kC', hkC', -⟩ := hal.2.2 _ _ hkC
        obtain ⟨kE', hkE', -⟩ := hal.2.2 _ _ hkE
        obtain ⟨c0, t1, f1, f2, f3⟩ := Cond.castable_spec (hts _ hw)
        cases Option.some.inj (f1.symm.trans g3)
        cases Option.some.inj (f2.symm.trans r3)
        refine ⟨rfl, cellV, (show T9.heap[y]? = some cellV by rw [hT9]; exact g1), (fun q h => by rw [h] at g2; cases g2), ⟨kC', hkC'⟩, ?_, ?_⟩
        · exact ⟨kE', hkE'⟩
        · show vm₁.assignable _ _ = true
          rw [hal.assignable]
          exact f3)
    (g := F0 m pc ls (.int n :: .int 0 :: .ref a1 :: .int 0 :: .ref a0 :: st)) rfl (by rw [hml]; exact hL.1) (rest := st) rfl (by rw [hb]; exact hdg) hf (by show 2 * 0 + _ + _ ≤ _; omega)
  have e1 : copied (arrV (cA 1) n0 (F a0)) (arrV (cA 1) n1 (F a1)) 0 0 n = arrV (cA 1) n1 (fun j => if j < n.toNatClampNeg then F a0 j else F a1 j) := by
    refine (va_copied (fun z => z) (cA 1) (cA 1) (F a0) (F a1) (sp := (0 : Int32).toNatClampNeg) (dp := (0 : Int32).toNatClampNeg) (n := n.toNatClampNeg) (n0 := n0) (n1 := n1) (by rw [show (0 : Int32).toNatClampNeg = 0 by decide]; omega)).trans (congrArg (arrV (cA 1) n1) (funext fun j => ?_))
    unfold va_cpy
    rw [show (0 : Int32).toNatClampNeg = 0 by decide]
    by_cases h : j < n.toNatClampNeg
    · rw [if_pos ⟨Nat.zero_le _, by omega⟩, if_pos h]
      congr 1
      omega
    · rw [if_neg (fun g => h (by omega)), if_neg h]
  rw [e1] at X' step
  have hl : a1 < H.size := (Array.getElem?_eq_some_iff.mp hc1).1
  have hheap : ((T9.setVm vm').setCell a1 (arrV (cA 1) n1 (fun j => if j < n.toNatClampNeg then F a0 j else F a1 j))).heap = H.setIfInBounds a1 (arrV (cA 1) n1 (fun j => if j < n.toNatClampNeg then F a0 j else F a1 j)) := by rw [← hT9]; rfl
  have oq : ∀ q : Nat, q ≠ a1 → (H.setIfInBounds a1 (arrV (cA 1) n1 (fun j => if j < n.toNatClampNeg then F a0 j else F a1 j)))[q]? = H[q]? := fun q hq => by simp [Array.getElem?_setIfInBounds, Ne.symm hq]
  have hN1 : N0 ≤ a1 := z_arrN hP hT1 hn1
  have hP1 : z_P D cA N0 T (zcp F a0 a1 n.toNatClampNeg) (H.setIfInBounds a1 (arrV (cA 1) n1 (fun j => if j < n.toNatClampNeg then F a0 j else F a1 j))) := by
    intro b t hb
    by_cases g : b = a1
    · subst g
      cases hT1.symm.trans hb
      refine ⟨(hP b _ hb).1, ?_⟩
      unfold z_at
      rw [if_neg (by show ¬ 101 < 100; decide)]
      left
      have e9 : (fun j => if b = b ∧ j < n.toNatClampNeg then F a0 j else F b j) = (fun j => if j < n.toNatClampNeg then F a0 j else F b j) := by
        funext j
        by_cases h : j < n.toNatClampNeg
        · rw [if_pos ⟨rfl, h⟩, if_pos h]
        · rw [if_neg (fun q => h q.2), if_neg h]
      show _ = some (arrV (cA (101 - 100)) n1 (fun j => if b = b ∧ j < n.toNatClampNeg then F a0 j else F b j))
      rw [e9]
      simp [Array.getElem?_setIfInBounds, hl]
    · refine ⟨(hP b t hb).1, ?_⟩
      have e9 : (fun j => if b = a1 ∧ j < n.toNatClampNeg then F a0 j else F b j) = F b := funext fun j => if_neg (fun q => g q.1)
      show z_at D cA b t (fun j => if b = a1 ∧ j < n.toNatClampNeg then F a0 j else F b j) _
      rw [e9]
      exact (hP b t hb).2.kept (oq b g)
  obtain ⟨t, a2, b1⟩ := kk _ _ ls hP1 ⟨by simp; exact hS.1, fun q g1 g2 => by
      rw [oq q (fun e => g2 (by rw [e]; exact hN1))]
      exact hS.2.1 q g1 g2, fun q hq => by
      rcases List.mem_append.mp hq with h | h
      · exact hS.2.2 q h
      · obtain ⟨z, -, hz⟩ := List.mem_map.mp h
        rw [← hz]
        exact hN1⟩ hL _ hheap X'
  exact ⟨t, step t a2, b1⟩
theorem zr_multiB (C : z_C p l s m args meth c own cc nL ret D cA N0 zE) {n k : Int32} {index : Nat} (B : Nat) (hB : n.toNatClampNeg ≤ B) (hj0 : z_tys[0]? = some .int) (hj2 : z_tys[2]? = some (.array .int)) (h1 : Cond.classLink own index "[[I" ∈ zG) (h2 : Cond.arrayClass .int ∈ zG) (hn : ¬ n < 0) (hk : ¬ k < 0) (hb1 : B * 4 ≤ 536870912 ∧ k.toNatClampNeg * 4 ≤ 536870912)
    (hc1 : cells + (1 + B) ≤ R.cells) (hs1 : slots + (B + B * k.toNatClampNeg) ≤ R.slots) (hdg : decode cc pc = .ok (.multianewarray index 2, 4))
    (kk : ∀ q : Nat, (∀ b, q ≤ b → T b = none) → z_w p l e R s m args below meth c D cA N0 nL (cells + (1 + B)) (slots + (B + B * k.toNatClampNeg)) Q (pc + 4) lo (.ref q :: st) (znm T q n.toNatClampNeg k.toNatClampNeg) (zmm F q n.toNatClampNeg)) : z_w p l e R s m args below meth c D cA N0 nL cells slots Q pc lo (.int k :: .int n :: st) T F := by
  have hm := Nat.mul_le_mul_right k.toNatClampNeg hB
  exact zr_multi C hj0 hj2 h1 h2 hn hk (by omega) (by omega) (by omega) (by omega) hdg fun q hq => zr_widen (by omega) (by omega) (kk q hq)
theorem zr_anewB (C : z_C p l s m args meth c own cc nL ret D cA N0 zE) {n : Int32} {index : Nat} {Cn : String} (B : Nat) (hB : n.toNatClampNeg ≤ B) (j : Nat) (hj : z_tys[j]? = some (.object Cn)) (hw : Cond.classLink own index Cn ∈ zG) (hw2 : Cond.arrayOver (.object Cn) ∈ zG) (hn : ¬ n < 0) (hby : B * 4 ≤ 536870912) (hc1 : cells + 1 ≤ R.cells) (hs1 : slots + B ≤ R.slots) (hdg : decode cc pc = .ok (.anewarray index, 3))
    (kk : ∀ q : Nat, (∀ b, q ≤ b → T b = none) → z_w p l e R s m args below meth c D cA N0 nL (cells + 1) (slots + B) Q (pc + 3) lo (.ref q :: st) (zn T q (100 + j, n.toNatClampNeg)) (zm F q (fun _ => .null))) (hj4 : ¬ j = 4 := by decide) : z_w p l e R s m args below meth c D cA N0 nL cells slots Q pc lo (.int n :: st) T F :=
  zr_anew C j hj hw hw2 hn (by omega) hc1 (by omega) hdg (fun q hq => zr_widen (Nat.le_refl _) (by omega) (kk q hq)) hj4
end ZR7
