/-! THE LAYER (own rows): one world for all methods. A heap is seen as two functions: zT: address to (kind, size); zF: address and place to value. Kinds below 100: a class's place in vwCl; 100 + j: arrays of the j-th type of zw_tys. A method's contract speaks of any two such functions; what it does is said by a predicate transformer. -/
abbrev zT : Type := Nat → Option (Nat × Nat)
abbrev zF : Type := Nat → Nat → Value
def zu (F : zF) (a k : Nat) (v : Value) : zF := fun b j => if b = a ∧ j = k then v else F b j
def zn (T : zT) (a : Nat) (t : Nat × Nat) : zT := fun b => if b = a then some t else T b
def zm (F : zF) (a : Nat) (V : Nat → Value) : zF := fun b j => if b = a then V j else F b j
/-- the words that all methods need: all of the law's tables that stay true as classes warm -/
def zw_gw : Cond → Bool
  | .fieldLinkNest .. => true
  | .methodLinkNest .. => true
  | .arrayOver (.object _) => true
  | .castable .. => true
  | .declares _ => true
  | w => goodWord w
def zG : List Cond := lw_tbl.filter zw_gw
theorem zG_of {w : Cond} (i : Nat) (h : lw_tbl[i]? = some w) (g : zw_gw w = true) : w ∈ zG := List.mem_filter.mpr ⟨List.mem_of_getElem? h, g⟩
theorem zw_move {w : Cond} (g : zw_gw w = true) {a a' : Array Value} {s U : State} (hW : s.WarmedH U.vm) (h : w.before a s = true) : w.before a' U = true := by
  have base : goodWord w = true → w.before a' U = true := fun g => word_at hW (good_of_word g) h
  cases w <;> first | exact base g | skip
  case fieldLinkNest => exact va_Nw.use rfl (va_Nw.warmF hW (va_Nw.of rfl h))
  case methodLinkNest => exact va_Nw.use rfl (va_Nw.warmM hW (va_Nw.of rfl h))
  case arrayOver ty => 
    cases ty <;> first | exact va_AO.use (va_AO.moved hW.alike (va_AO.of h)) | exact base g
  case castable => exact va_Nw.use rfl (va_Nw.warmC hW (va_Nw.of rfl h))
  case declares x => 
    have h1 : (Cond.declares x).before a (s.setVm U.vm) = true := by rw [Cond.declares_setVm hW.alike]; exact h
    exact va_tabs (u := s.setVm U.vm) (A := a) rfl rfl h1
/-! the world -/
def z_at (D : va_G) (cA : Nat → ClassId) (a : Nat) (t : Nat × Nat) (V : Nat → Value) (H : Heap) : Prop :=
  if t.1 < 100 then ∃ r : vw_C, vwCl[t.1]? = some r ∧ t.2 = r.2.2 ∧ t_OB a (D.1 t.1) r.2.2 (D.2 t.1) H V
  else H[a]? = some (arrV (cA (t.1 - 100)) t.2 V) ∨ ((t.2 = 0 ∨ t.1 = 104) ∧ ∃ c : Cell, H[a]? = some c ∧ c.cls = cA (t.1 - 100) ∧ c.slots.size = t.2 ∧ (∀ j : Nat, j < t.2 → c.slots[j]? = some (V j)) ∧ c.vm ≠ .unknown ∧ ∀ k : ClassId, c.vm ≠ .statics k)
theorem z_at.kept {D : va_G} {cA : Nat → ClassId} {a : Nat} {t : Nat × Nat} {V : Nat → Value} {H H1 : Heap} (h : z_at D cA a t V H) (hq : H1[a]? = H[a]?) : z_at D cA a t V H1 := by
  unfold z_at at h ⊢
  split at h
  · next g =>
    rw [if_pos g]
    obtain ⟨r, h1, h2, h3⟩ := h
    exact ⟨r, h1, h2, h3.kept hq⟩
  · next g =>
    rw [if_neg g, hq]
    exact h
theorem z_at.lt {D : va_G} {cA : Nat → ClassId} {a : Nat} {t : Nat × Nat} {V : Nat → Value} {H : Heap} (h : z_at D cA a t V H) : a < H.size := by
  unfold z_at at h
  split at h
  · obtain ⟨r, h1, h2, cell, h3, -⟩ := h
    exact (Array.getElem?_eq_some_iff.mp h3).1
  · rcases h with h | ⟨-, c, h, -⟩ <;> exact (Array.getElem?_eq_some_iff.mp h).1
def z_P (D : va_G) (cA : Nat → ClassId) (N0 : Nat) (T : zT) (F : zF) (H : Heap) : Prop := ∀ (a : Nat) (t : Nat × Nat), T a = some t → (N0 ≤ a ∨ (t.2 = 0 ∧ 100 ≤ t.1) ∨ t.1 = 104) ∧ z_at D cA a t (F a) H
theorem z_P.kept {D : va_G} {cA : Nat → ClassId} {N0 : Nat} {T : zT} {F : zF} {H H1 : Heap} (h : z_P D cA N0 T F H) (hq : ∀ a : Nat, a < H.size → H1[a]? = H[a]?) : z_P D cA N0 T F H1 := fun a t ht => ⟨(h a t ht).1, (h a t ht).2.kept (hq a (h a t ht).2.lt)⟩
theorem z_P.set {D : va_G} {cA : Nat → ClassId} {N0 : Nat} {T : zT} {F : zF} {H H1 : Heap} {a k : Nat} {t : Nat × Nat} {v : Value} (h : z_P D cA N0 T F H) (hT : T a = some t) (he : z_at D cA a t (fun j => if j = k then v else F a j) H1) (oq : ∀ q : Nat, q ≠ a → H1[q]? = H[q]?) : z_P D cA N0 T (zu F a k v) H1 := by
  intro b t' hb
  by_cases g : b = a
  · subst g
    cases hT.symm.trans hb
    refine ⟨(h b t hT).1, ?_⟩
    have e : (zu F b k v) b = (fun j => if j = k then v else F b j) := by funext j; simp [zu]
    rw [e]; exact he
  · refine ⟨(h b t' hb).1, ?_⟩
    have e : (zu F a k v) b = F b := by funext j; simp [zu, g]
    rw [e]; exact (h b t' hb).2.kept (oq b g)
theorem z_P.push {D : va_G} {cA : Nat → ClassId} {N0 : Nat} {T : zT} {F : zF} {H H1 : Heap} {t : Nat × Nat} {V : Nat → Value} (h : z_P D cA N0 T F H) (hN : N0 ≤ H.size) (he : z_at D cA H.size t V H1) (oq : ∀ q : Nat, q < H.size → H1[q]? = H[q]?) : T H.size = none ∧ z_P D cA N0 (zn T H.size t) (zm F H.size V) H1 := by
  refine ⟨?_, fun b t' hb => ?_⟩
  · cases g : T H.size with
    | none => rfl
    | some t' => exact absurd (h _ _ g).2.lt (Nat.lt_irrefl _)
  · by_cases g : b = H.size
    · subst g
      have : t = t' := by simpa [zn] using hb
      subst this
      refine ⟨Or.inl hN, ?_⟩
      have e : (zm F H.size V) H.size = V := by funext j; simp [zm]
      rw [e]; exact he
    · have hb' : T b = some t' := by simpa [zn, g] using hb
      refine ⟨(h b t' hb').1, ?_⟩
      have e : (zm F H.size V) b = F b := by funext j; simp [zm, g]
      rw [e]; exact (h b t' hb').2.kept (oq b (h b t' hb').2.lt)
theorem z_P.none {D : va_G} {cA : Nat → ClassId} {N0 : Nat} {T : zT} {F : zF} {H : Heap} (h : z_P D cA N0 T F H) : T H.size = none := by
  cases g : T H.size with
  | none => rfl
  | some t' => exact absurd (h _ _ g).2.lt (Nat.lt_irrefl _)
/-- the array class over an array type stands in the machine's tables -/
def z_AA (ty : FieldType) (U : State) : Prop := ∃ (comp cA : ClassId) (k : Class), U.vm.findClass (FieldType.array ty).toString = some comp ∧ (U.vm.classes.findIdx? fun (x : Class) => match x.kind with | .array component _ => component == comp | _ => false) = some cA ∧ U.vm.classes[cA]? = some k ∧ k.kind = .array comp (.array ty) ∧ U.vm.findClass ("[" ++ (FieldType.array ty).toString) = some cA
theorem z_AA.of {ty : FieldType} {A : Array Value} {U : State} (h : (Cond.arrayOver (.array ty)).before A U = true) : z_AA ty U := by
  simp only [Cond.before, Cond.holds, Cond.value, beq_iff_eq] at h
  rw [Option.bind_eq_some_iff] at h
  obtain ⟨comp, hcomp, h⟩ := h
  rw [Option.bind_eq_some_iff] at h
  obtain ⟨cA, hi, h⟩ := h
  cases hk : U.vm.classes[cA]? with
  | none => rw [hk] at h; simp at h
  | some k =>
    rw [hk, Option.map_some] at h
    cases hkind : k.kind with
    | array component t2 =>
      rw [hkind] at h
      simp at h
      have hp := (Array.findIdx?_eq_some_iff_getElem.mp hi)
      obtain ⟨hlt, hp, -⟩ := hp
      have e : U.vm.classes[cA] = k := by
        have := (Array.getElem?_eq_some_iff.mp hk).2
        exact this
      rw [e, hkind] at hp
      simp at hp
      exact ⟨comp, cA, k, hcomp, hi, hk, by rw [hkind, hp, h.1], h.2⟩
    | _ => rw [hkind] at h; simp at h
theorem z_AA.moved {ty : FieldType} {u U : State} (hvm : u.vm.Alike U.vm) (h : z_AA ty u) : z_AA ty U := by
  obtain ⟨comp, c, k, h1, h2, h3, h4, h5⟩ := h
  obtain ⟨k', hk', he⟩ := hvm.2.2 _ _ h3
  have hi : (U.vm.classes.findIdx? fun (x : Class) => match x.kind with | .array component _ => component == comp | _ => false) = some c := by
    have a1 := va_idx_bare U.vm comp
    have a2 := va_idx_bare u.vm comp
    have a3 : U.vm.bare = u.vm.bare := by first | exact hvm.bare_eq | exact hvm.bare_eq.symm
    rw [a3] at a1
    exact (a1.symm.trans a2).trans h2
  exact ⟨comp, c, k', by rw [hvm.findClass]; exact h1, hi, hk', by rw [he]; exact h4, by rw [hvm.findClass]; exact h5⟩
theorem z_AA.use {ty : FieldType} {A : Array Value} {U : State} (h : z_AA ty U) : (Cond.arrayOver (.array ty)).before A U = true := by
  obtain ⟨comp, c, k, h1, h2, h3, h4, h5⟩ := h
  unfold Cond.before Cond.holds
  simp only [Cond.value]
  rw [h1, Option.bind_some]
  refine (congrArg (fun o : Option Nat => (o.bind (fun c => (U.vm.classes[c]?).map fun (k : Class) => match k.kind with | .array _ t2 => decide (t2 = FieldType.array ty) && decide (U.vm.findClass ("[" ++ (FieldType.array ty).toString) = some c) | _ => false) == some true)) h2).trans ?_
  simp [h3, h4, h5]
/-- what stands outside the cells that a method may change -/
def z_K (l : Launch) (D : va_G) (cA : Nat → ClassId) (N0 zE : Nat) (U : State) : Prop :=
  l.stackTraces = false ∧ N0 ≤ U.heap.size ∧ va_K D vwCl [] U ∧ (∀ (j : Nat) (ty : FieldType), z_tys[j]? = some ty → ArrOfT U (cA j) ty ∧ (j = 4 ∨ va_RA U (cA j) ty)) ∧
  va_Z "java/util/ArrayList" "DEFAULTCAPACITY_EMPTY_ELEMENTDATA" "[Ljava/lang/Object;" (.ref zE) (fun q => N0 ≤ q) U U.heap ∧
  vx_Zq Bundle.tN "UNASSIGNED_STACK" Bundle.steD (fun q => N0 ≤ q) U U.heap ∧ vx_Zq Bundle.tN "SUPPRESSED_SENTINEL" Bundle.listD (fun q => N0 ≤ q) U U.heap ∧
  (∀ q ∈ z_strs, ∃ sa : Nat, vk_R q.1 q.2.1 q.2.2 sa U) ∧ (∀ q ∈ z_ncs, va_Nc q.1 q.2 U) ∧ (∀ q ∈ z_ifs, va_Fw q.1 q.2.1 q.2.2 U) ∧ z_AA .int U ∧ va_Mi "[Ljava/lang/Object;" (cA 5) U ∧ va_Dc U
theorem z_K.move {l : Launch} {D : va_G} {cA : Nat → ClassId} {N0 zE : Nat} {s U : State} (h : z_K l D cA N0 zE s) (hW : s.WarmedH U.vm) (hz : s.heap.size ≤ U.heap.size) (hk : ∀ a : Nat, a < s.heap.size → ¬ N0 ≤ a → U.heap[a]? = s.heap[a]?) : z_K l D cA N0 zE U := by
  obtain ⟨h0, h1, h2, h3, h4, h5, h6, h7, h8, h9, h10, h11, h12⟩ := h
  exact ⟨h0, Nat.le_trans h1 hz, va_K.moved hW.alike h2, fun j ty e => ⟨arrOfT_moved hW.alike (h3 j ty e).1, (h3 j ty e).2.imp id (fun g => g.moved hW.alike)⟩, va_Z.moved hW.alike (h4.kept hk), vx_Zq.moved hW.alike (h5.kept hk), vx_Zq.moved hW.alike (h6.kept hk), fun q hq => (h7 q hq).imp fun sa g => vk_R.warm hW g, fun q hq => va_Nc.moved hW.alike (h8 q hq), fun q hq => va_Fw.moved (z_ifs_ok q hq) hW.alike (h9 q hq), h10.moved hW.alike, va_Mi.moved hW.alike h11, va_Dc.moved hW.alike h12⟩
def z_C (p : Program) (l : Launch) (s : State) (m : MethodId) (args : Array Value) (meth : Method) (c : Code) (own : String) (cc : ByteArray) (nL : Nat) (ret : Option FieldType) (D : va_G) (cA : Nat → ClassId) (N0 zE : Nat) : Prop :=
  p.tables.exec = Jvm.exec ∧ c.code = cc ∧ c.maxLocals = nL ∧ s.vm.findClass own = some m.cls ∧ (∀ w ∈ zG, w.before args s = true) ∧ z_K l D cA N0 zE s ∧ meth.locks = false ∧ meth.sig.returnType = ret
def z_w (p : Program) (l : Launch) (e : Env) (R : Room) (s : State) (m : MethodId) (args : Array Value) (below : List Frame) (meth : Method) (c : Code) (D : va_G) (cA : Nat → ClassId) (N0 nL : Nat) (cells slots : Nat) (Q : State → Prop) (pc : Nat) (lo : List (Nat × Value)) (st : List Value) (T : zT) (F : zF) : Prop :=
  ∀ (H : Heap) (locs : List Loc) (ls : Array Slot), z_P D cA N0 T F H → va_S (fun q => N0 ≤ q) s.heap H locs → lv_has ls nL lo → W p l e R s m args below meth c H locs cells slots Q (F0 m pc ls st)
/-- an exception q of the class E stands over the frame -/
def z_x (p : Program) (l : Launch) (e : Env) (R : Room) (s : State) (m : MethodId) (args : Array Value) (below : List Frame) (meth : Method) (c : Code) (D : va_G) (cA : Nat → ClassId) (N0 nL : Nat) (cells slots : Nat) (Q : State → Prop) (pc : Nat) (lo : List (Nat × Value)) (st : List Value) (E : String) (T : zT) (F : zF) : Prop :=
  ∀ (H : Heap) (locs : List Loc) (ls : Array Slot) (ce : Cell) (q : Addr), z_P D cA N0 T F H → va_S (fun q => N0 ≤ q) s.heap H locs → lv_has ls nL lo → H[q]? = some ce → ce.vm = .none → s.vm.findClass E = some ce.cls → vx_W p l e R s m args below meth c H locs cells slots Q (F0 m pc ls st) q
/-! contracts -/
def z_Pc (l : Launch) (D : va_G) (cA : Nat → ClassId) (N0 zE : Nat) (as : List Value) (T : zT) (F : zF) : Array Value → State → Prop := fun v U => v = as.toArray ∧ z_P D cA N0 T F U.heap ∧ z_K l D cA N0 zE U
def z_Qc (D : va_G) (cA : Nat → ClassId) (N0 : Nat) (Post : Option Value → zT → zF → Prop) : Array Value → State → Outcome → State → Prop := fun _ st oc t => ∃ (v : Option Value) (T : zT) (F : zF), oc = .returned v ∧ Post v T F ∧ z_P D cA N0 T F t.heap ∧ va_F (fun q => N0 ≤ q) st t
def z_XC (D : va_G) (cA : Nat → ClassId) (N0 : Nat) (PX : String → zT → zF → Prop) : String → State → State → Prop := fun E st t => ∃ (T : zT) (F : zF), PX E T F ∧ z_P D cA N0 T F t.heap ∧ va_F (fun q => N0 ≤ q) st t
def z_Met (l : Launch) (D : va_G) (cA : Nat → ClassId) (N0 zE : Nat) (y : MethodName) (cc : ByteArray) (maxL : Nat) (ret : Option FieldType) (rm : Room) (as : List Value) (T : zT) (F : zF) (Post : Option Value → zT → zF → Prop) (PX : String → zT → zF → Prop) : Prop :=
  vx_Met l y (Cond.code y cc maxL ret :: zG) rm (z_Pc l D cA N0 zE as T F) (z_Qc D cA N0 Post) (z_XC D cA N0 PX) rm.cells rm.slots (fun q => N0 ≤ q)
/-- a body that is walked: its contract -/
theorem z_body {l : Launch} {D : va_G} {cA : Nat → ClassId} {N0 zE : Nat} {y : MethodName} {cc : ByteArray} {maxL : Nat} {ret : Option FieldType} {rm : Room} {as : List Value} {T : zT} {F : zF} {Post : Option Value → zT → zF → Prop} {PX : String → zT → zF → Prop} (hy : plainName y.cls = true) (hn : (lg_sl as).length ≤ maxL)
    (body : ∀ (p : Program) (e : Env) (s : State) (m : MethodId) (args : Array Value) (below : List Frame) (meth : Method) (c : Code), z_C p l s m args meth c y.cls cc maxL ret D cA N0 zE → (∀ x ∈ c.exceptionTable.toList, False) → meth.name = y.name →
      z_w p l e rm s m args below meth c D cA N0 maxL 0 0 (vx_MQ below (z_Qc D cA N0 Post) (z_XC D cA N0 PX) args s rm.cells rm.slots (fun q => N0 ≤ q)) 0 (lv_args 0 as) [] T F) : z_Met l D cA N0 zE y cc maxL ret rm as T F Post PX := by
  refine vx_ofW (cc := cc) (maxL := maxL) (ret := ret) hy rfl ?_
  intro p e s m args below meth c s₁ B hml hxt hv
  obtain ⟨rfl, hP, hK⟩ := hv
  have hts := atoms_spec (ws := Cond.code y cc maxL ret :: zG) B.pre
  have hC : z_C p l s m as.toArray meth c y.cls cc maxL ret D cA N0 zE := ⟨B.exec, B.bytes, hml, findClass_of_methodNamed B.named, fun w hw => hts w (List.mem_cons_of_mem _ hw), hK, B.notSynchronized, B.returns⟩
  have hl := lv_entry as (n := maxL) hn
  rw [lg_entry_eq]
  exact body p e s m as.toArray below meth c hC hxt (name_of_methodNamed B.named B.method).1 s.heap [] _ hP va_S.rf hl
section ZR
variable {p : Program} {l : Launch} {e : Env} {R : Room} {s : State} {m : MethodId} {args : Array Value} {below : List Frame} {meth : Method} {c : Code} {Q : State → Prop}
variable {D : va_G} {cA : Nat → ClassId} {N0 zE nL cells slots pc : Nat} {own : String} {cc : ByteArray} {ret : Option FieldType} {T : zT} {F : zF} {lo lo' : List (Nat × Value)} {st : List Value}
theorem zr_iconst (C : z_C p l s m args meth c own cc nL ret D cA N0 zE) {n : Int} (v : Int32) (hdg : decode cc pc = .ok (.iconst n, 1)) (hv : Int32.ofInt n = v) (k : z_w p l e R s m args below meth c D cA N0 nL cells slots Q (pc + 1) lo (.int v :: st) T F) : z_w p l e R s m args below meth c D cA N0 nL cells slots Q pc lo st T F :=
  fun H locs ls hP hS hL => lv_iconst C.1 C.2.1 hdg hv (k H locs ls hP hS hL)
theorem zr_bipush (C : z_C p l s m args meth c own cc nL ret D cA N0 zE) {n : Int} (v : Int32) (hdg : decode cc pc = .ok (.bipush n, 2)) (hv : (Int8.ofInt n).toInt32 = v) (k : z_w p l e R s m args below meth c D cA N0 nL cells slots Q (pc + 2) lo (.int v :: st) T F) : z_w p l e R s m args below meth c D cA N0 nL cells slots Q pc lo st T F :=
  fun H locs ls hP hS hL => lv_bipush C.1 C.2.1 hdg hv (k H locs ls hP hS hL)
theorem zr_sipush (C : z_C p l s m args meth c own cc nL ret D cA N0 zE) {n : Int} (v : Int32) (hdg : decode cc pc = .ok (.sipush n, 3)) (hv : (Int16.ofInt n).toInt32 = v) (k : z_w p l e R s m args below meth c D cA N0 nL cells slots Q (pc + 3) lo (.int v :: st) T F) : z_w p l e R s m args below meth c D cA N0 nL cells slots Q pc lo st T F :=
  fun H locs ls hP hS hL => lv_sipush C.1 C.2.1 hdg hv (k H locs ls hP hS hL)
theorem zr_iload_n (C : z_C p l s m args meth c own cc nL ret D cA N0 zE) {n : Fin 4} {x : Int32} (j : Nat) {i : Nat} (hdg : decode cc pc = .ok (.iload_n n, 1)) (hi : (n : Nat) = i) (hl : lo[j]? = some (i, .int x)) (k : z_w p l e R s m args below meth c D cA N0 nL cells slots Q (pc + 1) lo (.int x :: st) T F) : z_w p l e R s m args below meth c D cA N0 nL cells slots Q pc lo st T F :=
  fun H locs ls hP hS hL => lv_iload_n C.1 C.2.1 hdg hi (lv_at hL j hl) (k H locs ls hP hS hL)
theorem zr_iload (C : z_C p l s m args meth c own cc nL ret D cA N0 zE) {x : Int32} (j : Nat) {i : Nat} (hdg : decode cc pc = .ok (.iload i, 2)) (hl : lo[j]? = some (i, .int x)) (k : z_w p l e R s m args below meth c D cA N0 nL cells slots Q (pc + 2) lo (.int x :: st) T F) : z_w p l e R s m args below meth c D cA N0 nL cells slots Q pc lo st T F :=
  fun H locs ls hP hS hL => lv_iload C.1 C.2.1 hdg (lv_at hL j hl) (k H locs ls hP hS hL)
theorem zr_lload_n (C : z_C p l s m args meth c own cc nL ret D cA N0 zE) {n : Fin 4} {x : Int64} (j : Nat) {i : Nat} (hdg : decode cc pc = .ok (.lload_n n, 1)) (hi : (n : Nat) = i) (hl : lo[j]? = some (i, .long x)) (k : z_w p l e R s m args below meth c D cA N0 nL cells slots Q (pc + 1) lo (.long x :: st) T F) : z_w p l e R s m args below meth c D cA N0 nL cells slots Q pc lo st T F :=
  fun H locs ls hP hS hL => lv_lload_n C.1 C.2.1 hdg hi (lv_at hL j hl) (k H locs ls hP hS hL)
theorem zr_lload (C : z_C p l s m args meth c own cc nL ret D cA N0 zE) {x : Int64} (j : Nat) {i : Nat} (hdg : decode cc pc = .ok (.lload i, 2)) (hl : lo[j]? = some (i, .long x)) (k : z_w p l e R s m args below meth c D cA N0 nL cells slots Q (pc + 2) lo (.long x :: st) T F) : z_w p l e R s m args below meth c D cA N0 nL cells slots Q pc lo st T F :=
  fun H locs ls hP hS hL => lv_lload C.1 C.2.1 hdg (lv_at hL j hl) (k H locs ls hP hS hL)
theorem zr_aload_n (C : z_C p l s m args meth c own cc nL ret D cA N0 zE) {n : Fin 4} {x : Nat} (j : Nat) {i : Nat} (hdg : decode cc pc = .ok (.aload_n n, 1)) (hi : (n : Nat) = i) (hl : lo[j]? = some (i, .ref x)) (k : z_w p l e R s m args below meth c D cA N0 nL cells slots Q (pc + 1) lo (.ref x :: st) T F) : z_w p l e R s m args below meth c D cA N0 nL cells slots Q pc lo st T F :=
  fun H locs ls hP hS hL => lv_aload_n C.1 C.2.1 hdg hi (lv_at hL j hl) (k H locs ls hP hS hL)
theorem zr_aload (C : z_C p l s m args meth c own cc nL ret D cA N0 zE) {x : Nat} (j : Nat) {i : Nat} (hdg : decode cc pc = .ok (.aload i, 2)) (hl : lo[j]? = some (i, .ref x)) (k : z_w p l e R s m args below meth c D cA N0 nL cells slots Q (pc + 2) lo (.ref x :: st) T F) : z_w p l e R s m args below meth c D cA N0 nL cells slots Q pc lo st T F :=
  fun H locs ls hP hS hL => lv_aload C.1 C.2.1 hdg (lv_at hL j hl) (k H locs ls hP hS hL)
theorem zr_aload_nN (C : z_C p l s m args meth c own cc nL ret D cA N0 zE) {n : Fin 4} (j : Nat) {i : Nat} (hdg : decode cc pc = .ok (.aload_n n, 1)) (hi : (n : Nat) = i) (hl : lo[j]? = some (i, .null)) (k : z_w p l e R s m args below meth c D cA N0 nL cells slots Q (pc + 1) lo (.null :: st) T F) : z_w p l e R s m args below meth c D cA N0 nL cells slots Q pc lo st T F :=
  fun H locs ls hP hS hL => lv_aload_nN C.1 C.2.1 hdg hi (lv_at hL j hl) (k H locs ls hP hS hL)
theorem zr_aloadN (C : z_C p l s m args meth c own cc nL ret D cA N0 zE) (j : Nat) {i : Nat} (hdg : decode cc pc = .ok (.aload i, 2)) (hl : lo[j]? = some (i, .null)) (k : z_w p l e R s m args below meth c D cA N0 nL cells slots Q (pc + 2) lo (.null :: st) T F) : z_w p l e R s m args below meth c D cA N0 nL cells slots Q pc lo st T F :=
  fun H locs ls hP hS hL => lv_aloadN C.1 C.2.1 hdg (lv_at hL j hl) (k H locs ls hP hS hL)
theorem zr_istore_n (C : z_C p l s m args meth c own cc nL ret D cA N0 zE) (lo' : List (Nat × Value)) {n : Fin 4} {i : Nat} {x : Int32} (hdg : decode cc pc = .ok (.istore_n n, 1)) (hi : (n : Nat) = i) (hn : i < nL) (hl : (i, Value.int x) :: lo.filter (fun q => !(q.1 == i) && !(q.1 + 1 == i && q.2.category == 2)) = lo') (k : z_w p l e R s m args below meth c D cA N0 nL cells slots Q (pc + 1) lo' st T F) : z_w p l e R s m args below meth c D cA N0 nL cells slots Q pc lo (.int x :: st) T F :=
  fun H locs ls hP hS hL => lv_istore_n C.1 C.2.1 hdg hi hL hn hl (fun ls hl => k H locs ls hP hS hl)
theorem zr_istore (C : z_C p l s m args meth c own cc nL ret D cA N0 zE) (lo' : List (Nat × Value)) {i : Nat} {x : Int32} (hdg : decode cc pc = .ok (.istore i, 2)) (hn : i < nL) (hl : (i, Value.int x) :: lo.filter (fun q => !(q.1 == i) && !(q.1 + 1 == i && q.2.category == 2)) = lo') (k : z_w p l e R s m args below meth c D cA N0 nL cells slots Q (pc + 2) lo' st T F) : z_w p l e R s m args below meth c D cA N0 nL cells slots Q pc lo (.int x :: st) T F :=
  fun H locs ls hP hS hL => lv_istore C.1 C.2.1 hdg hL hn hl (fun ls hl => k H locs ls hP hS hl)
theorem zr_lstore_n (C : z_C p l s m args meth c own cc nL ret D cA N0 zE) (lo' : List (Nat × Value)) {n : Fin 4} {i : Nat} {x : Int64} (hdg : decode cc pc = .ok (.lstore_n n, 1)) (hi : (n : Nat) = i) (hn : i + 1 < nL) (hl : (i, Value.long x) :: lo.filter (fun q => !(q.1 == i) && (!(q.1 == i + 1) && !(q.1 + 1 == i && q.2.category == 2))) = lo') (k : z_w p l e R s m args below meth c D cA N0 nL cells slots Q (pc + 1) lo' st T F) : z_w p l e R s m args below meth c D cA N0 nL cells slots Q pc lo (.long x :: st) T F :=
  fun H locs ls hP hS hL => lv_lstore_n C.1 C.2.1 hdg hi hL hn hl (fun ls hl => k H locs ls hP hS hl)
theorem zr_lstore (C : z_C p l s m args meth c own cc nL ret D cA N0 zE) (lo' : List (Nat × Value)) {i : Nat} {x : Int64} (hdg : decode cc pc = .ok (.lstore i, 2)) (hn : i + 1 < nL) (hl : (i, Value.long x) :: lo.filter (fun q => !(q.1 == i) && (!(q.1 == i + 1) && !(q.1 + 1 == i && q.2.category == 2))) = lo') (k : z_w p l e R s m args below meth c D cA N0 nL cells slots Q (pc + 2) lo' st T F) : z_w p l e R s m args below meth c D cA N0 nL cells slots Q pc lo (.long x :: st) T F :=
  fun H locs ls hP hS hL => lv_lstore C.1 C.2.1 hdg hL hn hl (fun ls hl => k H locs ls hP hS hl)
theorem zr_astore_n (C : z_C p l s m args meth c own cc nL ret D cA N0 zE) (lo' : List (Nat × Value)) {n : Fin 4} {i x : Nat} (hdg : decode cc pc = .ok (.astore_n n, 1)) (hi : (n : Nat) = i) (hn : i < nL) (hl : (i, Value.ref x) :: lo.filter (fun q => !(q.1 == i) && !(q.1 + 1 == i && q.2.category == 2)) = lo') (k : z_w p l e R s m args below meth c D cA N0 nL cells slots Q (pc + 1) lo' st T F) : z_w p l e R s m args below meth c D cA N0 nL cells slots Q pc lo (.ref x :: st) T F :=
  fun H locs ls hP hS hL => lv_astore_n C.1 C.2.1 hdg hi hL hn hl (fun ls hl => k H locs ls hP hS hl)
theorem zr_astore (C : z_C p l s m args meth c own cc nL ret D cA N0 zE) (lo' : List (Nat × Value)) {i x : Nat} (hdg : decode cc pc = .ok (.astore i, 2)) (hn : i < nL) (hl : (i, Value.ref x) :: lo.filter (fun q => !(q.1 == i) && !(q.1 + 1 == i && q.2.category == 2)) = lo') (k : z_w p l e R s m args below meth c D cA N0 nL cells slots Q (pc + 2) lo' st T F) : z_w p l e R s m args below meth c D cA N0 nL cells slots Q pc lo (.ref x :: st) T F :=
  fun H locs ls hP hS hL => lv_astore C.1 C.2.1 hdg hL hn hl (fun ls hl => k H locs ls hP hS hl)
theorem zr_iinc (C : z_C p l s m args meth c own cc nL ret D cA N0 zE) (lo' : List (Nat × Value)) (j : Nat) {i : Nat} {n : Int} {x v : Int32} (hdg : decode cc pc = .ok (.iinc i n, 3)) (hk : lo[j]? = some (i, .int x)) (hv : x + Int32.ofInt n = v) (hn : i < nL) (hl : (i, Value.int v) :: lo.filter (fun q => !(q.1 == i) && !(q.1 + 1 == i && q.2.category == 2)) = lo') (k : z_w p l e R s m args below meth c D cA N0 nL cells slots Q (pc + 3) lo' st T F) : z_w p l e R s m args below meth c D cA N0 nL cells slots Q pc lo st T F :=
  fun H locs ls hP hS hL => lv_iinc C.1 C.2.1 hdg hL hk hv hn hl (fun ls hl => k H locs ls hP hS hl)
theorem z_ueq {F : zF} {a k : Nat} {v : Value} : zu F a k v a k = v := if_pos ⟨rfl, rfl⟩
theorem z_une {F : zF} {a b k j : Nat} {v x : Value} (h : F b j = x) (hne : ¬ j = k) : zu F a k v b j = x := (if_neg (fun g => hne g.2)).trans h
theorem z_nq {T : zT} {q : Nat} {t : Nat × Nat} : zn T q t q = some t := if_pos rfl
theorem z_nb {v : Int32} (h : v = 0 ∨ v = 1) : narrow .boolean (.int v) = .int v := by rcases h with rfl | rfl <;> rfl
theorem z_fb {v : Int32} (h : v = 0 ∨ v = 1) : fits .boolean (.int v) = true := by rcases h with rfl | rfl <;> rfl
/-- an object of one of the classes of vwCl, which may stand in an Object[] -/
def z_ob (T : zT) (v : Nat) : Prop := ∃ (ci n : Nat) (r : vw_C), T v = some (ci, n) ∧ ci < 100 ∧ vwCl[ci]? = some r ∧ Cond.castable r.1 "java/lang/Object" ∈ zG
theorem z_sw {x : Int32} (hi : Nat) (h : ¬ (x.toInt < 0 ∨ (hi : Int) < x.toInt)) : ∃ j : Nat, j ≤ hi ∧ x = nI j := by
  refine ⟨x.toInt.toNat, by omega, ?_⟩
  have e : ((x.toInt.toNat : Nat) : Int) = x.toInt := by omega
  show x = Int32.ofNat x.toInt.toNat
  rw [← Int32.ofInt_eq_ofNat, e, Int32.ofInt_toInt]
theorem zr_iadd (C : z_C p l s m args meth c own cc nL ret D cA N0 zE) {x y : Int32} (hdg : decode cc pc = .ok (.iadd, 1)) (k : z_w p l e R s m args below meth c D cA N0 nL cells slots Q (pc + 1) lo (.int (x + y) :: st) T F) : z_w p l e R s m args below meth c D cA N0 nL cells slots Q pc lo (.int y :: .int x :: st) T F :=
  fun H locs ls hP hS hL => lv_iadd C.1 C.2.1 hdg (k H locs ls hP hS hL)
theorem zr_isub (C : z_C p l s m args meth c own cc nL ret D cA N0 zE) {x y : Int32} (hdg : decode cc pc = .ok (.isub, 1)) (k : z_w p l e R s m args below meth c D cA N0 nL cells slots Q (pc + 1) lo (.int (x - y) :: st) T F) : z_w p l e R s m args below meth c D cA N0 nL cells slots Q pc lo (.int y :: .int x :: st) T F :=
  fun H locs ls hP hS hL => lv_isub C.1 C.2.1 hdg (k H locs ls hP hS hL)
theorem zr_imul (C : z_C p l s m args meth c own cc nL ret D cA N0 zE) {x y : Int32} (hdg : decode cc pc = .ok (.imul, 1)) (k : z_w p l e R s m args below meth c D cA N0 nL cells slots Q (pc + 1) lo (.int (x * y) :: st) T F) : z_w p l e R s m args below meth c D cA N0 nL cells slots Q pc lo (.int y :: .int x :: st) T F :=
  fun H locs ls hP hS hL => lv_imul C.1 C.2.1 hdg (k H locs ls hP hS hL)
theorem zr_iand (C : z_C p l s m args meth c own cc nL ret D cA N0 zE) {x y : Int32} (hdg : decode cc pc = .ok (.iand, 1)) (k : z_w p l e R s m args below meth c D cA N0 nL cells slots Q (pc + 1) lo (.int (x &&& y) :: st) T F) : z_w p l e R s m args below meth c D cA N0 nL cells slots Q pc lo (.int y :: .int x :: st) T F :=
  fun H locs ls hP hS hL => lv_iand C.1 C.2.1 hdg (k H locs ls hP hS hL)
theorem zr_ior (C : z_C p l s m args meth c own cc nL ret D cA N0 zE) {x y : Int32} (hdg : decode cc pc = .ok (.ior, 1)) (k : z_w p l e R s m args below meth c D cA N0 nL cells slots Q (pc + 1) lo (.int (x ||| y) :: st) T F) : z_w p l e R s m args below meth c D cA N0 nL cells slots Q pc lo (.int y :: .int x :: st) T F :=
  fun H locs ls hP hS hL => lv_ior C.1 C.2.1 hdg (k H locs ls hP hS hL)
theorem zr_ixor (C : z_C p l s m args meth c own cc nL ret D cA N0 zE) {x y : Int32} (hdg : decode cc pc = .ok (.ixor, 1)) (k : z_w p l e R s m args below meth c D cA N0 nL cells slots Q (pc + 1) lo (.int (x ^^^ y) :: st) T F) : z_w p l e R s m args below meth c D cA N0 nL cells slots Q pc lo (.int y :: .int x :: st) T F :=
  fun H locs ls hP hS hL => lv_ixor C.1 C.2.1 hdg (k H locs ls hP hS hL)
theorem zr_ishl (C : z_C p l s m args meth c own cc nL ret D cA N0 zE) {x y : Int32} (hdg : decode cc pc = .ok (.ishl, 1)) (k : z_w p l e R s m args below meth c D cA N0 nL cells slots Q (pc + 1) lo (.int (x <<< (y &&& 31)) :: st) T F) : z_w p l e R s m args below meth c D cA N0 nL cells slots Q pc lo (.int y :: .int x :: st) T F :=
  fun H locs ls hP hS hL => lv_ishl C.1 C.2.1 hdg (k H locs ls hP hS hL)
theorem zr_ishr (C : z_C p l s m args meth c own cc nL ret D cA N0 zE) {x y : Int32} (hdg : decode cc pc = .ok (.ishr, 1)) (k : z_w p l e R s m args below meth c D cA N0 nL cells slots Q (pc + 1) lo (.int (x >>> (y &&& 31)) :: st) T F) : z_w p l e R s m args below meth c D cA N0 nL cells slots Q pc lo (.int y :: .int x :: st) T F :=
  fun H locs ls hP hS hL => lv_ishr C.1 C.2.1 hdg (k H locs ls hP hS hL)
theorem zr_iushr (C : z_C p l s m args meth c own cc nL ret D cA N0 zE) {x y : Int32} (hdg : decode cc pc = .ok (.iushr, 1)) (k : z_w p l e R s m args below meth c D cA N0 nL cells slots Q (pc + 1) lo (.int ((x.toUInt32 >>> (y.toUInt32 &&& Int32.toUInt32 31)).toInt32) :: st) T F) : z_w p l e R s m args below meth c D cA N0 nL cells slots Q pc lo (.int y :: .int x :: st) T F :=
  fun H locs ls hP hS hL => lv_iushr C.1 C.2.1 hdg rfl (k H locs ls hP hS hL)
theorem zr_idiv (C : z_C p l s m args meth c own cc nL ret D cA N0 zE) {x y : Int32} (hdg : decode cc pc = .ok (.idiv, 1)) (hne : ¬ y = 0) (k : z_w p l e R s m args below meth c D cA N0 nL cells slots Q (pc + 1) lo (.int (x / y) :: st) T F) : z_w p l e R s m args below meth c D cA N0 nL cells slots Q pc lo (.int y :: .int x :: st) T F :=
  fun H locs ls hP hS hL => lv_idiv C.1 C.2.1 hdg hne (k H locs ls hP hS hL)
theorem zr_irem (C : z_C p l s m args meth c own cc nL ret D cA N0 zE) {x y : Int32} (hdg : decode cc pc = .ok (.irem, 1)) (hne : ¬ y = 0) (k : z_w p l e R s m args below meth c D cA N0 nL cells slots Q (pc + 1) lo (.int (x - x / y * y) :: st) T F) : z_w p l e R s m args below meth c D cA N0 nL cells slots Q pc lo (.int y :: .int x :: st) T F :=
  fun H locs ls hP hS hL => lv_irem C.1 C.2.1 hdg hne (k H locs ls hP hS hL)
theorem zr_ladd (C : z_C p l s m args meth c own cc nL ret D cA N0 zE) {x y : Int64} (hdg : decode cc pc = .ok (.ladd, 1)) (k : z_w p l e R s m args below meth c D cA N0 nL cells slots Q (pc + 1) lo (.long (x + y) :: st) T F) : z_w p l e R s m args below meth c D cA N0 nL cells slots Q pc lo (.long y :: .long x :: st) T F :=
  fun H locs ls hP hS hL => lv_ladd C.1 C.2.1 hdg (k H locs ls hP hS hL)
theorem zr_lsub (C : z_C p l s m args meth c own cc nL ret D cA N0 zE) {x y : Int64} (hdg : decode cc pc = .ok (.lsub, 1)) (k : z_w p l e R s m args below meth c D cA N0 nL cells slots Q (pc + 1) lo (.long (x - y) :: st) T F) : z_w p l e R s m args below meth c D cA N0 nL cells slots Q pc lo (.long y :: .long x :: st) T F :=
  fun H locs ls hP hS hL => lv_lsub C.1 C.2.1 hdg (k H locs ls hP hS hL)
theorem zr_lmul (C : z_C p l s m args meth c own cc nL ret D cA N0 zE) {x y : Int64} (hdg : decode cc pc = .ok (.lmul, 1)) (k : z_w p l e R s m args below meth c D cA N0 nL cells slots Q (pc + 1) lo (.long (x * y) :: st) T F) : z_w p l e R s m args below meth c D cA N0 nL cells slots Q pc lo (.long y :: .long x :: st) T F :=
  fun H locs ls hP hS hL => lv_lmul C.1 C.2.1 hdg (k H locs ls hP hS hL)
theorem zr_ineg (C : z_C p l s m args meth c own cc nL ret D cA N0 zE) {x : Int32} (hdg : decode cc pc = .ok (.ineg, 1)) (k : z_w p l e R s m args below meth c D cA N0 nL cells slots Q (pc + 1) lo (.int (-x) :: st) T F) : z_w p l e R s m args below meth c D cA N0 nL cells slots Q pc lo (.int x :: st) T F :=
  fun H locs ls hP hS hL => lv_ineg C.1 C.2.1 hdg (k H locs ls hP hS hL)
theorem zr_i2l (C : z_C p l s m args meth c own cc nL ret D cA N0 zE) {x : Int32} (hdg : decode cc pc = .ok (.i2l, 1)) (k : z_w p l e R s m args below meth c D cA N0 nL cells slots Q (pc + 1) lo (.long x.toInt64 :: st) T F) : z_w p l e R s m args below meth c D cA N0 nL cells slots Q pc lo (.int x :: st) T F :=
  fun H locs ls hP hS hL => lv_i2l C.1 C.2.1 hdg rfl (k H locs ls hP hS hL)
theorem zr_lcmp (C : z_C p l s m args meth c own cc nL ret D cA N0 zE) {x y : Int64} (hdg : decode cc pc = .ok (.lcmp, 1)) (k : z_w p l e R s m args below meth c D cA N0 nL cells slots Q (pc + 1) lo (.int (lg_cmp x y) :: st) T F) : z_w p l e R s m args below meth c D cA N0 nL cells slots Q pc lo (.long y :: .long x :: st) T F :=
  fun H locs ls hP hS hL => W.lcmp C.1 C.2.1 hdg (k H locs ls hP hS hL)
theorem zr_lconst (C : z_C p l s m args meth c own cc nL ret D cA N0 zE) {n : Fin 2} (v : Int64) (hdg : decode cc pc = .ok (.lconst n, 1)) (hv : Int64.ofNat (n : Nat) = v) (k : z_w p l e R s m args below meth c D cA N0 nL cells slots Q (pc + 1) lo (.long v :: st) T F) : z_w p l e R s m args below meth c D cA N0 nL cells slots Q pc lo st T F :=
  fun H locs ls hP hS hL => lv_lconst C.1 C.2.1 hdg hv (k H locs ls hP hS hL)
theorem zr_dup (C : z_C p l s m args meth c own cc nL ret D cA N0 zE) {v : Value} (hdg : decode cc pc = .ok (.dup, 1)) (hv : v.category = 1) (k : z_w p l e R s m args below meth c D cA N0 nL cells slots Q (pc + 1) lo (v :: v :: st) T F) : z_w p l e R s m args below meth c D cA N0 nL cells slots Q pc lo (v :: st) T F :=
  fun H locs ls hP hS hL => lv_dup C.1 C.2.1 hdg hv (k H locs ls hP hS hL)
theorem zr_pop (C : z_C p l s m args meth c own cc nL ret D cA N0 zE) {v : Value} (hdg : decode cc pc = .ok (.pop, 1)) (hv : v.category = 1) (k : z_w p l e R s m args below meth c D cA N0 nL cells slots Q (pc + 1) lo st T F) : z_w p l e R s m args below meth c D cA N0 nL cells slots Q pc lo (v :: st) T F :=
  fun H locs ls hP hS hL => lv_pop C.1 C.2.1 hdg hv (k H locs ls hP hS hL)
theorem zr_dup_x1 (C : z_C p l s m args meth c own cc nL ret D cA N0 zE) {v w : Value} (hdg : decode cc pc = .ok (.dup_x1, 1)) (hv : v.category = 1) (hw : w.category = 1) (k : z_w p l e R s m args below meth c D cA N0 nL cells slots Q (pc + 1) lo (v :: w :: v :: st) T F) : z_w p l e R s m args below meth c D cA N0 nL cells slots Q pc lo (v :: w :: st) T F :=
  fun H locs ls hP hS hL => lv_dup_x1 C.1 C.2.1 hdg hv hw (k H locs ls hP hS hL)
theorem zr_dup2 (C : z_C p l s m args meth c own cc nL ret D cA N0 zE) {v w : Value} (hdg : decode cc pc = .ok (.dup2, 1)) (hv : v.category = 1) (hw : w.category = 1) (k : z_w p l e R s m args below meth c D cA N0 nL cells slots Q (pc + 1) lo (v :: w :: v :: w :: st) T F) : z_w p l e R s m args below meth c D cA N0 nL cells slots Q pc lo (v :: w :: st) T F :=
  fun H locs ls hP hS hL => lv_dup2_11 C.1 C.2.1 hdg hv hw (k H locs ls hP hS hL)
theorem zr_null (C : z_C p l s m args meth c own cc nL ret D cA N0 zE) (hdg : decode cc pc = .ok (.aconst_null, 1)) (k : z_w p l e R s m args below meth c D cA N0 nL cells slots Q (pc + 1) lo (.null :: st) T F) : z_w p l e R s m args below meth c D cA N0 nL cells slots Q pc lo st T F :=
  fun H locs ls hP hS hL => lv_null C.1 C.2.1 hdg (k H locs ls hP hS hL)
theorem zr_ldc (C : z_C p l s m args meth c own cc nL ret D cA N0 zE) {index : Nat} (v : Int32) (hdg : decode cc pc = .ok (.ldc index, 2)) (hw : Cond.constant own index v ∈ zG) (k : z_w p l e R s m args below meth c D cA N0 nL cells slots Q (pc + 2) lo (.int v :: st) T F) : z_w p l e R s m args below meth c D cA N0 nL cells slots Q pc lo st T F :=
  fun H locs ls hP hS hL => lv_ldc C.1 C.2.1 C.2.2.2.1 (C.2.2.2.2.1 _ hw) hdg (k H locs ls hP hS hL)
theorem zr_ldcw (C : z_C p l s m args meth c own cc nL ret D cA N0 zE) {index : Nat} (v : Int32) (hdg : decode cc pc = .ok (.ldc_w index, 3)) (hw : Cond.constant own index v ∈ zG) (k : z_w p l e R s m args below meth c D cA N0 nL cells slots Q (pc + 3) lo (.int v :: st) T F) : z_w p l e R s m args below meth c D cA N0 nL cells slots Q pc lo st T F :=
  fun H locs ls hP hS hL => lv_ldcw C.1 C.2.1 C.2.2.2.1 (C.2.2.2.2.1 _ hw) hdg (k H locs ls hP hS hL)
theorem zr_ldc2 (C : z_C p l s m args meth c own cc nL ret D cA N0 zE) {index : Nat} (v : Int64) (hdg : decode cc pc = .ok (.ldc2_w index, 3)) (hw : Cond.constantLong own index v ∈ zG) (k : z_w p l e R s m args below meth c D cA N0 nL cells slots Q (pc + 3) lo (.long v :: st) T F) : z_w p l e R s m args below meth c D cA N0 nL cells slots Q pc lo st T F :=
  fun H locs ls hP hS hL => lv_ldc2 C.1 C.2.1 C.2.2.2.1 (C.2.2.2.2.1 _ hw) hdg (k H locs ls hP hS hL)
theorem zr_if_eq (C : z_C p l s m args meth c own cc nL ret D cA N0 zE) {x : Int32} {off : Int} (tgt : Nat) (hdg : decode cc pc = .ok (.ifCond .eq off, 3)) (ht : (pc : Int) + off = (tgt : Int)) (kt : x = 0 → z_w p l e R s m args below meth c D cA N0 nL cells slots Q tgt lo st T F) (kf : ¬ x = 0 → z_w p l e R s m args below meth c D cA N0 nL cells slots Q (pc + 3) lo st T F) : z_w p l e R s m args below meth c D cA N0 nL cells slots Q pc lo (.int x :: st) T F :=
  fun H locs ls hP hS hL => lv_if_eq C.1 C.2.1 hdg ht (fun h => kt h H locs ls hP hS hL) (fun h => kf h H locs ls hP hS hL)
theorem zr_icmp_eq (C : z_C p l s m args meth c own cc nL ret D cA N0 zE) {x y : Int32} {off : Int} (tgt : Nat) (hdg : decode cc pc = .ok (.if_icmp .eq off, 3)) (ht : (pc : Int) + off = (tgt : Int)) (kt : x = y → z_w p l e R s m args below meth c D cA N0 nL cells slots Q tgt lo st T F) (kf : ¬ x = y → z_w p l e R s m args below meth c D cA N0 nL cells slots Q (pc + 3) lo st T F) : z_w p l e R s m args below meth c D cA N0 nL cells slots Q pc lo (.int y :: .int x :: st) T F :=
  fun H locs ls hP hS hL => lv_icmp_eq C.1 C.2.1 hdg ht (fun h => kt h H locs ls hP hS hL) (fun h => kf h H locs ls hP hS hL)
theorem zr_if_ne (C : z_C p l s m args meth c own cc nL ret D cA N0 zE) {x : Int32} {off : Int} (tgt : Nat) (hdg : decode cc pc = .ok (.ifCond .ne off, 3)) (ht : (pc : Int) + off = (tgt : Int)) (kt : ¬ x = 0 → z_w p l e R s m args below meth c D cA N0 nL cells slots Q tgt lo st T F) (kf : x = 0 → z_w p l e R s m args below meth c D cA N0 nL cells slots Q (pc + 3) lo st T F) : z_w p l e R s m args below meth c D cA N0 nL cells slots Q pc lo (.int x :: st) T F :=
  fun H locs ls hP hS hL => lv_if_ne C.1 C.2.1 hdg ht (fun h => kt h H locs ls hP hS hL) (fun h => kf h H locs ls hP hS hL)
theorem zr_icmp_ne (C : z_C p l s m args meth c own cc nL ret D cA N0 zE) {x y : Int32} {off : Int} (tgt : Nat) (hdg : decode cc pc = .ok (.if_icmp .ne off, 3)) (ht : (pc : Int) + off = (tgt : Int)) (kt : ¬ x = y → z_w p l e R s m args below meth c D cA N0 nL cells slots Q tgt lo st T F) (kf : x = y → z_w p l e R s m args below meth c D cA N0 nL cells slots Q (pc + 3) lo st T F) : z_w p l e R s m args below meth c D cA N0 nL cells slots Q pc lo (.int y :: .int x :: st) T F :=
  fun H locs ls hP hS hL => lv_icmp_ne C.1 C.2.1 hdg ht (fun h => kt h H locs ls hP hS hL) (fun h => kf h H locs ls hP hS hL)
theorem zr_if_lt (C : z_C p l s m args meth c own cc nL ret D cA N0 zE) {x : Int32} {off : Int} (tgt : Nat) (hdg : decode cc pc = .ok (.ifCond .lt off, 3)) (ht : (pc : Int) + off = (tgt : Int)) (kt : x < 0 → z_w p l e R s m args below meth c D cA N0 nL cells slots Q tgt lo st T F) (kf : ¬ x < 0 → z_w p l e R s m args below meth c D cA N0 nL cells slots Q (pc + 3) lo st T F) : z_w p l e R s m args below meth c D cA N0 nL cells slots Q pc lo (.int x :: st) T F :=
  fun H locs ls hP hS hL => lv_if_lt C.1 C.2.1 hdg ht (fun h => kt h H locs ls hP hS hL) (fun h => kf h H locs ls hP hS hL)
theorem zr_icmp_lt (C : z_C p l s m args meth c own cc nL ret D cA N0 zE) {x y : Int32} {off : Int} (tgt : Nat) (hdg : decode cc pc = .ok (.if_icmp .lt off, 3)) (ht : (pc : Int) + off = (tgt : Int)) (kt : x < y → z_w p l e R s m args below meth c D cA N0 nL cells slots Q tgt lo st T F) (kf : ¬ x < y → z_w p l e R s m args below meth c D cA N0 nL cells slots Q (pc + 3) lo st T F) : z_w p l e R s m args below meth c D cA N0 nL cells slots Q pc lo (.int y :: .int x :: st) T F :=
  fun H locs ls hP hS hL => lv_icmp_lt C.1 C.2.1 hdg ht (fun h => kt h H locs ls hP hS hL) (fun h => kf h H locs ls hP hS hL)
theorem zr_if_ge (C : z_C p l s m args meth c own cc nL ret D cA N0 zE) {x : Int32} {off : Int} (tgt : Nat) (hdg : decode cc pc = .ok (.ifCond .ge off, 3)) (ht : (pc : Int) + off = (tgt : Int)) (kt : 0 ≤ x → z_w p l e R s m args below meth c D cA N0 nL cells slots Q tgt lo st T F) (kf : ¬ 0 ≤ x → z_w p l e R s m args below meth c D cA N0 nL cells slots Q (pc + 3) lo st T F) : z_w p l e R s m args below meth c D cA N0 nL cells slots Q pc lo (.int x :: st) T F :=
  fun H locs ls hP hS hL => lv_if_ge C.1 C.2.1 hdg ht (fun h => kt h H locs ls hP hS hL) (fun h => kf h H locs ls hP hS hL)
theorem zr_icmp_ge (C : z_C p l s m args meth c own cc nL ret D cA N0 zE) {x y : Int32} {off : Int} (tgt : Nat) (hdg : decode cc pc = .ok (.if_icmp .ge off, 3)) (ht : (pc : Int) + off = (tgt : Int)) (kt : y ≤ x → z_w p l e R s m args below meth c D cA N0 nL cells slots Q tgt lo st T F) (kf : ¬ y ≤ x → z_w p l e R s m args below meth c D cA N0 nL cells slots Q (pc + 3) lo st T F) : z_w p l e R s m args below meth c D cA N0 nL cells slots Q pc lo (.int y :: .int x :: st) T F :=
  fun H locs ls hP hS hL => lv_icmp_ge C.1 C.2.1 hdg ht (fun h => kt h H locs ls hP hS hL) (fun h => kf h H locs ls hP hS hL)
theorem zr_if_gt (C : z_C p l s m args meth c own cc nL ret D cA N0 zE) {x : Int32} {off : Int} (tgt : Nat) (hdg : decode cc pc = .ok (.ifCond .gt off, 3)) (ht : (pc : Int) + off = (tgt : Int)) (kt : 0 < x → z_w p l e R s m args below meth c D cA N0 nL cells slots Q tgt lo st T F) (kf : ¬ 0 < x → z_w p l e R s m args below meth c D cA N0 nL cells slots Q (pc + 3) lo st T F) : z_w p l e R s m args below meth c D cA N0 nL cells slots Q pc lo (.int x :: st) T F :=
  fun H locs ls hP hS hL => lv_if_gt C.1 C.2.1 hdg ht (fun h => kt h H locs ls hP hS hL) (fun h => kf h H locs ls hP hS hL)
theorem zr_icmp_gt (C : z_C p l s m args meth c own cc nL ret D cA N0 zE) {x y : Int32} {off : Int} (tgt : Nat) (hdg : decode cc pc = .ok (.if_icmp .gt off, 3)) (ht : (pc : Int) + off = (tgt : Int)) (kt : y < x → z_w p l e R s m args below meth c D cA N0 nL cells slots Q tgt lo st T F) (kf : ¬ y < x → z_w p l e R s m args below meth c D cA N0 nL cells slots Q (pc + 3) lo st T F) : z_w p l e R s m args below meth c D cA N0 nL cells slots Q pc lo (.int y :: .int x :: st) T F :=
  fun H locs ls hP hS hL => lv_icmp_gt C.1 C.2.1 hdg ht (fun h => kt h H locs ls hP hS hL) (fun h => kf h H locs ls hP hS hL)
theorem zr_if_le (C : z_C p l s m args meth c own cc nL ret D cA N0 zE) {x : Int32} {off : Int} (tgt : Nat) (hdg : decode cc pc = .ok (.ifCond .le off, 3)) (ht : (pc : Int) + off = (tgt : Int)) (kt : x ≤ 0 → z_w p l e R s m args below meth c D cA N0 nL cells slots Q tgt lo st T F) (kf : ¬ x ≤ 0 → z_w p l e R s m args below meth c D cA N0 nL cells slots Q (pc + 3) lo st T F) : z_w p l e R s m args below meth c D cA N0 nL cells slots Q pc lo (.int x :: st) T F :=
  fun H locs ls hP hS hL => lv_if_le C.1 C.2.1 hdg ht (fun h => kt h H locs ls hP hS hL) (fun h => kf h H locs ls hP hS hL)
theorem zr_icmp_le (C : z_C p l s m args meth c own cc nL ret D cA N0 zE) {x y : Int32} {off : Int} (tgt : Nat) (hdg : decode cc pc = .ok (.if_icmp .le off, 3)) (ht : (pc : Int) + off = (tgt : Int)) (kt : x ≤ y → z_w p l e R s m args below meth c D cA N0 nL cells slots Q tgt lo st T F) (kf : ¬ x ≤ y → z_w p l e R s m args below meth c D cA N0 nL cells slots Q (pc + 3) lo st T F) : z_w p l e R s m args below meth c D cA N0 nL cells slots Q pc lo (.int y :: .int x :: st) T F :=
  fun H locs ls hP hS hL => lv_icmp_le C.1 C.2.1 hdg ht (fun h => kt h H locs ls hP hS hL) (fun h => kf h H locs ls hP hS hL)
theorem zr_acmp_eq (C : z_C p l s m args meth c own cc nL ret D cA N0 zE) {rx ry : Option Nat} {off : Int} (tgt : Nat) (hdg : decode cc pc = .ok (.if_acmp .eq off, 3)) (ht : (pc : Int) + off = (tgt : Int)) (kt : rx = ry → z_w p l e R s m args below meth c D cA N0 nL cells slots Q tgt lo st T F) (kf : ¬ rx = ry → z_w p l e R s m args below meth c D cA N0 nL cells slots Q (pc + 3) lo st T F) : z_w p l e R s m args below meth c D cA N0 nL cells slots Q pc lo (va_rf ry :: va_rf rx :: st) T F :=
  fun H locs ls hP hS hL => lv_acmp_eq C.1 C.2.1 hdg ht (fun h => kt h H locs ls hP hS hL) (fun h => kf h H locs ls hP hS hL)
theorem zr_acmp_ne (C : z_C p l s m args meth c own cc nL ret D cA N0 zE) {rx ry : Option Nat} {off : Int} (tgt : Nat) (hdg : decode cc pc = .ok (.if_acmp .ne off, 3)) (ht : (pc : Int) + off = (tgt : Int)) (kt : ¬ rx = ry → z_w p l e R s m args below meth c D cA N0 nL cells slots Q tgt lo st T F) (kf : rx = ry → z_w p l e R s m args below meth c D cA N0 nL cells slots Q (pc + 3) lo st T F) : z_w p l e R s m args below meth c D cA N0 nL cells slots Q pc lo (va_rf ry :: va_rf rx :: st) T F :=
  fun H locs ls hP hS hL => lv_acmp_ne C.1 C.2.1 hdg ht (fun h => kt h H locs ls hP hS hL) (fun h => kf h H locs ls hP hS hL)
theorem zr_goto (C : z_C p l s m args meth c own cc nL ret D cA N0 zE) {off : Int} (tgt : Nat) (hdg : decode cc pc = .ok (.goto off, 3)) (ht : (pc : Int) + off = (tgt : Int)) (k : z_w p l e R s m args below meth c D cA N0 nL cells slots Q tgt lo st T F) : z_w p l e R s m args below meth c D cA N0 nL cells slots Q pc lo st T F :=
  fun H locs ls hP hS hL => lv_goto C.1 C.2.1 hdg ht (k H locs ls hP hS hL)
theorem zr_ifnull (C : z_C p l s m args meth c own cc nL ret D cA N0 zE) {x : Nat} {off : Int} (hdg : decode cc pc = .ok (.ifnull off, 3)) (k : z_w p l e R s m args below meth c D cA N0 nL cells slots Q (pc + 3) lo st T F) : z_w p l e R s m args below meth c D cA N0 nL cells slots Q pc lo (.ref x :: st) T F :=
  fun H locs ls hP hS hL => lv_ifnull C.1 C.2.1 hdg (k H locs ls hP hS hL)
theorem zr_ifnullN (C : z_C p l s m args meth c own cc nL ret D cA N0 zE) {off : Int} (tgt : Nat) (hdg : decode cc pc = .ok (.ifnull off, 3)) (ht : (pc : Int) + off = (tgt : Int)) (k : z_w p l e R s m args below meth c D cA N0 nL cells slots Q tgt lo st T F) : z_w p l e R s m args below meth c D cA N0 nL cells slots Q pc lo (.null :: st) T F :=
  fun H locs ls hP hS hL => lv_ifnullN C.1 C.2.1 hdg ht (k H locs ls hP hS hL)
theorem zr_ifnonnull (C : z_C p l s m args meth c own cc nL ret D cA N0 zE) {x : Nat} {off : Int} (tgt : Nat) (hdg : decode cc pc = .ok (.ifnonnull off, 3)) (ht : (pc : Int) + off = (tgt : Int)) (k : z_w p l e R s m args below meth c D cA N0 nL cells slots Q tgt lo st T F) : z_w p l e R s m args below meth c D cA N0 nL cells slots Q pc lo (.ref x :: st) T F :=
  fun H locs ls hP hS hL => lv_ifnonnull C.1 C.2.1 hdg ht (k H locs ls hP hS hL)
theorem zr_ifnonnullN (C : z_C p l s m args meth c own cc nL ret D cA N0 zE) {off : Int} (hdg : decode cc pc = .ok (.ifnonnull off, 3)) (k : z_w p l e R s m args below meth c D cA N0 nL cells slots Q (pc + 3) lo st T F) : z_w p l e R s m args below meth c D cA N0 nL cells slots Q pc lo (.null :: st) T F :=
  fun H locs ls hP hS hL => lv_ifnonnullN C.1 C.2.1 hdg (k H locs ls hP hS hL)
theorem zr_astore_nN (C : z_C p l s m args meth c own cc nL ret D cA N0 zE) (lo' : List (Nat × Value)) {n : Fin 4} {i : Nat} (hdg : decode cc pc = .ok (.astore_n n, 1)) (hi : (n : Nat) = i) (hn : i < nL) (hl : (i, Value.null) :: lo.filter (fun q => !(q.1 == i) && !(q.1 + 1 == i && q.2.category == 2)) = lo') (k : z_w p l e R s m args below meth c D cA N0 nL cells slots Q (pc + 1) lo' st T F) : z_w p l e R s m args below meth c D cA N0 nL cells slots Q pc lo (.null :: st) T F :=
  fun H locs ls hP hS hL => lv_astore_nN C.1 C.2.1 hdg hi hL hn hl (fun ls hl => k H locs ls hP hS hl)
theorem zr_astoreN (C : z_C p l s m args meth c own cc nL ret D cA N0 zE) (lo' : List (Nat × Value)) {i : Nat} (hdg : decode cc pc = .ok (.astore i, 2)) (hn : i < nL) (hl : (i, Value.null) :: lo.filter (fun q => !(q.1 == i) && !(q.1 + 1 == i && q.2.category == 2)) = lo') (k : z_w p l e R s m args below meth c D cA N0 nL cells slots Q (pc + 2) lo' st T F) : z_w p l e R s m args below meth c D cA N0 nL cells slots Q pc lo (.null :: st) T F :=
  fun H locs ls hP hS hL => lv_astoreN C.1 C.2.1 hdg hL hn hl (fun ls hl => k H locs ls hP hS hl)
theorem zr_tableOut (C : z_C p l s m args meth c own cc nL ret D cA N0 zE) {dflt lw hi : Int} {offs : Array Int} {len : Nat} {x : Int32} (tgt : Nat) (hdg : decode cc pc = .ok (.tableswitch dflt lw hi offs, len)) (h : x.toInt < lw ∨ hi < x.toInt) (ht : (pc : Int) + dflt = (tgt : Int)) (k : z_w p l e R s m args below meth c D cA N0 nL cells slots Q tgt lo st T F) : z_w p l e R s m args below meth c D cA N0 nL cells slots Q pc lo (.int x :: st) T F :=
  fun H locs ls hP hS hL => lv_tableOut C.1 C.2.1 hdg h ht (k H locs ls hP hS hL)
theorem zr_tableIn (C : z_C p l s m args meth c own cc nL ret D cA N0 zE) {dflt lw hi : Int} {offs : Array Int} {len : Nat} {x : Int32} {off : Int} (tgt : Nat) (hdg : decode cc pc = .ok (.tableswitch dflt lw hi offs, len)) (h1 : ¬ x.toInt < lw) (h2 : ¬ hi < x.toInt) (ho : offs[(x.toInt - lw).toNat]? = some off) (ht : (pc : Int) + off = (tgt : Int)) (k : z_w p l e R s m args below meth c D cA N0 nL cells slots Q tgt lo st T F) : z_w p l e R s m args below meth c D cA N0 nL cells slots Q pc lo (.int x :: st) T F :=
  fun H locs ls hP hS hL => lv_tableIn C.1 C.2.1 hdg h1 h2 ho ht (k H locs ls hP hS hL)
theorem zr_widen {cells2 slots2 : Nat} (h1 : cells ≤ cells2) (h2 : slots ≤ slots2) (k : z_w p l e R s m args below meth c D cA N0 nL cells2 slots2 Q pc lo st T F) : z_w p l e R s m args below meth c D cA N0 nL cells slots Q pc lo st T F :=
  fun H locs ls hP hS hL => W.widen h1 h2 (k H locs ls hP hS hL)
theorem zr_sub (is : List Nat) (hl : lv_pick lo is = lo') (k : z_w p l e R s m args below meth c D cA N0 nL cells slots Q pc lo' st T F) : z_w p l e R s m args below meth c D cA N0 nL cells slots Q pc lo st T F :=
  fun H locs ls hP hS hL => k H locs ls hP hS (lv_sub hL is hl)
theorem zr_topi {x : Int32} (k : ∀ y : Int32, y = x → z_w p l e R s m args below meth c D cA N0 nL cells slots Q pc lo (.int y :: st) T F) : z_w p l e R s m args below meth c D cA N0 nL cells slots Q pc lo (.int x :: st) T F := k x rfl
/-! fields -/
/-- what the tables say of a field's entry in a class's pool: own's entry 'index' is the k-th field of the class ci of vwCl -/
def z_fld (own : String) (index ci k N : Nat) (ty : FieldType) (fin : Bool) : Prop := ci < 100 ∧ k < N ∧ ∃ (Cn : String) (Tb : u_T) (ref : String), vwCl[ci]? = some (Cn, Tb, N) ∧ (∀ w ∈ u_ws Cn Tb N, w ∈ zG) ∧ ((Tb k).1 = ref ∨ Cond.sameField ref (Tb k).1 (Tb k).2.1 (Tb k).2.2.1 ∈ zG) ∧
  (Cond.fieldLink own index ref (Tb k).2.1 (Tb k).2.2.1 ∈ zG ∨ ∃ host, Cond.fieldLinkNest own index ref (Tb k).2.1 (Tb k).2.2.1 host ∈ zG) ∧ parseFieldDescriptor (Tb k).2.2.1 = some ty ∧ (Tb k).2.2.2 = fin ∧ (∃ ty0 : Nat → FieldType, ∀ j, j < N → parseFieldDescriptor (Tb j).2.2.1 = some (ty0 j)) ∧ (∀ a, a < N → ∀ b, b < N → a ≠ b → (Tb a).2.1 ≠ (Tb b).2.1)
/-- the k-th field of the class ci is declared by own -/
def z_fin (own : String) (ci k : Nat) : Prop := ∃ (Cn : String) (Tb : u_T) (N : Nat), vwCl[ci]? = some (Cn, Tb, N) ∧ (Tb k).1 = own
theorem zr_get (C : z_C p l s m args meth c own cc nL ret D cA N0 zE) {index ci k N a : Nat} {ty : FieldType} {fin : Bool} {v : Value} (f : z_fld own index ci k N ty fin) (hT : T a = some (ci, N)) (hv : F a k = v) (hdg : decode cc pc = .ok (.getfield index, 3))
    (kk : z_w p l e R s m args below meth c D cA N0 nL cells slots Q (pc + 3) lo (v :: st) T F) : z_w p l e R s m args below meth c D cA N0 nL cells slots Q pc lo (.ref a :: st) T F := by
  intro H locs ls hP hS hL
  obtain ⟨hx, hb, -, hown, hts, hK, -⟩ := id C
  obtain ⟨hci, hk, Cn, Tb, ref, hc, hin, hsm, hlk, -⟩ := f
  have h0 := (hP a _ hT).2
  unfold z_at at h0
  rw [if_pos hci] at h0
  obtain ⟨r, h1, -, cell, q1, q2, q3, q4⟩ := h0
  cases Option.some.inj (h1.symm.trans hc)
  obtain ⟨hSl, hfc, kC, hkC, hkind⟩ := hK.2.2.1.1 ci _ hc
  obtain ⟨cf, kf, fi, fd, hi, hsl⟩ := hSl k hk
  have hi2 : s.fieldFound? ref (Tb k).2.1 (Tb k).2.2.1 = some (cf, kf, fi, fd) := by
    rcases hsm with rfl | h
    · exact hi
    · exact u_same (hts _ h) _ hi
  have hst := (u_facts hfc hkC (u_lays hts hin hk) hi).1
  have hsv : cell.slots[fd.slot]? = some v := by rw [hsl, q4 k hk, hv]
  rcases hlk with hlk | ⟨host, hlk⟩
  · exact W.getf hx hb hown (hts _ hlk) hi2 hst q1 (by rw [q3]; exact fun h => by cases h) (v := v) hsv rfl rfl hdg (kk H locs ls hP hS hL)
  · exact va_Wgetf hx hb hown (hts _ hlk) hi2 hst q1 (by rw [q3]; exact fun h => by cases h) (v := v) hsv rfl rfl hdg (kk H locs ls hP hS hL)
theorem zr_put (C : z_C p l s m args meth c own cc nL ret D cA N0 zE) {index ci k N a : Nat} {ty : FieldType} {v : Value} (f : z_fld own index ci k N ty false) (hT : T a = some (ci, N)) (hn : narrow ty v = v) (hfit : fits ty v = true) (hdg : decode cc pc = .ok (.putfield index, 3))
    (kk : z_w p l e R s m args below meth c D cA N0 nL cells slots Q (pc + 3) lo st T (zu F a k v)) : z_w p l e R s m args below meth c D cA N0 nL cells slots Q pc lo (v :: .ref a :: st) T F := by
  intro H locs ls hP hS hL
  obtain ⟨hx, hb, -, hown, hts, hK, -⟩ := id C
  obtain ⟨hci, hk, Cn, Tb, ref, hc, hin, hsm, hlk, hd, hfin, ⟨ty0, hty⟩, hnm⟩ := f
  obtain ⟨hNa, h0⟩ := hP a _ hT
  have hNa : N0 ≤ a := by
    rcases hNa with h | ⟨-, h⟩ | h
    · exact h
    · exact absurd hci (Nat.not_lt.mpr h)
    · exact absurd hci (by have h : ci = 104 := h; omega)
  unfold z_at at h0
  rw [if_pos hci] at h0
  obtain ⟨r, h1, -, cell, q1, q2, q3, q4⟩ := h0
  cases Option.some.inj (h1.symm.trans hc)
  have hap := va_apart (own := own) hts hin ty0 hty hnm hK.2.2.1 hc
  obtain ⟨hSl, hfc, kC, hkC, hkind⟩ := hK.2.2.1.1 ci _ hc
  obtain ⟨cf, kf, fi, fd, hi, hsl⟩ := hSl k hk
  have hi2 : s.fieldFound? ref (Tb k).2.1 (Tb k).2.2.1 = some (cf, kf, fi, fd) := by
    rcases hsm with rfl | h
    · exact hi
    · exact u_same (hts _ h) _ hi
  have hst := (u_facts hfc hkC (u_lays hts hin hk) hi).1
  have hlay := hts _ (hin _ (u_in_lay hk))
  unfold u_lay at hlay
  rw [if_neg (by rw [hfin]; decide)] at hlay
  have h6 := u_store hfc hkC hkind hlay hi hd hn hfit
  have fin : ∀ H' : Heap, H'[a]? = some (cell.setSlot fd.slot v) → H'.size = H.size → (∀ q, q ≠ a → H'[q]? = H[q]?) → W p l e R s m args below meth c H' (locs ++ [⟨a, fd.slot⟩]) cells slots Q (F0 m (pc + 3) ls st) := by
    intro H' e1 e2 e3
    refine kk H' _ ls (hP.set hT ?_ e3) (hS.put e2 e3 hNa) hL
    unfold z_at
    rw [if_pos hci]
    refine ⟨_, hc, rfl, ?_⟩
    rw [hsl] at e1
    exact t_OB.to (V := updV (F a) k v) ⟨_, e1, q2, q3, t_set q4 hap hk v⟩ (fun j _ => rfl)
  rcases hlk with hlk | ⟨host, hlk⟩
  · exact W.putK hx hb (f := fd) ⟨hown, hts _ hlk, ⟨_, _, _, hi2⟩, hst⟩ (by rw [q2]; exact h6) q1 q3 (by rw [hsl]; exact k2_hasslot (q4 k hk)) rfl rfl hdg fin
  · exact va_WputK hx hb hown (hts _ hlk) hi2 hst (by rw [q2]; exact h6) q1 q3 (by rw [hsl]; exact k2_hasslot (q4 k hk)) rfl rfl hdg fin
theorem zr_putF (C : z_C p l s m args meth c own cc nL ret D cA N0 zE) {index ci k N a : Nat} {ty : FieldType} {v : Value} (f : z_fld own index ci k N ty true) (g : z_fin own ci k) (hT : T a = some (ci, N)) (hn : narrow ty v = v) (hfit : fits ty v = true) (hin2 : meth.name = "<init>") (hdg : decode cc pc = .ok (.putfield index, 3))
    (kk : z_w p l e R s m args below meth c D cA N0 nL cells slots Q (pc + 3) lo st T (zu F a k v)) : z_w p l e R s m args below meth c D cA N0 nL cells slots Q pc lo (v :: .ref a :: st) T F := by
  intro H locs ls hP hS hL
  obtain ⟨hx, hb, -, hown, hts, hK, -⟩ := id C
  obtain ⟨hci, hk, Cn, Tb, ref, hc, hin, hsm, hlk, hd, hfin, ⟨ty0, hty⟩, hnm⟩ := f
  obtain ⟨Cn8, Tb8, N8, hc8, hdecl⟩ := g
  cases Option.some.inj (hc8.symm.trans hc)
  obtain ⟨hNa, h0⟩ := hP a _ hT
  have hNa : N0 ≤ a := by
    rcases hNa with h | ⟨-, h⟩ | h
    · exact h
    · exact absurd hci (Nat.not_lt.mpr h)
    · exact absurd hci (by have h : ci = 104 := h; omega)
  unfold z_at at h0
  rw [if_pos hci] at h0
  obtain ⟨r, h1, -, cell, q1, q2, q3, q4⟩ := h0
  cases Option.some.inj (h1.symm.trans hc)
  have hap := va_apart (own := own) hts hin ty0 hty hnm hK.2.2.1 hc
  obtain ⟨hSl, hfc, kC, hkC, hkind⟩ := hK.2.2.1.1 ci _ hc
  obtain ⟨cf, kf, fi, fd, hi, hsl⟩ := hSl k hk
  have hi2 : s.fieldFound? ref (Tb k).2.1 (Tb k).2.2.1 = some (cf, kf, fi, fd) := by
    rcases hsm with rfl | h
    · exact hi
    · exact u_same (hts _ h) _ hi
  have hst := (u_facts hfc hkC (u_lays hts hin hk) hi).1
  have hlay := hts _ (hin _ (u_in_lay hk))
  unfold u_lay at hlay
  rw [if_pos hfin] at hlay
  have hcf : m.cls = cf := by
    obtain ⟨_, _, c', _, _, _, -, -, hf', -, -, -, hown2, -⟩ := Cond.laysFinal_spec hlay
    have e1 : c' = cf := by have := hi.symm.trans hf'; simp at this; exact this.1.symm
    rw [hdecl] at hown2
    rw [← e1]; exact Option.some.inj (hown.symm.trans hown2)
  have h6 := u_fits hfc hkC hkind (Or.inr hlay) hi hd hn hfit
  have fin : ∀ H' : Heap, H'[a]? = some (cell.setSlot fd.slot v) → H'.size = H.size → (∀ q, q ≠ a → H'[q]? = H[q]?) → W p l e R s m args below meth c H' (locs ++ [⟨a, fd.slot⟩]) cells slots Q (F0 m (pc + 3) ls st) := by
    intro H' e1 e2 e3
    refine kk H' _ ls (hP.set hT ?_ e3) (hS.put e2 e3 hNa) hL
    unfold z_at
    rw [if_pos hci]
    refine ⟨_, hc, rfl, ?_⟩
    rw [hsl] at e1
    exact t_OB.to (V := updV (F a) k v) ⟨_, e1, q2, q3, t_set q4 hap hk v⟩ (fun j _ => rfl)
  rcases hlk with hlk | ⟨host, hlk⟩
  · exact W.putFinK hx hb hown (hts _ hlk) hi2 hst hcf hin2 (by rw [q2]; exact h6) q1 q3 (by rw [hsl]; exact k2_hasslot (q4 k hk)) rfl rfl hdg fin
  · exact va_Wputf hx hb hown (hts _ hlk) hi2 hst (Or.inr ⟨hcf, hin2⟩) q1 (by rw [q3]; exact fun h => by cases h) (by rw [hsl]; exact k2_hasslot (q4 k hk)) h6.1 (by rw [q2, q3]; exact h6.2) rfl rfl hdg (fin _ (by have ha : a < H.size := (Array.getElem?_eq_some_iff.mp q1).1; simp [Array.getElem?_setIfInBounds, ha]) (by simp) (fun q hq => by simp [Array.getElem?_setIfInBounds, Ne.symm hq]))
/-! making -/
def z_nw (own : String) (index ci N : Nat) (ty : Nat → FieldType) : Prop := ci < 100 ∧ ∃ (Cn : String) (Tb : u_T), vwCl[ci]? = some (Cn, Tb, N) ∧ (∀ w ∈ u_ws Cn Tb N, w ∈ zG) ∧ (∀ k, k < N → parseFieldDescriptor (Tb k).2.2.1 = some (ty k)) ∧ Cond.classLink own index Cn ∈ zG ∧ Cond.instantiable Cn N ∈ zG ∧ Cond.initialized Cn ∈ zG
theorem zr_new (C : z_C p l s m args meth c own cc nL ret D cA N0 zE) {index ci N : Nat} {ty : Nat → FieldType} (f : z_nw own index ci N ty) (hc1 : cells + 1 ≤ R.cells) (hs1 : slots + N ≤ R.slots) (hdg : decode cc pc = .ok (.new index, 3))
    (kk : ∀ q : Nat, (∀ b, q ≤ b → T b = none) → z_w p l e R s m args below meth c D cA N0 nL (cells + 1) (slots + N) Q (pc + 3) lo (.ref q :: st) (zn T q (ci, N)) (zm F q (fun j => defaultValue (ty j)))) : z_w p l e R s m args below meth c D cA N0 nL cells slots Q pc lo st T F := by
  intro H locs ls hP hS hL
  obtain ⟨hx, hb, -, hown, hts, hK, -⟩ := id C
  obtain ⟨hci, Cn, Tb, hc, hin, hty, w1, w2, w3⟩ := f
  have hKn := hK.2.2.1.1 ci _ hc
  refine W.newcK hx hb hown (hts _ w1) (hts _ w2) (hts _ w3) rfl hdg hc1 hs1 hKn.2.1 rfl fun H1 kC hkC e1 z1 o1 => ?_
  have hN : N0 ≤ H.size := Nat.le_trans hK.2.1 hS.1
  have hb1 := u_born ty hts hin hKn hkC e1 hty
  refine kk H.size (fun b hb => ?_) H1 locs ls (hP.push hN ?_ o1).2 ⟨Nat.le_trans hS.1 (by omega), fun x h1 h2 => (o1 x (Nat.lt_of_lt_of_le h1 hS.1)).trans (hS.2.1 x h1 h2), hS.2.2⟩ hL
  · cases g : T b with
    | none => rfl
    | some t' => exact absurd (hP _ _ g).2.lt (Nat.not_lt.mpr hb)
  · unfold z_at
    rw [if_pos hci]
    exact ⟨_, hc, rfl, hb1⟩
theorem z_ra {U : State} {cA cB : ClassId} {ty : FieldType} (h1 : va_RA U cA ty) (h2 : U.vm.findClass ("[" ++ ty.toString) = some cB) : cA = cB := by
  cases ty with
  | object Cn => obtain ⟨_, _, _, _, _, h4⟩ := h1; exact Option.some.inj (h4.symm.trans h2)
  | _ => exact Option.some.inj (h1.symm.trans h2)
theorem zr_newarr (C : z_C p l s m args meth c own cc nL ret D cA N0 zE) {n : Int32} {atype : ArrayType} (j : Nat) (hj : z_tys[j]? = some (newarray.typeOf atype)) (hw : Cond.arrayClass (newarray.typeOf atype) ∈ zG) (hn : ¬ n < 0) (hby : n.toNatClampNeg * componentBytes (newarray.typeOf atype) ≤ 536870912) (hc1 : cells + 1 ≤ R.cells) (hs1 : slots + n.toNatClampNeg ≤ R.slots) (hdg : decode cc pc = .ok (.newarray atype, 2))
    (kk : ∀ q : Nat, (∀ b, q ≤ b → T b = none) → z_w p l e R s m args below meth c D cA N0 nL (cells + 1) (slots + n.toNatClampNeg) Q (pc + 2) lo (.ref q :: st) (zn T q (100 + j, n.toNatClampNeg)) (zm F q (fun _ => defaultValue (newarray.typeOf atype)))) (hj4 : ¬ j = 4 := by decide) : z_w p l e R s m args below meth c D cA N0 nL cells slots Q pc lo (.int n :: st) T F := by
  intro H locs ls hP hS hL
  obtain ⟨hx, hb, -, hown, hts, hK, -⟩ := id C
  refine W.newa hx hb (hts _ hw) rfl hdg rfl hn hby hc1 hs1 fun cB kA comp h1 h2 h3 => ?_
  have hcA : cA j = cB := z_ra ((hK.2.2.2.1 j _ hj).2.resolve_left hj4) h1
  subst hcA
  have hN : N0 ≤ H.size := Nat.le_trans hK.2.1 hS.1
  have o1 : ∀ q : Nat, q < H.size → (H.push { cls := cA j, slots := Array.replicate n.toNatClampNeg (defaultValue (newarray.typeOf atype)), vm := .none })[q]? = H[q]? := fun q hq => by rw [Array.getElem?_push, if_neg (Nat.ne_of_lt hq)]
  refine kk H.size (fun b hb => ?_) _ locs ls (hP.push hN ?_ o1).2 ⟨Nat.le_trans hS.1 (by simp), fun x h1 h2 => (o1 x (Nat.lt_of_lt_of_le h1 hS.1)).trans (hS.2.1 x h1 h2), hS.2.2⟩ hL
  · cases g : T b with
    | none => rfl
    | some t' => exact absurd (hP _ _ g).2.lt (Nat.not_lt.mpr hb)
  · unfold z_at
    rw [if_neg (by show ¬ 100 + j < 100; omega)]
    left
    show _ = some (arrV (cA (100 + j - 100)) _ _)
    rw [Nat.add_sub_cancel_left, ← arrV_new]
    simp
theorem zr_anew (C : z_C p l s m args meth c own cc nL ret D cA N0 zE) {n : Int32} {index : Nat} {Cn : String} (j : Nat) (hj : z_tys[j]? = some (.object Cn)) (hw : Cond.classLink own index Cn ∈ zG) (hw2 : Cond.arrayOver (.object Cn) ∈ zG) (hn : ¬ n < 0) (hby : n.toNatClampNeg * 4 ≤ 536870912) (hc1 : cells + 1 ≤ R.cells) (hs1 : slots + n.toNatClampNeg ≤ R.slots) (hdg : decode cc pc = .ok (.anewarray index, 3))
    (kk : ∀ q : Nat, (∀ b, q ≤ b → T b = none) → z_w p l e R s m args below meth c D cA N0 nL (cells + 1) (slots + n.toNatClampNeg) Q (pc + 3) lo (.ref q :: st) (zn T q (100 + j, n.toNatClampNeg)) (zm F q (fun _ => .null))) (hj4 : ¬ j = 4 := by decide) : z_w p l e R s m args below meth c D cA N0 nL cells slots Q pc lo (.int n :: st) T F := by
  intro H locs ls hP hS hL
  obtain ⟨hx, hb, -, hown, hts, hK, -⟩ := id C
  refine W.anew hx hb hown (hts _ hw) (hts _ hw2) rfl hdg rfl hn hby hc1 hs1 fun cB kA comp h1 h2 h3 h4 => ?_
  have hcA : cA j = cB := z_ra ((hK.2.2.2.1 j _ hj).2.resolve_left hj4) h1
  subst hcA
  have hN : N0 ≤ H.size := Nat.le_trans hK.2.1 hS.1
  have o1 : ∀ q : Nat, q < H.size → (H.push { cls := cA j, slots := Array.replicate n.toNatClampNeg .null, vm := .none })[q]? = H[q]? := fun q hq => by rw [Array.getElem?_push, if_neg (Nat.ne_of_lt hq)]
  refine kk H.size (fun b hb => ?_) _ locs ls (hP.push hN ?_ o1).2 ⟨Nat.le_trans hS.1 (by simp), fun x h1 h2 => (o1 x (Nat.lt_of_lt_of_le h1 hS.1)).trans (hS.2.1 x h1 h2), hS.2.2⟩ hL
  · cases g : T b with
    | none => rfl
    | some t' => exact absurd (hP _ _ g).2.lt (Nat.not_lt.mpr hb)
  · unfold z_at
    rw [if_neg (by show ¬ 100 + j < 100; omega)]
    left
    show _ = some (arrV (cA (100 + j - 100)) _ _)
    rw [Nat.add_sub_cancel_left, ← arrV_new]
    simp
/-! arrays -/
theorem z_arr {H : Heap} {a t n : Nat} (hP : z_P D cA N0 T F H) (hT : T a = some (t, n)) (ht : 100 ≤ t) (hn : 0 < n) (h4 : ¬ t = 104) : H[a]? = some (arrV (cA (t - 100)) n (F a)) := by
  have h0 := (hP a _ hT).2
  unfold z_at at h0
  rw [if_neg (Nat.not_lt.mpr ht)] at h0
  rcases h0 with h0 | ⟨h0 | h0, -⟩
  · exact h0
  · exact absurd h0 (by show ¬ n = 0; omega)
  · exact absurd h0 h4
/-- any array, one that was there before among them: what a reading instruction needs -/
theorem z_arrG {H : Heap} {a t n : Nat} {ty : FieldType} (hP : z_P D cA N0 T F H) (hT : T a = some (t, n)) (ht : 100 ≤ t) (hA : ArrOfT s (cA (t - 100)) ty) : ∃ c : Cell, H[a]? = some c ∧ s.isArrayOf c ty ∧ c.slots.size = n ∧ (∀ j : Nat, j < n → c.slots[j]? = some (F a j)) ∧ c.vm ≠ .unknown := by
  have h0 := (hP a _ hT).2
  unfold z_at at h0
  rw [if_neg (Nat.not_lt.mpr ht)] at h0
  rcases h0 with h0 | ⟨-, c, h1, h2, h3, h4, h5, h6⟩
  · exact ⟨_, h0, hA n (F a), arrV_size _ _ _, fun j hj => arrV_read _ _ hj, fun q => by cases q⟩
  · refine ⟨c, h1, ⟨h6, ?_⟩, h3, h4, h5⟩
    have h9 := (hA n (F a)).2
    rw [show (arrV (cA (t - 100)) n (F a)).cls = c.cls from h2.symm] at h9
    exact h9
theorem z_arrN {H : Heap} {a t n : Nat} (hP : z_P D cA N0 T F H) (hT : T a = some (t, n)) (hn : 0 < n) (ht : t ≠ 104 := by decide) : N0 ≤ a := by
  rcases (hP a _ hT).1 with h | ⟨h, -⟩ | h
  · exact h
  · exact absurd h (by show ¬ n = 0; omega)
  · exact absurd h ht
theorem zr_alen (C : z_C p l s m args meth c own cc nL ret D cA N0 zE) {a t n : Nat} {ty : FieldType} (hT : T a = some (t, n)) (ht : 100 ≤ t) (hj : z_tys[t - 100]? = some ty) (hdg : decode cc pc = .ok (.arraylength, 1))
    (kk : z_w p l e R s m args below meth c D cA N0 nL cells slots Q (pc + 1) lo (.int (nI n) :: st) T F) : z_w p l e R s m args below meth c D cA N0 nL cells slots Q pc lo (.ref a :: st) T F :=
  fun H locs ls hP hS hL => by
  obtain ⟨cl, g1, g2, g3, -⟩ := z_arrG hP hT ht (C.2.2.2.2.2.1.2.2.2.1 _ _ hj).1
  exact W.alen (n := nI n) C.1 C.2.1 g1 g2 (by rw [g3] <;> rfl) rfl rfl hdg (kk H locs ls hP hS hL)
theorem zr_iald (C : z_C p l s m args meth c own cc nL ret D cA N0 zE) {a n : Nat} {i x : Int32} (hj : z_tys[0]? = some .int) (hT : T a = some (100, n)) (hin : vp_in i n) (hv : F a i.toNatClampNeg = .int x) (hdg : decode cc pc = .ok (.iaload, 1))
    (kk : z_w p l e R s m args below meth c D cA N0 nL cells slots Q (pc + 1) lo (.int x :: st) T F) : z_w p l e R s m args below meth c D cA N0 nL cells slots Q pc lo (.int i :: .ref a :: st) T F := by
  intro H locs ls hP hS hL
  have hlt : i.toNatClampNeg < n := Nat.not_le.mp fun q => hin (Or.inr q)
  exact W.iald C.1 C.2.1 (z_arr hP hT (Nat.le_refl _) (by omega) (by decide)) ((C.2.2.2.2.2.1.2.2.2.1 _ _ hj).1 n (F a)) (fun q => by cases q) (by rw [arrV_size]; exact hin) (by rw [arrV_read _ _ hlt, hv]) rfl rfl hdg (kk H locs ls hP hS hL)
theorem z_st {H H1 : Heap} {a t n i : Nat} {v : Value} (hP : z_P D cA N0 T F H) (hT : T a = some (t, n)) (ht : 100 ≤ t) (e : H1[a]? = some ((arrV (cA (t - 100)) n (F a)).setSlot i v)) (oq : ∀ q : Nat, q ≠ a → H1[q]? = H[q]?) : z_P D cA N0 T (zu F a i v) H1 := by
  refine hP.set hT ?_ oq
  unfold z_at
  rw [if_neg (Nat.not_lt.mpr ht)]
  left
  rw [e, arrV_store]
  rfl
theorem zr_iast (C : z_C p l s m args meth c own cc nL ret D cA N0 zE) {a n : Nat} {i x : Int32} (hj : z_tys[0]? = some .int) (hT : T a = some (100, n)) (hin : vp_in i n) (hdg : decode cc pc = .ok (.iastore, 1))
    (kk : z_w p l e R s m args below meth c D cA N0 nL cells slots Q (pc + 1) lo st T (zu F a i.toNatClampNeg (.int x))) : z_w p l e R s m args below meth c D cA N0 nL cells slots Q pc lo (.int x :: .int i :: .ref a :: st) T F := by
  intro H locs ls hP hS hL
  have hlt : i.toNatClampNeg < n := Nat.not_le.mp fun q => hin (Or.inr q)
  refine W.iast C.1 C.2.1 (z_arr hP hT (Nat.le_refl _) (by omega) (by decide)) ((C.2.2.2.2.2.1.2.2.2.1 _ _ hj).1 n (F a)) (fun q => by cases q) (by rw [arrV_size]; exact hin) rfl rfl hdg fun H1 e1 z1 oq => ?_
  exact kk H1 _ ls (z_st hP hT (Nat.le_refl _) e1 oq) (hS.put z1 oq (z_arrN hP hT (by omega))) hL
theorem zr_aald (C : z_C p l s m args meth c own cc nL ret D cA N0 zE) {a t n : Nat} {ty : FieldType} {i : Int32} {v : Value} (hT : T a = some (t, n)) (ht : 100 ≤ t) (hj : z_tys[t - 100]? = some ty) (hr : ty.isReference = true) (hin : vp_in i n) (hv : F a i.toNatClampNeg = v) (hdg : decode cc pc = .ok (.aaload, 1))
    (kk : z_w p l e R s m args below meth c D cA N0 nL cells slots Q (pc + 1) lo (v :: st) T F) : z_w p l e R s m args below meth c D cA N0 nL cells slots Q pc lo (.int i :: .ref a :: st) T F := by
  intro H locs ls hP hS hL
  have hlt : i.toNatClampNeg < n := Nat.not_le.mp fun q => hin (Or.inr q)
  have h4 : ¬ t = 104 := fun g => by
    subst g
    cases (show some FieldType.int = some ty from hj)
    cases hr
  exact W.aald C.1 C.2.1 (z_arr hP hT ht (by omega) h4) ((C.2.2.2.2.2.1.2.2.2.1 _ _ hj).1 n (F a)) hr (fun q => by cases q) (by rw [arrV_size]; exact hin) (by rw [arrV_read _ _ hlt, hv]) rfl rfl hdg (kk H locs ls hP hS hL)
theorem z_obj {H : Heap} {a ci N : Nat} {r : vw_C} (hP : z_P D cA N0 T F H) (hK : z_K l D cA N0 zE s) (hT : T a = some (ci, N)) (hci : ci < 100) (hc : vwCl[ci]? = some r) : ∃ cell : Cell, H[a]? = some cell ∧ cell.vm.isStatics = false ∧ s.vm.findClass r.1 = some cell.cls := by
  have h0 := (hP a _ hT).2
  unfold z_at at h0
  rw [if_pos hci] at h0
  obtain ⟨r', h1, -, cell, q1, q2, q3, q4⟩ := h0
  cases Option.some.inj (h1.symm.trans hc)
  exact ⟨cell, q1, by rw [q3]; rfl, by rw [q2]; exact (hK.2.2.1.1 ci _ hc).2.1⟩
theorem zr_aastO (C : z_C p l s m args meth c own cc nL ret D cA N0 zE) {a n v ci N : Nat} {i : Int32} {r : vw_C} (hj : z_tys[1]? = some (.object "java/lang/Object")) (hT : T a = some (101, n)) (hin : vp_in i n) (hTv : T v = some (ci, N)) (hci : ci < 100) (hc : vwCl[ci]? = some r) (hw : Cond.castable r.1 "java/lang/Object" ∈ zG) (hdg : decode cc pc = .ok (.aastore, 1))
    (kk : z_w p l e R s m args below meth c D cA N0 nL cells slots Q (pc + 1) lo st T (zu F a i.toNatClampNeg (.ref v))) : z_w p l e R s m args below meth c D cA N0 nL cells slots Q pc lo (.ref v :: .int i :: .ref a :: st) T F := by
  intro H locs ls hP hS hL
  have hlt : i.toNatClampNeg < n := Nat.not_le.mp fun q => hin (Or.inr q)
  have h0 : ¬ i < 0 := fun q => hin (Or.inl q)
  obtain ⟨cellV, g1, g2, g3⟩ := z_obj hP C.2.2.2.2.2.1 hTv hci hc
  obtain ⟨kC, hkC, -⟩ := Vm.findClass_spec g3
  obtain ⟨kA, comp, k1, k2, k3, -⟩ := (C.2.2.2.2.2.1.2.2.2.1 _ _ hj).2.resolve_left (by decide)
  obtain ⟨kE, hkE, -⟩ := Vm.findClass_spec k3
  obtain ⟨c0, t1, f1, f2, f3⟩ := Cond.castable_spec (C.2.2.2.2.1 _ hw)
  cases Option.some.inj (f1.symm.trans g3)
  cases Option.some.inj (f2.symm.trans k3)
  refine W.aast C.1 C.2.1 (z_arr hP hT (by decide) (by omega) (by decide)) (fun q h => by cases h) (fun h => by cases h) k1 k2 rfl hkE ⟨h0, by rw [arrV_size]; exact hlt⟩ g1 (fun q h => by rw [h] at g2; cases g2) hkC f3 rfl rfl hdg fun H1 e1 z1 oq => ?_
  exact kk H1 _ ls (z_st hP hT (by decide) e1 oq) (hS.put z1 oq (z_arrN hP hT (by omega))) hL
theorem zr_castS (C : z_C p l s m args meth c own cc nL ret D cA N0 zE) {a ci N index : Nat} {r : vw_C} (hT : T a = some (ci, N)) (hci : ci < 100) (hc : vwCl[ci]? = some r) (hw : Cond.classLink own index r.1 ∈ zG) (hdg : decode cc pc = .ok (.checkcast index, 3))
    (kk : z_w p l e R s m args below meth c D cA N0 nL cells slots Q (pc + 3) lo (.ref a :: st) T F) : z_w p l e R s m args below meth c D cA N0 nL cells slots Q pc lo (.ref a :: st) T F :=
  fun H locs ls hP hS hL => va_castS C.1 C.2.1 C.2.2.2.1 (C.2.2.2.2.1 _ hw) (C.2.2.2.2.2.1.2.2.1.1 ci _ hc).2 (z_obj hP C.2.2.2.2.2.1 hT hci hc) hdg (kk H locs ls hP hS hL)
theorem zr_objInit (C : z_C p l s m args meth c own cc nL ret D cA N0 zE) {a index : Nat} (h1 : Cond.methodLink own index Lib.objectInit ∈ zG) (h2 : Cond.instanceMethod Lib.objectInit ∈ zG) (h3 : Cond.code Lib.objectInit ⟨#[0xb1]⟩ 1 none ∈ zG) (hf : 1 ≤ R.frames) (hlo : (st.map fun v => v.category).sum + 12 ≤ R.locals) (hdg : decode cc pc = .ok (.invokespecial index, 3))
    (kk : z_w p l e R s m args below meth c D cA N0 nL cells slots Q (pc + 3) lo st T F) : z_w p l e R s m args below meth c D cA N0 nL cells slots Q pc lo (.ref a :: st) T F :=
  fun H locs ls hP hS hL => W.objInit C.1 C.2.1 C.2.2.2.1 (C.2.2.2.2.1 _ h1) (C.2.2.2.2.1 _ h2) (C.2.2.2.2.1 _ h3) rfl (by rw [C.2.2.1]; exact hL.1) rfl hdg hf (by show 2 * 0 + _ + 12 ≤ _; omega) (kk H locs ls hP hS hL)
theorem zr_getsE (C : z_C p l s m args meth c own cc nL ret D cA N0 zE) {index : Nat} (hw : Cond.fieldLink own index "java/util/ArrayList" "DEFAULTCAPACITY_EMPTY_ELEMENTDATA" "[Ljava/lang/Object;" ∈ zG) (hdg : decode cc pc = .ok (.getstatic index, 3))
    (kk : z_w p l e R s m args below meth c D cA N0 nL cells slots Q (pc + 3) lo (.ref zE :: st) T F) : z_w p l e R s m args below meth c D cA N0 nL cells slots Q pc lo st T F :=
  fun H locs ls hP hS hL => va_gets C.1 C.2.1 C.2.2.2.2.2.1.2.2.2.2.1 hS C.2.2.2.1 (C.2.2.2.2.1 _ hw) (fun _ h => h) hdg (kk H locs ls hP hS hL)
theorem zr_max (C : z_C p l s m args meth c own cc nL ret D cA N0 zE) {index : Nat} {x y : Int32} (h1 : Cond.methodLink own index Lib.Math.max.name ∈ zG) (h2 : Cond.static Lib.Math.max.name ∈ zG) (h3 : Cond.initialized "java/lang/Math" ∈ zG) (h4 : Cond.code Lib.Math.max.name Lib.Math.max.code 2 (some .int) ∈ zG) (hf : 1 ≤ R.frames) (hlo : (st.map fun v => v.category).sum + 13 ≤ R.locals) (hc1 : cells ≤ R.cells) (hs1 : slots ≤ R.slots) (hdg : decode cc pc = .ok (.invokestatic index, 3))
    (kk : z_w p l e R s m args below meth c D cA N0 nL cells slots Q (pc + 3) lo (.int (if x < y then y else x) :: st) T F) : z_w p l e R s m args below meth c D cA N0 nL cells slots Q pc lo (.int y :: .int x :: st) T F :=
  fun H locs ls hP hS hL => va_mmax C.1 C.2.1 (by rw [C.2.2.1]; exact hL.1.symm) C.2.2.2.1 (C.2.2.2.2.1 _ h1) (C.2.2.2.2.1 _ h2) (C.2.2.2.2.1 _ h3) (C.2.2.2.2.1 _ h4) hf hlo hc1 hs1 hdg (kk H locs ls hP hS hL)
theorem zr_min (C : z_C p l s m args meth c own cc nL ret D cA N0 zE) {index : Nat} {x y : Int32} (h1 : Cond.methodLink own index Lib.Math.min.name ∈ zG) (h2 : Cond.static Lib.Math.min.name ∈ zG) (h3 : Cond.initialized "java/lang/Math" ∈ zG) (h4 : Cond.code Lib.Math.min.name Lib.Math.min.code 2 (some .int) ∈ zG) (hf : 1 ≤ R.frames) (hlo : (st.map fun v => v.category).sum + 13 ≤ R.locals) (hc1 : cells ≤ R.cells) (hs1 : slots ≤ R.slots) (hdg : decode cc pc = .ok (.invokestatic index, 3))
    (kk : z_w p l e R s m args below meth c D cA N0 nL cells slots Q (pc + 3) lo (.int (if y < x then y else x) :: st) T F) : z_w p l e R s m args below meth c D cA N0 nL cells slots Q pc lo (.int y :: .int x :: st) T F :=
  fun H locs ls hP hS hL => va_mmin C.1 C.2.1 (by rw [C.2.2.1]; exact hL.1.symm) C.2.2.2.1 (C.2.2.2.2.1 _ h1) (C.2.2.2.2.1 _ h2) (C.2.2.2.2.1 _ h3) (C.2.2.2.2.1 _ h4) hf hlo hc1 hs1 hdg (kk H locs ls hP hS hL)
/-! calls -/
def z_ok (own : String) (index : Nat) (y : MethodName) (bytes : ByteArray) (maxL : Nat) (ret : Option FieldType) (n : Nat) : Prop := Cond.code y bytes maxL ret ∈ zG ∧ Cond.methodLink own index y ∈ zG ∧ Cond.initialized y.cls ∈ zG ∧ (y.cls ≠ "java/lang/invoke/MethodHandle" ∧ y.cls ≠ "java/lang/invoke/VarHandle") ∧ (parseMethodDescriptor y.desc).map (fun d => d.parameters.length) = some n
def z_okN (own : String) (index : Nat) (host : String) (y : MethodName) (bytes : ByteArray) (maxL : Nat) (ret : Option FieldType) (n : Nat) : Prop := Cond.code y bytes maxL ret ∈ zG ∧ Cond.methodLinkNest own index y host ∈ zG ∧ Cond.initialized y.cls ∈ zG ∧ (y.cls ≠ "java/lang/invoke/MethodHandle" ∧ y.cls ≠ "java/lang/invoke/VarHandle") ∧ (parseMethodDescriptor y.desc).map (fun d => d.parameters.length) = some n
theorem z_len {y : MethodName} {n : Nat} (h : (parseMethodDescriptor y.desc).map (fun d => d.parameters.length) = some n) : ∀ sig, parseMethodDescriptor y.desc = some sig → n = sig.parameters.length := fun sig h1 => by
  rw [h1] at h
  exact (Option.some.inj h).symm
theorem z_ws (hts : ∀ w ∈ zG, w.before args s = true) {y : MethodName} {bytes : ByteArray} {maxL : Nat} {ret : Option FieldType} (h : Cond.code y bytes maxL ret ∈ zG) : ∀ w ∈ Cond.code y bytes maxL ret :: zG, ∀ (a' : Array Value) (U : State), s.WarmedH U.vm → w.before a' U = true := fun w hw a' U hW => by
  have hw : w ∈ zG := (List.mem_cons.mp hw).elim (fun e => e ▸ h) id
  exact zw_move (List.mem_filter.mp hw).2 hW (hts w hw)
theorem z_blind {as : List Value} : FrameBlind (z_Pc l D cA N0 zE as T F) := fun a U g mk h => ⟨h.1, h.2.1, z_K.move h.2.2 (State.WarmedH.refl U) (Nat.le_refl _) (fun _ _ _ => rfl)⟩
theorem z_pre {H : Heap} {locs : List Loc} {as : List Value} (hP : z_P D cA N0 T F H) (hS : va_S (fun q => N0 ≤ q) s.heap H locs) (hK : z_K l D cA N0 zE s) (U : State) (hU : U.heap = H) (hW : s.WarmedH U.vm) : z_Pc l D cA N0 zE as T F as.toArray U := ⟨rfl, by rw [hU]; exact hP, z_K.move hK hW (by rw [hU]; exact hS.1) (fun a h1 h2 => by rw [hU]; exact hS.2.1 a h1 h2)⟩
theorem z_back {H : Heap} {locs L : List Loc} {st₀ t T' : State} (h0 : st₀.heap = H) (e1 : T'.heap = t.heap) (hS : va_S (fun q => N0 ≤ q) s.heap H locs) (hL : ∀ q ∈ L, N0 ≤ q.base) (hF : va_F (fun q => N0 ≤ q) st₀ t) : va_S (fun q => N0 ≤ q) s.heap T'.heap (locs ++ L) := by
  obtain ⟨hz, hk⟩ := hF
  rw [h0] at hz hk
  refine ⟨Nat.le_trans hS.1 (by rw [e1]; exact hz), fun q h1 h2 => ?_, fun q hq => ?_⟩
  · rw [e1, hk q (Nat.lt_of_lt_of_le h1 hS.1) h2]
    exact hS.2.1 q h1 h2
  · rcases List.mem_append.mp hq with h | h
    · exact hS.2.2 q h
    · exact hL q h
def z_Mt (l : Launch) (D : va_G) (cA : Nat → ClassId) (N0 zE : Nat) (y : MethodName) (cc : ByteArray) (maxL : Nat) (ret : Option FieldType) (rm : Room) (as : List Value) (T : zT) (F : zF) (Post : Option Value → zT → zF → Prop) : Prop :=
  Met l y (Cond.code y cc maxL ret :: zG) rm (z_Pc l D cA N0 zE as T F) (z_Qc D cA N0 Post) rm.cells rm.slots (fun q => N0 ≤ q)
theorem z_bodyT {l : Launch} {D : va_G} {cA : Nat → ClassId} {N0 zE : Nat} {y : MethodName} {cc : ByteArray} {maxL : Nat} {ret : Option FieldType} {rm : Room} {as : List Value} {T : zT} {F : zF} {Post : Option Value → zT → zF → Prop} (hy : plainName y.cls = true) (hn : (lg_sl as).length ≤ maxL)
    (body : ∀ (p : Program) (e : Env) (s : State) (m : MethodId) (args : Array Value) (below : List Frame) (meth : Method) (c : Code), z_C p l s m args meth c y.cls cc maxL ret D cA N0 zE → meth.name = y.name →
      z_w p l e rm s m args below meth c D cA N0 maxL 0 0 (MQ below (z_Qc D cA N0 Post) args s rm.cells rm.slots (fun q => N0 ≤ q)) 0 (lv_args 0 as) [] T F) : z_Mt l D cA N0 zE y cc maxL ret rm as T F Post := by
  refine Met.ofW (cc := cc) (maxL := maxL) (ret := ret) hy rfl ?_
  intro p e s m args below meth c s₁ B hml hv
  obtain ⟨rfl, hP, hK⟩ := hv
  have hts := atoms_spec (ws := Cond.code y cc maxL ret :: zG) B.pre
  have hC : z_C p l s m as.toArray meth c y.cls cc maxL ret D cA N0 zE := ⟨B.exec, B.bytes, hml, findClass_of_methodNamed B.named, fun w hw => hts w (List.mem_cons_of_mem _ hw), hK, B.notSynchronized, B.returns⟩
  have hl := lv_entry as (n := maxL) hn
  rw [lg_entry_eq]
  exact body p e s m as.toArray below meth c hC (name_of_methodNamed B.named B.method).1 s.heap [] _ hP va_S.rf hl
theorem zr_callV (C : z_C p l s m args meth c own cc nL ret D cA N0 zE) {index n ci N b maxL : Nat} {y : MethodName} {bytes : ByteArray} {ret' : Option FieldType} {rm : Room} {As : List Value} {r : vw_C} {Post : Option Value → zT → zF → Prop} (hM : z_Mt l D cA N0 zE y bytes maxL ret' rm (.ref b :: As) T F Post) (f : z_ok own index y bytes maxL ret' n) (hi : Cond.instanceMethod y ∈ zG) (hse : Cond.selects r.1 y y ∈ zG)
    (hT : T b = some (ci, N)) (hci : ci < 100) (hc : vwCl[ci]? = some r) (hn : As.length = n) (hR : rm.frames + 1 ≤ R.frames ∧ 8 + (maxL + 11) + rm.locals ≤ R.locals) (hf : cells + rm.cells ≤ R.cells ∧ slots + rm.slots ≤ R.slots) (hW : (st.map fun v => v.category).sum ≤ 8) (hdg : decode cc pc = .ok (.invokevirtual index, 3))
    (kk : ∀ (v : Option Value) (T' : zT) (F' : zF), Post v T' F' → z_w p l e R s m args below meth c D cA N0 nL (cells + rm.cells) (slots + rm.slots) Q (pc + 3) lo (v.toList ++ st) T' F') : z_w p l e R s m args below meth c D cA N0 nL cells slots Q pc lo (As.reverse ++ .ref b :: st) T F := by
  intro H locs ls hP hS hL T0 hT0 X
  obtain ⟨hx, hb, hml, hown, hts, hK, -⟩ := id C
  obtain ⟨f1, f2, f3, f4, f5⟩ := f
  obtain ⟨v, st₀, t, T', L, h0, X', hL', e1, e2, ⟨w, T1, F1, hv, hp, hP1, hF⟩, stp⟩ := va_runV (Ts := zG) (C := r.1) ⟨hx, hb, hml, hown, hts⟩ hM ⟨⟨rfl, rfl, hR.1, hR.2, z_ws hts f1, List.mem_cons_self, hts _ f1, hts _ f3, f4, z_len f5, hts _ f2⟩, hts _ hi, hts _ hse⟩ ⟨z_blind, z_obj hP hK hT hci hc, fun U hU hW => z_pre hP hS hK U hU hW⟩ rfl hn hL.1 rfl (lv_room hW) hdg hf T0 hT0 X
  cases hv
  obtain ⟨t2, a1, b1⟩ := kk v T1 F1 hp T'.heap (locs ++ L) ls (by rw [e1]; exact hP1) (z_back h0 e1 hS hL' hF) hL T' rfl X'
  exact ⟨t2, stp t2 a1, b1⟩
theorem zr_callVN (C : z_C p l s m args meth c own cc nL ret D cA N0 zE) {index n ci N b maxL : Nat} {host : String} {y : MethodName} {bytes : ByteArray} {ret' : Option FieldType} {rm : Room} {As : List Value} {r : vw_C} {Post : Option Value → zT → zF → Prop} (hM : z_Mt l D cA N0 zE y bytes maxL ret' rm (.ref b :: As) T F Post) (f : z_okN own index host y bytes maxL ret' n) (hi : Cond.instanceMethod y ∈ zG) (hse : Cond.selects r.1 y y ∈ zG)
    (hT : T b = some (ci, N)) (hci : ci < 100) (hc : vwCl[ci]? = some r) (hn : As.length = n) (hR : rm.frames + 1 ≤ R.frames ∧ 8 + (maxL + 11) + rm.locals ≤ R.locals) (hf : cells + rm.cells ≤ R.cells ∧ slots + rm.slots ≤ R.slots) (hW : (st.map fun v => v.category).sum ≤ 8) (hdg : decode cc pc = .ok (.invokevirtual index, 3))
    (kk : ∀ (v : Option Value) (T' : zT) (F' : zF), Post v T' F' → z_w p l e R s m args below meth c D cA N0 nL (cells + rm.cells) (slots + rm.slots) Q (pc + 3) lo (v.toList ++ st) T' F') : z_w p l e R s m args below meth c D cA N0 nL cells slots Q pc lo (As.reverse ++ .ref b :: st) T F := by
  intro H locs ls hP hS hL T0 hT0 X
  obtain ⟨hx, hb, hml, hown, hts, hK, -⟩ := id C
  obtain ⟨f1, f2, f3, f4, f5⟩ := f
  obtain ⟨v, st₀, t, T', L, h0, X', hL', e1, e2, ⟨w, T1, F1, hv, hp, hP1, hF⟩, stp⟩ := va_runVN (Ts := zG) (C := r.1) (host := host) ⟨hx, hb, hml, hown, hts⟩ hM ⟨⟨⟨rfl, rfl, hR.1, hR.2, z_ws hts f1, List.mem_cons_self⟩, hts _ f1, hts _ f3, f4, z_len f5, hts _ f2⟩, hts _ hi, hts _ hse⟩ ⟨z_blind, z_obj hP hK hT hci hc, fun U hU hW => z_pre hP hS hK U hU hW⟩ rfl hn hL.1 rfl (lv_room hW) hdg hf T0 hT0 X
  cases hv
  obtain ⟨t2, a1, b1⟩ := kk v T1 F1 hp T'.heap (locs ++ L) ls (by rw [e1]; exact hP1) (z_back h0 e1 hS hL' hF) hL T' rfl X'
  exact ⟨t2, stp t2 a1, b1⟩
theorem zr_callS (C : z_C p l s m args meth c own cc nL ret D cA N0 zE) {index n maxL : Nat} {y : MethodName} {bytes : ByteArray} {ret' : Option FieldType} {rm : Room} {As : List Value} {Post : Option Value → zT → zF → Prop} (hM : z_Mt l D cA N0 zE y bytes maxL ret' rm As T F Post) (f : z_ok own index y bytes maxL ret' n) (hi : Cond.static y ∈ zG)
    (hn : As.length = n) (hR : rm.frames + 1 ≤ R.frames ∧ 8 + (maxL + 11) + rm.locals ≤ R.locals) (hf : cells + rm.cells ≤ R.cells ∧ slots + rm.slots ≤ R.slots) (hW : (st.map fun v => v.category).sum ≤ 8) (hdg : decode cc pc = .ok (.invokestatic index, 3))
    (kk : ∀ (v : Option Value) (T' : zT) (F' : zF), Post v T' F' → z_w p l e R s m args below meth c D cA N0 nL (cells + rm.cells) (slots + rm.slots) Q (pc + 3) lo (v.toList ++ st) T' F') : z_w p l e R s m args below meth c D cA N0 nL cells slots Q pc lo (As.reverse ++ st) T F := by
  intro H locs ls hP hS hL T0 hT0 X
  obtain ⟨hx, hb, hml, hown, hts, hK, -⟩ := id C
  obtain ⟨f1, f2, f3, f4, f5⟩ := f
  obtain ⟨v, st₀, t, T', L, h0, X', hL', e1, e2, ⟨w, T1, F1, hv, hp, hP1, hF⟩, stp⟩ := va_runS (Ts := zG) ⟨hx, hb, hml, hown, hts⟩ hM ⟨⟨rfl, rfl, hR.1, hR.2, z_ws hts f1, List.mem_cons_self, hts _ f1, hts _ f3, f4, z_len f5, hts _ f2⟩, hts _ hi⟩ ⟨z_blind, fun U hU hW => z_pre hP hS hK U hU hW⟩ rfl hn hL.1 rfl (lv_room hW) hdg hf T0 hT0 X
  cases hv
  obtain ⟨t2, a1, b1⟩ := kk v T1 F1 hp T'.heap (locs ++ L) ls (by rw [e1]; exact hP1) (z_back h0 e1 hS hL' hF) hL T' rfl X'
  exact ⟨t2, stp t2 a1, b1⟩
theorem zr_callI (C : z_C p l s m args meth c own cc nL ret D cA N0 zE) {index n b maxL : Nat} {y : MethodName} {bytes : ByteArray} {rm : Room} {As : List Value} {Post : Option Value → zT → zF → Prop} (hM : z_Mt l D cA N0 zE y bytes maxL none rm (.ref b :: As) T F Post) (f : z_ok own index y bytes maxL none n) (hi : Cond.instanceMethod y ∈ zG) (hnm : y.name = "<init>")
    (hn : As.length = n) (hR : rm.frames + 1 ≤ R.frames ∧ 8 + (maxL + 11) + rm.locals ≤ R.locals) (hf : cells + rm.cells ≤ R.cells ∧ slots + rm.slots ≤ R.slots) (hW : (st.map fun v => v.category).sum ≤ 8) (hdg : decode cc pc = .ok (.invokespecial index, 3))
    (kk : ∀ (v : Option Value) (T' : zT) (F' : zF), Post v T' F' → z_w p l e R s m args below meth c D cA N0 nL (cells + rm.cells) (slots + rm.slots) Q (pc + 3) lo (v.toList ++ st) T' F') : z_w p l e R s m args below meth c D cA N0 nL cells slots Q pc lo (As.reverse ++ .ref b :: st) T F := by
  intro H locs ls hP hS hL T0 hT0 X
  obtain ⟨hx, hb, hml, hown, hts, hK, -⟩ := id C
  obtain ⟨f1, f2, f3, f4, f5⟩ := f
  obtain ⟨v, st₀, t, T', L, h0, X', hL', e1, e2, ⟨w, T1, F1, hv, hp, hP1, hF⟩, stp⟩ := va_runI (Ts := zG) ⟨hx, hb, hml, hown, hts⟩ hM ⟨⟨rfl, rfl, hR.1, hR.2, z_ws hts f1, List.mem_cons_self, hts _ f1, hts _ f3, f4, z_len f5, hts _ f2⟩, hnm, hts _ hi⟩ ⟨z_blind, fun U hU hW => z_pre hP hS hK U hU hW⟩ rfl hn hL.1 rfl (lv_room hW) hdg hf T0 hT0 X
  cases hv
  obtain ⟨t2, a1, b1⟩ := kk v T1 F1 hp T'.heap (locs ++ L) ls (by rw [e1]; exact hP1) (z_back h0 e1 hS hL' hF) hL T' rfl X'
  exact ⟨t2, stp t2 a1, b1⟩
theorem zr_callIN (C : z_C p l s m args meth c own cc nL ret D cA N0 zE) {index n b maxL : Nat} {host : String} {y : MethodName} {bytes : ByteArray} {rm : Room} {As : List Value} {Post : Option Value → zT → zF → Prop} (hM : z_Mt l D cA N0 zE y bytes maxL none rm (.ref b :: As) T F Post) (f : z_okN own index host y bytes maxL none n) (hi : Cond.instanceMethod y ∈ zG) (hnm : y.name = "<init>")
    (hn : As.length = n) (hR : rm.frames + 1 ≤ R.frames ∧ 8 + (maxL + 11) + rm.locals ≤ R.locals) (hf : cells + rm.cells ≤ R.cells ∧ slots + rm.slots ≤ R.slots) (hW : (st.map fun v => v.category).sum ≤ 8) (hdg : decode cc pc = .ok (.invokespecial index, 3))
    (kk : ∀ (v : Option Value) (T' : zT) (F' : zF), Post v T' F' → z_w p l e R s m args below meth c D cA N0 nL (cells + rm.cells) (slots + rm.slots) Q (pc + 3) lo (v.toList ++ st) T' F') : z_w p l e R s m args below meth c D cA N0 nL cells slots Q pc lo (As.reverse ++ .ref b :: st) T F := by
  intro H locs ls hP hS hL T0 hT0 X
  obtain ⟨hx, hb, hml, hown, hts, hK, -⟩ := id C
  obtain ⟨f1, f2, f3, f4, f5⟩ := f
  obtain ⟨v, st₀, t, T', L, h0, X', hL', e1, e2, ⟨w, T1, F1, hv, hp, hP1, hF⟩, stp⟩ := va_runIN (Ts := zG) (host := host) ⟨hx, hb, hml, hown, hts⟩ hM ⟨⟨⟨rfl, rfl, hR.1, hR.2, z_ws hts f1, List.mem_cons_self⟩, hts _ f1, hts _ f3, f4, z_len f5, hts _ f2⟩, hnm, hts _ hi⟩ ⟨z_blind, fun U hU hW => z_pre hP hS hK U hU hW⟩ rfl hn hL.1 rfl (lv_room hW) hdg hf T0 hT0 X
  cases hv
  obtain ⟨t2, a1, b1⟩ := kk v T1 F1 hp T'.heap (locs ++ L) ls (by rw [e1]; exact hP1) (z_back h0 e1 hS hL' hF) hL T' rfl X'
  exact ⟨t2, stp t2 a1, b1⟩
theorem zr_callVX (C : z_C p l s m args meth c own cc nL ret D cA N0 zE) {index n ci N b maxL : Nat} {y : MethodName} {bytes : ByteArray} {ret' : Option FieldType} {rm : Room} {As : List Value} {r : vw_C} {Post : Option Value → zT → zF → Prop} {PX : String → zT → zF → Prop} (hM : z_Met l D cA N0 zE y bytes maxL ret' rm (.ref b :: As) T F Post PX) (f : z_ok own index y bytes maxL ret' n) (hi : Cond.instanceMethod y ∈ zG) (hse : Cond.selects r.1 y y ∈ zG)
    (hT : T b = some (ci, N)) (hci : ci < 100) (hc : vwCl[ci]? = some r) (hn : As.length = n) (hR : rm.frames + 1 ≤ R.frames ∧ 8 + (maxL + 11) + rm.locals ≤ R.locals) (hf : cells + rm.cells ≤ R.cells ∧ slots + rm.slots ≤ R.slots) (hW : (st.map fun v => v.category).sum ≤ 8) (hdg : decode cc pc = .ok (.invokevirtual index, 3))
    (kx : ∀ (E : String) (T' : zT) (F' : zF), PX E T' F' → z_x p l e R s m args below meth c D cA N0 nL (cells + rm.cells) (slots + rm.slots) Q pc lo st E T' F')
    (kk : ∀ (v : Option Value) (T' : zT) (F' : zF), Post v T' F' → z_w p l e R s m args below meth c D cA N0 nL (cells + rm.cells) (slots + rm.slots) Q (pc + 3) lo (v.toList ++ st) T' F') : z_w p l e R s m args below meth c D cA N0 nL cells slots Q pc lo (As.reverse ++ .ref b :: st) T F := by
  intro H locs ls hP hS hL T0 hT0 X
  obtain ⟨hx, hb, hml, hown, hts, hK, -⟩ := id C
  obtain ⟨f1, f2, f3, f4, f5⟩ := f
  rcases vx_runV (Ts := zG) (C := r.1) ⟨hx, hb, hml, hown, hts⟩ hM ⟨⟨rfl, rfl, hR.1, hR.2, z_ws hts f1, List.mem_cons_self, hts _ f1, hts _ f3, f4, z_len f5, hts _ f2⟩, hts _ hi, hts _ hse⟩ ⟨z_blind, z_obj hP hK hT hci hc, fun U hU hW => z_pre hP hS hK U hU hW⟩ rfl hn hL.1 rfl (lv_room hW) hdg hf T0 hT0 X with ⟨v, st₀, t, T', L, h0, X', hL', e1, e2, ⟨w, T1, F1, hv, hp, hP1, hF⟩, stp⟩ | ⟨q, st₀, t, T', L, E, ce, h0, X', hL', e1, e2, ⟨T1, F1, hp, hP1, hF⟩, hce, hcv, hcl, stp⟩
  · cases hv
    obtain ⟨t2, a1, b1⟩ := kk v T1 F1 hp T'.heap (locs ++ L) ls (by rw [e1]; exact hP1) (z_back h0 e1 hS hL' hF) hL T' rfl X'
    exact ⟨t2, stp t2 a1, b1⟩
  · obtain ⟨t2, a1, b1⟩ := kx E T1 F1 hp T'.heap (locs ++ L) ls ce q (by rw [e1]; exact hP1) (z_back h0 e1 hS hL' hF) hL (by rw [e1]; exact hce) hcv hcl T' rfl X'
    exact ⟨t2, stp.trans a1, b1⟩
theorem zr_callSX (C : z_C p l s m args meth c own cc nL ret D cA N0 zE) {index n maxL : Nat} {y : MethodName} {bytes : ByteArray} {ret' : Option FieldType} {rm : Room} {As : List Value} {Post : Option Value → zT → zF → Prop} {PX : String → zT → zF → Prop} (hM : z_Met l D cA N0 zE y bytes maxL ret' rm As T F Post PX) (f : z_ok own index y bytes maxL ret' n) (hi : Cond.static y ∈ zG)
    (hn : As.length = n) (hR : rm.frames + 1 ≤ R.frames ∧ 8 + (maxL + 11) + rm.locals ≤ R.locals) (hf : cells + rm.cells ≤ R.cells ∧ slots + rm.slots ≤ R.slots) (hW : (st.map fun v => v.category).sum ≤ 8) (hdg : decode cc pc = .ok (.invokestatic index, 3))
    (kx : ∀ (E : String) (T' : zT) (F' : zF), PX E T' F' → z_x p l e R s m args below meth c D cA N0 nL (cells + rm.cells) (slots + rm.slots) Q pc lo st E T' F')
    (kk : ∀ (v : Option Value) (T' : zT) (F' : zF), Post v T' F' → z_w p l e R s m args below meth c D cA N0 nL (cells + rm.cells) (slots + rm.slots) Q (pc + 3) lo (v.toList ++ st) T' F') : z_w p l e R s m args below meth c D cA N0 nL cells slots Q pc lo (As.reverse ++ st) T F := by
  intro H locs ls hP hS hL T0 hT0 X
  obtain ⟨hx, hb, hml, hown, hts, hK, -⟩ := id C
  obtain ⟨f1, f2, f3, f4, f5⟩ := f
  rcases vx_runS (Ts := zG) ⟨hx, hb, hml, hown, hts⟩ hM ⟨⟨rfl, rfl, hR.1, hR.2, z_ws hts f1, List.mem_cons_self, hts _ f1, hts _ f3, f4, z_len f5, hts _ f2⟩, hts _ hi⟩ ⟨z_blind, fun U hU hW => z_pre hP hS hK U hU hW⟩ rfl hn hL.1 rfl (lv_room hW) hdg hf T0 hT0 X with ⟨v, st₀, t, T', L, h0, X', hL', e1, e2, ⟨w, T1, F1, hv, hp, hP1, hF⟩, stp⟩ | ⟨q, st₀, t, T', L, E, ce, h0, X', hL', e1, e2, ⟨T1, F1, hp, hP1, hF⟩, hce, hcv, hcl, stp⟩
  · cases hv
    obtain ⟨t2, a1, b1⟩ := kk v T1 F1 hp T'.heap (locs ++ L) ls (by rw [e1]; exact hP1) (z_back h0 e1 hS hL' hF) hL T' rfl X'
    exact ⟨t2, stp t2 a1, b1⟩
  · obtain ⟨t2, a1, b1⟩ := kx E T1 F1 hp T'.heap (locs ++ L) ls ce q (by rw [e1]; exact hP1) (z_back h0 e1 hS hL' hF) hL (by rw [e1]; exact hce) hcv hcl T' rfl X'
    exact ⟨t2, stp.trans a1, b1⟩
/-! ends -/
theorem zr_iret (C : z_C p l s m args meth c own cc nL ret D cA N0 zE) {v : Int32} {mc ms : Nat} {Post : Option Value → zT → zF → Prop} (hr : ret = some .int) (hp : Post (some (.int v)) T F) (hc1 : cells ≤ mc) (hs1 : slots ≤ ms) (hdg : decode cc pc = .ok (.ireturn, 1)) : z_w p l e R s m args below meth c D cA N0 nL cells slots (MQ below (z_Qc D cA N0 Post) args s mc ms (fun q => N0 ≤ q)) pc lo [.int v] T F :=
  fun H locs ls hP hS hL => W.widen hc1 hs1 (W.iret C.1 C.2.1 (by rw [C.2.2.2.2.2.2.2, hr]) (fun t ht hW => ⟨_, T, F, rfl, hp, by rw [ht]; exact hP, hS.F ht⟩) hS.2.2 hdg C.2.2.2.2.2.2.1)
theorem zr_zret (C : z_C p l s m args meth c own cc nL ret D cA N0 zE) {v : Int32} {mc ms : Nat} {Post : Option Value → zT → zF → Prop} (hr : ret = some .boolean) (hv : v = 0 ∨ v = 1) (hp : Post (some (.int v)) T F) (hc1 : cells ≤ mc) (hs1 : slots ≤ ms) (hdg : decode cc pc = .ok (.ireturn, 1)) : z_w p l e R s m args below meth c D cA N0 nL cells slots (MQ below (z_Qc D cA N0 Post) args s mc ms (fun q => N0 ≤ q)) pc lo [.int v] T F :=
  fun H locs ls hP hS hL => W.widen hc1 hs1 (W.zret C.1 C.2.1 (by rw [C.2.2.2.2.2.2.2, hr]) (by rcases hv with rfl | rfl <;> rfl) (fun t ht hW => ⟨_, T, F, rfl, hp, by rw [ht]; exact hP, hS.F ht⟩) hS.2.2 hdg C.2.2.2.2.2.2.1)
theorem zr_lret (C : z_C p l s m args meth c own cc nL ret D cA N0 zE) {v : Int64} {mc ms : Nat} {Post : Option Value → zT → zF → Prop} (hr : ret = some .long) (hp : Post (some (.long v)) T F) (hc1 : cells ≤ mc) (hs1 : slots ≤ ms) (hdg : decode cc pc = .ok (.lreturn, 1)) : z_w p l e R s m args below meth c D cA N0 nL cells slots (MQ below (z_Qc D cA N0 Post) args s mc ms (fun q => N0 ≤ q)) pc lo [.long v] T F :=
  fun H locs ls hP hS hL => W.widen hc1 hs1 (W.lret C.1 C.2.1 (by rw [C.2.2.2.2.2.2.2, hr]) (fun t ht hW => ⟨_, T, F, rfl, hp, by rw [ht]; exact hP, hS.F ht⟩) hS.2.2 hdg C.2.2.2.2.2.2.1)
theorem zr_vret (C : z_C p l s m args meth c own cc nL ret D cA N0 zE) {mc ms : Nat} {Post : Option Value → zT → zF → Prop} (hr : ret = none) (hp : Post none T F) (hc1 : cells ≤ mc) (hs1 : slots ≤ ms) (hdg : decode cc pc = .ok (.return_, 1)) : z_w p l e R s m args below meth c D cA N0 nL cells slots (MQ below (z_Qc D cA N0 Post) args s mc ms (fun q => N0 ≤ q)) pc lo [] T F :=
  fun H locs ls hP hS hL => W.widen hc1 hs1 (W.vret C.1 C.2.1 (by rw [C.2.2.2.2.2.2.2, hr]) (fun t ht hW => ⟨_, T, F, rfl, hp, by rw [ht]; exact hP, hS.F ht⟩) hS.2.2 hdg C.2.2.2.2.2.2.1)
theorem zr_aret (C : z_C p l s m args meth c own cc nL ret D cA N0 zE) {v : Value} {rt : FieldType} {mc ms : Nat} {Post : Option Value → zT → zF → Prop} (hr : ret = some rt) (hrt : (∃ n, rt = .object n) ∨ ∃ t, rt = .array t) (hv : v = .null ∨ ∃ a, v = .ref a) (hp : Post (some v) T F) (hc1 : cells ≤ mc) (hs1 : slots ≤ ms) (hdg : decode cc pc = .ok (.areturn, 1)) : z_w p l e R s m args below meth c D cA N0 nL cells slots (MQ below (z_Qc D cA N0 Post) args s mc ms (fun q => N0 ≤ q)) pc lo [v] T F :=
  fun H locs ls hP hS hL => W.widen hc1 hs1 (W.aret C.1 C.2.1 (by rw [C.2.2.2.2.2.2.2, hr]) hrt hv (fun t ht hW => ⟨_, T, F, rfl, hp, by rw [ht]; exact hP, hS.F ht⟩) hS.2.2 hdg C.2.2.2.2.2.2.1)
/-- a body that may throw ends by returning -/
theorem zr_X {XC : String → State → State → Prop} {Qc : Array Value → State → Outcome → State → Prop} {mc ms : Nat} {free : Addr → Prop} (k : z_w p l e R s m args below meth c D cA N0 nL cells slots (MQ below Qc args s mc ms free) pc lo st T F) : z_w p l e R s m args below meth c D cA N0 nL cells slots (vx_MQ below Qc XC args s mc ms free) pc lo st T F :=
  fun H locs ls hP hS hL => vx_ret (k H locs ls hP hS hL)
theorem zr_out (C : z_C p l s m args meth c own cc nL ret D cA N0 zE) {E : String} {mc ms : Nat} {Qc : Array Value → State → Outcome → State → Prop} {PX : String → zT → zF → Prop} (hxt : ∀ x ∈ c.exceptionTable.toList, covers x pc = false) (hp : PX E T F) (hc1 : cells ≤ mc) (hs1 : slots ≤ ms) : z_x p l e R s m args below meth c D cA N0 nL cells slots (vx_MQ below Qc (z_XC D cA N0 PX) args s mc ms (fun q => N0 ≤ q)) pc lo st E T F :=
  fun H locs ls ce q hP hS hL h1 h2 h3 => vx_out hxt C.2.2.2.2.2.2.1 h1 h2 h3 (fun t ht _ => ⟨T, F, hp, by rw [ht]; exact hP, hS.F ht⟩) hS.2.2 hc1 hs1
def z_thr (own : String) (ik ic is : Nat) (cls text : String) (names : List String) : Prop := Bundle.fit cls = true ∧ (∀ n ∈ names, Bundle.fit n = true) ∧ Cond.classLink own ik cls ∈ zG ∧ Cond.initialized cls ∈ zG ∧ (own, is, text) ∈ z_strs ∧ (∀ w ∈ vx_atS own ic cls names, w ∈ zG) ∧ (∀ w ∈ Cond.classLink own ik cls :: Cond.initialized cls :: vx_atS own ic cls names, vx_ot w = true)
theorem zr_throw (C : z_C p l s m args meth c own cc nL ret D cA N0 zE) {cls text : String} {names : List String} {ik ic is mc ms : Nat} {Qc : Array Value → State → Outcome → State → Prop} {PX : String → zT → zF → Prop} (f : z_thr own ik ic is cls text names) (hxt : ∀ x ∈ c.exceptionTable.toList, covers x (pc + 9) = false) (hp : PX cls T F)
    (d0 : decode cc pc = .ok (.new ik, 3)) (d3 : decode cc (pc + 3) = .ok (.dup, 1)) (d4 : decode cc (pc + 4) = .ok (.ldc is, 2)) (d6 : decode cc (pc + 6) = .ok (.invokespecial ic, 3)) (d9 : decode cc (pc + 9) = .ok (.athrow, 1))
    (hRf : names.length + 3 < R.frames) (hRl : (st.map fun v => v.category).sum + (13 * (names.length + 1) + 43) ≤ R.locals) (hRc : cells + 1 ≤ R.cells ∧ slots + 6 ≤ R.slots) (hm : cells + 1 ≤ mc ∧ slots + 6 ≤ ms) : z_w p l e R s m args below meth c D cA N0 nL cells slots (vx_MQ below Qc (z_XC D cA N0 PX) args s mc ms (fun q => N0 ≤ q)) pc lo st T F := by
  intro H locs ls hP hS hL
  obtain ⟨hx, hb, hml, hown, hts, hK, hlk, -⟩ := id C
  obtain ⟨f1, f2, f3, f4, f5, f6, f7⟩ := f
  obtain ⟨sa, hsa⟩ := hK.2.2.2.2.2.2.2.1 _ f5
  exact vx_throwS hx hb hK.1 hown f1 f2 (hts _ f3) (hts _ f4) hsa (fun w hw => hts w (f6 w hw)) f7 hK.2.2.2.2.2.1 hK.2.2.2.2.2.2.1 hS (by rw [hml]; exact hL.1) d0 d3 d4 d6 d9 hxt hRf hRl hRc.1 hRc.2 hlk (fun t _ h1 h2 => ⟨T, F, hp, hP.kept (fun q hq => h2 q hq), ⟨Nat.le_trans hS.1 h1, fun q h3 h4 => (h2 q (Nat.lt_of_lt_of_le h3 hS.1)).trans (hS.2.1 q h3 h4)⟩⟩) hS.2.2 hm.1 hm.2
theorem zr_throwW (C : z_C p l s m args meth c own cc nL ret D cA N0 zE) {cls text : String} {names : List String} {ik ic is mc ms : Nat} {Qc : Array Value → State → Outcome → State → Prop} {PX : String → zT → zF → Prop} (f : z_thr own ik ic is cls text names) (hxt : ∀ x ∈ c.exceptionTable.toList, covers x (pc + 10) = false) (hp : PX cls T F)
    (d0 : decode cc pc = .ok (.new ik, 3)) (d3 : decode cc (pc + 3) = .ok (.dup, 1)) (d4 : decode cc (pc + 4) = .ok (.ldc_w is, 3)) (d7 : decode cc (pc + 7) = .ok (.invokespecial ic, 3)) (d10 : decode cc (pc + 10) = .ok (.athrow, 1))
    (hRf : names.length + 3 < R.frames) (hRl : (st.map fun v => v.category).sum + (13 * (names.length + 1) + 43) ≤ R.locals) (hRc : cells + 1 ≤ R.cells ∧ slots + 6 ≤ R.slots) (hm : cells + 1 ≤ mc ∧ slots + 6 ≤ ms) : z_w p l e R s m args below meth c D cA N0 nL cells slots (vx_MQ below Qc (z_XC D cA N0 PX) args s mc ms (fun q => N0 ≤ q)) pc lo st T F := by
  intro H locs ls hP hS hL
  obtain ⟨hx, hb, hml, hown, hts, hK, hlk, -⟩ := id C
  obtain ⟨f1, f2, f3, f4, f5, f6, f7⟩ := f
  obtain ⟨sa, hsa⟩ := hK.2.2.2.2.2.2.2.1 _ f5
  exact vx_throwSW hx hb hK.1 hown f1 f2 (hts _ f3) (hts _ f4) hsa (fun w hw => hts w (f6 w hw)) f7 hK.2.2.2.2.2.1 hK.2.2.2.2.2.2.1 hS (by rw [hml]; exact hL.1) d0 d3 d4 d7 d10 hxt hRf hRl hRc.1 hRc.2 hlk (fun t _ h1 h2 => ⟨T, F, hp, hP.kept (fun q hq => h2 q hq), ⟨Nat.le_trans hS.1 h1, fun q h3 h4 => (h2 q (Nat.lt_of_lt_of_le h3 hS.1)).trans (hS.2.1 q h3 h4)⟩⟩) hS.2.2 hm.1 hm.2
end ZR
section ZR5
variable {p : Program} {l : Launch} {e : Env} {R : Room} {s : State} {m : MethodId} {args : Array Value} {below : List Frame} {meth : Method} {c : Code} {Q : State → Prop}
variable {D : va_G} {cA : Nat → ClassId} {N0 zE nL cells slots pc : Nat} {own : String} {cc : ByteArray} {ret : Option FieldType} {T : zT} {F : zF} {lo lo' : List (Nat × Value)} {st : List Value}
theorem zr_eqi {x y : Int32} (h : x = y) (k : z_w p l e R s m args below meth c D cA N0 nL cells slots Q pc lo (.int y :: st) T F) : z_w p l e R s m args below meth c D cA N0 nL cells slots Q pc lo (.int x :: st) T F := h ▸ k
theorem zr_lald (C : z_C p l s m args meth c own cc nL ret D cA N0 zE) {a n : Nat} {i : Int32} {x : Int64} (hj : z_tys[3]? = some .long) (hT : T a = some (103, n)) (hin : vp_in i n) (hv : F a i.toNatClampNeg = .long x) (hdg : decode cc pc = .ok (.laload, 1))
    (kk : z_w p l e R s m args below meth c D cA N0 nL cells slots Q (pc + 1) lo (.long x :: st) T F) : z_w p l e R s m args below meth c D cA N0 nL cells slots Q pc lo (.int i :: .ref a :: st) T F := by
  intro H locs ls hP hS hL
  have hlt : i.toNatClampNeg < n := Nat.not_le.mp fun q => hin (Or.inr q)
  exact W.lald C.1 C.2.1 (z_arr hP hT (by decide) (by omega) (by decide)) ((C.2.2.2.2.2.1.2.2.2.1 _ _ hj).1 n (F a)) (fun q => by cases q) (by rw [arrV_size]; exact hin) (by rw [arrV_read _ _ hlt, hv]) rfl rfl hdg (kk H locs ls hP hS hL)
theorem zr_last (C : z_C p l s m args meth c own cc nL ret D cA N0 zE) {a n : Nat} {i : Int32} {x : Int64} (hj : z_tys[3]? = some .long) (hT : T a = some (103, n)) (hin : vp_in i n) (hdg : decode cc pc = .ok (.lastore, 1))
    (kk : z_w p l e R s m args below meth c D cA N0 nL cells slots Q (pc + 1) lo st T (zu F a i.toNatClampNeg (.long x))) : z_w p l e R s m args below meth c D cA N0 nL cells slots Q pc lo (.long x :: .int i :: .ref a :: st) T F := by
  intro H locs ls hP hS hL
  have hlt : i.toNatClampNeg < n := Nat.not_le.mp fun q => hin (Or.inr q)
  refine W.last C.1 C.2.1 (z_arr hP hT (by decide) (by omega) (by decide)) ((C.2.2.2.2.2.1.2.2.2.1 _ _ hj).1 n (F a)) (fun q => by cases q) (by rw [arrV_size]; exact hin) rfl rfl hdg fun H1 e1 z1 oq => ?_
  exact kk H1 _ ls (z_st hP hT (by decide) e1 oq) (hS.put z1 oq (z_arrN hP hT (by omega))) hL
theorem zr_iald4 (C : z_C p l s m args meth c own cc nL ret D cA N0 zE) {a n : Nat} {i x : Int32} (hj : z_tys[4]? = some .int) (hT : T a = some (104, n)) (hin : vp_in i n) (hv : F a i.toNatClampNeg = .int x) (hdg : decode cc pc = .ok (.iaload, 1))
    (kk : z_w p l e R s m args below meth c D cA N0 nL cells slots Q (pc + 1) lo (.int x :: st) T F) : z_w p l e R s m args below meth c D cA N0 nL cells slots Q pc lo (.int i :: .ref a :: st) T F := by
  intro H locs ls hP hS hL
  have hlt : i.toNatClampNeg < n := Nat.not_le.mp fun q => hin (Or.inr q)
  obtain ⟨cl, g1, g2, g3, g4, g5⟩ := z_arrG hP hT (by decide) (C.2.2.2.2.2.1.2.2.2.1 4 _ hj).1
  exact W.iald (v := .int x) C.1 C.2.1 g1 g2 g5 (by rw [g3]; exact hin) (by rw [g4 _ hlt, hv]) rfl rfl hdg (kk H locs ls hP hS hL)
theorem zr_dconst (C : z_C p l s m args meth c own cc nL ret D cA N0 zE) (hdg : decode cc pc = .ok (.dconst 0, 1)) (k : z_w p l e R s m args below meth c D cA N0 nL cells slots Q (pc + 1) lo (.double FP.dconst0 :: st) T F) : z_w p l e R s m args below meth c D cA N0 nL cells slots Q pc lo st T F :=
  fun H locs ls hP hS hL => lv_dconst0 C.1 C.2.1 hdg (k H locs ls hP hS hL)
theorem zr_dload_n (C : z_C p l s m args meth c own cc nL ret D cA N0 zE) {n : Fin 4} {x : UInt64} (j : Nat) {i : Nat} (hdg : decode cc pc = .ok (.dload_n n, 1)) (hi : (n : Nat) = i) (hl : lo[j]? = some (i, .double x)) (k : z_w p l e R s m args below meth c D cA N0 nL cells slots Q (pc + 1) lo (.double x :: st) T F) : z_w p l e R s m args below meth c D cA N0 nL cells slots Q pc lo st T F :=
  fun H locs ls hP hS hL => lv_dload_n C.1 C.2.1 hdg hi (lv_at hL j hl) (k H locs ls hP hS hL)
theorem zr_dload (C : z_C p l s m args meth c own cc nL ret D cA N0 zE) {x : UInt64} (j : Nat) {i : Nat} (hdg : decode cc pc = .ok (.dload i, 2)) (hl : lo[j]? = some (i, .double x)) (k : z_w p l e R s m args below meth c D cA N0 nL cells slots Q (pc + 2) lo (.double x :: st) T F) : z_w p l e R s m args below meth c D cA N0 nL cells slots Q pc lo st T F :=
  fun H locs ls hP hS hL => lv_dload C.1 C.2.1 hdg (lv_at hL j hl) (k H locs ls hP hS hL)
theorem zr_dstore_n (C : z_C p l s m args meth c own cc nL ret D cA N0 zE) (lo' : List (Nat × Value)) {n : Fin 4} {i : Nat} {x : UInt64} (hdg : decode cc pc = .ok (.dstore_n n, 1)) (hi : (n : Nat) = i) (hn : i + 1 < nL) (hl : (i, Value.double x) :: lo.filter (fun q => !(q.1 == i) && (!(q.1 == i + 1) && !(q.1 + 1 == i && q.2.category == 2))) = lo') (k : z_w p l e R s m args below meth c D cA N0 nL cells slots Q (pc + 1) lo' st T F) : z_w p l e R s m args below meth c D cA N0 nL cells slots Q pc lo (.double x :: st) T F :=
  fun H locs ls hP hS hL => lv_dstore_n C.1 C.2.1 hdg hi hL hn hl (fun ls hl => k H locs ls hP hS hl)
theorem zr_dstore (C : z_C p l s m args meth c own cc nL ret D cA N0 zE) (lo' : List (Nat × Value)) {i : Nat} {x : UInt64} (hdg : decode cc pc = .ok (.dstore i, 2)) (hn : i + 1 < nL) (hl : (i, Value.double x) :: lo.filter (fun q => !(q.1 == i) && (!(q.1 == i + 1) && !(q.1 + 1 == i && q.2.category == 2))) = lo') (k : z_w p l e R s m args below meth c D cA N0 nL cells slots Q (pc + 2) lo' st T F) : z_w p l e R s m args below meth c D cA N0 nL cells slots Q pc lo (.double x :: st) T F :=
  fun H locs ls hP hS hL => lv_dstore C.1 C.2.1 hdg hL hn hl (fun ls hl => k H locs ls hP hS hl)
theorem zr_dcmp (C : z_C p l s m args meth c own cc nL ret D cA N0 zE) {x y : UInt64} {op : CmpOp} (hdg : decode cc pc = .ok (.dcmp op, 1)) (k : z_w p l e R s m args below meth c D cA N0 nL cells slots Q (pc + 1) lo (.int (Op.cmpValue (FP.dcmp x y) op) :: st) T F) : z_w p l e R s m args below meth c D cA N0 nL cells slots Q pc lo (.double y :: .double x :: st) T F :=
  fun H locs ls hP hS hL => lv_dcmp C.1 C.2.1 hdg (k H locs ls hP hS hL)
theorem zr_dret (C : z_C p l s m args meth c own cc nL ret D cA N0 zE) {v : UInt64} {mc ms : Nat} {Post : Option Value → zT → zF → Prop} (hr : ret = some .double) (hp : Post (some (.double v)) T F) (hc1 : cells ≤ mc) (hs1 : slots ≤ ms) (hdg : decode cc pc = .ok (.dreturn, 1)) : z_w p l e R s m args below meth c D cA N0 nL cells slots (MQ below (z_Qc D cA N0 Post) args s mc ms (fun q => N0 ≤ q)) pc lo [.double v] T F :=
  fun H locs ls hP hS hL => W.widen hc1 hs1 (W.dret C.1 C.2.1 (by rw [C.2.2.2.2.2.2.2, hr]) (fun t ht hW => ⟨_, T, F, rfl, hp, by rw [ht]; exact hP, hS.F ht⟩) hS.2.2 hdg C.2.2.2.2.2.2.1)
/-- an exception that a row of the table takes -/
theorem zr_catch (C : z_C p l s m args meth c own cc nL ret D cA N0 zE) {E : String} (name : String) (tb pre : List ExceptionTableEntry) (x : ExceptionTableEntry) (suf : List ExceptionTableEntry) (tgt : Nat) (hxt : c.exceptionTable.toList = tb) (hsplit : tb = pre ++ x :: suf)
    (hpass : ∀ z ∈ pre, covers z pc = false ∨ (z.catchType ≠ 0 ∧ ∃ nm : String, Cond.classLink own z.catchType nm ∈ zG ∧ (E, nm) ∈ z_ncs)) (hx : covers x pc = true) (h0 : x.catchType ≠ 0) (hw : Cond.classLink own x.catchType name ∈ zG) (hw2 : Cond.castable E name ∈ zG) (ht : x.handlerPc = tgt)
    (kk : ∀ q : Nat, z_w p l e R s m args below meth c D cA N0 nL cells slots Q tgt lo [.ref q] T F) : z_x p l e R s m args below meth c D cA N0 nL cells slots Q pc lo st E T F := by
  intro H locs ls ce q hP hS hL h1 h2 h3
  subst ht
  exact vx_catch C.2.2.2.1 pre x suf (hxt.trans hsplit) (fun z hz => (hpass z hz).imp id fun g => ⟨g.1, g.2.imp fun nm g2 => ⟨C.2.2.2.2.1 _ g2.1, C.2.2.2.2.2.1.2.2.2.2.2.2.2.2.1 _ g2.2⟩⟩) hx h0 (C.2.2.2.2.1 _ hw) (C.2.2.2.2.1 _ hw2) h1 h2 h3 (kk q H locs ls hP hS hL)
/-! a method with a table of handlers -/
def z_MH (l : Launch) (D : va_G) (cA : Nat → ClassId) (N0 zE : Nat) (y : MethodName) (cc : ByteArray) (maxL : Nat) (ret : Option FieldType) (hh : List (Nat × Nat × Nat × Nat)) (rm : Room) (as : List Value) (T : zT) (F : zF) (Post : Option Value → zT → zF → Prop) (PX : String → zT → zF → Prop) : Prop :=
  vx_Met l y (Cond.codeWith y cc maxL ret hh :: zG) rm (z_Pc l D cA N0 zE as T F) (z_Qc D cA N0 Post) (z_XC D cA N0 PX) rm.cells rm.slots (fun q => N0 ≤ q)
theorem z_bodyH {l : Launch} {D : va_G} {cA : Nat → ClassId} {N0 zE : Nat} {y : MethodName} {cc : ByteArray} {maxL : Nat} {ret : Option FieldType} {hh : List (Nat × Nat × Nat × Nat)} {rm : Room} {as : List Value} {T : zT} {F : zF} {Post : Option Value → zT → zF → Prop} {PX : String → zT → zF → Prop} (hy : plainName y.cls = true) (hn : (lg_sl as).length ≤ maxL)
    (body : ∀ (p : Program) (e : Env) (s : State) (m : MethodId) (args : Array Value) (below : List Frame) (meth : Method) (c : Code), z_C p l s m args meth c y.cls cc maxL ret D cA N0 zE → c.exceptionTable.toList = tableOf hh → meth.name = y.name →
      z_w p l e rm s m args below meth c D cA N0 maxL 0 0 (vx_MQ below (z_Qc D cA N0 Post) (z_XC D cA N0 PX) args s rm.cells rm.slots (fun q => N0 ≤ q)) 0 (lv_args 0 as) [] T F) : z_MH l D cA N0 zE y cc maxL ret hh rm as T F Post PX := by
  refine vx_ofWH (cc := cc) (maxL := maxL) (ret := ret) (hh := hh) hy rfl ?_
  intro p e s m args below meth c s₁ B hml hv
  obtain ⟨rfl, hP, hK⟩ := hv
  have hts := atoms_spec (ws := Cond.codeWith y cc maxL ret hh :: zG) B.pre
  have hC : z_C p l s m as.toArray meth c y.cls cc maxL ret D cA N0 zE := ⟨B.exec, B.bytes, hml, findClass_of_methodNamed B.named, fun w hw => hts w (List.mem_cons_of_mem _ hw), hK, B.notSynchronized, B.returns⟩
  have hl := lv_entry as (n := maxL) hn
  rw [lg_entry_eq]
  exact body p e s m as.toArray below meth c hC (vx_table (x := y) B (hts _ List.mem_cons_self)) (name_of_methodNamed B.named B.method).1 s.heap [] _ hP va_S.rf hl
def z_okH (own : String) (index : Nat) (y : MethodName) (bytes : ByteArray) (maxL : Nat) (ret : Option FieldType) (hh : List (Nat × Nat × Nat × Nat)) (n : Nat) : Prop := Cond.codeWith y bytes maxL ret hh ∈ zG ∧ Cond.methodLink own index y ∈ zG ∧ Cond.initialized y.cls ∈ zG ∧ (y.cls ≠ "java/lang/invoke/MethodHandle" ∧ y.cls ≠ "java/lang/invoke/VarHandle") ∧ (parseMethodDescriptor y.desc).map (fun d => d.parameters.length) = some n
theorem z_wsH (hts : ∀ w ∈ zG, w.before args s = true) {y : MethodName} {bytes : ByteArray} {maxL : Nat} {ret : Option FieldType} {hh : List (Nat × Nat × Nat × Nat)} (h : Cond.codeWith y bytes maxL ret hh ∈ zG) : ∀ w ∈ Cond.codeWith y bytes maxL ret hh :: zG, ∀ (a' : Array Value) (U : State), s.WarmedH U.vm → w.before a' U = true := fun w hw a' U hW => by
  have hw : w ∈ zG := (List.mem_cons.mp hw).elim (fun e => e ▸ h) id
  exact zw_move (List.mem_filter.mp hw).2 hW (hts w hw)
theorem zr_callSH (C : z_C p l s m args meth c own cc nL ret D cA N0 zE) {index n maxL : Nat} {y : MethodName} {bytes : ByteArray} {ret' : Option FieldType} {hh : List (Nat × Nat × Nat × Nat)} {rm : Room} {As : List Value} {Post : Option Value → zT → zF → Prop} (hM : z_MH l D cA N0 zE y bytes maxL ret' hh rm As T F Post (fun _ _ _ => False)) (f : z_okH own index y bytes maxL ret' hh n) (hi : Cond.static y ∈ zG)
    (hn : As.length = n) (hR : rm.frames + 1 ≤ R.frames ∧ 8 + (maxL + 11) + rm.locals ≤ R.locals) (hf : cells + rm.cells ≤ R.cells ∧ slots + rm.slots ≤ R.slots) (hW : (st.map fun v => v.category).sum ≤ 8) (hdg : decode cc pc = .ok (.invokestatic index, 3))
    (kk : ∀ (v : Option Value) (T' : zT) (F' : zF), Post v T' F' → z_w p l e R s m args below meth c D cA N0 nL (cells + rm.cells) (slots + rm.slots) Q (pc + 3) lo (v.toList ++ st) T' F') : z_w p l e R s m args below meth c D cA N0 nL cells slots Q pc lo (As.reverse ++ st) T F := by
  intro H locs ls hP hS hL T0 hT0 X
  obtain ⟨hx, hb, hml, hown, hts, hK, -⟩ := id C
  obtain ⟨f1, f2, f3, f4, f5⟩ := f
  rcases vx_runSX (Ts := zG) (hh := hh) ⟨hx, hb, hml, hown, hts⟩ hM ⟨⟨rfl, rfl, hR.1, hR.2, z_wsH hts f1, List.mem_cons_self⟩, hts _ f1, hts _ f3, f4, z_len f5, hts _ f2, hts _ hi⟩ ⟨z_blind, fun U hU hW => z_pre hP hS hK U hU hW⟩ rfl hn hL.1 rfl (lv_room hW) hdg hf T0 hT0 X with ⟨v, st₀, t, T', L, h0, X', hL', e1, e2, ⟨w, T1, F1, hv, hp, hP1, hF⟩, stp⟩ | ⟨q, st₀, t, T', L, E, ce, h0, X', hL', e1, e2, ⟨T1, F1, hp, hP1, hF⟩, hce, hcv, hcl, stp⟩
  · cases hv
    obtain ⟨t2, a1, b1⟩ := kk v T1 F1 hp T'.heap (locs ++ L) ls (by rw [e1]; exact hP1) (z_back h0 e1 hS hL' hF) hL T' rfl X'
    exact ⟨t2, stp t2 a1, b1⟩
  · exact hp.elim
/-! a call through an interface -/
def z_okF (own : String) (index : Nat) (x y : MethodName) (Cn : String) (bytes : ByteArray) (maxL : Nat) (ret : Option FieldType) (n : Nat) : Prop := Cond.code y bytes maxL ret ∈ zG ∧ Cond.methodLink own index x ∈ zG ∧ Cond.initialized y.cls ∈ zG ∧ (x.cls ≠ "java/lang/invoke/MethodHandle" ∧ x.cls ≠ "java/lang/invoke/VarHandle") ∧ (parseMethodDescriptor x.desc).map (fun d => d.parameters.length) = some n ∧ Cond.instanceMethod y ∈ zG ∧ Cond.selects Cn x y ∈ zG ∧ (Cn, x, y) ∈ z_ifs
theorem zr_callF (C : z_C p l s m args meth c own cc nL ret D cA N0 zE) {index n ci N b maxL count : Nat} {x y : MethodName} {bytes : ByteArray} {ret' : Option FieldType} {rm : Room} {As : List Value} {r : vw_C} {Post : Option Value → zT → zF → Prop} (hM : z_Mt l D cA N0 zE y bytes maxL ret' rm (.ref b :: As) T F Post) (f : z_okF own index x y r.1 bytes maxL ret' n)
    (hT : T b = some (ci, N)) (hci : ci < 100) (hc : vwCl[ci]? = some r) (hn : As.length = n) (hR : rm.frames + 1 ≤ R.frames ∧ 8 + (maxL + 11) + rm.locals ≤ R.locals) (hf : cells + rm.cells ≤ R.cells ∧ slots + rm.slots ≤ R.slots) (hW : (st.map fun v => v.category).sum ≤ 8) (hdg : decode cc pc = .ok (.invokeinterface index count, 5))
    (kk : ∀ (v : Option Value) (T' : zT) (F' : zF), Post v T' F' → z_w p l e R s m args below meth c D cA N0 nL (cells + rm.cells) (slots + rm.slots) Q (pc + 5) lo (v.toList ++ st) T' F') : z_w p l e R s m args below meth c D cA N0 nL cells slots Q pc lo (As.reverse ++ .ref b :: st) T F := by
  intro H locs ls hP hS hL T0 hT0 X
  obtain ⟨hx, hb, hml, hown, hts, hK, -⟩ := id C
  obtain ⟨f1, f2, f3, f4, f5, f6, f7, f8⟩ := f
  have hF9 := hK.2.2.2.2.2.2.2.2.2.1 _ f8
  obtain ⟨v, st₀, t, T', L, h0, X', hL', e1, e2, ⟨w, T1, F1, hv, hp, hP1, hF⟩, stp⟩ := va_runF (Ts := zG) (C := r.1) (hK.2.2.1.1 ci _ hc).2 ⟨hx, hb, hml, hown, hts⟩ hM ⟨⟨rfl, rfl, hR.1, hR.2, z_ws hts f1, List.mem_cons_self⟩, hts _ f2, va_any rfl hF9.1, va_any rfl hF9.2.1, hts _ f7, hts _ f6, va_any rfl hF9.2.2.1, va_any rfl hF9.2.2.2.1, va_any rfl hF9.2.2.2.2, hts _ f3, hts _ f1, f4, z_len f5⟩ ⟨z_blind, z_obj hP hK hT hci hc, fun U hU hW => z_pre hP hS hK U hU hW⟩ rfl hn hL.1 rfl (lv_room hW) hdg hf T0 hT0 X
  cases hv
  obtain ⟨t2, a1, b1⟩ := kk v T1 F1 hp T'.heap (locs ++ L) ls (by rw [e1]; exact hP1) (z_back h0 e1 hS hL' hF) hL T' rfl X'
  exact ⟨t2, stp t2 a1, b1⟩
end ZR5
