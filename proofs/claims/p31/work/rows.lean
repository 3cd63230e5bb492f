section
-- ===== PART A: goes FIRST, ahead of the names: the tables' words, and 'selects' of the private methods out of them =====
/-- a private method of a class that the tables say can be made, by its rows of tables_1 -/
def lw_okq (q : MethodName × Nat) : Prop := (q.1.cls ≠ "java/lang/invoke/MethodHandle" ∧ q.1.cls ≠ "java/lang/invoke/VarHandle") ∧ Cond.instantiable q.1.cls q.2 ∈ tables_1 ∧ Cond.privateMethod q.1 ∈ tables_1 ∧ Cond.instanceMethod q.1 ∈ tables_1
theorem lw_p0 : lw_okq (⟨"java/lang/Throwable", "fillInStackTrace", "(I)Ljava/lang/Throwable;"⟩, 6) := ⟨⟨by decide +kernel, by decide +kernel⟩, List.mem_of_getElem? (i := 138) (by decide +kernel), List.mem_of_getElem? (i := 136) (by decide +kernel), List.mem_of_getElem? (i := 137) (by decide +kernel)⟩
theorem lw_p1 : lw_okq (⟨"java/util/ArrayList", "add", "(Ljava/lang/Object;[Ljava/lang/Object;I)V"⟩, 3) := ⟨⟨by decide +kernel, by decide +kernel⟩, List.mem_of_getElem? (i := 31) (by decide +kernel), List.mem_of_getElem? (i := 198) (by decide +kernel), List.mem_of_getElem? (i := 199) (by decide +kernel)⟩
theorem lw_p2 : lw_okq (⟨"java/util/ArrayList", "grow", "()[Ljava/lang/Object;"⟩, 3) := ⟨⟨by decide +kernel, by decide +kernel⟩, List.mem_of_getElem? (i := 31) (by decide +kernel), List.mem_of_getElem? (i := 202) (by decide +kernel), List.mem_of_getElem? (i := 203) (by decide +kernel)⟩
theorem lw_p3 : lw_okq (⟨"java/util/ArrayList", "grow", "(I)[Ljava/lang/Object;"⟩, 3) := ⟨⟨by decide +kernel, by decide +kernel⟩, List.mem_of_getElem? (i := 31) (by decide +kernel), List.mem_of_getElem? (i := 206) (by decide +kernel), List.mem_of_getElem? (i := 207) (by decide +kernel)⟩
theorem lw_p4 : lw_okq (⟨"BrandRoom", "assetAt", "(I)LBrandRoom$Asset;"⟩, 4) := ⟨⟨by decide +kernel, by decide +kernel⟩, List.mem_of_getElem? (i := 23) (by decide +kernel), List.mem_of_getElem? (i := 254) (by decide +kernel), List.mem_of_getElem? (i := 255) (by decide +kernel)⟩
theorem lw_p5 : lw_okq (⟨"BrandRoom", "bookingAt", "(I)LBrandRoom$Booking;"⟩, 4) := ⟨⟨by decide +kernel, by decide +kernel⟩, List.mem_of_getElem? (i := 23) (by decide +kernel), List.mem_of_getElem? (i := 366) (by decide +kernel), List.mem_of_getElem? (i := 367) (by decide +kernel)⟩
theorem lw_p6 : lw_okq (⟨"BrandRoom", "addPiece", "(JI)J"⟩, 4) := ⟨⟨by decide +kernel, by decide +kernel⟩, List.mem_of_getElem? (i := 23) (by decide +kernel), List.mem_of_getElem? (i := 413) (by decide +kernel), List.mem_of_getElem? (i := 414) (by decide +kernel)⟩
theorem lw_p7 : lw_okq (⟨"BrandRoom", "pieceAt", "(I)LBrandRoom$Piece;"⟩, 4) := ⟨⟨by decide +kernel, by decide +kernel⟩, List.mem_of_getElem? (i := 23) (by decide +kernel), List.mem_of_getElem? (i := 421) (by decide +kernel), List.mem_of_getElem? (i := 422) (by decide +kernel)⟩
theorem lw_p8 : lw_okq (⟨"BrandRoom", "addBooking", "(JI)J"⟩, 4) := ⟨⟨by decide +kernel, by decide +kernel⟩, List.mem_of_getElem? (i := 23) (by decide +kernel), List.mem_of_getElem? (i := 484) (by decide +kernel), List.mem_of_getElem? (i := 485) (by decide +kernel)⟩
theorem lw_p9 : lw_okq (⟨"BrandRoom$Plan", "isUsedIn", "(ILBrandRoom$Piece;)Z"⟩, 3) := ⟨⟨by decide +kernel, by decide +kernel⟩, List.mem_of_getElem? (i := 57) (by decide +kernel), List.mem_of_getElem? (i := 504) (by decide +kernel), List.mem_of_getElem? (i := 505) (by decide +kernel)⟩
theorem lw_p10 : lw_okq (⟨"BrandRoom", "groupsReached", "(I)I"⟩, 4) := ⟨⟨by decide +kernel, by decide +kernel⟩, List.mem_of_getElem? (i := 23) (by decide +kernel), List.mem_of_getElem? (i := 517) (by decide +kernel), List.mem_of_getElem? (i := 518) (by decide +kernel)⟩
theorem lw_p11 : lw_okq (⟨"BrandRoom", "groupsOf", "(II)I"⟩, 4) := ⟨⟨by decide +kernel, by decide +kernel⟩, List.mem_of_getElem? (i := 23) (by decide +kernel), List.mem_of_getElem? (i := 521) (by decide +kernel), List.mem_of_getElem? (i := 522) (by decide +kernel)⟩
theorem lw_p12 : lw_okq (⟨"BrandRoom$Booking", "setTo", "(LBrandRoom$Booking;)V"⟩, 12) := ⟨⟨by decide +kernel, by decide +kernel⟩, List.mem_of_getElem? (i := 545) (by decide +kernel), List.mem_of_getElem? (i := 543) (by decide +kernel), List.mem_of_getElem? (i := 544) (by decide +kernel)⟩
theorem lw_p13 : lw_okq (⟨"BrandRoom$Plan", "settle", "(LBrandRoom$Booking;LBrandRoom$Piece;)V"⟩, 3) := ⟨⟨by decide +kernel, by decide +kernel⟩, List.mem_of_getElem? (i := 57) (by decide +kernel), List.mem_of_getElem? (i := 624) (by decide +kernel), List.mem_of_getElem? (i := 625) (by decide +kernel)⟩
theorem lw_p14 : lw_okq (⟨"BrandRoom", "needOffer", "(III)V"⟩, 4) := ⟨⟨by decide +kernel, by decide +kernel⟩, List.mem_of_getElem? (i := 23) (by decide +kernel), List.mem_of_getElem? (i := 703) (by decide +kernel), List.mem_of_getElem? (i := 704) (by decide +kernel)⟩
theorem lw_p15 : lw_okq (⟨"BrandRoom$Asset", "hasLast", "()Z"⟩, 5) := ⟨⟨by decide +kernel, by decide +kernel⟩, List.mem_of_getElem? (i := 168) (by decide +kernel), List.mem_of_getElem? (i := 756) (by decide +kernel), List.mem_of_getElem? (i := 757) (by decide +kernel)⟩
def lw_privs_1 : List (MethodName × Nat) := [(⟨"java/lang/Throwable", "fillInStackTrace", "(I)Ljava/lang/Throwable;"⟩, 6), (⟨"java/util/ArrayList", "add", "(Ljava/lang/Object;[Ljava/lang/Object;I)V"⟩, 3), (⟨"java/util/ArrayList", "grow", "()[Ljava/lang/Object;"⟩, 3), (⟨"java/util/ArrayList", "grow", "(I)[Ljava/lang/Object;"⟩, 3), (⟨"BrandRoom", "assetAt", "(I)LBrandRoom$Asset;"⟩, 4), (⟨"BrandRoom", "bookingAt", "(I)LBrandRoom$Booking;"⟩, 4), (⟨"BrandRoom", "addPiece", "(JI)J"⟩, 4), (⟨"BrandRoom", "pieceAt", "(I)LBrandRoom$Piece;"⟩, 4), (⟨"BrandRoom", "addBooking", "(JI)J"⟩, 4), (⟨"BrandRoom$Plan", "isUsedIn", "(ILBrandRoom$Piece;)Z"⟩, 3), (⟨"BrandRoom", "groupsReached", "(I)I"⟩, 4), (⟨"BrandRoom", "groupsOf", "(II)I"⟩, 4), (⟨"BrandRoom$Booking", "setTo", "(LBrandRoom$Booking;)V"⟩, 12), (⟨"BrandRoom$Plan", "settle", "(LBrandRoom$Booking;LBrandRoom$Piece;)V"⟩, 3), (⟨"BrandRoom", "needOffer", "(III)V"⟩, 4), (⟨"BrandRoom$Asset", "hasLast", "()Z"⟩, 5)]
theorem lw_r1 : ∀ q ∈ lw_privs_1, lw_okq q := List.forall_mem_cons.mpr ⟨lw_p0, List.forall_mem_cons.mpr ⟨lw_p1, List.forall_mem_cons.mpr ⟨lw_p2, List.forall_mem_cons.mpr ⟨lw_p3, List.forall_mem_cons.mpr ⟨lw_p4, List.forall_mem_cons.mpr ⟨lw_p5, List.forall_mem_cons.mpr ⟨lw_p6, List.forall_mem_cons.mpr ⟨lw_p7, List.forall_mem_cons.mpr ⟨lw_p8, List.forall_mem_cons.mpr ⟨lw_p9, List.forall_mem_cons.mpr ⟨lw_p10, List.forall_mem_cons.mpr ⟨lw_p11, List.forall_mem_cons.mpr ⟨lw_p12, List.forall_mem_cons.mpr ⟨lw_p13, List.forall_mem_cons.mpr ⟨lw_p14, List.forall_mem_cons.mpr ⟨lw_p15, fun _ h => absurd h List.not_mem_nil⟩⟩⟩⟩⟩⟩⟩⟩⟩⟩⟩⟩⟩⟩⟩⟩
def lw_privs : List (MethodName × Nat) := lw_privs_1
def lw_tbl : List Cond := k2_sels lw_privs ++ tables_1
theorem lw_privs_ok : ∀ q ∈ lw_privs, lw_okq q := lw_r1
end
section
/-! ===== BEGIN words of one list among another's, by their places ===== -/
theorem goodIn_r {big : List Cond} (ws : List Cond) (ps : List Nat) (hp : ws = ps.filterMap (fun i => big[i]?)) (h : ws.all goodWord = true) : GoodIn big ws := by
  intro w hw
  have h1 := List.all_eq_true.mp h w hw
  rw [hp] at hw
  obtain ⟨i, -, hi⟩ := List.mem_filterMap.mp hw
  have hm : w ∈ big := by first | exact List.mem_of_getElem? hi | exact List.getElem?_mem hi
  exact ⟨hm, good_of_word h1⟩
theorem goodIn_app {big a b : List Cond} (ha : GoodIn big a) (hb : GoodIn big b) : GoodIn big (a ++ b) := fun w h => (List.mem_append.mp h).elim (ha w) (hb w)
theorem goodIn_ca {big a b : List Cond} {c : Cond} (ha : GoodIn big (c :: a)) (hb : GoodIn big b) : GoodIn big (c :: (a ++ b)) := fun w h => (List.mem_cons.mp h).elim (fun e => ha w (List.mem_cons.mpr (Or.inl e))) (fun h => (List.mem_append.mp h).elim (fun h => ha w (List.mem_cons.mpr (Or.inr h))) (hb w))
theorem goodIn_sub {big ws : List Cond} (hm : ∀ w ∈ ws, w ∈ big) (h : ws.all goodWord = true) : GoodIn big ws := fun w hw => ⟨hm w hw, good_of_word (List.all_eq_true.mp h w hw)⟩
/-! ===== END ===== -/


/-! ===== BEGIN exceptions that leave a method, and their catching by the caller (launches without stack traces) ===== -/
section VXA
/-! The laws vx_back, vx_callV, vx_callS, vx_callSW, vx_throw0, vx_throwS follow proofs of the library, with one case more: JvmDerived/Free/Laws.lean (Back.of_free), Shelf42/LK1.lean (callV, callS), Shelf/KitTraced.lean (throwNew0V, throwNewS). -/
/-- where a method has thrown q: the class by its name, the cell, what was written, the world -/
def vx_T (XC : String → State → State → Prop) (st : State) (q : Addr) (t : State) (mc ms : Nat) (free : Addr → Prop) : Prop :=
  ∃ (E : String) (ce : Cell) (L : List Loc), XC E st t ∧ t.heap[q]? = some ce ∧ ce.vm = .none ∧ st.vm.findClass E = some ce.cls ∧ st.WarmedH t.vm ∧ st.sameButNew ({ t with vm := st.vm } : State) L mc ms ∧ ∀ z ∈ L, free z.base
def vx_Q (Qc : Array Value → State → Outcome → State → Prop) (XC : String → State → State → Prop) (mc ms : Nat) (free : Addr → Prop) : Array Value → State → Outcome → State → Prop := fun a st o t =>
  (Qc a st o t ∧ ∃ L, FrameEnd st o t L mc ms ∧ ∀ q ∈ L, free q.base) ∨ ∃ q, o = .threw q ∧ vx_T XC st q t mc ms free
/-- a callee that returns or throws -/
def vx_Met (l : Launch) (y : MethodName) (ws : List Cond) (rm : Room) (Pc : Array Value → State → Prop) (Qc : Array Value → State → Outcome → State → Prop) (XC : String → State → State → Prop) (mc ms : Nat) (free : Addr → Prop) : Prop :=
  MetFree l y (headSpec ws rm) Pc (fun _ _ _ _ _ => True) (vx_Q Qc XC mc ms free)
def vx_Post (XC : String → State → State → Prop) (mc ms : Nat) (free : Addr → Prop) : Pt → Array Value → Addr → Pt → Prop := fun A a q B =>
  ∃ (g : JFrame) (mk : MethodId) (t : State) (L : List Loc) (E : String) (ce : Cell), B.U.heap = t.heap ∧ B.U.vm = t.vm ∧ XC E (A.U.calling g mk a) t ∧ t.heap[q]? = some ce ∧ ce.vm = .none ∧ A.U.vm.findClass E = some ce.cls ∧ B.locs = A.locs ++ L ∧ (∀ z ∈ L, free z.base) ∧ B.cells = A.cells + mc ∧ B.slots = A.slots + ms
def vx_Back (l : Launch) (R : Room) (p : Program) (e : Env) (below : List Frame) (s : State) (sargs : Array Value) (y : MethodName) (len W9 : Nat)
    (Pre : Pt → Array Value → Prop) (Post : Pt → Array Value → Option Value → Pt → Prop) (PostX : Pt → Array Value → Addr → Pt → Prop) : Prop :=
  ∀ (m : MethodId) (meth : Method) (c : Code) (A : Pt) (g : JFrame) (ig : Instr) (mk : MethodId) (a : Array Value),
    Stand p l e R s m sargs below meth c A.U A.locs A.cells A.slots → g.method = m → g.locals.size = c.maxLocals → decode c.code g.pc = .ok (ig, len) →
    2 * g.monitorRoom + (g.stack.map fun v => v.category).sum ≤ W9 → A.U.methodNamed? y = some mk → Pre A a →
    (∃ (v : Option Value) (B : Pt), Stand p l e R s m sargs below meth c B.U B.locs B.cells B.slots ∧ Post A a v B ∧
      Steps p.tables e below (doInvoke e (A.U.setTop g) [] mk a).1 (B.U.setTop { g with pc := g.pc + len, stack := v.toList ++ g.stack })) ∨
    (∃ (q : Addr) (B : Pt), Stand p l e R s m sargs below meth c B.U B.locs B.cells B.slots ∧ PostX A a q B ∧
      Steps p.tables e below (doInvoke e (A.U.setTop g) [] mk a).1 ((B.U.setTop g).pushFrame (.throwing q)))
section Payer
variable {l : Launch} {R : Room} {p : Program} {e : Env} {below : List Frame} {s : State} {sargs : Array Value} {y : MethodName} {len W9 : Nat}
theorem vx_back {ws : List Cond} {rm : Room} {Pc : Array Value → State → Prop} {Qc : Array Value → State → Outcome → State → Prop} {XC : String → State → State → Prop} {mc ms : Nat} {free : Addr → Prop} {bytes : ByteArray} {maxL : Nat} {ret : Option FieldType}
    (hM : vx_Met l y ws rm Pc Qc XC mc ms free) (hblind : FrameBlind Pc) (hrc : rm.cells = mc) (hrs : rm.slots = ms)
    (hframes : rm.frames + 1 ≤ R.frames) (hlocals : W9 + (maxL + 11) + rm.locals ≤ R.locals)
    (hws : ∀ w ∈ ws, ∀ a' U, s.WarmedH U.vm → w.before a' U = true) (hcode : Cond.code y bytes maxL ret ∈ ws) (hinit : ∀ a' U, s.WarmedH U.vm → (Cond.initialized y.cls).before a' U = true) :
    vx_Back l R p e below s sargs y len W9 (PreOf R mc ms Pc) (PostOf Qc mc ms free) (vx_Post XC mc ms free) := by
  intro m meth c A g ig mk a X hg hsize hdg hW hn hp
  have h1 : (headSpec ws rm).pre.before a A.U = true := atoms_intro fun w hw => hws w hw _ _ X.warmed
  have h2 : (Cond.code y bytes maxL ret).before a A.U = true := hws _ hcode _ _ X.warmed
  have h3 : (Cond.initialized y.cls).before a A.U = true := hinit _ _ X.warmed
  have h4 : A.cells + (headSpec ws rm).room.cells ≤ R.cells := by rw [show (headSpec ws rm).room.cells = mc from hrc]; exact hp.1
  have h5 : A.slots + (headSpec ws rm).room.slots ≤ R.slots := by rw [show (headSpec ws rm).room.slots = ms from hrs]; exact hp.2.1
  have hPc : Pc a (A.U.calling g mk a) := hblind _ _ _ _ hp.2.2
  obtain ⟨U, Ls, c0, s0⟩ := A
  dsimp only [Pt.U, Pt.locs, Pt.cells, Pt.slots] at h1 h2 h3 h4 h5 X hn hPc ⊢
  obtain ⟨methY, cY, hmY, hcY, -, hlY, -, -, -, -⟩ := Cond.code_spec hn h2
  obtain ⟨kY, hkY, -⟩ := className_of_methodNamed hn
  have hinitY : kY.init = .initialized := Cond.initialized_spec (findClass_of_methodNamed hn) hkY h3
  have h : At U g.method c below := by rw [hg]; exact X.here
  have hlocals9 : W9 + (maxL + 11) + (headSpec ws rm).room.locals ≤ R.locals := hlocals
  have happ : (headSpec ws rm).appliesLoose y e.platform (U.calling g mk a) = true :=
    Spec.appliesLoose_calling (g := g) h hdg hn hkY hinitY
      (X.room_calling (g := g) (R' := (headSpec ws rm).room) hsize hmY hcY hframes (by rw [hlY]; omega) h4 h5) h1
  obtain ⟨mid, hmid⟩ := h.above
  have hfr : (U.setTop g).frames = (.java g :: mid) ++ below := by rw [State.frames_setTop' g h.top, hmid]; rfl
  obtain ⟨o, s₂, hsteps, -, hend, hq⟩ := Steps.callFree hM p X.admits X.cas X.clock (acts := []) hfr happ hPc trivial
  have hq' : vx_Q Qc XC mc ms free a (U.calling g mk a) o s₂ := hq
  rw [State.frames_setTop' g h.top] at hend
  obtain ⟨g₀, hg0⟩ := Option.isSome_iff_exists.mp h.top
  obtain ⟨r, hr⟩ := State.topJava?_eq_some.mp hg0
  have hr' : (({ U with heap := s₂.heap, slotsUsed := s₂.slotsUsed } : State).setVm s₂.vm).frames = .java g₀ :: r := hr
  rcases hq' with ⟨hqc, L, hfe, hL⟩ | ⟨q, rfl, E, ce, L, hx, hce, hcv, hcl, hW₂, hsm, hL⟩
  · obtain ⟨⟨v, rfl⟩, hW₂, e2, q2, q3, q4, q5, q6⟩ := id hfe
    have e3 : s₂ = ({ (U.calling g mk a).setFrames s₂.frames with heap := s₂.heap, slotsUsed := s₂.slotsUsed } : State).setVm s₂.vm := by
      have : s₂ = ({ s₂ with vm := (U.calling g mk a).vm } : State).setVm s₂.vm := rfl
      rw [e2] at this
      exact this
    obtain ⟨c₂, i₂, len₂, hc₂, hd₂, hf₂⟩ := hend
    have hW' : U.WarmedH s₂.vm := hW₂
    have hcc : c₂ = c := by
      have h1 : s₂.code? g.method = U.code? g.method := by
        rw [State.code?_eq, State.code?_eq, hW'.alike.method?]
      exact Option.some.inj (hc₂.symm.trans (h1.trans h.code))
    subst hcc
    have hlen : len₂ = len := by rw [hdg] at hd₂; cases hd₂; rfl
    subst hlen
    have hs₂ : s₂ = (({ U with heap := s₂.heap, slotsUsed := s₂.slotsUsed } : State).setVm s₂.vm).setTop { g with pc := g.pc + len₂, stack := v.toList ++ g.stack } := by
      refine e3.trans ?_
      rw [hf₂, State.calling_eq h.top, State.setFrames_setFrames, State.setTop_of_frames _ hr', hr]
      rfl
    have hsame : U.sameButNew ({ U with heap := s₂.heap, slotsUsed := s₂.slotsUsed } : State) L mc ms := by
      refine ⟨?_, q2, q3, q4, q5, q6⟩
      obtain ⟨t, ht, -⟩ := State.frames_cons hr
      show ({ U with heap := s₂.heap, slotsUsed := s₂.slotsUsed } : State) = { U.setFrames U.frames with heap := s₂.heap, slotsUsed := s₂.slotsUsed }
      rw [State.setFrames_self ht]
    subst hg
    refine Or.inl ⟨v, ⟨(({ U with heap := s₂.heap, slotsUsed := s₂.slotsUsed } : State).setVm s₂.vm), Ls ++ L, c0 + mc, s0 + ms⟩,
      ⟨X.admits, X.cas, X.clock, X.frames, X.room, X.hears, X.method, X.code, (X.here.setHeapUsed s₂.heap s₂.slotsUsed).setVm hW'.alike, X.tail, State.WarmedH.trans X.warmed hW', X.limits, X.bytes, X.same.trans (hsame.setVm s.vm)⟩,
      ⟨g, mk, s₂, L, rfl, rfl, hqc, rfl, hL, rfl, rfl⟩, ?_⟩
    show Steps p.tables e below _ ((({ U with heap := s₂.heap, slotsUsed := s₂.slotsUsed } : State).setVm s₂.vm).setTop { g with pc := g.pc + len₂, stack := v.toList ++ g.stack })
    rw [← hs₂]
    exact hsteps
  · obtain ⟨e2, q2, q3, q4, q5, q6⟩ := id hsm
    have e3 : s₂ = ({ (U.calling g mk a).setFrames s₂.frames with heap := s₂.heap, slotsUsed := s₂.slotsUsed } : State).setVm s₂.vm := by
      have : s₂ = ({ s₂ with vm := (U.calling g mk a).vm } : State).setVm s₂.vm := rfl
      rw [e2] at this
      exact this
    have hf₂ : s₂.frames = .throwing q :: .java g :: U.frames.tail := hend
    have hW' : U.WarmedH s₂.vm := hW₂
    have hs₂ : s₂ = ((({ U with heap := s₂.heap, slotsUsed := s₂.slotsUsed } : State).setVm s₂.vm).setTop g).pushFrame (.throwing q) := by
      refine e3.trans ?_
      rw [hf₂, State.calling_eq h.top, State.setFrames_setFrames, State.pushFrame, State.frames_setTop _ hr', State.setTop_of_frames _ hr', State.setFrames_setFrames, hr]
      rfl
    have hsame : U.sameButNew ({ U with heap := s₂.heap, slotsUsed := s₂.slotsUsed } : State) L mc ms := by
      refine ⟨?_, q2, q3, q4, q5, q6⟩
      obtain ⟨t, ht, -⟩ := State.frames_cons hr
      show ({ U with heap := s₂.heap, slotsUsed := s₂.slotsUsed } : State) = { U.setFrames U.frames with heap := s₂.heap, slotsUsed := s₂.slotsUsed }
      rw [State.setFrames_self ht]
    subst hg
    refine Or.inr ⟨q, ⟨(({ U with heap := s₂.heap, slotsUsed := s₂.slotsUsed } : State).setVm s₂.vm), Ls ++ L, c0 + mc, s0 + ms⟩,
      ⟨X.admits, X.cas, X.clock, X.frames, X.room, X.hears, X.method, X.code, (X.here.setHeapUsed s₂.heap s₂.slotsUsed).setVm hW'.alike, X.tail, State.WarmedH.trans X.warmed hW', X.limits, X.bytes, X.same.trans (hsame.setVm s.vm)⟩,
      ⟨g, mk, s₂, L, E, ce, rfl, rfl, hx, hce, hcv, hcl, rfl, hL, rfl, rfl⟩, ?_⟩
    show Steps p.tables e below _ (((({ U with heap := s₂.heap, slotsUsed := s₂.slotsUsed } : State).setVm s₂.vm).setTop g).pushFrame (.throwing q))
    rw [← hs₂]
    exact hsteps
end Payer
section Calls
variable {p : Program} {l : Launch} {e : Env} {R : Room} {s : State} {m : MethodId} {args : Array Value} {below : List Frame} {meth : Method} {c : Code} {T : State} {locs : List Loc} {cells slots : Nat}
theorem vx_callV (X : Stand p l e R s m args below meth c T locs cells slots) (hexec : p.tables.exec = Jvm.exec) {own C : String} {index : Nat} {y : MethodName} {bytes : ByteArray} {maxL : Nat} {ret : Option FieldType}
    (hown : s.vm.findClass own = some m.cls) (hlink : (Cond.methodLink own index y).before args s = true) (hinst : (Cond.instanceMethod y).before args s = true) (hsel : (Cond.selects C y y).before args s = true)
    (hcode : (Cond.code y bytes maxL ret).before args s = true) (hy : y.cls ≠ "java/lang/invoke/MethodHandle" ∧ y.cls ≠ "java/lang/invoke/VarHandle")
    {W9 : Nat} {Pre : Pt → Array Value → Prop} {Post : Pt → Array Value → Option Value → Pt → Prop} {PostX : Pt → Array Value → Addr → Pt → Prop} (hK : vx_Back l R p e below s args y 3 W9 Pre Post PostX)
    {b : Addr} {cellB : Cell} (hcell : T.heap[b]? = some cellB) (hobj : cellB.vm.isStatics = false) (hcls : s.vm.findClass C = some cellB.cls)
    {g : JFrame} (hg : g.method = m) (hsize : g.locals.size = c.maxLocals) {argsL rest : List Value} (hlen : ∀ sig, parseMethodDescriptor y.desc = some sig → argsL.length = sig.parameters.length)
    (hstack : g.stack = argsL.reverse ++ .ref b :: rest) (hW : 2 * g.monitorRoom + (rest.map fun v => v.category).sum ≤ W9) (hdg : decode c.code g.pc = .ok (.invokevirtual index, 3))
    (hpre : ∀ vm₁, s.WarmedH vm₁ → Pre ⟨T.setVm vm₁, locs, cells, slots⟩ (Value.ref b :: argsL).toArray) :
    (∃ (v : Option Value) (vm₁ : Vm) (B : Pt), s.WarmedH vm₁ ∧ Stand p l e R s m args below meth c B.U B.locs B.cells B.slots ∧ Post ⟨T.setVm vm₁, locs, cells, slots⟩ (Value.ref b :: argsL).toArray v B ∧
      ∀ target, Steps p.tables e below (B.U.setTop { g with pc := g.pc + 3, stack := v.toList ++ rest }) target → Steps p.tables e below (T.setTop g) target) ∨
    (∃ (q : Addr) (vm₁ : Vm) (B : Pt), s.WarmedH vm₁ ∧ Stand p l e R s m args below meth c B.U B.locs B.cells B.slots ∧ PostX ⟨T.setVm vm₁, locs, cells, slots⟩ (Value.ref b :: argsL).toArray q B ∧
      Steps p.tables e below (T.setTop g) ((B.U.setTop { g with stack := rest }).pushFrame (.throwing q))) := by
  obtain ⟨mk, methM, hnamed, hmethM, hstM, habM⟩ := Cond.instanceMethod_spec hinst
  obtain ⟨methM', cM, hmethM', -, -, -, -, -, -, hsigM⟩ := Cond.code_spec hnamed hcode
  cases hmethM.symm.trans hmethM'
  obtain ⟨c2, r2, m2, q1, q2, q3, q4, kP, hkP, hkPi⟩ := Cond.selects_spec hsel
  cases hcls.symm.trans q1
  cases (State.methodFound?_of_named hnamed hy).symm.trans q2
  cases hnamed.symm.trans q3
  have hselP : selectMethod e.platform s.vm cellB.cls mk = .method mk := by rw [Launch.admits_selectMethod X.admits]; exact q4
  obtain ⟨vm₁, X₁, hstep₁⟩ := X.invokevirtual hexec hown hlink hnamed hmethM hstM hkP hkPi hy (a := b) (cell := cellB) hcell
    (fun z h => by rw [h] at hobj; cases hobj) hselP hmethM habM hkP hkPi (g := g) hg (argsL := argsL) (rest := rest) (hlen _ hsigM) hstack hdg
  rcases hK m meth c ⟨T.setVm vm₁, locs, cells, slots⟩ { g with stack := rest } (.invokevirtual index) mk (Value.ref b :: argsL).toArray X₁ hg hsize hdg hW (X₁.named hnamed) (hpre vm₁ X₁.warmed) with ⟨v, B, X', hpost, hsteps⟩ | ⟨q, B, X', hpost, hsteps⟩
  · exact Or.inl ⟨v, vm₁, B, X₁.warmed, X', hpost, fun target h => hstep₁ _ fun acts => by rw [doInvoke_state]; exact hsteps.trans h⟩
  · exact Or.inr ⟨q, vm₁, B, X₁.warmed, X', hpost, hstep₁ _ fun acts => by rw [doInvoke_state]; exact hsteps⟩
theorem vx_callS (X : Stand p l e R s m args below meth c T locs cells slots) (hexec : p.tables.exec = Jvm.exec) {own : String} {index : Nat} {y : MethodName} {bytes : ByteArray} {maxL : Nat} {ret : Option FieldType}
    (hown : s.vm.findClass own = some m.cls) (hlink : (Cond.methodLink own index y).before args s = true) (hstat : (Cond.static y).before args s = true) (hinit : (Cond.initialized y.cls).before args s = true)
    (hcode : (Cond.code y bytes maxL ret).before args s = true) (hy : y.cls ≠ "java/lang/invoke/MethodHandle" ∧ y.cls ≠ "java/lang/invoke/VarHandle")
    {W9 : Nat} {Pre : Pt → Array Value → Prop} {Post : Pt → Array Value → Option Value → Pt → Prop} {PostX : Pt → Array Value → Addr → Pt → Prop} (hK : vx_Back l R p e below s args y 3 W9 Pre Post PostX)
    {g : JFrame} (hg : g.method = m) (hsize : g.locals.size = c.maxLocals) {argsL rest : List Value} (hlen : ∀ sig, parseMethodDescriptor y.desc = some sig → argsL.length = sig.parameters.length)
    (hstack : g.stack = argsL.reverse ++ rest) (hW : 2 * g.monitorRoom + (rest.map fun v => v.category).sum ≤ W9) (hdg : decode c.code g.pc = .ok (.invokestatic index, 3))
    (hpre : ∀ vm₁, s.WarmedH vm₁ → Pre ⟨T.setVm vm₁, locs, cells, slots⟩ argsL.toArray) :
    (∃ (v : Option Value) (vm₁ : Vm) (B : Pt), s.WarmedH vm₁ ∧ Stand p l e R s m args below meth c B.U B.locs B.cells B.slots ∧ Post ⟨T.setVm vm₁, locs, cells, slots⟩ argsL.toArray v B ∧
      ∀ target, Steps p.tables e below (B.U.setTop { g with pc := g.pc + 3, stack := v.toList ++ rest }) target → Steps p.tables e below (T.setTop g) target) ∨
    (∃ (q : Addr) (vm₁ : Vm) (B : Pt), s.WarmedH vm₁ ∧ Stand p l e R s m args below meth c B.U B.locs B.cells B.slots ∧ PostX ⟨T.setVm vm₁, locs, cells, slots⟩ argsL.toArray q B ∧
      Steps p.tables e below (T.setTop g) ((B.U.setTop { g with stack := rest }).pushFrame (.throwing q))) := by
  obtain ⟨mk, hnamed⟩ := Cond.code_named hcode
  obtain ⟨methM, cM, hmethM, -, -, -, -, -, -, hsigM⟩ := Cond.code_spec hnamed hcode
  have hstatic : methM.isStatic = true := Cond.static_spec hnamed hmethM hstat
  obtain ⟨kP, hkP, -⟩ := className_of_methodNamed hnamed
  have hinitP : kP.init = .initialized := Cond.initialized_spec (findClass_of_methodNamed hnamed) hkP hinit
  obtain ⟨vm₁, X₁, hstep₁⟩ := X.invokestatic hexec hown hlink hnamed hmethM hstatic hkP hinitP hy (g := g) hg (argsL := argsL) (rest := rest) (hlen _ hsigM) hstack hdg
  rcases hK m meth c ⟨T.setVm vm₁, locs, cells, slots⟩ { g with stack := rest } (.invokestatic index) mk argsL.toArray X₁ hg hsize hdg hW (X₁.named hnamed) (hpre vm₁ X₁.warmed) with ⟨v, B, X', hpost, hsteps⟩ | ⟨q, B, X', hpost, hsteps⟩
  · exact Or.inl ⟨v, vm₁, B, X₁.warmed, X', hpost, fun target h => hstep₁ _ fun acts => by rw [doInvoke_state]; exact hsteps.trans h⟩
  · exact Or.inr ⟨q, vm₁, B, X₁.warmed, X', hpost, hstep₁ _ fun acts => by rw [doInvoke_state]; exact hsteps⟩
end Calls
theorem vx_cls {s : State} {T : State} {vm₁ : Vm} {E : String} {k : ClassId} (hW : s.WarmedH vm₁) (h : (T.setVm vm₁).vm.findClass E = some k) : s.vm.findClass E = some k := by
  have h1 : vm₁.findClass E = some k := h
  rw [hW.alike.findClass] at h1
  exact h1
/-- the method's frame g, with q thrown over it -/
def vx_W (p : Program) (l : Launch) (e : Env) (R : Room) (s : State) (m : MethodId) (args : Array Value) (below : List Frame) (meth : Method) (c : Code) (H : Heap) (locs : List Loc) (cells slots : Nat) (Q : State → Prop) (g : JFrame) (q : Addr) : Prop :=
  ∀ T : State, T.heap = H → Stand p l e R s m args below meth c T locs cells slots → ∃ t, Steps p.tables e below ((T.setTop g).pushFrame (.throwing q)) t ∧ Q t
def vx_Run (p : Program) (l : Launch) (e : Env) (R : Room) (s : State) (m : MethodId) (args : Array Value) (below : List Frame) (meth : Method) (c : Code) (H : Heap) (locs : List Loc) (cells slots mc ms : Nat) (g : JFrame) (rest : List Value) (Qa : State → Outcome → State → Prop) (XC : String → State → State → Prop) (free : Addr → Prop) : Prop :=
  ∀ T : State, T.heap = H → Stand p l e R s m args below meth c T locs cells slots →
    (∃ (v : Option Value) (st₀ t T' : State) (L : List Loc), st₀.heap = H ∧ Stand p l e R s m args below meth c T' (locs ++ L) (cells + mc) (slots + ms) ∧ (∀ q ∈ L, free q.base) ∧ T'.heap = t.heap ∧ T'.vm = t.vm ∧ Qa st₀ (.returned v) t ∧
      Goes p e below T g T' { g with pc := g.pc + 3, stack := v.toList ++ rest }) ∨
    (∃ (q : Addr) (st₀ t T' : State) (L : List Loc) (E : String) (ce : Cell), st₀.heap = H ∧ Stand p l e R s m args below meth c T' (locs ++ L) (cells + mc) (slots + ms) ∧ (∀ z ∈ L, free z.base) ∧ T'.heap = t.heap ∧ T'.vm = t.vm ∧ XC E st₀ t ∧ t.heap[q]? = some ce ∧ ce.vm = .none ∧ s.vm.findClass E = some ce.cls ∧
      Steps p.tables e below (T.setTop g) ((T'.setTop { g with stack := rest }).pushFrame (.throwing q)))
def vx_X {S : Type} (px : S → Prop) (B : String → S → State → Prop) (A : Nat → Prop) : String → State → State → Prop := fun E st t => ∃ u : S, px u ∧ B E u t ∧ va_F A st t
section Runs
variable {p : Program} {l : Launch} {e : Env} {R : Room} {s : State} {m : MethodId} {args : Array Value} {below : List Frame} {meth : Method} {c : Code} {H : Heap} {locs : List Loc} {cells slots : Nat}
variable {y : MethodName} {bytes cc : ByteArray} {maxL nL mc ms n index : Nat} {ret : Option FieldType} {ws : List Cond} {rm : Room} {Pc : Array Value → State → Prop} {Qc : Array Value → State → Outcome → State → Prop} {XC : String → State → State → Prop} {free : Addr → Prop} {Ts : List Cond} {own C : String} {b : Addr} {As rest : List Value} {g : JFrame}
theorem vx_callBack (cb : CallB R s args own index y bytes maxL ret ws rm mc ms n) (hM : vx_Met l y ws rm Pc Qc XC mc ms free) (hbl : FrameBlind Pc) : vx_Back l R p e below s args y 3 8 (PreOf R mc ms Pc) (PostOf Qc mc ms free) (vx_Post XC mc ms free) := by
  obtain ⟨hrc, hrs, hfr, hlo, hws, hcw, -, hini, -⟩ := cb
  exact vx_back (bytes := bytes) (maxL := maxL) (ret := ret) hM hbl hrc hrs hfr hlo hws hcw (fun a' U hW => word_at hW (Or.inl (by first | rfl | simp [Cond.onTables, Cond.keeps, Cond.steady])) hini)
theorem vx_runV (S : CallFix p m c cc nL s args Ts own) (hM : vx_Met l y ws rm Pc Qc XC mc ms free) (cw : CallW R s args own C index y bytes maxL ret ws rm mc ms n) (hp : PreV s H C b Pc As)
    (hg : g.method = m) (hn : As.length = n) (hsize : g.locals.size = nL) (hstack : g.stack = As.reverse ++ .ref b :: rest) (hW : 2 * g.monitorRoom + (rest.map fun v => v.category).sum ≤ 8) (hdg : decode cc g.pc = .ok (.invokevirtual index, 3)) (hf : cells + mc ≤ R.cells ∧ slots + ms ≤ R.slots) :
    vx_Run p l e R s m args below meth c H locs cells slots mc ms g rest (Qc (Value.ref b :: As).toArray) XC free := by
  have hK : vx_Back l R p e below s args y 3 8 (PreOf R mc ms Pc) (PostOf Qc mc ms free) (vx_Post XC mc ms free) := vx_callBack cw.1 hM hp.1
  obtain ⟨⟨-, -, -, -, -, -, hcode, -, hy, hlen, hl⟩, hin, hse⟩ := cw
  obtain ⟨hx, hb, hml, ho, -⟩ := S
  obtain ⟨-, ⟨cellB, hcB, hoB, hclB⟩, hPc⟩ := hp
  intro T hT X
  rcases vx_callV X hx (C := C) (bytes := bytes) (maxL := maxL) (ret := ret) ho hl hin hse hcode hy hK (by rw [hT]; exact hcB) hoB hclB hg (hsize.trans hml.symm) (argsL := As) (rest := rest) (fun sig h => hn.trans (hlen sig h)) hstack hW (by rw [hb]; exact hdg)
    (fun vm₁ hW₁ => ⟨hf.1, hf.2, hPc (T.setVm vm₁) hT hW₁⟩) with ⟨v, vm₁, ⟨U', l2, c2, s2⟩, hW₁, X', ⟨g', mk, t, L, e1, e2, hq, h1, hL, h2, h3⟩, st⟩ | ⟨q, vm₁, ⟨U', l2, c2, s2⟩, hW₁, X', ⟨g', mk, t, L, E, ce, e1, e2, hq, hce, hcv, hcl, h1, hL, h2, h3⟩, st⟩
  · dsimp only [Pt.U, Pt.locs, Pt.cells, Pt.slots] at X' e1 e2 h1 h2 h3 st
    subst h1; subst h2; subst h3
    exact Or.inl ⟨v, (T.setVm vm₁).calling g' mk (Value.ref b :: As).toArray, t, U', L, hT, X', hL, e1, e2, hq, st⟩
  · dsimp only [Pt.U, Pt.locs, Pt.cells, Pt.slots] at X' e1 e2 h1 h2 h3 st hcl
    subst h1; subst h2; subst h3
    exact Or.inr ⟨q, (T.setVm vm₁).calling g' mk (Value.ref b :: As).toArray, t, U', L, E, ce, hT, X', hL, e1, e2, hq, hce, hcv, vx_cls hW₁ hcl, st⟩
theorem vx_runS (S : CallFix p m c cc nL s args Ts own) (hM : vx_Met l y ws rm Pc Qc XC mc ms free) (cw : CallB R s args own index y bytes maxL ret ws rm mc ms n ∧ (Cond.static y).before args s = true) (hp : PreS s H Pc As)
    (hg : g.method = m) (hn : As.length = n) (hsize : g.locals.size = nL) (hstack : g.stack = As.reverse ++ rest) (hW : 2 * g.monitorRoom + (rest.map fun v => v.category).sum ≤ 8) (hdg : decode cc g.pc = .ok (.invokestatic index, 3)) (hf : cells + mc ≤ R.cells ∧ slots + ms ≤ R.slots) :
    vx_Run p l e R s m args below meth c H locs cells slots mc ms g rest (Qc As.toArray) XC free := by
  have hK : vx_Back l R p e below s args y 3 8 (PreOf R mc ms Pc) (PostOf Qc mc ms free) (vx_Post XC mc ms free) := vx_callBack cw.1 hM hp.1
  obtain ⟨⟨-, -, -, -, -, -, hcode, hini, hy, hlen, hl⟩, hstt⟩ := cw
  obtain ⟨hx, hb, hml, ho, -⟩ := S
  intro T hT X
  rcases vx_callS X hx (bytes := bytes) (maxL := maxL) (ret := ret) ho hl hstt hini hcode hy hK hg (hsize.trans hml.symm) (argsL := As) (rest := rest) (fun sig h => hn.trans (hlen sig h)) hstack hW (by rw [hb]; exact hdg)
    (fun vm₁ hW₁ => ⟨hf.1, hf.2, hp.2 (T.setVm vm₁) hT hW₁⟩) with ⟨v, vm₁, ⟨U', l2, c2, s2⟩, hW₁, X', ⟨g', mk, t, L, e1, e2, hq, h1, hL, h2, h3⟩, st⟩ | ⟨q, vm₁, ⟨U', l2, c2, s2⟩, hW₁, X', ⟨g', mk, t, L, E, ce, e1, e2, hq, hce, hcv, hcl, h1, hL, h2, h3⟩, st⟩
  · dsimp only [Pt.U, Pt.locs, Pt.cells, Pt.slots] at X' e1 e2 h1 h2 h3 st
    subst h1; subst h2; subst h3
    exact Or.inl ⟨v, (T.setVm vm₁).calling g' mk As.toArray, t, U', L, hT, X', hL, e1, e2, hq, st⟩
  · dsimp only [Pt.U, Pt.locs, Pt.cells, Pt.slots] at X' e1 e2 h1 h2 h3 st hcl
    subst h1; subst h2; subst h3
    exact Or.inr ⟨q, (T.setVm vm₁).calling g' mk As.toArray, t, U', L, E, ce, hT, X', hL, e1, e2, hq, hce, hcv, vx_cls hW₁ hcl, st⟩
end Runs
section Rows
variable {p : Program} {l : Launch} {e : Env} {R : Room} {s : State} {m : MethodId} {args : Array Value} {below : List Frame} {meth : Method} {c : Code} {H : Heap} {locs : List Loc} {cells slots : Nat} {Q : State → Prop}
variable {mc ms : Nat} {free : Addr → Prop} {A0 A1 : Nat → Prop} {H0 : Heap} {a : Array Value} {pc : Nat} {ls : Array Slot} {st0 rest : List Value}
theorem vx_keep {st₀ t T' : State} {L : List Loc} (h0 : st₀.heap = H) (e1 : T'.heap = t.heap) (hS : va_S A0 H0 H locs) (hA : ∀ q, q < H.size → A1 q → A0 q) (hf : ∀ q, free q → A0 q) (hL : ∀ q ∈ L, free q.base) (hF : va_F A1 st₀ t) :
    H.size ≤ T'.heap.size ∧ (∀ q : Nat, q < H.size → ¬ A1 q → T'.heap[q]? = H[q]?) ∧ va_S A0 H0 T'.heap (locs ++ L) := by
  obtain ⟨hz, hk⟩ := hF
  rw [h0] at hz hk
  exact ⟨by rw [e1]; exact hz, fun q h1 h2 => by rw [e1]; exact hk q h1 h2,
    ⟨Nat.le_trans hS.1 (by rw [e1]; exact hz), fun q h1 h2 => by rw [e1, hk q (Nat.lt_of_lt_of_le h1 hS.1) (fun z => h2 (hA q (Nat.lt_of_lt_of_le h1 hS.1) z))]; exact hS.2.1 q h1 h2, fun q hq => by
      rcases List.mem_append.mp hq with h | h
      · exact hS.2.2 q h
      · exact hf _ (hL q h)⟩⟩
theorem vx_calli {S SX : Type} {post : Int32 → S → Prop} {px : SX → Prop} {B : S → State → Prop} {BX : String → SX → State → Prop} {AX : Nat → Prop} (hr : vx_Run p l e R s m args below meth c H locs cells slots mc ms (F0 m pc ls st0) rest (va_Qi post B A1 a) (vx_X px BX AX) free) (hS : va_S A0 H0 H locs) (hA : ∀ q, q < H.size → A1 q → A0 q) (hf : ∀ q, free q → A0 q) (hAX : ∀ q, q < H.size → AX q → A0 q)
    (kx : ∀ (E : String) (ce : Cell) (q9 : Addr) (u : SX) (t : State) (H1 : Heap) (locs1 : List Loc), t.heap = H1 → s.vm.Alike t.vm → px u → BX E u t → H.size ≤ H1.size → (∀ q : Nat, q < H.size → ¬ AX q → H1[q]? = H[q]?) → va_S A0 H0 H1 locs1 → H1[q9]? = some ce → ce.vm = .none → s.vm.findClass E = some ce.cls → vx_W p l e R s m args below meth c H1 locs1 (cells + mc) (slots + ms) Q (F0 m pc ls rest) q9)
    (kk : ∀ (r : Int32) (u : S) (t : State) (H1 : Heap) (locs1 : List Loc), t.heap = H1 → s.vm.Alike t.vm → post r u → B u t → H.size ≤ H1.size → (∀ q : Nat, q < H.size → ¬ A1 q → H1[q]? = H[q]?) → va_S A0 H0 H1 locs1 → W p l e R s m args below meth c H1 locs1 (cells + mc) (slots + ms) Q (F0 m (pc + 3) ls (.int r :: rest))) : W p l e R s m args below meth c H locs cells slots Q (F0 m pc ls st0) := by
  intro T hT X
  rcases hr T hT X with ⟨v, st₀, t, T', L, h0, X', hL, e1, e2, ⟨⟨r, u, hv, hp, hb⟩, hF⟩, st⟩ | ⟨q, st₀, t, T', L, E, ce, h0, X', hL, e1, e2, ⟨u, hp, hb, hF⟩, hce, hcv, hcl, st⟩
  · cases hv
    obtain ⟨k1, k2, k3⟩ := vx_keep h0 e1 hS hA hf hL hF
    obtain ⟨t2, a1, b1⟩ := kk r u t T'.heap (locs ++ L) e1.symm (by rw [← e2]; exact X'.warmed.alike) hp hb k1 k2 k3 T' rfl X'
    exact ⟨t2, st t2 a1, b1⟩
  · obtain ⟨k1, k2, k3⟩ := vx_keep h0 e1 hS hAX hf hL hF
    obtain ⟨t2, a1, b1⟩ := kx E ce q u t T'.heap (locs ++ L) e1.symm (by rw [← e2]; exact X'.warmed.alike) hp hb k1 k2 k3 (by rw [e1]; exact hce) hcv hcl T' rfl X'
    exact ⟨t2, st.trans a1, b1⟩
theorem vx_calll {S SX : Type} {post : Int64 → S → Prop} {px : SX → Prop} {B : S → State → Prop} {BX : String → SX → State → Prop} {AX : Nat → Prop} (hr : vx_Run p l e R s m args below meth c H locs cells slots mc ms (F0 m pc ls st0) rest (va_Ql post B A1 a) (vx_X px BX AX) free) (hS : va_S A0 H0 H locs) (hA : ∀ q, q < H.size → A1 q → A0 q) (hf : ∀ q, free q → A0 q) (hAX : ∀ q, q < H.size → AX q → A0 q)
    (kx : ∀ (E : String) (ce : Cell) (q9 : Addr) (u : SX) (t : State) (H1 : Heap) (locs1 : List Loc), t.heap = H1 → s.vm.Alike t.vm → px u → BX E u t → H.size ≤ H1.size → (∀ q : Nat, q < H.size → ¬ AX q → H1[q]? = H[q]?) → va_S A0 H0 H1 locs1 → H1[q9]? = some ce → ce.vm = .none → s.vm.findClass E = some ce.cls → vx_W p l e R s m args below meth c H1 locs1 (cells + mc) (slots + ms) Q (F0 m pc ls rest) q9)
    (kk : ∀ (r : Int64) (u : S) (t : State) (H1 : Heap) (locs1 : List Loc), t.heap = H1 → s.vm.Alike t.vm → post r u → B u t → H.size ≤ H1.size → (∀ q : Nat, q < H.size → ¬ A1 q → H1[q]? = H[q]?) → va_S A0 H0 H1 locs1 → W p l e R s m args below meth c H1 locs1 (cells + mc) (slots + ms) Q (F0 m (pc + 3) ls (.long r :: rest))) : W p l e R s m args below meth c H locs cells slots Q (F0 m pc ls st0) := by
  intro T hT X
  rcases hr T hT X with ⟨v, st₀, t, T', L, h0, X', hL, e1, e2, ⟨⟨r, u, hv, hp, hb⟩, hF⟩, st⟩ | ⟨q, st₀, t, T', L, E, ce, h0, X', hL, e1, e2, ⟨u, hp, hb, hF⟩, hce, hcv, hcl, st⟩
  · cases hv
    obtain ⟨k1, k2, k3⟩ := vx_keep h0 e1 hS hA hf hL hF
    obtain ⟨t2, a1, b1⟩ := kk r u t T'.heap (locs ++ L) e1.symm (by rw [← e2]; exact X'.warmed.alike) hp hb k1 k2 k3 T' rfl X'
    exact ⟨t2, st t2 a1, b1⟩
  · obtain ⟨k1, k2, k3⟩ := vx_keep h0 e1 hS hAX hf hL hF
    obtain ⟨t2, a1, b1⟩ := kx E ce q u t T'.heap (locs ++ L) e1.symm (by rw [← e2]; exact X'.warmed.alike) hp hb k1 k2 k3 (by rw [e1]; exact hce) hcv hcl T' rfl X'
    exact ⟨t2, st.trans a1, b1⟩
theorem vx_callf {S SX : Type} {post : UInt32 → S → Prop} {px : SX → Prop} {B : S → State → Prop} {BX : String → SX → State → Prop} {AX : Nat → Prop} (hr : vx_Run p l e R s m args below meth c H locs cells slots mc ms (F0 m pc ls st0) rest (va_Qf post B A1 a) (vx_X px BX AX) free) (hS : va_S A0 H0 H locs) (hA : ∀ q, q < H.size → A1 q → A0 q) (hf : ∀ q, free q → A0 q) (hAX : ∀ q, q < H.size → AX q → A0 q)
    (kx : ∀ (E : String) (ce : Cell) (q9 : Addr) (u : SX) (t : State) (H1 : Heap) (locs1 : List Loc), t.heap = H1 → s.vm.Alike t.vm → px u → BX E u t → H.size ≤ H1.size → (∀ q : Nat, q < H.size → ¬ AX q → H1[q]? = H[q]?) → va_S A0 H0 H1 locs1 → H1[q9]? = some ce → ce.vm = .none → s.vm.findClass E = some ce.cls → vx_W p l e R s m args below meth c H1 locs1 (cells + mc) (slots + ms) Q (F0 m pc ls rest) q9)
    (kk : ∀ (r : UInt32) (u : S) (t : State) (H1 : Heap) (locs1 : List Loc), t.heap = H1 → s.vm.Alike t.vm → post r u → B u t → H.size ≤ H1.size → (∀ q : Nat, q < H.size → ¬ A1 q → H1[q]? = H[q]?) → va_S A0 H0 H1 locs1 → W p l e R s m args below meth c H1 locs1 (cells + mc) (slots + ms) Q (F0 m (pc + 3) ls (.float r :: rest))) : W p l e R s m args below meth c H locs cells slots Q (F0 m pc ls st0) := by
  intro T hT X
  rcases hr T hT X with ⟨v, st₀, t, T', L, h0, X', hL, e1, e2, ⟨⟨r, u, hv, hp, hb⟩, hF⟩, st⟩ | ⟨q, st₀, t, T', L, E, ce, h0, X', hL, e1, e2, ⟨u, hp, hb, hF⟩, hce, hcv, hcl, st⟩
  · cases hv
    obtain ⟨k1, k2, k3⟩ := vx_keep h0 e1 hS hA hf hL hF
    obtain ⟨t2, a1, b1⟩ := kk r u t T'.heap (locs ++ L) e1.symm (by rw [← e2]; exact X'.warmed.alike) hp hb k1 k2 k3 T' rfl X'
    exact ⟨t2, st t2 a1, b1⟩
  · obtain ⟨k1, k2, k3⟩ := vx_keep h0 e1 hS hAX hf hL hF
    obtain ⟨t2, a1, b1⟩ := kx E ce q u t T'.heap (locs ++ L) e1.symm (by rw [← e2]; exact X'.warmed.alike) hp hb k1 k2 k3 (by rw [e1]; exact hce) hcv hcl T' rfl X'
    exact ⟨t2, st.trans a1, b1⟩
theorem vx_calld {S SX : Type} {post : UInt64 → S → Prop} {px : SX → Prop} {B : S → State → Prop} {BX : String → SX → State → Prop} {AX : Nat → Prop} (hr : vx_Run p l e R s m args below meth c H locs cells slots mc ms (F0 m pc ls st0) rest (va_Qd post B A1 a) (vx_X px BX AX) free) (hS : va_S A0 H0 H locs) (hA : ∀ q, q < H.size → A1 q → A0 q) (hf : ∀ q, free q → A0 q) (hAX : ∀ q, q < H.size → AX q → A0 q)
    (kx : ∀ (E : String) (ce : Cell) (q9 : Addr) (u : SX) (t : State) (H1 : Heap) (locs1 : List Loc), t.heap = H1 → s.vm.Alike t.vm → px u → BX E u t → H.size ≤ H1.size → (∀ q : Nat, q < H.size → ¬ AX q → H1[q]? = H[q]?) → va_S A0 H0 H1 locs1 → H1[q9]? = some ce → ce.vm = .none → s.vm.findClass E = some ce.cls → vx_W p l e R s m args below meth c H1 locs1 (cells + mc) (slots + ms) Q (F0 m pc ls rest) q9)
    (kk : ∀ (r : UInt64) (u : S) (t : State) (H1 : Heap) (locs1 : List Loc), t.heap = H1 → s.vm.Alike t.vm → post r u → B u t → H.size ≤ H1.size → (∀ q : Nat, q < H.size → ¬ A1 q → H1[q]? = H[q]?) → va_S A0 H0 H1 locs1 → W p l e R s m args below meth c H1 locs1 (cells + mc) (slots + ms) Q (F0 m (pc + 3) ls (.double r :: rest))) : W p l e R s m args below meth c H locs cells slots Q (F0 m pc ls st0) := by
  intro T hT X
  rcases hr T hT X with ⟨v, st₀, t, T', L, h0, X', hL, e1, e2, ⟨⟨r, u, hv, hp, hb⟩, hF⟩, st⟩ | ⟨q, st₀, t, T', L, E, ce, h0, X', hL, e1, e2, ⟨u, hp, hb, hF⟩, hce, hcv, hcl, st⟩
  · cases hv
    obtain ⟨k1, k2, k3⟩ := vx_keep h0 e1 hS hA hf hL hF
    obtain ⟨t2, a1, b1⟩ := kk r u t T'.heap (locs ++ L) e1.symm (by rw [← e2]; exact X'.warmed.alike) hp hb k1 k2 k3 T' rfl X'
    exact ⟨t2, st t2 a1, b1⟩
  · obtain ⟨k1, k2, k3⟩ := vx_keep h0 e1 hS hAX hf hL hF
    obtain ⟨t2, a1, b1⟩ := kx E ce q u t T'.heap (locs ++ L) e1.symm (by rw [← e2]; exact X'.warmed.alike) hp hb k1 k2 k3 (by rw [e1]; exact hce) hcv hcl T' rfl X'
    exact ⟨t2, st.trans a1, b1⟩
theorem vx_callv {S SX : Type} {post : S → Prop} {px : SX → Prop} {B : S → State → Prop} {BX : String → SX → State → Prop} {AX : Nat → Prop} (hr : vx_Run p l e R s m args below meth c H locs cells slots mc ms (F0 m pc ls st0) rest (va_Qv post B A1 a) (vx_X px BX AX) free) (hS : va_S A0 H0 H locs) (hA : ∀ q, q < H.size → A1 q → A0 q) (hf : ∀ q, free q → A0 q) (hAX : ∀ q, q < H.size → AX q → A0 q)
    (kx : ∀ (E : String) (ce : Cell) (q9 : Addr) (u : SX) (t : State) (H1 : Heap) (locs1 : List Loc), t.heap = H1 → s.vm.Alike t.vm → px u → BX E u t → H.size ≤ H1.size → (∀ q : Nat, q < H.size → ¬ AX q → H1[q]? = H[q]?) → va_S A0 H0 H1 locs1 → H1[q9]? = some ce → ce.vm = .none → s.vm.findClass E = some ce.cls → vx_W p l e R s m args below meth c H1 locs1 (cells + mc) (slots + ms) Q (F0 m pc ls rest) q9)
    (kk : ∀ (u : S) (t : State) (H1 : Heap) (locs1 : List Loc), t.heap = H1 → s.vm.Alike t.vm → post u → B u t → H.size ≤ H1.size → (∀ q : Nat, q < H.size → ¬ A1 q → H1[q]? = H[q]?) → va_S A0 H0 H1 locs1 → W p l e R s m args below meth c H1 locs1 (cells + mc) (slots + ms) Q (F0 m (pc + 3) ls (rest))) : W p l e R s m args below meth c H locs cells slots Q (F0 m pc ls st0) := by
  intro T hT X
  rcases hr T hT X with ⟨v, st₀, t, T', L, h0, X', hL, e1, e2, ⟨⟨u, hv, hp, hb⟩, hF⟩, st⟩ | ⟨q, st₀, t, T', L, E, ce, h0, X', hL, e1, e2, ⟨u, hp, hb, hF⟩, hce, hcv, hcl, st⟩
  · cases hv
    obtain ⟨k1, k2, k3⟩ := vx_keep h0 e1 hS hA hf hL hF
    obtain ⟨t2, a1, b1⟩ := kk u t T'.heap (locs ++ L) e1.symm (by rw [← e2]; exact X'.warmed.alike) hp hb k1 k2 k3 T' rfl X'
    exact ⟨t2, st t2 a1, b1⟩
  · obtain ⟨k1, k2, k3⟩ := vx_keep h0 e1 hS hAX hf hL hF
    obtain ⟨t2, a1, b1⟩ := kx E ce q u t T'.heap (locs ++ L) e1.symm (by rw [← e2]; exact X'.warmed.alike) hp hb k1 k2 k3 (by rw [e1]; exact hce) hcv hcl T' rfl X'
    exact ⟨t2, st.trans a1, b1⟩
/-- caught by the row x of this method's table; the rows ahead don't take it -/
theorem vx_catch {own name : String} {E : String} {ce : Cell} {q : Addr} (hown : s.vm.findClass own = some m.cls) (pre : List ExceptionTableEntry) (x : ExceptionTableEntry) (suf : List ExceptionTableEntry) (hsplit : c.exceptionTable.toList = pre ++ x :: suf)
    (hpass : ∀ z ∈ pre, covers z pc = false ∨ (z.catchType ≠ 0 ∧ ∃ nm : String, (Cond.classLink own z.catchType nm).before args s = true ∧ va_Nc E nm s)) (hx : covers x pc = true) (h0 : x.catchType ≠ 0)
    (hlink : (Cond.classLink own x.catchType name).before args s = true) (hcast : (Cond.castable E name).before args s = true) (hcell : H[q]? = some ce) (hv : ce.vm = .none) (hcl : s.vm.findClass E = some ce.cls)
    (kk : W p l e R s m args below meth c H locs cells slots Q (F0 m x.handlerPc ls [.ref q])) : vx_W p l e R s m args below meth c H locs cells slots Q (F0 m pc ls rest) q := by
  intro T hT X
  have hpl : e.platform.magicAccessors = ({} : Platform).magicAccessors := by rw [X.admits.platform]
  obtain ⟨c3, c4, hc3, hc4, hasg⟩ := Cond.castable_spec hcast
  cases Option.some.inj (hc3.symm.trans hcl)
  obtain ⟨c5, hc5, hcl5⟩ := Cond.classLink_spec hown hlink e.platform hpl
  cases Option.some.inj (hc4.symm.trans hc5)
  obtain ⟨vm', X', st⟩ := X.thenCaughtThrough q (g := F0 m pc ls rest) rfl (Steps.refl _) (by rw [hT]; exact hcell) (by rw [hv]; rfl) (by obtain ⟨k9, h9, -⟩ := Vm.findClass_spec hcl; exact ⟨k9, h9⟩) pre x suf hsplit
    (fun z hz => by
      rcases hpass z hz with h | ⟨hz0, nm, hl1, hn1⟩
      · exact Or.inl h
      · obtain ⟨c6, hc6, hcl6⟩ := Cond.classLink_spec hown hl1 e.platform hpl
        obtain ⟨a8, b8, h1, h2, h3⟩ := hn1
        cases Option.some.inj (h1.symm.trans hcl)
        cases Option.some.inj (h2.symm.trans hc6)
        exact Or.inr ⟨hz0, _, hcl6, h3⟩) hx (Or.inr ⟨h0, c4, hcl5, hasg⟩)
  obtain ⟨t, a1, b1⟩ := kk (T.setVm vm') hT X'
  exact ⟨t, st.trans a1, b1⟩
end Rows
section Ends
variable {p : Program} {l : Launch} {e : Env} {R : Room} {s : State} {m : MethodId} {args : Array Value} {below : List Frame} {meth : Method} {c : Code} {H : Heap} {locs : List Loc} {cells slots : Nat} {Q : State → Prop}
variable {mc ms : Nat} {free : Addr → Prop} {A0 A1 : Nat → Prop} {H0 : Heap} {a : Array Value} {ls : Array Slot} {st0 rest : List Value}
variable {Qc : Array Value → State → Outcome → State → Prop} {XC : String → State → State → Prop}
/-- what a body that may throw owes at its end -/
def vx_MQ (below : List Frame) (Qc : Array Value → State → Outcome → State → Prop) (XC : String → State → State → Prop) (a : Array Value) (s : State) (mc ms : Nat) (free : Addr → Prop) : State → Prop := fun t =>
  ∃ o, t.status = .running ∧ Ended t below o ∧ vx_Q Qc XC mc ms free a s o t
theorem vx_ret {g : JFrame} {mc ms : Nat} (k : W p l e R s m args below meth c H locs cells slots (MQ below Qc args s mc ms free) g) : W p l e R s m args below meth c H locs cells slots (vx_MQ below Qc XC args s mc ms free) g := by
  intro T hT X
  obtain ⟨t, a1, o, b1, b2, b3, b4⟩ := k T hT X
  exact ⟨t, a1, o, b1, b2, Or.inl ⟨b3, b4⟩⟩
/-- not caught here: it goes on to the caller -/
theorem vx_widen {g : JFrame} {q : Addr} {k n : Nat} (h1 : cells ≤ k) (h2 : slots ≤ n) (kk : vx_W p l e R s m args below meth c H locs k n Q g q) : vx_W p l e R s m args below meth c H locs cells slots Q g q := fun T hT X => kk T hT (stand_widen X h1 h2)
theorem vx_out {pc : Nat} {E : String} {ce : Cell} {q : Addr} {mc ms : Nat} (hout : ∀ x ∈ c.exceptionTable.toList, covers x pc = false) (hlocks : meth.locks = false) (hcell : H[q]? = some ce) (hv : ce.vm = .none) (hcl : s.vm.findClass E = some ce.cls)
    (hx : ∀ t : State, t.heap = H → s.vm.Alike t.vm → XC E s t) (hf : ∀ z ∈ locs, free z.base) (hc : cells ≤ mc) (hs : slots ≤ ms) :
    vx_W p l e R s m args below meth c H locs cells slots (vx_MQ below Qc XC args s mc ms free) (F0 m pc ls rest) q := by
  intro T hT X
  obtain ⟨st1, hrun, hend, hW, hsm⟩ := X.leaveThrown q (g := F0 m pc ls rest) rfl rfl rfl hout hlocks
  have hcell9 : (T.setFrames (.throwing q :: below)).heap[q]? = some ce := by
    show T.heap[q]? = some ce
    rw [hT]; exact hcell
  exact ⟨_, st1, .threw q, hrun, hend, Or.inr ⟨q, rfl, E, ce, locs, hx _ hT hW.alike, hcell9, hv, hcl, hW, hsm.mono hc hs, hf⟩⟩
theorem vx_frame {U : State} {k n : Nat} (h : s.sameButNew ({ U with vm := s.vm } : State) locs k n) : s.heap.size ≤ U.heap.size ∧ ∀ q : Nat, q < s.heap.size → (∀ z ∈ locs, z.base ≠ q) → U.heap[q]? = s.heap[q]? := by
  obtain ⟨-, h2, -, -, -, h6⟩ := h
  refine ⟨h2, fun q hq hz => ?_⟩
  obtain ⟨c9, e1, e2, e3, e4⟩ := h6 q _ (Array.getElem?_eq_getElem hq)
  have hs : c9.slots = (s.heap[q]).slots := Array.ext_getElem? fun i => e4 i fun hm => hz _ hm rfl
  have h9 : c9 = s.heap[q] := by
    rw [hs] at e2
    exact e2
  have e5 : U.heap[q]? = some c9 := e1
  rw [e5, h9, Array.getElem?_eq_getElem hq]
/-- the words of a throw but the four that speak of the heap -/
def vx_no (w : Cond) : Bool := decide (w ≠ .isRef (.static Bundle.tN "UNASSIGNED_STACK" Bundle.steD)) && decide (w ≠ .isRef (.static Bundle.tN "SUPPRESSED_SENTINEL" Bundle.listD)) && decide (w ≠ .laysStatic Bundle.tN "UNASSIGNED_STACK" Bundle.steD) && decide (w ≠ .laysStatic Bundle.tN "SUPPRESSED_SENTINEL" Bundle.listD)
def vx_at0 (own : String) (ic : Nat) (X : String) (names : List String) : List Cond := (Bundle.ownAtoms0 own ic X names).filter vx_no
def vx_atS (own : String) (ic : Nat) (X : String) (names : List String) : List Cond := (Bundle.ownAtoms own ic X names).filter vx_no
/-- a word that the tables alone decide, or a good one -/
def vx_ot (w : Cond) : Bool := w.onTables || goodWord w
theorem vx_ot_at {args a' : Array Value} {s U : State} {w : Cond} (hW : s.WarmedH U.vm) (hvm : s.vm = U.vm) (hg : vx_ot w = true) (h : w.before args s = true) : w.before a' U = true := by
  simp only [vx_ot, Bool.or_eq_true] at hg
  rcases hg with hg | hg
  · exact va_tabs hg hvm h
  · exact word_at hW (good_of_word hg) h
/-- a list's words: the good ones out of the method's own list, the others by premises of their own -/
theorem vx_hat {args : Array Value} {s : State} {L B : List Cond} (h1 : ∀ w ∈ L.filter goodWord, w.before args s = true) (h2 : ∀ w ∈ L.filter (fun w => !goodWord w), w ∈ B) (h3 : ∀ w ∈ B, w.before args s = true) : ∀ w ∈ L, w.before args s = true := by
  intro w hw
  by_cases g : goodWord w = true
  · exact h1 w (List.mem_filter.mpr ⟨hw, g⟩)
  · refine h3 w (h2 w (List.mem_filter.mpr ⟨hw, ?_⟩))
    show (!goodWord w) = true
    cases hgw : goodWord w
    · rfl
    · exact absurd hgw g
theorem vx_c {args : Array Value} {s : State} {w : Cond} {B : List Cond} (h : w.before args s = true) (t : ∀ w ∈ B, w.before args s = true) : ∀ w' ∈ w :: B, w'.before args s = true := fun w' h' => (List.mem_cons.mp h').elim (fun e => by rw [e]; exact h) (t w')
theorem vx_n {args : Array Value} {s : State} : ∀ w ∈ ([] : List Cond), w.before args s = true := fun _ h => nomatch h
theorem vx_own {args : Array Value} {s : State} {L : List Cond} (h1 : ∀ w ∈ L.filter vx_no, w.before args s = true)
    (hU : (Cond.isRef (.static Bundle.tN "UNASSIGNED_STACK" Bundle.steD)).before args s = true) (hN : (Cond.isRef (.static Bundle.tN "SUPPRESSED_SENTINEL" Bundle.listD)).before args s = true)
    (lU : (Cond.laysStatic Bundle.tN "UNASSIGNED_STACK" Bundle.steD).before args s = true) (lN : (Cond.laysStatic Bundle.tN "SUPPRESSED_SENTINEL" Bundle.listD).before args s = true) : ∀ w ∈ L, w.before args s = true := by
  intro w hw
  by_cases e1 : w = .isRef (.static Bundle.tN "UNASSIGNED_STACK" Bundle.steD)
  · rw [e1]; exact hU
  · by_cases e2 : w = .isRef (.static Bundle.tN "SUPPRESSED_SENTINEL" Bundle.listD)
    · rw [e2]; exact hN
    · by_cases e3 : w = .laysStatic Bundle.tN "UNASSIGNED_STACK" Bundle.steD
      · rw [e3]; exact lU
      · by_cases e4 : w = .laysStatic Bundle.tN "SUPPRESSED_SENTINEL" Bundle.listD
        · rw [e4]; exact lN
        · exact h1 w (List.mem_filter.mpr ⟨hw, by unfold vx_no; rw [decide_eq_true e1, decide_eq_true e2, decide_eq_true e3, decide_eq_true e4]; rfl⟩)
/-- where a static field lies, its class's statics cell in H -/
def vx_L (C n d : String) (A : Nat → Prop) (U : State) (H : Heap) : Prop := ∃ (c : ClassId) (k : Class) (i : Nat) (f : Field) (a : Nat) (cell : Cell), U.vm.findClass C = some c ∧ U.fieldFound? C n d = some (c, k, i, f) ∧ f.isStatic = true ∧ k.statics = some a ∧ H[a]? = some cell ∧ cell.vm.isStatics = true ∧ cell.cls = c ∧ f.slot < cell.slots.size ∧ k.staticTypes[f.slot]? = some f.type ∧ ¬ A a
theorem vx_L.moved {C n d : String} {A : Nat → Prop} {u U : State} {H : Heap} (hvm : u.vm.Alike U.vm) (h : vx_L C n d A u H) : vx_L C n d A U H := by
  obtain ⟨c, k, i, f, a, cell, h1, h2, h3, h4, h5, h6, h7, h8, h9, h10⟩ := h
  obtain ⟨k', hi', he⟩ := State.fieldFound?_setVm hvm h2
  exact ⟨c, k', i, f, a, cell, by rw [hvm.findClass]; exact h1, hi', h3, by rw [he]; exact h4, h5, h6, h7, h8, by rw [he]; exact h9, h10⟩
theorem vx_L.kept {C n d : String} {A : Nat → Prop} {U : State} {H H1 : Heap} (h : vx_L C n d A U H) (hq : ∀ a : Nat, a < H.size → ¬ A a → H1[a]? = H[a]?) : vx_L C n d A U H1 := by
  obtain ⟨c, k, i, f, a, cell, h1, h2, h3, h4, h5, h6, h7, h8, h9, h10⟩ := h
  exact ⟨c, k, i, f, a, cell, h1, h2, h3, h4, by rw [hq a (Array.getElem?_eq_some_iff.mp h5).1 h10]; exact h5, h6, h7, h8, h9, h10⟩
theorem vx_L.narrow {C n d : String} {A B : Nat → Prop} {U : State} {H : Heap} (h : vx_L C n d A U H) (hAB : ∀ q, B q → A q) : vx_L C n d B U H := by
  obtain ⟨c, k, i, f, a, cell, h1, h2, h3, h4, h5, h6, h7, h8, h9, h10⟩ := h
  exact ⟨c, k, i, f, a, cell, h1, h2, h3, h4, h5, h6, h7, h8, h9, fun z => h10 (hAB _ z)⟩
theorem vx_L.word {C n d : String} {A : Nat → Prop} {s : State} {args : Array Value} (h : vx_L C n d A s s.heap) : (Cond.laysStatic C n d).before args s = true := by
  obtain ⟨c, k, i, f, a, cell, h1, h2, h3, h4, h5, h6, h7, h8, h9, -⟩ := h
  show (Cond.laysStatic C n d).holds args s none s [] = true
  exact Cond.laysStatic_of h1 h2 h3 h4 h5 h6 h7 h8 h9
/-- .. and what it holds: null or some reference -/
def vx_Zq (C n d : String) (A : Nat → Prop) (U : State) (H : Heap) : Prop := va_Zq C n d A U H ∧ vx_L C n d A U H
theorem vx_Zq.moved {C n d : String} {A : Nat → Prop} {u U : State} {H : Heap} (hvm : u.vm.Alike U.vm) (h : vx_Zq C n d A u H) : vx_Zq C n d A U H := ⟨va_Zq.moved hvm h.1, vx_L.moved hvm h.2⟩
theorem vx_Zq.kept {C n d : String} {A : Nat → Prop} {U : State} {H H1 : Heap} (h : vx_Zq C n d A U H) (hq : ∀ a : Nat, a < H.size → ¬ A a → H1[a]? = H[a]?) : vx_Zq C n d A U H1 := ⟨va_Zq.kept h.1 hq, vx_L.kept h.2 hq⟩
theorem vx_Zq.narrow {C n d : String} {A B : Nat → Prop} {U : State} {H : Heap} (h : vx_Zq C n d A U H) (hAB : ∀ q, B q → A q) : vx_Zq C n d B U H := ⟨va_Zq.narrow h.1 hAB, vx_L.narrow h.2 hAB⟩
theorem vx_Zqof {args : Array Value} {s : State} {C n d : String} {A : Nat → Prop} (hl : (Cond.laysStatic C n d).before args s = true) (hini : (Cond.initialized C).before args s = true) (h : (Cond.isRef (.static C n d)).before args s = true) (hA : ∀ a : Nat, a < s.heap.size → ¬ A a) : vx_Zq C n d A s s.heap := by
  refine ⟨va_Zqof hl hini h hA, ?_⟩
  obtain ⟨c, k, i, f, a, cell, h1, h2, h3, h4, h5, h6, h7, h8, h9⟩ := Cond.laysStatic_spec hl
  exact ⟨c, k, i, f, a, cell, h1, h2, h3, h4, h5, h6, h7, h8, h9, hA a (Array.getElem?_eq_some_iff.mp h5).1⟩
theorem vx_isRef {C n d : String} {v : Value} {A : Nat → Prop} {s : State} {args : Array Value} (h : va_Z C n d v A s s.heap) (hv : v.isRef = true) : (Cond.isRef (.static C n d)).before args s = true := by
  obtain ⟨cf, kf, fi, f, a, cell, h1, h2, h3, h4, h5, h6, h7, -⟩ := h
  have he : (Term.static C n d).eval args s none [] s = some v := by
    simp [Term.eval, State.fieldNamed?, h1, h2, h4, h5, h6, h7]
  simp only [Cond.before, Cond.holds, Cond.value, he]
  cases v <;> simp_all [Value.isRef]
theorem vx_isRefq {C n d : String} {A : Nat → Prop} {s : State} {args : Array Value} (h : va_Zq C n d A s s.heap) : (Cond.isRef (.static C n d)).before args s = true := by
  rcases h with h | ⟨t, h⟩
  · exact vx_isRef h rfl
  · exact vx_isRef h rfl
/-- the same frame, seen from here: as if the method were called anew in this heap -/
theorem vx_rebase {T : State} (X : Stand p l e R s m args below meth c T locs cells slots) {R' : Room} (hf : R'.frames ≤ R.frames) (hl : R'.locals ≤ R.locals) (hc : cells + R'.cells ≤ R.cells) (hs : slots + R'.slots ≤ R.slots) :
    Stand p l e R' ((T.setVm s.vm).setFrames (.invoking m args :: below)) m args below meth c T [] 0 0 := by
  have htop : (T.setVm s.vm).topJava?.isSome := X.here.top
  have hF : ((T.setVm s.vm).setFrames (.invoking m args :: below)).frames = .invoking m args :: below := State.frames_setFrames _ (State.cur_lt_of_top htop)
  obtain ⟨g₀, hg0⟩ := Option.isSome_iff_exists.mp htop
  obtain ⟨r, hr⟩ := State.topJava?_eq_some.mp hg0
  have hl9 : e.platform.stackLimits (T.setVm s.vm).me = e.platform.stackLimits s.me := X.limits
  have hb9 : (T.setVm s.vm).me.stackBytes = s.me.stackBytes := X.bytes
  refine ⟨X.admits, X.cas, X.clock, hF, ?_, X.hears, X.method, X.code, X.here, X.tail, X.warmed, ?_, ?_, ?_⟩
  · have h := X.room
    have hU : ((T.setVm s.vm).setFrames (.invoking m args :: below)).localsInUse = s.localsInUse := by
      rw [State.localsInUse_invoking hF (meth := meth) (c := c) X.method X.code, State.localsInUse_invoking X.frames X.method X.code]
    simp only [State.hasRoom, Bool.and_eq_true, decide_eq_true_eq] at h ⊢
    obtain ⟨⟨⟨⟨h1, h2, h3, h4, h5, h6⟩, h7⟩, h8⟩, h9⟩ := h
    rw [X.frames, List.length_cons] at h2 h3
    have q1 := X.heapSize
    have q2 := X.used
    simp only [hF, hU, List.length_cons, State.stackLimits_setFrames, State.stackBytes_setFrames, hl9, hb9]
    refine ⟨⟨⟨⟨by omega, by omega, by omega, by omega, by omega, h6⟩, ?_⟩, ?_⟩, X.book⟩
    · show T.heap.size + R'.cells ≤ e.platform.maxCells
      omega
    · show T.slotsUsed + R'.slots ≤ e.platform.maxSlots
      omega
  · rw [State.stackLimits_setFrames]; rfl
  · rw [State.stackBytes_setFrames]; rfl
  · refine ⟨?_, Nat.le_refl _, Nat.le_refl _, ?_, ?_, fun a c9 h9 => ⟨c9, h9, rfl, rfl, fun _ _ => rfl⟩⟩
    · obtain ⟨t, ht, -⟩ := State.frames_cons hr
      show T.setVm s.vm = { ((T.setVm s.vm).setFrames (.invoking m args :: below)).setFrames (T.setVm s.vm).frames with heap := T.heap, slotsUsed := T.slotsUsed }
      rw [State.setFrames_setFrames, State.setFrames_self ht]
      rfl
    · show T.slotsUsed = T.slotsUsed + ((T.heap.toList.drop T.heap.size).map (·.slots.size)).sum
      rw [List.drop_eq_nil_of_le (Nat.le_of_eq Array.length_toList)]
      rfl
    · show ((T.heap.toList.drop T.heap.size).map (·.slots.size)).sum ≤ 0
      rw [List.drop_eq_nil_of_le (Nat.le_of_eq Array.length_toList)]
      exact Nat.le_refl _
/-- 'throw new E()': new; dup; invokespecial; athrow -/
theorem vx_throw0 {cc : ByteArray} {pc : Nat} (hexec : p.tables.exec = Jvm.exec) (hb : c.code = cc) (hl : l.stackTraces = false) {own cls : String} {names : List String} {ik ic mc ms : Nat} {A : Nat → Prop}
    (hown : s.vm.findClass own = some m.cls) (hcls : Bundle.fit cls = true) (hnames : ∀ n ∈ names, Bundle.fit n = true)
    (hk : (Cond.classLink own ik cls).before args s = true) (hini : (Cond.initialized cls).before args s = true) (hat : ∀ w ∈ vx_at0 own ic cls names, w.before args s = true)
    (hgood : ∀ w ∈ Cond.classLink own ik cls :: Cond.initialized cls :: vx_at0 own ic cls names, vx_ot w = true)
    (hU : vx_Zq Bundle.tN "UNASSIGNED_STACK" Bundle.steD A s s.heap) (hN : vx_Zq Bundle.tN "SUPPRESSED_SENTINEL" Bundle.listD A s s.heap) (hS : va_S A s.heap H locs) (hsize : ls.size = c.maxLocals)
    (d0 : decode cc pc = .ok (.new ik, 3)) (d3 : decode cc (pc + 3) = .ok (.dup, 1)) (d4 : decode cc (pc + 4) = .ok (.invokespecial ic, 3)) (d7 : decode cc (pc + 7) = .ok (.athrow, 1))
    (hout : ∀ x ∈ c.exceptionTable.toList, covers x (pc + 7) = false)
    (hRframes : names.length + 3 < R.frames) (hRlocals : (rest.map fun v => v.category).sum + (13 * (names.length + 1) + 42) ≤ R.locals) (hRcells : cells + 1 ≤ R.cells) (hRslots : slots + 6 ≤ R.slots) (hlocks : meth.locks = false)
    (hx : ∀ t : State, s.vm.Alike t.vm → H.size ≤ t.heap.size → (∀ q : Nat, q < H.size → t.heap[q]? = H[q]?) → XC cls s t)
    (hf : ∀ z ∈ locs, free z.base) (hc : cells + 1 ≤ mc) (hs : slots + 6 ≤ ms) :
    W p l e R s m args below meth c H locs cells slots (vx_MQ below Qc XC args s mc ms free) (F0 m pc ls rest) := by
  intro T hT X
  have htr : e.platform.stackTraces = false := (show e.platform.stackTraces = l.stackTraces by rw [X.admits.platform]).trans hl
  have Y := vx_rebase X (R' := { frames := R.frames, locals := R.locals, cells := 1, slots := 6 }) (Nat.le_refl _) (Nat.le_refl _) hRcells hRslots
  obtain ⟨s', hA⟩ : ∃ z, z = (T.setVm s.vm).setFrames (.invoking m args :: below) := ⟨_, rfl⟩
  rw [← hA] at Y
  have hvm : s'.vm = s.vm := by rw [hA]; rfl
  have hhp : s'.heap = H := by rw [hA]; exact hT
  have hW0 : s.WarmedH s'.vm := by rw [hvm]; exact State.WarmedH.refl s
  have hat' : ∀ w ∈ vx_at0 own ic cls names, w.before args s' = true := fun w hw => vx_ot_at hW0 hvm.symm (hgood w (List.mem_cons_of_mem _ (List.mem_cons_of_mem _ hw))) (hat w hw)
  have hk' : (Cond.classLink own ik cls).before args s' = true := vx_ot_at hW0 hvm.symm (hgood _ List.mem_cons_self) hk
  have hini' : (Cond.initialized cls).before args s' = true := vx_ot_at hW0 hvm.symm (hgood _ (List.mem_cons_of_mem _ List.mem_cons_self)) hini
  have hU' : vx_Zq Bundle.tN "UNASSIGNED_STACK" Bundle.steD A s' s'.heap := by rw [hhp]; exact vx_Zq.moved hW0.alike (hU.kept hS.2.1)
  have hN' : vx_Zq Bundle.tN "SUPPRESSED_SENTINEL" Bundle.listD A s' s'.heap := by rw [hhp]; exact vx_Zq.moved hW0.alike (hN.kept hS.2.1)
  have h : ∀ w ∈ Bundle.ownAtoms0 own ic cls names, w.before args s' = true := vx_own hat' (vx_isRefq hU'.1) (vx_isRefq hN'.1) hU'.2.word hN'.2.word
  have hown' : s'.vm.findClass own = some m.cls := by rw [hvm]; exact hown
  have hins : (Cond.instantiable cls 6).before args s' = true := h _ (by simp [Bundle.ownAtoms0])
  obtain ⟨vm₁, cX, kX, hfX, hkX, -, -, X₁, st1⟩ := Y.newCold hexec (own := own) (C := cls) (index := ik) (n := 6) hown' hk' hins hini'
    (g := F0 m pc ls rest) rfl (by rw [hb]; exact d0) (Nat.le_refl _) (Nat.le_refl _)
  generalize hT1 : (T.setVm vm₁).pushCell { cls := cX, slots := kX.instanceTypes.map defaultValue, vm := .none } = T1 at X₁ st1
  have hcat : (Value.ref T.heap.size).category = 1 := rfl
  have hcellA : T1.heap[T.heap.size]? = some (freshCell cX kX) := by rw [← hT1]; exact State.heap_pushCell_size _ _
  have d3' : decode c.code (pc + 3) = .ok (.dup, 1) := by rw [hb]; exact d3
  obtain ⟨U, hsteps, hrun, hend, hW, hsame, ce, hce, hO⟩ := X₁.ctorThrow0 hexec htr (own := own) (cls := cls) (names := names) (ic := ic) hown' hcls hnames h (fun x hx => nomatch hx) hfX hkX hcellA (by rw [hhp, hT]; exact Nat.le_refl _)
    (g := { method := m, pc := pc + 4, locals := ls, stack := .ref T.heap.size :: .ref T.heap.size :: rest, locked := none }) rfl hsize rfl rfl (rest := rest) rfl
    (by rw [hb]; exact d4) (by rw [hb]; exact d7) hout hRframes (by simp only [List.map_cons, List.sum_cons, hcat]; omega) hlocks
  obtain ⟨f1, f2⟩ := vx_frame hsame
  rw [hhp] at f1 f2
  have hWs : s.WarmedH U.vm := State.WarmedH.trans hW0 hW
  have hcl : s.vm.findClass cls = some ce.cls := by
    have h9 := hO.cls
    rw [hvm] at h9
    exact h9
  have hall : s.sameButNew ({ U with vm := s.vm } : State) locs mc ms := by
    subst hA
    obtain ⟨e1, e2⟩ := hsame
    rw [State.setFrames_setFrames] at e1
    have h2 : (T.setVm s.vm).sameButNew ({ U with vm := s.vm } : State) [] (0 + 1) (0 + 6) := ⟨e1, e2⟩
    have h3 := X.same.trans h2
    rw [List.append_nil] at h3
    exact h3.mono hc hs
  refine ⟨U, ?_, .threw T.heap.size, hrun, hend, Or.inr ⟨T.heap.size, rfl, cls, ce, locs, hx U hWs.alike f1 (fun q hq => f2 q hq (fun z hz => nomatch hz)), hce, hO.vm, hcl, hWs, hall, hf⟩⟩
  refine st1 _ ?_
  show Steps p.tables e below (T1.setTop { method := m, pc := pc + 3, locals := ls, stack := .ref T.heap.size :: rest, locked := none }) _
  jvm_step X₁.here [X₁.here.top, hexec, d3', Value.category]
  exact hsteps
/-- 'throw new E("text")': new; dup; ldc; invokespecial; athrow -/
theorem vx_throwS {cc : ByteArray} {pc : Nat} (hexec : p.tables.exec = Jvm.exec) (hb : c.code = cc) (hl : l.stackTraces = false) {own cls text : String} {names : List String} {ik is ic mc ms sa : Nat} {A : Nat → Prop}
    (hown : s.vm.findClass own = some m.cls) (hcls : Bundle.fit cls = true) (hnames : ∀ n ∈ names, Bundle.fit n = true)
    (hk : (Cond.classLink own ik cls).before args s = true) (hini : (Cond.initialized cls).before args s = true) (hstr : vk_R own is text sa s) (hat : ∀ w ∈ vx_atS own ic cls names, w.before args s = true)
    (hgood : ∀ w ∈ Cond.classLink own ik cls :: Cond.initialized cls :: vx_atS own ic cls names, vx_ot w = true)
    (hU : vx_Zq Bundle.tN "UNASSIGNED_STACK" Bundle.steD A s s.heap) (hN : vx_Zq Bundle.tN "SUPPRESSED_SENTINEL" Bundle.listD A s s.heap) (hS : va_S A s.heap H locs) (hsize : ls.size = c.maxLocals)
    (d0 : decode cc pc = .ok (.new ik, 3)) (d3 : decode cc (pc + 3) = .ok (.dup, 1)) (d4 : decode cc (pc + 4) = .ok (.ldc is, 2)) (d6 : decode cc (pc + 6) = .ok (.invokespecial ic, 3)) (d9 : decode cc (pc + 9) = .ok (.athrow, 1))
    (hout : ∀ x ∈ c.exceptionTable.toList, covers x (pc + 9) = false)
    (hRframes : names.length + 3 < R.frames) (hRlocals : (rest.map fun v => v.category).sum + (13 * (names.length + 1) + 43) ≤ R.locals) (hRcells : cells + 1 ≤ R.cells) (hRslots : slots + 6 ≤ R.slots) (hlocks : meth.locks = false)
    (hx : ∀ t : State, s.vm.Alike t.vm → H.size ≤ t.heap.size → (∀ q : Nat, q < H.size → t.heap[q]? = H[q]?) → XC cls s t)
    (hf : ∀ z ∈ locs, free z.base) (hc : cells + 1 ≤ mc) (hs : slots + 6 ≤ ms) :
    W p l e R s m args below meth c H locs cells slots (vx_MQ below Qc XC args s mc ms free) (F0 m pc ls rest) := by
  intro T hT X
  have htr : e.platform.stackTraces = false := (show e.platform.stackTraces = l.stackTraces by rw [X.admits.platform]).trans hl
  have Y := vx_rebase X (R' := { frames := R.frames, locals := R.locals, cells := 1, slots := 6 }) (Nat.le_refl _) (Nat.le_refl _) hRcells hRslots
  obtain ⟨s', hA⟩ : ∃ z, z = (T.setVm s.vm).setFrames (.invoking m args :: below) := ⟨_, rfl⟩
  rw [← hA] at Y
  have hvm : s'.vm = s.vm := by rw [hA]; rfl
  have hhp : s'.heap = H := by rw [hA]; exact hT
  have hW0 : s.WarmedH s'.vm := by rw [hvm]; exact State.WarmedH.refl s
  have hat' : ∀ w ∈ vx_atS own ic cls names, w.before args s' = true := fun w hw => vx_ot_at hW0 hvm.symm (hgood w (List.mem_cons_of_mem _ (List.mem_cons_of_mem _ hw))) (hat w hw)
  have hk' : (Cond.classLink own ik cls).before args s' = true := vx_ot_at hW0 hvm.symm (hgood _ List.mem_cons_self) hk
  have hini' : (Cond.initialized cls).before args s' = true := vx_ot_at hW0 hvm.symm (hgood _ (List.mem_cons_of_mem _ List.mem_cons_self)) hini
  have hU' : vx_Zq Bundle.tN "UNASSIGNED_STACK" Bundle.steD A s' s'.heap := by rw [hhp]; exact vx_Zq.moved hW0.alike (hU.kept hS.2.1)
  have hN' : vx_Zq Bundle.tN "SUPPRESSED_SENTINEL" Bundle.listD A s' s'.heap := by rw [hhp]; exact vx_Zq.moved hW0.alike (hN.kept hS.2.1)
  have h : ∀ w ∈ Bundle.ownAtoms own ic cls names, w.before args s' = true := vx_own hat' (vx_isRefq hU'.1) (vx_isRefq hN'.1) hU'.2.word hN'.2.word
  have hown' : s'.vm.findClass own = some m.cls := by rw [hvm]; exact hown
  have hins : (Cond.instantiable cls 6).before args s' = true := h _ (by simp [Bundle.ownAtoms])
  obtain ⟨vm₁, cX, kX, hfX, hkX, -, -, X₁, st1⟩ := Y.newCold hexec (own := own) (C := cls) (index := ik) (n := 6) hown' hk' hins hini'
    (g := F0 m pc ls rest) rfl (by rw [hb]; exact d0) (Nat.le_refl _) (Nat.le_refl _)
  generalize hT1 : (T.setVm vm₁).pushCell { cls := cX, slots := kX.instanceTypes.map defaultValue, vm := .none } = T1 at X₁ st1
  have hcat : (Value.ref T.heap.size).category = 1 := rfl
  have hcellA : T1.heap[T.heap.size]? = some (freshCell cX kX) := by rw [← hT1]; exact State.heap_pushCell_size _ _
  have d3' : decode c.code (pc + 3) = .ok (.dup, 1) := by rw [hb]; exact d3
  have d4' : decode c.code (pc + 4) = .ok (.ldc is, 2) := by rw [hb]; exact d4
  have hstr' : vk_R own is text sa s' := vk_R.warm hW0 hstr
  obtain ⟨U, hsteps, hrun, hend, hW, hsame, ce, hce, hO⟩ := X₁.ctorThrowS hexec htr (own := own) (cls := cls) (names := names) (ic := ic) hown' hcls hnames h (fun x hx => nomatch hx) hfX hkX hcellA (by rw [hhp, hT]; exact Nat.le_refl _) (msg := .ref sa) rfl
    (g := { method := m, pc := pc + 6, locals := ls, stack := .ref sa :: .ref T.heap.size :: .ref T.heap.size :: rest, locked := none }) rfl hsize rfl rfl (rest := rest) rfl
    (by rw [hb]; exact d6) (by rw [hb]; exact d9) hout hRframes (by simp only [List.map_cons, List.sum_cons, hcat]; omega) hlocks
  obtain ⟨f1, f2⟩ := vx_frame hsame
  rw [hhp] at f1 f2
  have hWs : s.WarmedH U.vm := State.WarmedH.trans hW0 hW
  have hcl : s.vm.findClass cls = some ce.cls := by
    have h9 := hO.cls
    rw [hvm] at h9
    exact h9
  have hall : s.sameButNew ({ U with vm := s.vm } : State) locs mc ms := by
    subst hA
    obtain ⟨e1, e2⟩ := hsame
    rw [State.setFrames_setFrames] at e1
    have h2 : (T.setVm s.vm).sameButNew ({ U with vm := s.vm } : State) [] (0 + 1) (0 + 6) := ⟨e1, e2⟩
    have h3 := X.same.trans h2
    rw [List.append_nil] at h3
    exact h3.mono hc hs
  refine ⟨U, ?_, .threw T.heap.size, hrun, hend, Or.inr ⟨T.heap.size, rfl, cls, ce, locs, hx U hWs.alike f1 (fun q hq => f2 q hq (fun z hz => nomatch hz)), hce, hO.vm, hcl, hWs, hall, hf⟩⟩
  refine st1 _ ?_
  show Steps p.tables e below (T1.setTop { method := m, pc := pc + 3, locals := ls, stack := .ref T.heap.size :: rest, locked := none }) _
  jvm_step X₁.here [X₁.here.top, hexec, d3', Value.category]
  exact X₁.ldcString hexec (own := own) (text := text) (index := is) (a := sa) hown' hstr'.1 hstr'.2
    (g := { method := m, pc := pc + 4, locals := ls, stack := .ref T.heap.size :: .ref T.heap.size :: rest, locked := none }) rfl d4' _ hsteps
/-- 'throw new E("text")', the text by a wide index -/
theorem vx_throwSW {cc : ByteArray} {pc : Nat} (hexec : p.tables.exec = Jvm.exec) (hb : c.code = cc) (hl : l.stackTraces = false) {own cls text : String} {names : List String} {ik is ic mc ms sa : Nat} {A : Nat → Prop}
    (hown : s.vm.findClass own = some m.cls) (hcls : Bundle.fit cls = true) (hnames : ∀ n ∈ names, Bundle.fit n = true)
    (hk : (Cond.classLink own ik cls).before args s = true) (hini : (Cond.initialized cls).before args s = true) (hstr : vk_R own is text sa s) (hat : ∀ w ∈ vx_atS own ic cls names, w.before args s = true)
    (hgood : ∀ w ∈ Cond.classLink own ik cls :: Cond.initialized cls :: vx_atS own ic cls names, vx_ot w = true)
    (hU : vx_Zq Bundle.tN "UNASSIGNED_STACK" Bundle.steD A s s.heap) (hN : vx_Zq Bundle.tN "SUPPRESSED_SENTINEL" Bundle.listD A s s.heap) (hS : va_S A s.heap H locs) (hsize : ls.size = c.maxLocals)
    (d0 : decode cc pc = .ok (.new ik, 3)) (d3 : decode cc (pc + 3) = .ok (.dup, 1)) (d4 : decode cc (pc + 4) = .ok (.ldc_w is, 3)) (d7 : decode cc (pc + 7) = .ok (.invokespecial ic, 3)) (d10 : decode cc (pc + 10) = .ok (.athrow, 1))
    (hout : ∀ x ∈ c.exceptionTable.toList, covers x (pc + 10) = false)
    (hRframes : names.length + 3 < R.frames) (hRlocals : (rest.map fun v => v.category).sum + (13 * (names.length + 1) + 43) ≤ R.locals) (hRcells : cells + 1 ≤ R.cells) (hRslots : slots + 6 ≤ R.slots) (hlocks : meth.locks = false)
    (hx : ∀ t : State, s.vm.Alike t.vm → H.size ≤ t.heap.size → (∀ q : Nat, q < H.size → t.heap[q]? = H[q]?) → XC cls s t)
    (hf : ∀ z ∈ locs, free z.base) (hc : cells + 1 ≤ mc) (hs : slots + 6 ≤ ms) :
    W p l e R s m args below meth c H locs cells slots (vx_MQ below Qc XC args s mc ms free) (F0 m pc ls rest) := by
  intro T hT X
  have htr : e.platform.stackTraces = false := (show e.platform.stackTraces = l.stackTraces by rw [X.admits.platform]).trans hl
  have Y := vx_rebase X (R' := { frames := R.frames, locals := R.locals, cells := 1, slots := 6 }) (Nat.le_refl _) (Nat.le_refl _) hRcells hRslots
  obtain ⟨s', hA⟩ : ∃ z, z = (T.setVm s.vm).setFrames (.invoking m args :: below) := ⟨_, rfl⟩
  rw [← hA] at Y
  have hvm : s'.vm = s.vm := by rw [hA]; rfl
  have hhp : s'.heap = H := by rw [hA]; exact hT
  have hW0 : s.WarmedH s'.vm := by rw [hvm]; exact State.WarmedH.refl s
  have hat' : ∀ w ∈ vx_atS own ic cls names, w.before args s' = true := fun w hw => vx_ot_at hW0 hvm.symm (hgood w (List.mem_cons_of_mem _ (List.mem_cons_of_mem _ hw))) (hat w hw)
  have hk' : (Cond.classLink own ik cls).before args s' = true := vx_ot_at hW0 hvm.symm (hgood _ List.mem_cons_self) hk
  have hini' : (Cond.initialized cls).before args s' = true := vx_ot_at hW0 hvm.symm (hgood _ (List.mem_cons_of_mem _ List.mem_cons_self)) hini
  have hU' : vx_Zq Bundle.tN "UNASSIGNED_STACK" Bundle.steD A s' s'.heap := by rw [hhp]; exact vx_Zq.moved hW0.alike (hU.kept hS.2.1)
  have hN' : vx_Zq Bundle.tN "SUPPRESSED_SENTINEL" Bundle.listD A s' s'.heap := by rw [hhp]; exact vx_Zq.moved hW0.alike (hN.kept hS.2.1)
  have h : ∀ w ∈ Bundle.ownAtoms own ic cls names, w.before args s' = true := vx_own hat' (vx_isRefq hU'.1) (vx_isRefq hN'.1) hU'.2.word hN'.2.word
  have hown' : s'.vm.findClass own = some m.cls := by rw [hvm]; exact hown
  have hins : (Cond.instantiable cls 6).before args s' = true := h _ (by simp [Bundle.ownAtoms])
  obtain ⟨vm₁, cX, kX, hfX, hkX, -, -, X₁, st1⟩ := Y.newCold hexec (own := own) (C := cls) (index := ik) (n := 6) hown' hk' hins hini'
    (g := F0 m pc ls rest) rfl (by rw [hb]; exact d0) (Nat.le_refl _) (Nat.le_refl _)
  generalize hT1 : (T.setVm vm₁).pushCell { cls := cX, slots := kX.instanceTypes.map defaultValue, vm := .none } = T1 at X₁ st1
  have hcat : (Value.ref T.heap.size).category = 1 := rfl
  have hcellA : T1.heap[T.heap.size]? = some (freshCell cX kX) := by rw [← hT1]; exact State.heap_pushCell_size _ _
  have d3' : decode c.code (pc + 3) = .ok (.dup, 1) := by rw [hb]; exact d3
  have d4' : decode c.code (pc + 4) = .ok (.ldc_w is, 3) := by rw [hb]; exact d4
  have hstr' : vk_R own is text sa s' := vk_R.warm hW0 hstr
  obtain ⟨U, hsteps, hrun, hend, hW, hsame, ce, hce, hO⟩ := X₁.ctorThrowS hexec htr (own := own) (cls := cls) (names := names) (ic := ic) hown' hcls hnames h (fun x hx => nomatch hx) hfX hkX hcellA (by rw [hhp, hT]; exact Nat.le_refl _) (msg := .ref sa) rfl
    (g := { method := m, pc := pc + 7, locals := ls, stack := .ref sa :: .ref T.heap.size :: .ref T.heap.size :: rest, locked := none }) rfl hsize rfl rfl (rest := rest) rfl
    (by rw [hb]; exact d7) (by rw [hb]; exact d10) hout hRframes (by simp only [List.map_cons, List.sum_cons, hcat]; omega) hlocks
  obtain ⟨f1, f2⟩ := vx_frame hsame
  rw [hhp] at f1 f2
  have hWs : s.WarmedH U.vm := State.WarmedH.trans hW0 hW
  have hcl : s.vm.findClass cls = some ce.cls := by
    have h9 := hO.cls
    rw [hvm] at h9
    exact h9
  have hall : s.sameButNew ({ U with vm := s.vm } : State) locs mc ms := by
    subst hA
    obtain ⟨e1, e2⟩ := hsame
    rw [State.setFrames_setFrames] at e1
    have h2 : (T.setVm s.vm).sameButNew ({ U with vm := s.vm } : State) [] (0 + 1) (0 + 6) := ⟨e1, e2⟩
    have h3 := X.same.trans h2
    rw [List.append_nil] at h3
    exact h3.mono hc hs
  refine ⟨U, ?_, .threw T.heap.size, hrun, hend, Or.inr ⟨T.heap.size, rfl, cls, ce, locs, hx U hWs.alike f1 (fun q hq => f2 q hq (fun z hz => nomatch hz)), hce, hO.vm, hcl, hWs, hall, hf⟩⟩
  refine st1 _ ?_
  show Steps p.tables e below (T1.setTop { method := m, pc := pc + 3, locals := ls, stack := .ref T.heap.size :: rest, locked := none }) _
  jvm_step X₁.here [X₁.here.top, hexec, d3', Value.category]
  exact X₁.ldcStringW hexec (own := own) (text := text) (index := is) (a := sa) hown' hstr'.1 hstr'.2
    (g := { method := m, pc := pc + 4, locals := ls, stack := .ref T.heap.size :: .ref T.heap.size :: rest, locked := none }) rfl d4' _ hsteps
end Ends
section Bodies
variable {l : Launch}
theorem vx_ofW {y : MethodName} {ws ws' : List Cond} {rm : Room} {Pc : Array Value → State → Prop} {Qc : Array Value → State → Outcome → State → Prop} {XC : String → State → State → Prop} {mc ms : Nat} {free : Addr → Prop} {cc : ByteArray} {maxL : Nat} {ret : Option FieldType}
    (hy : plainName y.cls = true) (hw : ws = Cond.code y cc maxL ret :: ws')
    (body : ∀ p e s m args below meth c s₁, BodyLoose p l y (headSpec ws rm) cc maxL ret e s m args below meth c s₁ → c.maxLocals = maxL → (∀ x ∈ c.exceptionTable.toList, False) → Pc args s →
      W p l e (headSpec ws rm).room s m args below meth c s.heap [] 0 0 (vx_MQ below Qc XC args s mc ms free) (entryFrame m args maxL)) : vx_Met l y ws rm Pc Qc XC mc ms free := by
  refine MetFree.of_bodyS (code := cc) (maxLocals := maxL) (ret := ret) hy ?_ ?_
  · intro args s m h hn
    obtain ⟨meth, c, h1, h2, h3, h4, h5, h6, -, -⟩ := Cond.code_spec hn (atoms_spec (ws := ws) h _ (by rw [hw]; exact List.mem_cons_self))
    exact ⟨meth, c, h1, h2, h3, h4, h5, h6⟩
  · intro p e s m args below meth c s₁ B hml hP _
    have hh0 : s₁.heap = s.heap := by rw [B.state]; rfl
    have ht : ∀ x ∈ c.exceptionTable.toList, False := by
      obtain ⟨meth9, c9, h1, h2, -, -, -, -, h7, -⟩ := Cond.code_spec B.named (atoms_spec (ws := ws) B.pre _ (by rw [hw]; exact List.mem_cons_self))
      cases Option.some.inj (h1.symm.trans B.method)
      cases Option.some.inj (h2.symm.trans (Stand.of_body B).code)
      intro x hx
      rw [Array.isEmpty_iff.mp h7] at hx
      cases hx
    obtain ⟨t, a1, o, b1, b2, b3⟩ := body p e s m args below meth c s₁ B hml ht hP s₁ hh0 (Stand.of_body B)
    exact ⟨t, o, a1, b1, b2, b3⟩
/-- the table of a body with handlers -/
theorem vx_table {p : Program} {x y : MethodName} {S : Spec} {cc bytes : ByteArray} {maxL maxL' : Nat} {ret ret' : Option FieldType} {e : Env} {s s₁ : State} {m : MethodId} {args : Array Value} {below : List Frame} {meth : Method} {c : Code} {hh : List (Nat × Nat × Nat × Nat)}
    (B : BodyLoose p l y S cc maxL ret e s m args below meth c s₁) (h : (Cond.codeWith y bytes maxL' ret' hh).before args s = true) : c.exceptionTable.toList = tableOf hh := by
  obtain ⟨m9, meth9, c9, hn9, h1, h2, -, -, h6, -⟩ := Cond.codeWith_spec h
  cases Option.some.inj (hn9.symm.trans B.named)
  cases Option.some.inj (h1.symm.trans B.method)
  cases Option.some.inj (h2.symm.trans (Stand.of_body B).code)
  rw [← h6, table_eq]
end Bodies
end VXA
/-! ===== END ===== -/
/-! ===== BEGIN a static call of a method with an exception table ===== -/
section VXS
variable {p : Program} {l : Launch} {e : Env} {R : Room} {s : State} {m : MethodId} {args : Array Value} {below : List Frame} {meth : Method} {c : Code} {T : State} {H : Heap} {locs : List Loc} {cells slots : Nat}
abbrev vx_CSW (R : Room) (s : State) (args : Array Value) (own : String) (index : Nat) (y : MethodName) (bytes : ByteArray) (maxL : Nat) (ret : Option FieldType) (hh : List (Nat × Nat × Nat × Nat)) (ws : List Cond) (rm : Room) (mc ms n : Nat) : Prop :=
  (rm.cells = mc ∧ rm.slots = ms ∧ rm.frames + 1 ≤ R.frames ∧ 8 + (maxL + 11) + rm.locals ≤ R.locals ∧ (∀ w ∈ ws, ∀ (a' : Array Value) (U : State), s.WarmedH U.vm → w.before a' U = true) ∧ Cond.codeWith y bytes maxL ret hh ∈ ws) ∧
  (Cond.codeWith y bytes maxL ret hh).before args s = true ∧ (Cond.initialized y.cls).before args s = true ∧ (y.cls ≠ "java/lang/invoke/MethodHandle" ∧ y.cls ≠ "java/lang/invoke/VarHandle") ∧
  (∀ sig, parseMethodDescriptor y.desc = some sig → n = sig.parameters.length) ∧ (Cond.methodLink own index y).before args s = true ∧ (Cond.static y).before args s = true
theorem vx_cwSW {own : String} {index maxL mc ms : Nat} {y : MethodName} {bytes : ByteArray} {ret : Option FieldType} {hh : List (Nat × Nat × Nat × Nat)} {Ts ws ws' : List Cond} {rm : Room} (n : Nat) (ht : ∀ w ∈ Ts, w.before args s = true) (hT : GoodIn Ts (va_wsS own index y ws)) (hw : ws = Cond.codeWith y bytes maxL ret hh :: ws') (hrc : rm.cells = mc) (hrs : rm.slots = ms)
    (hd : y.cls ≠ "java/lang/invoke/MethodHandle" ∧ y.cls ≠ "java/lang/invoke/VarHandle" ∧ (parseMethodDescriptor y.desc).map (fun d => d.parameters.length) = some n) (hR : rm.frames + 1 ≤ R.frames ∧ 8 + (maxL + 11) + rm.locals ≤ R.locals) :
    vx_CSW R s args own index y bytes maxL ret hh ws rm mc ms n := by
  have ok : ∀ w ∈ va_wsS own index y ws, w.before args s = true := fun w h => ht w (hT w h).1
  have hG : GoodIn Ts ws := fun w h => hT w (by unfold va_wsS; exact List.mem_append_right _ h)
  have hc : Cond.codeWith y bytes maxL ret hh ∈ ws := by rw [hw]; exact List.mem_cons_self
  refine ⟨⟨hrc, hrs, hR.1, hR.2, pay_in ht hG, hc⟩, ht _ (hG _ hc).1, ok _ (by simp [va_wsS]), ⟨hd.1, hd.2.1⟩, fun sig h => ?_, ok _ (by simp [va_wsS]), ok _ (by simp [va_wsS])⟩
  have h2 := hd.2.2
  rw [h] at h2
  exact (Option.some.inj h2).symm
theorem vx_callSW (X : Stand p l e R s m args below meth c T locs cells slots) (hexec : p.tables.exec = Jvm.exec) {own : String} {index : Nat} {y : MethodName} {bytes : ByteArray} {maxL : Nat} {ret : Option FieldType} {hh : List (Nat × Nat × Nat × Nat)}
    (hown : s.vm.findClass own = some m.cls) (hlink : (Cond.methodLink own index y).before args s = true) (hstat : (Cond.static y).before args s = true) (hinit : (Cond.initialized y.cls).before args s = true)
    (hcode : (Cond.codeWith y bytes maxL ret hh).before args s = true) (hy : y.cls ≠ "java/lang/invoke/MethodHandle" ∧ y.cls ≠ "java/lang/invoke/VarHandle")
    {W9 : Nat} {Pre : Pt → Array Value → Prop} {Post : Pt → Array Value → Option Value → Pt → Prop} (hK : Back l R p e below s args y 3 W9 Pre Post)
    {g : JFrame} (hg : g.method = m) (hsize : g.locals.size = c.maxLocals) {argsL rest : List Value} (hlen : ∀ sig, parseMethodDescriptor y.desc = some sig → argsL.length = sig.parameters.length)
    (hstack : g.stack = argsL.reverse ++ rest) (hW : 2 * g.monitorRoom + (rest.map fun v => v.category).sum ≤ W9) (hdg : decode c.code g.pc = .ok (.invokestatic index, 3))
    (hpre : ∀ vm₁, s.WarmedH vm₁ → Pre ⟨T.setVm vm₁, locs, cells, slots⟩ argsL.toArray) :
    ∃ (v : Option Value) (vm₁ : Vm) (B : Pt), s.WarmedH vm₁ ∧ Stand p l e R s m args below meth c B.U B.locs B.cells B.slots ∧ Post ⟨T.setVm vm₁, locs, cells, slots⟩ argsL.toArray v B ∧
      ∀ target, Steps p.tables e below (B.U.setTop { g with pc := g.pc + 3, stack := v.toList ++ rest }) target → Steps p.tables e below (T.setTop g) target := by
  obtain ⟨mk, methM, cM, hnamed, hmethM, -, -, -, -, -, -, hsigM⟩ := Cond.codeWith_spec hcode
  have hstatic : methM.isStatic = true := Cond.static_spec hnamed hmethM hstat
  obtain ⟨kP, hkP, -⟩ := className_of_methodNamed hnamed
  have hinitP : kP.init = .initialized := Cond.initialized_spec (findClass_of_methodNamed hnamed) hkP hinit
  obtain ⟨vm₁, X₁, hstep₁⟩ := X.invokestatic hexec hown hlink hnamed hmethM hstatic hkP hinitP hy (g := g) hg (argsL := argsL) (rest := rest) (hlen _ hsigM) hstack hdg
  obtain ⟨v, B, X', hpost, hsteps⟩ := hK m meth c ⟨T.setVm vm₁, locs, cells, slots⟩ { g with stack := rest } (.invokestatic index) mk argsL.toArray X₁ hg hsize hdg hW (X₁.named hnamed) (hpre vm₁ X₁.warmed)
  exact ⟨v, vm₁, B, X₁.warmed, X', hpost, fun target h => hstep₁ _ fun acts => by rw [doInvoke_state]; exact hsteps.trans h⟩
theorem vx_runSW {y : MethodName} {bytes cc : ByteArray} {maxL nL mc ms n index : Nat} {ret : Option FieldType} {hh : List (Nat × Nat × Nat × Nat)} {ws : List Cond} {rm : Room} {Pc : Array Value → State → Prop} {Qc : Array Value → State → Outcome → State → Prop} {free : Addr → Prop} {Ts : List Cond} {own : String} {As rest : List Value} {g : JFrame}
    (S : CallFix p m c cc nL s args Ts own) (hM : Met l y ws rm Pc Qc mc ms free) (cw : vx_CSW R s args own index y bytes maxL ret hh ws rm mc ms n) (hp : PreS s H Pc As)
    (hg : g.method = m) (hn : As.length = n) (hsize : g.locals.size = nL) (hstack : g.stack = As.reverse ++ rest) (hW : 2 * g.monitorRoom + (rest.map fun v => v.category).sum ≤ 8) (hdg : decode cc g.pc = .ok (.invokestatic index, 3)) (hf : cells + mc ≤ R.cells ∧ slots + ms ≤ R.slots) :
    va_Run p l e R s m args below meth c H locs cells slots mc ms g rest (Qc As.toArray) (free) := by
  obtain ⟨⟨hrc, hrs, hfr, hlo, hws, hcw⟩, hcode, hini, hy, hlen, hl, hstt⟩ := cw
  have hK : Back l R p e below s args y 3 8 (PreOf R mc ms Pc) (PostOf Qc mc ms free) := va_backW (hh := hh) (bytes := bytes) (maxL := maxL) (ret := ret) hM hp.1 hrc hrs hfr hlo hws hcw (fun a' U hW => word_at hW (Or.inl (by first | rfl | simp [Cond.onTables, Cond.keeps, Cond.steady])) hini)
  obtain ⟨hx, hb, hml, ho, -⟩ := S
  intro T hT X
  obtain ⟨v, vm₁, ⟨U', l2, c2, s2⟩, hW₁, X', ⟨g', mk, t, L, e1, e2, hq, h1, hL, h2, h3⟩, st⟩ := vx_callSW X hx (hh := hh) (bytes := bytes) (maxL := maxL) (ret := ret) ho hl hstt hini hcode hy hK hg (hsize.trans hml.symm) (argsL := As) (rest := rest) (fun sig h => hn.trans (hlen sig h)) hstack hW (by rw [hb]; exact hdg)
    (fun vm₁ hW₁ => ⟨hf.1, hf.2, hp.2 (T.setVm vm₁) hT hW₁⟩)
  dsimp only [Pt.U, Pt.locs, Pt.cells, Pt.slots] at X' e1 e2 h1 h2 h3 st
  subst h1; subst h2; subst h3
  exact ⟨v, (T.setVm vm₁).calling g' mk As.toArray, t, U', L, hT, X', hL, e1, e2, hq, st⟩
/-- not caught here, past rows that name other classes: it goes on to the caller -/
theorem vx_outP {p : Program} {l : Launch} {e : Env} {R : Room} {s : State} {m : MethodId} {args : Array Value} {below : List Frame} {meth : Method} {c : Code} {H : Heap} {locs : List Loc} {cells slots : Nat} {free : Addr → Prop} {ls : Array Slot} {rest : List Value} {Qc : Array Value → State → Outcome → State → Prop} {XC : String → State → State → Prop}
    {pc : Nat} {own E : String} {ce : Cell} {q : Addr} {mc ms : Nat} (hown : s.vm.findClass own = some m.cls) (hlocks : meth.locks = false)
    (hpass : ∀ z ∈ c.exceptionTable.toList, covers z pc = false ∨ (z.catchType ≠ 0 ∧ ∃ nm : String, (Cond.classLink own z.catchType nm).before args s = true ∧ va_Nc E nm s)) (hcell : H[q]? = some ce) (hv : ce.vm = .none) (hcl : s.vm.findClass E = some ce.cls)
    (hx : ∀ t : State, t.heap = H → s.vm.Alike t.vm → XC E s t) (hf : ∀ z ∈ locs, free z.base) (hc : cells ≤ mc) (hs : slots ≤ ms) :
    vx_W p l e R s m args below meth c H locs cells slots (vx_MQ below Qc XC args s mc ms free) (F0 m pc ls rest) q := by
  intro T hT X
  have hpl : e.platform.magicAccessors = ({} : Platform).magicAccessors := by rw [X.admits.platform]
  obtain ⟨vm', hW', X', st⟩ := X.outThrough hlocks q (g := F0 m pc ls rest) rfl rfl rfl (cell := ce) (by rw [hT]; exact hcell) (by rw [hv]; rfl)
    (by obtain ⟨k9, h9, -⟩ := Vm.findClass_spec hcl; exact ⟨k9, h9⟩) (fun z hz => by
      rcases hpass z hz with h | ⟨hz0, nm, hl1, hn1⟩
      · exact Or.inl h
      · obtain ⟨c6, hc6, hcl6⟩ := Cond.classLink_spec hown hl1 e.platform hpl
        obtain ⟨a8, b8, h1, h2, h3⟩ := hn1
        cases Option.some.inj (h1.symm.trans hcl)
        cases Option.some.inj (h2.symm.trans hc6)
        exact Or.inr ⟨hz0, _, hcl6, h3⟩)
  obtain ⟨g₀, hfr⟩ := X'.frames_eq
  have hcell9 : ((T.setVm vm').setFrames (.throwing q :: below)).heap[q]? = some ce := by
    show T.heap[q]? = some ce
    rw [hT]; exact hcell
  have hend : Ended ((T.setVm vm').setFrames (.throwing q :: below)) below (.threw q) := State.frames_setFrames _ (State.cur_lt_of_frames hfr)
  refine ⟨(T.setVm vm').setFrames (.throwing q :: below), ?_, .threw q, X'.here.running, hend, Or.inr ⟨q, rfl, E, ce, locs, hx _ hT (X'.ends _).1.alike, hcell9, hv, hcl, (X'.ends _).1, (X'.ends _).2.mono hc hs, hf⟩⟩
  rw [X.pushThrowing_eq]
  exact st
/-- a thing of a world lies in the heap -/
theorem vx_lt {D : va_G} {cl : List vw_C} {ws : va_W} {H1 : Heap} (h : va_P D cl ws H1) {k : Nat} {q : Nat × va_E} (hk : ws[k]? = some q) : q.1 < H1.size := (h k q hk).lt
end VXS
/-! ===== END ===== -/
/-! ===== BEGIN methods with a table of their own: called by a name, returning or throwing ===== -/
section VXH
/-! vx_backW, vx_callVX, vx_callSX, vx_callVW, vx_runVW, vx_runVX, vx_runSX, vx_ofWH follow the same proofs as their sisters above (Free/Laws.lean, Shelf42/LK1.lean); vx_outP calls Shelf42/NT130.lean (outThrough). -/
section
variable {l : Launch} {R : Room} {p : Program} {e : Env} {below : List Frame} {s : State} {sargs : Array Value} {y : MethodName} {len W9 : Nat}
theorem vx_backW {ws : List Cond} {rm : Room} {Pc : Array Value → State → Prop} {Qc : Array Value → State → Outcome → State → Prop} {XC : String → State → State → Prop} {mc ms : Nat} {free : Addr → Prop} {bytes : ByteArray} {maxL : Nat} {ret : Option FieldType} {hh : List (Nat × Nat × Nat × Nat)}
    (hM : vx_Met l y ws rm Pc Qc XC mc ms free) (hblind : FrameBlind Pc) (hrc : rm.cells = mc) (hrs : rm.slots = ms)
    (hframes : rm.frames + 1 ≤ R.frames) (hlocals : W9 + (maxL + 11) + rm.locals ≤ R.locals)
    (hws : ∀ w ∈ ws, ∀ a' U, s.WarmedH U.vm → w.before a' U = true) (hcode : Cond.codeWith y bytes maxL ret hh ∈ ws) (hinit : ∀ a' U, s.WarmedH U.vm → (Cond.initialized y.cls).before a' U = true) :
    vx_Back l R p e below s sargs y len W9 (PreOf R mc ms Pc) (PostOf Qc mc ms free) (vx_Post XC mc ms free) := by
  intro m meth c A g ig mk a X hg hsize hdg hW hn hp
  have h1 : (headSpec ws rm).pre.before a A.U = true := atoms_intro fun w hw => hws w hw _ _ X.warmed
  have h2 : (Cond.codeWith y bytes maxL ret hh).before a A.U = true := hws _ hcode _ _ X.warmed
  have h3 : (Cond.initialized y.cls).before a A.U = true := hinit _ _ X.warmed
  have h4 : A.cells + (headSpec ws rm).room.cells ≤ R.cells := by rw [show (headSpec ws rm).room.cells = mc from hrc]; exact hp.1
  have h5 : A.slots + (headSpec ws rm).room.slots ≤ R.slots := by rw [show (headSpec ws rm).room.slots = ms from hrs]; exact hp.2.1
  have hPc : Pc a (A.U.calling g mk a) := hblind _ _ _ _ hp.2.2
  obtain ⟨U, Ls, c0, s0⟩ := A
  dsimp only [Pt.U, Pt.locs, Pt.cells, Pt.slots] at h1 h2 h3 h4 h5 X hn hPc ⊢
  obtain ⟨m9, methY, cY, hn9, hmY, hcY, -, hlY, -⟩ := Cond.codeWith_spec h2
  cases Option.some.inj (hn9.symm.trans hn)
  obtain ⟨kY, hkY, -⟩ := className_of_methodNamed hn
  have hinitY : kY.init = .initialized := Cond.initialized_spec (findClass_of_methodNamed hn) hkY h3
  have h : At U g.method c below := by rw [hg]; exact X.here
  have hlocals9 : W9 + (maxL + 11) + (headSpec ws rm).room.locals ≤ R.locals := hlocals
  have happ : (headSpec ws rm).appliesLoose y e.platform (U.calling g mk a) = true :=
    Spec.appliesLoose_calling (g := g) h hdg hn hkY hinitY
      (X.room_calling (g := g) (R' := (headSpec ws rm).room) hsize hmY hcY hframes (by rw [hlY]; omega) h4 h5) h1
  obtain ⟨mid, hmid⟩ := h.above
  have hfr : (U.setTop g).frames = (.java g :: mid) ++ below := by rw [State.frames_setTop' g h.top, hmid]; rfl
  obtain ⟨o, s₂, hsteps, -, hend, hq⟩ := Steps.callFree hM p X.admits X.cas X.clock (acts := []) hfr happ hPc trivial
  have hq' : vx_Q Qc XC mc ms free a (U.calling g mk a) o s₂ := hq
  rw [State.frames_setTop' g h.top] at hend
  obtain ⟨g₀, hg0⟩ := Option.isSome_iff_exists.mp h.top
  obtain ⟨r, hr⟩ := State.topJava?_eq_some.mp hg0
  have hr' : (({ U with heap := s₂.heap, slotsUsed := s₂.slotsUsed } : State).setVm s₂.vm).frames = .java g₀ :: r := hr
  rcases hq' with ⟨hqc, L, hfe, hL⟩ | ⟨q, rfl, E, ce, L, hx, hce, hcv, hcl, hW₂, hsm, hL⟩
  · obtain ⟨⟨v, rfl⟩, hW₂, e2, q2, q3, q4, q5, q6⟩ := id hfe
    have e3 : s₂ = ({ (U.calling g mk a).setFrames s₂.frames with heap := s₂.heap, slotsUsed := s₂.slotsUsed } : State).setVm s₂.vm := by
      have : s₂ = ({ s₂ with vm := (U.calling g mk a).vm } : State).setVm s₂.vm := rfl
      rw [e2] at this
      exact this
    obtain ⟨c₂, i₂, len₂, hc₂, hd₂, hf₂⟩ := hend
    have hW' : U.WarmedH s₂.vm := hW₂
    have hcc : c₂ = c := by
      have h1 : s₂.code? g.method = U.code? g.method := by
        rw [State.code?_eq, State.code?_eq, hW'.alike.method?]
      exact Option.some.inj (hc₂.symm.trans (h1.trans h.code))
    subst hcc
    have hlen : len₂ = len := by rw [hdg] at hd₂; cases hd₂; rfl
    subst hlen
    have hs₂ : s₂ = (({ U with heap := s₂.heap, slotsUsed := s₂.slotsUsed } : State).setVm s₂.vm).setTop { g with pc := g.pc + len₂, stack := v.toList ++ g.stack } := by
      refine e3.trans ?_
      rw [hf₂, State.calling_eq h.top, State.setFrames_setFrames, State.setTop_of_frames _ hr', hr]
      rfl
    have hsame : U.sameButNew ({ U with heap := s₂.heap, slotsUsed := s₂.slotsUsed } : State) L mc ms := by
      refine ⟨?_, q2, q3, q4, q5, q6⟩
      obtain ⟨t, ht, -⟩ := State.frames_cons hr
      show ({ U with heap := s₂.heap, slotsUsed := s₂.slotsUsed } : State) = { U.setFrames U.frames with heap := s₂.heap, slotsUsed := s₂.slotsUsed }
      rw [State.setFrames_self ht]
    subst hg
    refine Or.inl ⟨v, ⟨(({ U with heap := s₂.heap, slotsUsed := s₂.slotsUsed } : State).setVm s₂.vm), Ls ++ L, c0 + mc, s0 + ms⟩,
      ⟨X.admits, X.cas, X.clock, X.frames, X.room, X.hears, X.method, X.code, (X.here.setHeapUsed s₂.heap s₂.slotsUsed).setVm hW'.alike, X.tail, State.WarmedH.trans X.warmed hW', X.limits, X.bytes, X.same.trans (hsame.setVm s.vm)⟩,
      ⟨g, mk, s₂, L, rfl, rfl, hqc, rfl, hL, rfl, rfl⟩, ?_⟩
    show Steps p.tables e below _ ((({ U with heap := s₂.heap, slotsUsed := s₂.slotsUsed } : State).setVm s₂.vm).setTop { g with pc := g.pc + len₂, stack := v.toList ++ g.stack })
    rw [← hs₂]
    exact hsteps
  · obtain ⟨e2, q2, q3, q4, q5, q6⟩ := id hsm
    have e3 : s₂ = ({ (U.calling g mk a).setFrames s₂.frames with heap := s₂.heap, slotsUsed := s₂.slotsUsed } : State).setVm s₂.vm := by
      have : s₂ = ({ s₂ with vm := (U.calling g mk a).vm } : State).setVm s₂.vm := rfl
      rw [e2] at this
      exact this
    have hf₂ : s₂.frames = .throwing q :: .java g :: U.frames.tail := hend
    have hW' : U.WarmedH s₂.vm := hW₂
    have hs₂ : s₂ = ((({ U with heap := s₂.heap, slotsUsed := s₂.slotsUsed } : State).setVm s₂.vm).setTop g).pushFrame (.throwing q) := by
      refine e3.trans ?_
      rw [hf₂, State.calling_eq h.top, State.setFrames_setFrames, State.pushFrame, State.frames_setTop _ hr', State.setTop_of_frames _ hr', State.setFrames_setFrames, hr]
      rfl
    have hsame : U.sameButNew ({ U with heap := s₂.heap, slotsUsed := s₂.slotsUsed } : State) L mc ms := by
      refine ⟨?_, q2, q3, q4, q5, q6⟩
      obtain ⟨t, ht, -⟩ := State.frames_cons hr
      show ({ U with heap := s₂.heap, slotsUsed := s₂.slotsUsed } : State) = { U.setFrames U.frames with heap := s₂.heap, slotsUsed := s₂.slotsUsed }
      rw [State.setFrames_self ht]
    subst hg
    refine Or.inr ⟨q, ⟨(({ U with heap := s₂.heap, slotsUsed := s₂.slotsUsed } : State).setVm s₂.vm), Ls ++ L, c0 + mc, s0 + ms⟩,
      ⟨X.admits, X.cas, X.clock, X.frames, X.room, X.hears, X.method, X.code, (X.here.setHeapUsed s₂.heap s₂.slotsUsed).setVm hW'.alike, X.tail, State.WarmedH.trans X.warmed hW', X.limits, X.bytes, X.same.trans (hsame.setVm s.vm)⟩,
      ⟨g, mk, s₂, L, E, ce, rfl, rfl, hx, hce, hcv, hcl, rfl, hL, rfl, rfl⟩, ?_⟩
    show Steps p.tables e below _ (((({ U with heap := s₂.heap, slotsUsed := s₂.slotsUsed } : State).setVm s₂.vm).setTop g).pushFrame (.throwing q))
    rw [← hs₂]
    exact hsteps
end
variable {p : Program} {l : Launch} {e : Env} {R : Room} {s : State} {m : MethodId} {args : Array Value} {below : List Frame} {meth : Method} {c : Code} {T : State} {H : Heap} {locs : List Loc} {cells slots : Nat}
theorem vx_callVX (X : Stand p l e R s m args below meth c T locs cells slots) (hexec : p.tables.exec = Jvm.exec) {own C : String} {index : Nat} {y : MethodName} {bytes : ByteArray} {maxL : Nat} {ret : Option FieldType} {hh : List (Nat × Nat × Nat × Nat)}
    (hown : s.vm.findClass own = some m.cls) (hlink : (Cond.methodLink own index y).before args s = true) (hinst : (Cond.instanceMethod y).before args s = true) (hsel : (Cond.selects C y y).before args s = true)
    (hcode : (Cond.codeWith y bytes maxL ret hh).before args s = true) (hy : y.cls ≠ "java/lang/invoke/MethodHandle" ∧ y.cls ≠ "java/lang/invoke/VarHandle")
    {W9 : Nat} {Pre : Pt → Array Value → Prop} {Post : Pt → Array Value → Option Value → Pt → Prop} {PostX : Pt → Array Value → Addr → Pt → Prop} (hK : vx_Back l R p e below s args y 3 W9 Pre Post PostX)
    {b : Addr} {cellB : Cell} (hcell : T.heap[b]? = some cellB) (hobj : cellB.vm.isStatics = false) (hcls : s.vm.findClass C = some cellB.cls)
    {g : JFrame} (hg : g.method = m) (hsize : g.locals.size = c.maxLocals) {argsL rest : List Value} (hlen : ∀ sig, parseMethodDescriptor y.desc = some sig → argsL.length = sig.parameters.length)
    (hstack : g.stack = argsL.reverse ++ .ref b :: rest) (hW : 2 * g.monitorRoom + (rest.map fun v => v.category).sum ≤ W9) (hdg : decode c.code g.pc = .ok (.invokevirtual index, 3))
    (hpre : ∀ vm₁, s.WarmedH vm₁ → Pre ⟨T.setVm vm₁, locs, cells, slots⟩ (Value.ref b :: argsL).toArray) :
    (∃ (v : Option Value) (vm₁ : Vm) (B : Pt), s.WarmedH vm₁ ∧ Stand p l e R s m args below meth c B.U B.locs B.cells B.slots ∧ Post ⟨T.setVm vm₁, locs, cells, slots⟩ (Value.ref b :: argsL).toArray v B ∧
      ∀ target, Steps p.tables e below (B.U.setTop { g with pc := g.pc + 3, stack := v.toList ++ rest }) target → Steps p.tables e below (T.setTop g) target) ∨
    (∃ (q : Addr) (vm₁ : Vm) (B : Pt), s.WarmedH vm₁ ∧ Stand p l e R s m args below meth c B.U B.locs B.cells B.slots ∧ PostX ⟨T.setVm vm₁, locs, cells, slots⟩ (Value.ref b :: argsL).toArray q B ∧
      Steps p.tables e below (T.setTop g) ((B.U.setTop { g with stack := rest }).pushFrame (.throwing q))) := by
  obtain ⟨mk, methM, hnamed, hmethM, hstM, habM⟩ := Cond.instanceMethod_spec hinst
  obtain ⟨m8, methM', cM, hn8, hmethM', -, -, -, -, -, -, hsigM⟩ := Cond.codeWith_spec hcode
  cases Option.some.inj (hn8.symm.trans hnamed)
  cases hmethM.symm.trans hmethM'
  obtain ⟨c2, r2, m2, q1, q2, q3, q4, kP, hkP, hkPi⟩ := Cond.selects_spec hsel
  cases hcls.symm.trans q1
  cases (State.methodFound?_of_named hnamed hy).symm.trans q2
  cases hnamed.symm.trans q3
  have hselP : selectMethod e.platform s.vm cellB.cls mk = .method mk := by rw [Launch.admits_selectMethod X.admits]; exact q4
  obtain ⟨vm₁, X₁, hstep₁⟩ := X.invokevirtual hexec hown hlink hnamed hmethM hstM hkP hkPi hy (a := b) (cell := cellB) hcell
    (fun z h => by rw [h] at hobj; cases hobj) hselP hmethM habM hkP hkPi (g := g) hg (argsL := argsL) (rest := rest) (hlen _ hsigM) hstack hdg
  rcases hK m meth c ⟨T.setVm vm₁, locs, cells, slots⟩ { g with stack := rest } (.invokevirtual index) mk (Value.ref b :: argsL).toArray X₁ hg hsize hdg hW (X₁.named hnamed) (hpre vm₁ X₁.warmed) with ⟨v, B, X', hpost, hsteps⟩ | ⟨q, B, X', hpost, hsteps⟩
  · exact Or.inl ⟨v, vm₁, B, X₁.warmed, X', hpost, fun target h => hstep₁ _ fun acts => by rw [doInvoke_state]; exact hsteps.trans h⟩
  · exact Or.inr ⟨q, vm₁, B, X₁.warmed, X', hpost, hstep₁ _ fun acts => by rw [doInvoke_state]; exact hsteps⟩
theorem vx_callSX (X : Stand p l e R s m args below meth c T locs cells slots) (hexec : p.tables.exec = Jvm.exec) {own : String} {index : Nat} {y : MethodName} {bytes : ByteArray} {maxL : Nat} {ret : Option FieldType} {hh : List (Nat × Nat × Nat × Nat)}
    (hown : s.vm.findClass own = some m.cls) (hlink : (Cond.methodLink own index y).before args s = true) (hstat : (Cond.static y).before args s = true) (hinit : (Cond.initialized y.cls).before args s = true)
    (hcode : (Cond.codeWith y bytes maxL ret hh).before args s = true) (hy : y.cls ≠ "java/lang/invoke/MethodHandle" ∧ y.cls ≠ "java/lang/invoke/VarHandle")
    {W9 : Nat} {Pre : Pt → Array Value → Prop} {Post : Pt → Array Value → Option Value → Pt → Prop} {PostX : Pt → Array Value → Addr → Pt → Prop} (hK : vx_Back l R p e below s args y 3 W9 Pre Post PostX)
    {g : JFrame} (hg : g.method = m) (hsize : g.locals.size = c.maxLocals) {argsL rest : List Value} (hlen : ∀ sig, parseMethodDescriptor y.desc = some sig → argsL.length = sig.parameters.length)
    (hstack : g.stack = argsL.reverse ++ rest) (hW : 2 * g.monitorRoom + (rest.map fun v => v.category).sum ≤ W9) (hdg : decode c.code g.pc = .ok (.invokestatic index, 3))
    (hpre : ∀ vm₁, s.WarmedH vm₁ → Pre ⟨T.setVm vm₁, locs, cells, slots⟩ argsL.toArray) :
    (∃ (v : Option Value) (vm₁ : Vm) (B : Pt), s.WarmedH vm₁ ∧ Stand p l e R s m args below meth c B.U B.locs B.cells B.slots ∧ Post ⟨T.setVm vm₁, locs, cells, slots⟩ argsL.toArray v B ∧
      ∀ target, Steps p.tables e below (B.U.setTop { g with pc := g.pc + 3, stack := v.toList ++ rest }) target → Steps p.tables e below (T.setTop g) target) ∨
    (∃ (q : Addr) (vm₁ : Vm) (B : Pt), s.WarmedH vm₁ ∧ Stand p l e R s m args below meth c B.U B.locs B.cells B.slots ∧ PostX ⟨T.setVm vm₁, locs, cells, slots⟩ argsL.toArray q B ∧
      Steps p.tables e below (T.setTop g) ((B.U.setTop { g with stack := rest }).pushFrame (.throwing q))) := by
  obtain ⟨mk, methM, cM, hnamed, hmethM, -, -, -, -, -, -, hsigM⟩ := Cond.codeWith_spec hcode
  have hstatic : methM.isStatic = true := Cond.static_spec hnamed hmethM hstat
  obtain ⟨kP, hkP, -⟩ := className_of_methodNamed hnamed
  have hinitP : kP.init = .initialized := Cond.initialized_spec (findClass_of_methodNamed hnamed) hkP hinit
  obtain ⟨vm₁, X₁, hstep₁⟩ := X.invokestatic hexec hown hlink hnamed hmethM hstatic hkP hinitP hy (g := g) hg (argsL := argsL) (rest := rest) (hlen _ hsigM) hstack hdg
  rcases hK m meth c ⟨T.setVm vm₁, locs, cells, slots⟩ { g with stack := rest } (.invokestatic index) mk argsL.toArray X₁ hg hsize hdg hW (X₁.named hnamed) (hpre vm₁ X₁.warmed) with ⟨v, B, X', hpost, hsteps⟩ | ⟨q, B, X', hpost, hsteps⟩
  · exact Or.inl ⟨v, vm₁, B, X₁.warmed, X', hpost, fun target h => hstep₁ _ fun acts => by rw [doInvoke_state]; exact hsteps.trans h⟩
  · exact Or.inr ⟨q, vm₁, B, X₁.warmed, X', hpost, hstep₁ _ fun acts => by rw [doInvoke_state]; exact hsteps⟩
theorem vx_callVW (X : Stand p l e R s m args below meth c T locs cells slots) (hexec : p.tables.exec = Jvm.exec) {own C : String} {index : Nat} {y : MethodName} {bytes : ByteArray} {maxL : Nat} {ret : Option FieldType} {hh : List (Nat × Nat × Nat × Nat)}
    (hown : s.vm.findClass own = some m.cls) (hlink : (Cond.methodLink own index y).before args s = true) (hinst : (Cond.instanceMethod y).before args s = true) (hsel : (Cond.selects C y y).before args s = true)
    (hcode : (Cond.codeWith y bytes maxL ret hh).before args s = true) (hy : y.cls ≠ "java/lang/invoke/MethodHandle" ∧ y.cls ≠ "java/lang/invoke/VarHandle")
    {W9 : Nat} {Pre : Pt → Array Value → Prop} {Post : Pt → Array Value → Option Value → Pt → Prop} (hK : Back l R p e below s args y 3 W9 Pre Post)
    {b : Addr} {cellB : Cell} (hcell : T.heap[b]? = some cellB) (hobj : cellB.vm.isStatics = false) (hcls : s.vm.findClass C = some cellB.cls)
    {g : JFrame} (hg : g.method = m) (hsize : g.locals.size = c.maxLocals) {argsL rest : List Value} (hlen : ∀ sig, parseMethodDescriptor y.desc = some sig → argsL.length = sig.parameters.length)
    (hstack : g.stack = argsL.reverse ++ .ref b :: rest) (hW : 2 * g.monitorRoom + (rest.map fun v => v.category).sum ≤ W9) (hdg : decode c.code g.pc = .ok (.invokevirtual index, 3))
    (hpre : ∀ vm₁, s.WarmedH vm₁ → Pre ⟨T.setVm vm₁, locs, cells, slots⟩ (Value.ref b :: argsL).toArray) :
    ∃ (v : Option Value) (vm₁ : Vm) (B : Pt), s.WarmedH vm₁ ∧ Stand p l e R s m args below meth c B.U B.locs B.cells B.slots ∧ Post ⟨T.setVm vm₁, locs, cells, slots⟩ (Value.ref b :: argsL).toArray v B ∧
      ∀ target, Steps p.tables e below (B.U.setTop { g with pc := g.pc + 3, stack := v.toList ++ rest }) target → Steps p.tables e below (T.setTop g) target := by
  obtain ⟨mk, methM, hnamed, hmethM, hstM, habM⟩ := Cond.instanceMethod_spec hinst
  obtain ⟨m8, methM', cM, hn8, hmethM', -, -, -, -, -, -, hsigM⟩ := Cond.codeWith_spec hcode
  cases Option.some.inj (hn8.symm.trans hnamed)
  cases hmethM.symm.trans hmethM'
  obtain ⟨c2, r2, m2, q1, q2, q3, q4, kP, hkP, hkPi⟩ := Cond.selects_spec hsel
  cases hcls.symm.trans q1
  cases (State.methodFound?_of_named hnamed hy).symm.trans q2
  cases hnamed.symm.trans q3
  have hselP : selectMethod e.platform s.vm cellB.cls mk = .method mk := by rw [Launch.admits_selectMethod X.admits]; exact q4
  obtain ⟨vm₁, X₁, hstep₁⟩ := X.invokevirtual hexec hown hlink hnamed hmethM hstM hkP hkPi hy (a := b) (cell := cellB) hcell
    (fun z h => by rw [h] at hobj; cases hobj) hselP hmethM habM hkP hkPi (g := g) hg (argsL := argsL) (rest := rest) (hlen _ hsigM) hstack hdg
  obtain ⟨v, B, X', hpost, hsteps⟩ := hK m meth c ⟨T.setVm vm₁, locs, cells, slots⟩ { g with stack := rest } (.invokevirtual index) mk (Value.ref b :: argsL).toArray X₁ hg hsize hdg hW (X₁.named hnamed) (hpre vm₁ X₁.warmed)
  exact ⟨v, vm₁, B, X₁.warmed, X', hpost, fun target h => hstep₁ _ fun acts => by rw [doInvoke_state]; exact hsteps.trans h⟩
abbrev vx_CVW (R : Room) (s : State) (args : Array Value) (own C : String) (index : Nat) (y : MethodName) (bytes : ByteArray) (maxL : Nat) (ret : Option FieldType) (hh : List (Nat × Nat × Nat × Nat)) (ws : List Cond) (rm : Room) (mc ms n : Nat) : Prop :=
  (rm.cells = mc ∧ rm.slots = ms ∧ rm.frames + 1 ≤ R.frames ∧ 8 + (maxL + 11) + rm.locals ≤ R.locals ∧ (∀ w ∈ ws, ∀ (a' : Array Value) (U : State), s.WarmedH U.vm → w.before a' U = true) ∧ Cond.codeWith y bytes maxL ret hh ∈ ws) ∧
  (Cond.codeWith y bytes maxL ret hh).before args s = true ∧ (Cond.initialized y.cls).before args s = true ∧ (y.cls ≠ "java/lang/invoke/MethodHandle" ∧ y.cls ≠ "java/lang/invoke/VarHandle") ∧
  (∀ sig, parseMethodDescriptor y.desc = some sig → n = sig.parameters.length) ∧ (Cond.methodLink own index y).before args s = true ∧ (Cond.instanceMethod y).before args s = true ∧ (Cond.selects C y y).before args s = true
theorem vx_cwVW {own C : String} {index maxL mc ms : Nat} {y : MethodName} {bytes : ByteArray} {ret : Option FieldType} {hh : List (Nat × Nat × Nat × Nat)} {Ts ws ws' : List Cond} {rm : Room} (n : Nat) (ht : ∀ w ∈ Ts, w.before args s = true) (hT : GoodIn Ts (wsV own index C y ws)) (hw : ws = Cond.codeWith y bytes maxL ret hh :: ws') (hrc : rm.cells = mc) (hrs : rm.slots = ms)
    (hd : y.cls = C ∧ y.cls ≠ "java/lang/invoke/MethodHandle" ∧ y.cls ≠ "java/lang/invoke/VarHandle" ∧ (parseMethodDescriptor y.desc).map (fun d => d.parameters.length) = some n) (hR : rm.frames + 1 ≤ R.frames ∧ 8 + (maxL + 11) + rm.locals ≤ R.locals) :
    vx_CVW R s args own C index y bytes maxL ret hh ws rm mc ms n := by
  obtain ⟨hC, hd⟩ := hd
  subst hC
  have ok : ∀ w ∈ wsV own index y.cls y ws, w.before args s = true := fun w h => ht w (hT w h).1
  have hG : GoodIn Ts ws := fun w h => hT w (by unfold wsV; exact List.mem_append_right _ h)
  have hc : Cond.codeWith y bytes maxL ret hh ∈ ws := by rw [hw]; exact List.mem_cons_self
  refine ⟨⟨hrc, hrs, hR.1, hR.2, pay_in ht hG, hc⟩, ht _ (hG _ hc).1, ok _ (by simp [wsV]), ⟨hd.1, hd.2.1⟩, fun sig h => ?_, ok _ (by simp [wsV]), ok _ (by simp [wsV]), ok _ (by simp [wsV])⟩
  have h2 := hd.2.2
  rw [h] at h2
  exact (Option.some.inj h2).symm
theorem vx_runVW {y : MethodName} {bytes cc : ByteArray} {maxL nL mc ms n index : Nat} {ret : Option FieldType} {hh : List (Nat × Nat × Nat × Nat)} {ws : List Cond} {rm : Room} {Pc : Array Value → State → Prop} {Qc : Array Value → State → Outcome → State → Prop} {free : Addr → Prop} {Ts : List Cond} {own C : String} {b : Addr} {As rest : List Value} {g : JFrame}
    (S : CallFix p m c cc nL s args Ts own) (hM : Met l y ws rm Pc Qc mc ms free) (cw : vx_CVW R s args own C index y bytes maxL ret hh ws rm mc ms n) (hp : PreV s H C b Pc As)
    (hg : g.method = m) (hn : As.length = n) (hsize : g.locals.size = nL) (hstack : g.stack = As.reverse ++ .ref b :: rest) (hW : 2 * g.monitorRoom + (rest.map fun v => v.category).sum ≤ 8) (hdg : decode cc g.pc = .ok (.invokevirtual index, 3)) (hf : cells + mc ≤ R.cells ∧ slots + ms ≤ R.slots) :
    va_Run p l e R s m args below meth c H locs cells slots mc ms g rest (Qc (Value.ref b :: As).toArray) free := by
  obtain ⟨⟨hrc, hrs, hfr, hlo, hws, hcw⟩, hcode, hini, hy, hlen, hl, hin, hse⟩ := cw
  have hK : Back l R p e below s args y 3 8 (PreOf R mc ms Pc) (PostOf Qc mc ms free) := va_backW (hh := hh) (bytes := bytes) (maxL := maxL) (ret := ret) hM hp.1 hrc hrs hfr hlo hws hcw (fun a' U hW => word_at hW (Or.inl (by first | rfl | simp [Cond.onTables, Cond.keeps, Cond.steady])) hini)
  obtain ⟨hx, hb, hml, ho, -⟩ := S
  obtain ⟨-, ⟨cellB, hcB, hoB, hclB⟩, hPc⟩ := hp
  intro T hT X
  obtain ⟨v, vm₁, ⟨U', l2, c2, s2⟩, hW₁, X', ⟨g', mk, t, L, e1, e2, hq, h1, hL, h2, h3⟩, st⟩ := vx_callVW X hx (C := C) (hh := hh) (bytes := bytes) (maxL := maxL) (ret := ret) ho hl hin hse hcode hy hK (by rw [hT]; exact hcB) hoB hclB hg (hsize.trans hml.symm) (argsL := As) (rest := rest) (fun sig h => hn.trans (hlen sig h)) hstack hW (by rw [hb]; exact hdg)
    (fun vm₁ hW₁ => ⟨hf.1, hf.2, hPc (T.setVm vm₁) hT hW₁⟩)
  dsimp only [Pt.U, Pt.locs, Pt.cells, Pt.slots] at X' e1 e2 h1 h2 h3 st
  subst h1; subst h2; subst h3
  exact ⟨v, (T.setVm vm₁).calling g' mk (Value.ref b :: As).toArray, t, U', L, hT, X', hL, e1, e2, hq, st⟩
section
variable {y : MethodName} {bytes cc : ByteArray} {maxL nL mc ms n index : Nat} {ret : Option FieldType} {ws : List Cond} {rm : Room} {Pc : Array Value → State → Prop} {Qc : Array Value → State → Outcome → State → Prop} {XC : String → State → State → Prop} {free : Addr → Prop} {Ts : List Cond} {own C : String} {b : Addr} {As rest : List Value} {g : JFrame}
theorem vx_runVX {hh : List (Nat × Nat × Nat × Nat)} (S : CallFix p m c cc nL s args Ts own) (hM : vx_Met l y ws rm Pc Qc XC mc ms free) (cw : vx_CVW R s args own C index y bytes maxL ret hh ws rm mc ms n) (hp : PreV s H C b Pc As)
    (hg : g.method = m) (hn : As.length = n) (hsize : g.locals.size = nL) (hstack : g.stack = As.reverse ++ .ref b :: rest) (hW : 2 * g.monitorRoom + (rest.map fun v => v.category).sum ≤ 8) (hdg : decode cc g.pc = .ok (.invokevirtual index, 3)) (hf : cells + mc ≤ R.cells ∧ slots + ms ≤ R.slots) :
    vx_Run p l e R s m args below meth c H locs cells slots mc ms g rest (Qc (Value.ref b :: As).toArray) XC free := by
  obtain ⟨⟨hrc, hrs, hfr, hlo, hws, hcw⟩, hcode, hini, hy, hlen, hl, hin, hse⟩ := cw
  have hK : vx_Back l R p e below s args y 3 8 (PreOf R mc ms Pc) (PostOf Qc mc ms free) (vx_Post XC mc ms free) := vx_backW (hh := hh) (bytes := bytes) (maxL := maxL) (ret := ret) hM hp.1 hrc hrs hfr hlo hws hcw (fun a' U hW => word_at hW (Or.inl (by first | rfl | simp [Cond.onTables, Cond.keeps, Cond.steady])) hini)
  obtain ⟨hx, hb, hml, ho, -⟩ := S
  obtain ⟨-, ⟨cellB, hcB, hoB, hclB⟩, hPc⟩ := hp
  intro T hT X
  rcases vx_callVX X hx (C := C) (hh := hh) (bytes := bytes) (maxL := maxL) (ret := ret) ho hl hin hse hcode hy hK (by rw [hT]; exact hcB) hoB hclB hg (hsize.trans hml.symm) (argsL := As) (rest := rest) (fun sig h => hn.trans (hlen sig h)) hstack hW (by rw [hb]; exact hdg)
    (fun vm₁ hW₁ => ⟨hf.1, hf.2, hPc (T.setVm vm₁) hT hW₁⟩) with ⟨v, vm₁, ⟨U', l2, c2, s2⟩, hW₁, X', ⟨g', mk, t, L, e1, e2, hq, h1, hL, h2, h3⟩, st⟩ | ⟨q, vm₁, ⟨U', l2, c2, s2⟩, hW₁, X', ⟨g', mk, t, L, E, ce, e1, e2, hq, hce, hcv, hcl, h1, hL, h2, h3⟩, st⟩
  · dsimp only [Pt.U, Pt.locs, Pt.cells, Pt.slots] at X' e1 e2 h1 h2 h3 st
    subst h1; subst h2; subst h3
    exact Or.inl ⟨v, (T.setVm vm₁).calling g' mk (Value.ref b :: As).toArray, t, U', L, hT, X', hL, e1, e2, hq, st⟩
  · dsimp only [Pt.U, Pt.locs, Pt.cells, Pt.slots] at X' e1 e2 h1 h2 h3 st hcl
    subst h1; subst h2; subst h3
    exact Or.inr ⟨q, (T.setVm vm₁).calling g' mk (Value.ref b :: As).toArray, t, U', L, E, ce, hT, X', hL, e1, e2, hq, hce, hcv, vx_cls hW₁ hcl, st⟩
theorem vx_runSX {hh : List (Nat × Nat × Nat × Nat)} (S : CallFix p m c cc nL s args Ts own) (hM : vx_Met l y ws rm Pc Qc XC mc ms free) (cw : vx_CSW R s args own index y bytes maxL ret hh ws rm mc ms n) (hp : PreS s H Pc As)
    (hg : g.method = m) (hn : As.length = n) (hsize : g.locals.size = nL) (hstack : g.stack = As.reverse ++ rest) (hW : 2 * g.monitorRoom + (rest.map fun v => v.category).sum ≤ 8) (hdg : decode cc g.pc = .ok (.invokestatic index, 3)) (hf : cells + mc ≤ R.cells ∧ slots + ms ≤ R.slots) :
    vx_Run p l e R s m args below meth c H locs cells slots mc ms g rest (Qc As.toArray) XC free := by
  obtain ⟨⟨hrc, hrs, hfr, hlo, hws, hcw⟩, hcode, hini, hy, hlen, hl, hstt⟩ := cw
  have hK : vx_Back l R p e below s args y 3 8 (PreOf R mc ms Pc) (PostOf Qc mc ms free) (vx_Post XC mc ms free) := vx_backW (hh := hh) (bytes := bytes) (maxL := maxL) (ret := ret) hM hp.1 hrc hrs hfr hlo hws hcw (fun a' U hW => word_at hW (Or.inl (by first | rfl | simp [Cond.onTables, Cond.keeps, Cond.steady])) hini)
  obtain ⟨hx, hb, hml, ho, -⟩ := S
  intro T hT X
  rcases vx_callSX X hx (hh := hh) (bytes := bytes) (maxL := maxL) (ret := ret) ho hl hstt hini hcode hy hK hg (hsize.trans hml.symm) (argsL := As) (rest := rest) (fun sig h => hn.trans (hlen sig h)) hstack hW (by rw [hb]; exact hdg)
    (fun vm₁ hW₁ => ⟨hf.1, hf.2, hp.2 (T.setVm vm₁) hT hW₁⟩) with ⟨v, vm₁, ⟨U', l2, c2, s2⟩, hW₁, X', ⟨g', mk, t, L, e1, e2, hq, h1, hL, h2, h3⟩, st⟩ | ⟨q, vm₁, ⟨U', l2, c2, s2⟩, hW₁, X', ⟨g', mk, t, L, E, ce, e1, e2, hq, hce, hcv, hcl, h1, hL, h2, h3⟩, st⟩
  · dsimp only [Pt.U, Pt.locs, Pt.cells, Pt.slots] at X' e1 e2 h1 h2 h3 st
    subst h1; subst h2; subst h3
    exact Or.inl ⟨v, (T.setVm vm₁).calling g' mk As.toArray, t, U', L, hT, X', hL, e1, e2, hq, st⟩
  · dsimp only [Pt.U, Pt.locs, Pt.cells, Pt.slots] at X' e1 e2 h1 h2 h3 st hcl
    subst h1; subst h2; subst h3
    exact Or.inr ⟨q, (T.setVm vm₁).calling g' mk As.toArray, t, U', L, E, ce, hT, X', hL, e1, e2, hq, hce, hcv, vx_cls hW₁ hcl, st⟩
end
end VXH
theorem vx_ofWH {l : Launch} {y : MethodName} {ws ws' : List Cond} {rm : Room} {Pc : Array Value → State → Prop} {Qc : Array Value → State → Outcome → State → Prop} {XC : String → State → State → Prop} {mc ms : Nat} {free : Addr → Prop} {cc : ByteArray} {maxL : Nat} {ret : Option FieldType} {hh : List (Nat × Nat × Nat × Nat)}
    (hy : plainName y.cls = true) (hw : ws = Cond.codeWith y cc maxL ret hh :: ws')
    (body : ∀ p e s m args below meth c s₁, BodyLoose p l y (headSpec ws rm) cc maxL ret e s m args below meth c s₁ → c.maxLocals = maxL → Pc args s →
      W p l e (headSpec ws rm).room s m args below meth c s.heap [] 0 0 (vx_MQ below Qc XC args s mc ms free) (entryFrame m args maxL)) : vx_Met l y ws rm Pc Qc XC mc ms free := by
  refine MetFree.of_bodyS (code := cc) (maxLocals := maxL) (ret := ret) hy ?_ ?_
  · intro args s m h hn
    obtain ⟨m9, meth, c, hn9, h1, h2, h3, h4, -, h5, h6, -⟩ := Cond.codeWith_spec (atoms_spec (ws := ws) h _ (by rw [hw]; exact List.mem_cons_self))
    cases hn.symm.trans hn9
    exact ⟨meth, c, h1, h2, h3, h4, h5, h6⟩
  · intro p e s m args below meth c s₁ B hml hP _
    have hh0 : s₁.heap = s.heap := by rw [B.state]; rfl
    obtain ⟨t, a1, o, b1, b2, b3⟩ := body p e s m args below meth c s₁ B hml hP s₁ hh0 (Stand.of_body B)
    exact ⟨t, o, a1, b1, b2, b3⟩
/-! ===== END ===== -/

/-! names (out of the printed text) -/
def RX0 : String := "BrandRoom$Asset"
def TX0 : u_T := fun k => match k with
  | 0 => ("BrandRoom$Asset", "comes", "[I", true)
  | 1 => ("BrandRoom$Asset", "versions", "I", false)
  | 2 => ("BrandRoom$Asset", "lands", "I", false)
  | 3 => ("BrandRoom$Asset", "from", "I", false)
  | _ => ("BrandRoom$Asset", "to", "I", false)
def tyX0 : Nat → FieldType := fun k => match k with
  | 0 => .array .int
  | 1 => .int
  | 2 => .int
  | 3 => .int
  | _ => .int
theorem nmX0 : ∀ a, a < 5 → ∀ b, b < 5 → a ≠ b → (TX0 a).2.1 ≠ (TX0 b).2.1 := by decide +kernel
theorem tyX0_ok : ∀ k, k < 5 → parseFieldDescriptor (TX0 k).2.2.1 = some (tyX0 k) := by decide +kernel
abbrev cX0_init : ByteArray := prog_2_method_1_code
def yX0_init : MethodName := ⟨RX0, "<init>", "()V"⟩
abbrev cX0_addVersion : ByteArray := prog_2_method_2_code
def yX0_addVersion : MethodName := ⟨RX0, "addVersion", "(I)I"⟩
abbrev cX0_lastComes : ByteArray := prog_2_method_3_code
def yX0_lastComes : MethodName := ⟨RX0, "lastComes", "()I"⟩
abbrev cX0_putLast : ByteArray := prog_2_method_4_code
def yX0_putLast : MethodName := ⟨RX0, "putLast", "(I)V"⟩
abbrev cX0_hasLast : ByteArray := prog_2_method_5_code
def yX0_hasLast : MethodName := ⟨RX0, "hasLast", "()Z"⟩
abbrev cX0_versionAt : ByteArray := prog_2_method_6_code
def yX0_versionAt : MethodName := ⟨RX0, "versionAt", "(I)I"⟩
abbrev cX0_firstComes : ByteArray := prog_2_method_7_code
def yX0_firstComes : MethodName := ⟨RX0, "firstComes", "()I"⟩
abbrev cX0_grant : ByteArray := prog_2_method_8_code
def yX0_grant : MethodName := ⟨RX0, "grant", "(III)V"⟩
abbrev cX0_isGranted : ByteArray := prog_2_method_9_code
def yX0_isGranted : MethodName := ⟨RX0, "isGranted", "(III)Z"⟩
def RX1 : String := "BrandRoom$Booking"
def TX1 : u_T := fun k => match k with
  | 0 => ("BrandRoom$Booking", "piece", "LBrandRoom$Piece;", false)
  | 1 => ("BrandRoom$Booking", "land", "I", false)
  | 2 => ("BrandRoom$Booking", "medium", "I", false)
  | 3 => ("BrandRoom$Booking", "from", "I", false)
  | 4 => ("BrandRoom$Booking", "to", "I", false)
  | 5 => ("BrandRoom$Booking", "price", "I", false)
  | 6 => ("BrandRoom$Booking", "state", "I", false)
  | 7 => ("BrandRoom$Booking", "moved", "I", false)
  | 8 => ("BrandRoom$Booking", "pulled", "I", false)
  | 9 => ("BrandRoom$Booking", "swapped", "I", false)
  | 10 => ("BrandRoom$Booking", "on", "Z", false)
  | _ => ("BrandRoom$Booking", "free", "Z", false)
def tyX1 : Nat → FieldType := fun k => match k with
  | 0 => .object "BrandRoom$Piece"
  | 1 => .int
  | 2 => .int
  | 3 => .int
  | 4 => .int
  | 5 => .int
  | 6 => .int
  | 7 => .int
  | 8 => .int
  | 9 => .int
  | 10 => .boolean
  | _ => .boolean
theorem nmX1 : ∀ a, a < 12 → ∀ b, b < 12 → a ≠ b → (TX1 a).2.1 ≠ (TX1 b).2.1 := by decide +kernel
theorem tyX1_ok : ∀ k, k < 12 → parseFieldDescriptor (TX1 k).2.2.1 = some (tyX1 k) := by decide +kernel
abbrev cX1_init : ByteArray := prog_3_method_1_code
def yX1_init : MethodName := ⟨RX1, "<init>", "(LBrandRoom$Piece;IIIII)V"⟩
abbrev cX1_init_ : ByteArray := prog_3_method_2_code
def yX1_init_ : MethodName := ⟨RX1, "<init>", "(LBrandRoom$Booking;)V"⟩
abbrev cX1_setTo : ByteArray := prog_3_method_3_code
def yX1_setTo : MethodName := ⟨RX1, "setTo", "(LBrandRoom$Booking;)V"⟩
abbrev cX1_isOpen : ByteArray := prog_3_method_4_code
def yX1_isOpen : MethodName := ⟨RX1, "isOpen", "()Z"⟩
abbrev cX1_isIn : ByteArray := prog_3_method_5_code
def yX1_isIn : MethodName := ⟨RX1, "isIn", "(II)Z"⟩
abbrev cX1_hasDayIn : ByteArray := prog_3_method_6_code
def yX1_hasDayIn : MethodName := ⟨RX1, "hasDayIn", "(II)Z"⟩
abbrev cX1_costNow : ByteArray := prog_3_method_7_code
def yX1_costNow : MethodName := ⟨RX1, "costNow", "()I"⟩
abbrev cX1_giveUp : ByteArray := prog_3_method_8_code
def yX1_giveUp : MethodName := ⟨RX1, "giveUp", "()V"⟩
abbrev cX1_takePiece : ByteArray := prog_3_method_9_code
def yX1_takePiece : MethodName := ⟨RX1, "takePiece", "(LBrandRoom$Piece;)V"⟩
abbrev cX1_missesDeadline : ByteArray := prog_3_method_10_code
def yX1_missesDeadline : MethodName := ⟨RX1, "missesDeadline", "(I)Z"⟩
abbrev cX1_mayMove : ByteArray := prog_3_method_11_code
def yX1_mayMove : MethodName := ⟨RX1, "mayMove", "()Z"⟩
abbrev cX1_moveOn : ByteArray := prog_3_method_12_code
def yX1_moveOn : MethodName := ⟨RX1, "moveOn", "()V"⟩
abbrev cX1_endIfPast : ByteArray := prog_3_method_13_code
def yX1_endIfPast : MethodName := ⟨RX1, "endIfPast", "(I)V"⟩
abbrev cX1_startIfDue : ByteArray := prog_3_method_14_code
def yX1_startIfDue : MethodName := ⟨RX1, "startIfDue", "(I)V"⟩
abbrev cX1_showOrPull : ByteArray := prog_3_method_15_code
def yX1_showOrPull : MethodName := ⟨RX1, "showOrPull", "(I)V"⟩
def RX2 : String := "BrandRoom$Piece"
def TX2 : u_T := fun k => match k with
  | 0 => ("BrandRoom$Piece", "number", "I", true)
  | 1 => ("BrandRoom$Piece", "format", "I", true)
  | 2 => ("BrandRoom$Piece", "assetSet", "I", true)
  | 3 => ("BrandRoom$Piece", "parts", "Ljava/util/ArrayList;", true)
  | _ => ("BrandRoom$Piece", "approved", "[[I", true)
def tyX2 : Nat → FieldType := fun k => match k with
  | 0 => .int
  | 1 => .int
  | 2 => .int
  | 3 => .object "java/util/ArrayList"
  | _ => .array (.array .int)
theorem nmX2 : ∀ a, a < 5 → ∀ b, b < 5 → a ≠ b → (TX2 a).2.1 ≠ (TX2 b).2.1 := by decide +kernel
theorem tyX2_ok : ∀ k, k < 5 → parseFieldDescriptor (TX2 k).2.2.1 = some (tyX2 k) := by decide +kernel
abbrev cX2_init : ByteArray := prog_4_method_1_code
def yX2_init : MethodName := ⟨RX2, "<init>", "(III)V"⟩
abbrev cX2_isLaidOn : ByteArray := prog_4_method_2_code
def yX2_isLaidOn : MethodName := ⟨RX2, "isLaidOn", "(I)Z"⟩
abbrev cX2_isFitOn : ByteArray := prog_4_method_3_code
def yX2_isFitOn : MethodName := ⟨RX2, "isFitOn", "(II)Z"⟩
abbrev cX2_isGrantedOn : ByteArray := prog_4_method_4_code
def yX2_isGrantedOn : MethodName := ⟨RX2, "isGrantedOn", "(III)Z"⟩
abbrev cX2_reasonOn : ByteArray := prog_4_method_5_code
def yX2_reasonOn : MethodName := ⟨RX2, "reasonOn", "(II)I"⟩
abbrev cX2_approveLook : ByteArray := prog_4_method_6_code
def yX2_approveLook : MethodName := ⟨RX2, "approveLook", "(II)V"⟩
abbrev cX2_dropApproval : ByteArray := prog_4_method_7_code
def yX2_dropApproval : MethodName := ⟨RX2, "dropApproval", "(I)V"⟩
abbrev cX2_landsFitOn : ByteArray := prog_4_method_8_code
def yX2_landsFitOn : MethodName := ⟨RX2, "landsFitOn", "(I)I"⟩
abbrev cX2_firstLaidDay : ByteArray := prog_4_method_9_code
def yX2_firstLaidDay : MethodName := ⟨RX2, "firstLaidDay", "()I"⟩
def RX3 : String := "BrandRoom$Plan"
def TX3 : u_T := fun k => match k with
  | 0 => ("BrandRoom$Plan", "bookings", "Ljava/util/ArrayList;", true)
  | 1 => ("BrandRoom$Plan", "pieces", "Ljava/util/ArrayList;", false)
  | _ => ("BrandRoom$Plan", "today", "I", false)
def tyX3 : Nat → FieldType := fun k => match k with
  | 0 => .object "java/util/ArrayList"
  | 1 => .object "java/util/ArrayList"
  | _ => .int
theorem nmX3 : ∀ a, a < 3 → ∀ b, b < 3 → a ≠ b → (TX3 a).2.1 ≠ (TX3 b).2.1 := by decide +kernel
theorem tyX3_ok : ∀ k, k < 3 → parseFieldDescriptor (TX3 k).2.2.1 = some (tyX3 k) := by decide +kernel
abbrev cX3_init : ByteArray := prog_5_method_1_code
def yX3_init : MethodName := ⟨RX3, "<init>", "()V"⟩
abbrev cX3_copyFrom : ByteArray := prog_5_method_2_code
def yX3_copyFrom : MethodName := ⟨RX3, "copyFrom", "(LBrandRoom$Plan;)V"⟩
abbrev cX3_beginDay : ByteArray := prog_5_method_3_code
def yX3_beginDay : MethodName := ⟨RX3, "beginDay", "()I"⟩
abbrev cX3_settle : ByteArray := prog_5_method_4_code
def yX3_settle : MethodName := ⟨RX3, "settle", "(LBrandRoom$Booking;LBrandRoom$Piece;)V"⟩
abbrev cX3_isTaken : ByteArray := prog_5_method_5_code
def yX3_isTaken : MethodName := ⟨RX3, "isTaken", "(IIIILBrandRoom$Booking;)Z"⟩
abbrev cX3_firstSwap : ByteArray := prog_5_method_6_code
def yX3_firstSwap : MethodName := ⟨RX3, "firstSwap", "(LBrandRoom$Booking;)LBrandRoom$Piece;"⟩
abbrev cX3_canSwap : ByteArray := prog_5_method_7_code
def yX3_canSwap : MethodName := ⟨RX3, "canSwap", "(LBrandRoom$Booking;LBrandRoom$Piece;)Z"⟩
abbrev cX3_isUsedIn : ByteArray := prog_5_method_8_code
def yX3_isUsedIn : MethodName := ⟨RX3, "isUsedIn", "(ILBrandRoom$Piece;)Z"⟩
abbrev cX3_openBookingsOf : ByteArray := prog_5_method_9_code
def yX3_openBookingsOf : MethodName := ⟨RX3, "openBookingsOf", "(LBrandRoom$Piece;)I"⟩
abbrev cX3_bookingShownAt : ByteArray := prog_5_method_10_code
def yX3_bookingShownAt : MethodName := ⟨RX3, "bookingShownAt", "(III)I"⟩
abbrev cX3_priceToday : ByteArray := prog_5_method_11_code
def yX3_priceToday : MethodName := ⟨RX3, "priceToday", "(III)I"⟩
abbrev cX3_countInState : ByteArray := prog_5_method_12_code
def yX3_countInState : MethodName := ⟨RX3, "countInState", "(I)I"⟩
abbrev cX3_countOn : ByteArray := prog_5_method_13_code
def yX3_countOn : MethodName := ⟨RX3, "countOn", "()I"⟩
abbrev cX3_costOfAll : ByteArray := prog_5_method_14_code
def yX3_costOfAll : MethodName := ⟨RX3, "costOfAll", "()I"⟩
def RX4 : String := "BrandRoom"
def TX4 : u_T := fun k => match k with
  | 0 => ("BrandRoom", "assets", "Ljava/util/ArrayList;", true)
  | 1 => ("BrandRoom", "groupSets", "[I", true)
  | 2 => ("BrandRoom", "plan", "LBrandRoom$Plan;", true)
  | _ => ("BrandRoom", "trial", "LBrandRoom$Plan;", true)
def tyX4 : Nat → FieldType := fun k => match k with
  | 0 => .object "java/util/ArrayList"
  | 1 => .array .int
  | 2 => .object "BrandRoom$Plan"
  | _ => .object "BrandRoom$Plan"
theorem nmX4 : ∀ a, a < 4 → ∀ b, b < 4 → a ≠ b → (TX4 a).2.1 ≠ (TX4 b).2.1 := by decide +kernel
theorem tyX4_ok : ∀ k, k < 4 → parseFieldDescriptor (TX4 k).2.2.1 = some (tyX4 k) := by decide +kernel
abbrev cX4_init : ByteArray := prog_1_method_1_code
def yX4_init : MethodName := ⟨RX4, "<init>", "()V"⟩
abbrev cX4_asset : ByteArray := prog_1_method_2_code
def yX4_asset : MethodName := ⟨RX4, "asset", "()I"⟩
abbrev cX4_version : ByteArray := prog_1_method_3_code
def yX4_version : MethodName := ⟨RX4, "version", "(II)I"⟩
abbrev cX4_late : ByteArray := prog_1_method_4_code
def yX4_late : MethodName := ⟨RX4, "late", "(II)I"⟩
abbrev cX4_rights : ByteArray := prog_1_method_5_code
def yX4_rights : MethodName := ⟨RX4, "rights", "(IIII)I"⟩
abbrev cX4_versionOn : ByteArray := prog_1_method_6_code
def yX4_versionOn : MethodName := ⟨RX4, "versionOn", "(II)I"⟩
abbrev cX4_hasRights : ByteArray := prog_1_method_7_code
def yX4_hasRights : MethodName := ⟨RX4, "hasRights", "(III)Z"⟩
abbrev cX4_piece : ByteArray := prog_1_method_8_code
def yX4_piece : MethodName := ⟨RX4, "piece", "(II)I"⟩
abbrev cX4_approve : ByteArray := prog_1_method_9_code
def yX4_approve : MethodName := ⟨RX4, "approve", "(II)Z"⟩
abbrev cX4_hold : ByteArray := prog_1_method_10_code
def yX4_hold : MethodName := ⟨RX4, "hold", "(II)Z"⟩
abbrev cX4_reason : ByteArray := prog_1_method_11_code
def yX4_reason : MethodName := ⟨RX4, "reason", "(III)I"⟩
abbrev cX4_isFit : ByteArray := prog_1_method_12_code
def yX4_isFit : MethodName := ⟨RX4, "isFit", "(III)Z"⟩
abbrev cX4_ofPiece : ByteArray := prog_1_method_13_code
def yX4_ofPiece : MethodName := ⟨RX4, "ofPiece", "(II)I"⟩
abbrev cX4_book : ByteArray := prog_1_method_14_code
def yX4_book : MethodName := ⟨RX4, "book", "(IIIIII)I"⟩
abbrev cX4_cancel : ByteArray := prog_1_method_15_code
def yX4_cancel : MethodName := ⟨RX4, "cancel", "(I)I"⟩
abbrev cX4_swap : ByteArray := prog_1_method_16_code
def yX4_swap : MethodName := ⟨RX4, "swap", "(II)I"⟩
abbrev cX4_ofBooking : ByteArray := prog_1_method_17_code
def yX4_ofBooking : MethodName := ⟨RX4, "ofBooking", "(II)I"⟩
abbrev cX4_day : ByteArray := prog_1_method_18_code
def yX4_day : MethodName := ⟨RX4, "day", "()I"⟩
abbrev cX4_at : ByteArray := prog_1_method_19_code
def yX4_at : MethodName := ⟨RX4, "at", "(III)I"⟩
abbrev cX4_many : ByteArray := prog_1_method_20_code
def yX4_many : MethodName := ⟨RX4, "many", "(I)I"⟩
abbrev cX4_groups : ByteArray := prog_1_method_22_code
def yX4_groups : MethodName := ⟨RX4, "groups", "(III)I"⟩
abbrev cX4_reach : ByteArray := prog_1_method_23_code
def yX4_reach : MethodName := ⟨RX4, "reach", "(I)I"⟩
abbrev cX4_price : ByteArray := prog_1_method_24_code
def yX4_price : MethodName := ⟨RX4, "price", "(III)I"⟩
abbrev cX4_swapFor : ByteArray := prog_1_method_25_code
def yX4_swapFor : MethodName := ⟨RX4, "swapFor", "(I)I"⟩
abbrev cX4_offIn : ByteArray := prog_1_method_26_code
def yX4_offIn : MethodName := ⟨RX4, "offIn", "(I)I"⟩
abbrev cX4_lostIn : ByteArray := prog_1_method_27_code
def yX4_lostIn : MethodName := ⟨RX4, "lostIn", "(I)I"⟩
abbrev cX4_digest : ByteArray := prog_1_method_29_code
def yX4_digest : MethodName := ⟨RX4, "digest", "()J"⟩
abbrev cX4_addPiece : ByteArray := prog_1_method_30_code
def yX4_addPiece : MethodName := ⟨RX4, "addPiece", "(JI)J"⟩
abbrev cX4_addBooking : ByteArray := prog_1_method_31_code
def yX4_addBooking : MethodName := ⟨RX4, "addBooking", "(JI)J"⟩
abbrev cX4_groupsReached : ByteArray := prog_1_method_32_code
def yX4_groupsReached : MethodName := ⟨RX4, "groupsReached", "(I)I"⟩
abbrev cX4_groupsOf : ByteArray := prog_1_method_33_code
def yX4_groupsOf : MethodName := ⟨RX4, "groupsOf", "(II)I"⟩
abbrev cX4_assetAt : ByteArray := prog_1_method_34_code
def yX4_assetAt : MethodName := ⟨RX4, "assetAt", "(I)LBrandRoom$Asset;"⟩
abbrev cX4_pieceAt : ByteArray := prog_1_method_35_code
def yX4_pieceAt : MethodName := ⟨RX4, "pieceAt", "(I)LBrandRoom$Piece;"⟩
abbrev cX4_bookingAt : ByteArray := prog_1_method_36_code
def yX4_bookingAt : MethodName := ⟨RX4, "bookingAt", "(I)LBrandRoom$Booking;"⟩
abbrev cX4_needOffer : ByteArray := prog_1_method_37_code
def yX4_needOffer : MethodName := ⟨RX4, "needOffer", "(III)V"⟩
abbrev cX4_needLand : ByteArray := prog_1_method_38_code
def yX4_needLand : MethodName := ⟨RX4, "needLand", "(I)V"⟩
abbrev cX4_needMedium : ByteArray := prog_1_method_39_code
def yX4_needMedium : MethodName := ⟨RX4, "needMedium", "(I)V"⟩
abbrev cX4_needDay : ByteArray := prog_1_method_40_code
def yX4_needDay : MethodName := ⟨RX4, "needDay", "(I)V"⟩
abbrev cX4_isLand : ByteArray := prog_1_method_41_code
def yX4_isLand : MethodName := ⟨RX4, "isLand", "(I)Z"⟩
abbrev cX4_isMedium : ByteArray := prog_1_method_42_code
def yX4_isMedium : MethodName := ⟨RX4, "isMedium", "(I)Z"⟩
def RX5 : String := "BrandRoomModel$Asset"
def TX5 : u_T := fun k => match k with
  | _ => ("", "", "", false)
def tyX5 : Nat → FieldType := fun k => match k with
  | _ => .int
theorem nmX5 : ∀ a, a < 0 → ∀ b, b < 0 → a ≠ b → (TX5 a).2.1 ≠ (TX5 b).2.1 := by decide +kernel
theorem tyX5_ok : ∀ k, k < 0 → parseFieldDescriptor (TX5 k).2.2.1 = some (tyX5 k) := by decide +kernel
def RX6 : String := "BrandRoomModel$Book"
def TX6 : u_T := fun k => match k with
  | _ => ("", "", "", false)
def tyX6 : Nat → FieldType := fun k => match k with
  | _ => .int
theorem nmX6 : ∀ a, a < 0 → ∀ b, b < 0 → a ≠ b → (TX6 a).2.1 ≠ (TX6 b).2.1 := by decide +kernel
theorem tyX6_ok : ∀ k, k < 0 → parseFieldDescriptor (TX6 k).2.2.1 = some (tyX6 k) := by decide +kernel
def RX7 : String := "BrandRoomModel$Booking"
def TX7 : u_T := fun k => match k with
  | _ => ("", "", "", false)
def tyX7 : Nat → FieldType := fun k => match k with
  | _ => .int
theorem nmX7 : ∀ a, a < 0 → ∀ b, b < 0 → a ≠ b → (TX7 a).2.1 ≠ (TX7 b).2.1 := by decide +kernel
theorem tyX7_ok : ∀ k, k < 0 → parseFieldDescriptor (TX7 k).2.2.1 = some (tyX7 k) := by decide +kernel
def RX8 : String := "BrandRoomModel$Piece"
def TX8 : u_T := fun k => match k with
  | _ => ("", "", "", false)
def tyX8 : Nat → FieldType := fun k => match k with
  | _ => .int
theorem nmX8 : ∀ a, a < 0 → ∀ b, b < 0 → a ≠ b → (TX8 a).2.1 ≠ (TX8 b).2.1 := by decide +kernel
theorem tyX8_ok : ∀ k, k < 0 → parseFieldDescriptor (TX8 k).2.2.1 = some (tyX8 k) := by decide +kernel
def RX9 : String := "BrandRoomModel"
def TX9 : u_T := fun k => match k with
  | _ => ("", "", "", false)
def tyX9 : Nat → FieldType := fun k => match k with
  | _ => .int
theorem nmX9 : ∀ a, a < 0 → ∀ b, b < 0 → a ≠ b → (TX9 a).2.1 ≠ (TX9 b).2.1 := by decide +kernel
theorem tyX9_ok : ∀ k, k < 0 → parseFieldDescriptor (TX9 k).2.2.1 = some (tyX9 k) := by decide +kernel
def RJx145de : String := "java/io/Serializable"
def TJx145de : u_T := fun k => match k with
  | _ => ("", "", "", false)
def tyJx145de : Nat → FieldType := fun k => match k with
  | _ => .int
theorem nmJx145de : ∀ a, a < 0 → ∀ b, b < 0 → a ≠ b → (TJx145de a).2.1 ≠ (TJx145de b).2.1 := by decide +kernel
theorem tyJx145de_ok : ∀ k, k < 0 → parseFieldDescriptor (TJx145de k).2.2.1 = some (tyJx145de k) := by decide +kernel
def RJx8e188 : String := "java/lang/Cloneable"
def TJx8e188 : u_T := fun k => match k with
  | _ => ("", "", "", false)
def tyJx8e188 : Nat → FieldType := fun k => match k with
  | _ => .int
theorem nmJx8e188 : ∀ a, a < 0 → ∀ b, b < 0 → a ≠ b → (TJx8e188 a).2.1 ≠ (TJx8e188 b).2.1 := by decide +kernel
theorem tyJx8e188_ok : ∀ k, k < 0 → parseFieldDescriptor (TJx8e188 k).2.2.1 = some (tyJx8e188 k) := by decide +kernel
def RJ6 : String := "java/lang/Integer"
def TJ6 : u_T := fun k => match k with
  | _ => ("", "", "", false)
def tyJ6 : Nat → FieldType := fun k => match k with
  | _ => .int
theorem nmJ6 : ∀ a, a < 0 → ∀ b, b < 0 → a ≠ b → (TJ6 a).2.1 ≠ (TJ6 b).2.1 := by decide +kernel
theorem tyJ6_ok : ∀ k, k < 0 → parseFieldDescriptor (TJ6 k).2.2.1 = some (tyJ6 k) := by decide +kernel
abbrev cJ6_bitCount_0f7a4 : ByteArray := prog_18_method_49_code
def yJ6_bitCount_0f7a4 : MethodName := ⟨RJ6, "bitCount", "(I)I"⟩
def RJxab1ab : String := "java/lang/Iterable"
def TJxab1ab : u_T := fun k => match k with
  | _ => ("", "", "", false)
def tyJxab1ab : Nat → FieldType := fun k => match k with
  | _ => .int
theorem nmJxab1ab : ∀ a, a < 0 → ∀ b, b < 0 → a ≠ b → (TJxab1ab a).2.1 ≠ (TJxab1ab b).2.1 := by decide +kernel
theorem tyJxab1ab_ok : ∀ k, k < 0 → parseFieldDescriptor (TJxab1ab k).2.2.1 = some (tyJxab1ab k) := by decide +kernel
def RJ9 : String := "java/lang/Math"
def TJ9 : u_T := fun k => match k with
  | _ => ("", "", "", false)
def tyJ9 : Nat → FieldType := fun k => match k with
  | _ => .int
theorem nmJ9 : ∀ a, a < 0 → ∀ b, b < 0 → a ≠ b → (TJ9 a).2.1 ≠ (TJ9 b).2.1 := by decide +kernel
theorem tyJ9_ok : ∀ k, k < 0 → parseFieldDescriptor (TJ9 k).2.2.1 = some (tyJ9 k) := by decide +kernel
abbrev cJ9_max_7cf53 : ByteArray := prog_20_method_65_code
def yJ9_max_7cf53 : MethodName := ⟨RJ9, "max", "(II)I"⟩
abbrev cJ9_min_7cf53 : ByteArray := prog_20_method_69_code
def yJ9_min_7cf53 : MethodName := ⟨RJ9, "min", "(II)I"⟩
def RJ0 : String := "java/lang/String"
def TJ0 : u_T := fun k => match k with
  | _ => ("", "", "", false)
def tyJ0 : Nat → FieldType := fun k => match k with
  | _ => .int
theorem nmJ0 : ∀ a, a < 0 → ∀ b, b < 0 → a ≠ b → (TJ0 a).2.1 ≠ (TJ0 b).2.1 := by decide +kernel
theorem tyJ0_ok : ∀ k, k < 0 → parseFieldDescriptor (TJ0 k).2.2.1 = some (tyJ0 k) := by decide +kernel
def RJ10 : String := "java/lang/System"
def TJ10 : u_T := fun k => match k with
  | _ => ("", "", "", false)
def tyJ10 : Nat → FieldType := fun k => match k with
  | _ => .int
theorem nmJ10 : ∀ a, a < 0 → ∀ b, b < 0 → a ≠ b → (TJ10 a).2.1 ≠ (TJ10 b).2.1 := by decide +kernel
theorem tyJ10_ok : ∀ k, k < 0 → parseFieldDescriptor (TJ10 k).2.2.1 = some (tyJ10 k) := by decide +kernel
def RJxa1e45 : String := "java/util/AbstractCollection"
def TJxa1e45 : u_T := fun k => match k with
  | _ => ("", "", "", false)
def tyJxa1e45 : Nat → FieldType := fun k => match k with
  | _ => .int
theorem nmJxa1e45 : ∀ a, a < 0 → ∀ b, b < 0 → a ≠ b → (TJxa1e45 a).2.1 ≠ (TJxa1e45 b).2.1 := by decide +kernel
theorem tyJxa1e45_ok : ∀ k, k < 0 → parseFieldDescriptor (TJxa1e45 k).2.2.1 = some (tyJxa1e45 k) := by decide +kernel
abbrev cJxa1e45_init_da8c8 : ByteArray := prog_25_method_1_code
def yJxa1e45_init_da8c8 : MethodName := ⟨RJxa1e45, "<init>", "()V"⟩
def RJxc12de : String := "java/util/AbstractList"
def TJxc12de : u_T := fun k => match k with
  | _ => ("", "", "", false)
def tyJxc12de : Nat → FieldType := fun k => match k with
  | _ => .int
theorem nmJxc12de : ∀ a, a < 0 → ∀ b, b < 0 → a ≠ b → (TJxc12de a).2.1 ≠ (TJxc12de b).2.1 := by decide +kernel
theorem tyJxc12de_ok : ∀ k, k < 0 → parseFieldDescriptor (TJxc12de k).2.2.1 = some (tyJxc12de k) := by decide +kernel
abbrev cJxc12de_init_da8c8 : ByteArray := prog_26_method_1_code
def yJxc12de_init_da8c8 : MethodName := ⟨RJxc12de, "<init>", "()V"⟩
def RJx4a65c : String := "java/util/ArrayList"
def TJx4a65c : u_T := fun k => match k with
  | 0 => ("java/util/AbstractList", "modCount", "I", false)
  | 1 => ("java/util/ArrayList", "elementData", "[Ljava/lang/Object;", false)
  | _ => ("java/util/ArrayList", "size", "I", false)
def tyJx4a65c : Nat → FieldType := fun k => match k with
  | 0 => .int
  | 1 => .array (.object "java/lang/Object")
  | _ => .int
theorem nmJx4a65c : ∀ a, a < 3 → ∀ b, b < 3 → a ≠ b → (TJx4a65c a).2.1 ≠ (TJx4a65c b).2.1 := by decide +kernel
theorem tyJx4a65c_ok : ∀ k, k < 3 → parseFieldDescriptor (TJx4a65c k).2.2.1 = some (tyJx4a65c k) := by decide +kernel
abbrev cJx4a65c_init_da8c8 : ByteArray := prog_27_method_2_code
def yJx4a65c_init_da8c8 : MethodName := ⟨RJx4a65c, "<init>", "()V"⟩
abbrev cJx4a65c_grow_92f84 : ByteArray := prog_27_method_6_code
def yJx4a65c_grow_92f84 : MethodName := ⟨RJx4a65c, "grow", "(I)[Ljava/lang/Object;"⟩
abbrev cJx4a65c_grow_d5877 : ByteArray := prog_27_method_7_code
def yJx4a65c_grow_d5877 : MethodName := ⟨RJx4a65c, "grow", "()[Ljava/lang/Object;"⟩
abbrev cJx4a65c_size_8abf5 : ByteArray := prog_27_method_8_code
def yJx4a65c_size_8abf5 : MethodName := ⟨RJx4a65c, "size", "()I"⟩
abbrev cJx4a65c_elementData_915e3 : ByteArray := prog_27_method_18_code
def yJx4a65c_elementData_915e3 : MethodName := ⟨RJx4a65c, "elementData", "(I)Ljava/lang/Object;"⟩
abbrev cJx4a65c_get_915e3 : ByteArray := prog_27_method_20_code
def yJx4a65c_get_915e3 : MethodName := ⟨RJx4a65c, "get", "(I)Ljava/lang/Object;"⟩
abbrev cJx4a65c_add_72be8 : ByteArray := prog_27_method_24_code
def yJx4a65c_add_72be8 : MethodName := ⟨RJx4a65c, "add", "(Ljava/lang/Object;[Ljava/lang/Object;I)V"⟩
abbrev cJx4a65c_add_9ea2d : ByteArray := prog_27_method_25_code
def yJx4a65c_add_9ea2d : MethodName := ⟨RJx4a65c, "add", "(Ljava/lang/Object;)Z"⟩
def RJ7 : String := "java/util/Arrays"
def TJ7 : u_T := fun k => match k with
  | _ => ("", "", "", false)
def tyJ7 : Nat → FieldType := fun k => match k with
  | _ => .int
theorem nmJ7 : ∀ a, a < 0 → ∀ b, b < 0 → a ≠ b → (TJ7 a).2.1 ≠ (TJ7 b).2.1 := by decide +kernel
theorem tyJ7_ok : ∀ k, k < 0 → parseFieldDescriptor (TJ7 k).2.2.1 = some (tyJ7 k) := by decide +kernel
abbrev cJ7_fill_53178 : ByteArray := prog_28_method_103_code
def yJ7_fill_53178 : MethodName := ⟨RJ7, "fill", "([II)V"⟩
abbrev cJ7_copyOf_1904c : ByteArray := prog_28_method_119_code
def yJ7_copyOf_1904c : MethodName := ⟨RJ7, "copyOf", "([Ljava/lang/Object;I)[Ljava/lang/Object;"⟩
abbrev cJ7_copyOf_6403c : ByteArray := prog_28_method_120_code
def yJ7_copyOf_6403c : MethodName := ⟨RJ7, "copyOf", "([Ljava/lang/Object;ILjava/lang/Class;)[Ljava/lang/Object;"⟩
def RJx5ef63 : String := "java/util/Collection"
def TJx5ef63 : u_T := fun k => match k with
  | _ => ("", "", "", false)
def tyJx5ef63 : Nat → FieldType := fun k => match k with
  | _ => .int
theorem nmJx5ef63 : ∀ a, a < 0 → ∀ b, b < 0 → a ≠ b → (TJx5ef63 a).2.1 ≠ (TJx5ef63 b).2.1 := by decide +kernel
theorem tyJx5ef63_ok : ∀ k, k < 0 → parseFieldDescriptor (TJx5ef63 k).2.2.1 = some (tyJx5ef63 k) := by decide +kernel
def RJxbd725 : String := "java/util/List"
def TJxbd725 : u_T := fun k => match k with
  | _ => ("", "", "", false)
def tyJxbd725 : Nat → FieldType := fun k => match k with
  | _ => .int
theorem nmJxbd725 : ∀ a, a < 0 → ∀ b, b < 0 → a ≠ b → (TJxbd725 a).2.1 ≠ (TJxbd725 b).2.1 := by decide +kernel
theorem tyJxbd725_ok : ∀ k, k < 0 → parseFieldDescriptor (TJxbd725 k).2.2.1 = some (tyJxbd725 k) := by decide +kernel
def RJ15 : String := "java/util/Objects"
def TJ15 : u_T := fun k => match k with
  | _ => ("", "", "", false)
def tyJ15 : Nat → FieldType := fun k => match k with
  | _ => .int
theorem nmJ15 : ∀ a, a < 0 → ∀ b, b < 0 → a ≠ b → (TJ15 a).2.1 ≠ (TJ15 b).2.1 := by decide +kernel
theorem tyJ15_ok : ∀ k, k < 0 → parseFieldDescriptor (TJ15 k).2.2.1 = some (tyJ15 k) := by decide +kernel
abbrev cJ15_checkIndex_7cf53 : ByteArray := prog_31_method_17_code
def yJ15_checkIndex_7cf53 : MethodName := ⟨RJ15, "checkIndex", "(II)I"⟩
def RJxf0a74 : String := "java/util/RandomAccess"
def TJxf0a74 : u_T := fun k => match k with
  | _ => ("", "", "", false)
def tyJxf0a74 : Nat → FieldType := fun k => match k with
  | _ => .int
theorem nmJxf0a74 : ∀ a, a < 0 → ∀ b, b < 0 → a ≠ b → (TJxf0a74 a).2.1 ≠ (TJxf0a74 b).2.1 := by decide +kernel
theorem tyJxf0a74_ok : ∀ k, k < 0 → parseFieldDescriptor (TJxf0a74 k).2.2.1 = some (tyJxf0a74 k) := by decide +kernel
def RJxa66e6 : String := "java/util/SequencedCollection"
def TJxa66e6 : u_T := fun k => match k with
  | _ => ("", "", "", false)
def tyJxa66e6 : Nat → FieldType := fun k => match k with
  | _ => .int
theorem nmJxa66e6 : ∀ a, a < 0 → ∀ b, b < 0 → a ≠ b → (TJxa66e6 a).2.1 ≠ (TJxa66e6 b).2.1 := by decide +kernel
theorem tyJxa66e6_ok : ∀ k, k < 0 → parseFieldDescriptor (TJxa66e6 k).2.2.1 = some (tyJxa66e6 k) := by decide +kernel
def RJ8 : String := "jdk/internal/util/ArraysSupport"
def TJ8 : u_T := fun k => match k with
  | _ => ("", "", "", false)
def tyJ8 : Nat → FieldType := fun k => match k with
  | _ => .int
theorem nmJ8 : ∀ a, a < 0 → ∀ b, b < 0 → a ≠ b → (TJ8 a).2.1 ≠ (TJ8 b).2.1 := by decide +kernel
theorem tyJ8_ok : ∀ k, k < 0 → parseFieldDescriptor (TJ8 k).2.2.1 = some (tyJ8 k) := by decide +kernel
abbrev cJ8_newLength_cabcc : ByteArray := prog_34_method_27_code
def yJ8_newLength_cabcc : MethodName := ⟨RJ8, "newLength", "(III)I"⟩
abbrev cJ8_hugeLength_7cf53 : ByteArray := prog_34_method_28_code
def yJ8_hugeLength_7cf53 : MethodName := ⟨RJ8, "hugeLength", "(II)I"⟩
def RJ3 : String := "jdk/internal/util/Preconditions"
def TJ3 : u_T := fun k => match k with
  | _ => ("", "", "", false)
def tyJ3 : Nat → FieldType := fun k => match k with
  | _ => .int
theorem nmJ3 : ∀ a, a < 0 → ∀ b, b < 0 → a ≠ b → (TJ3 a).2.1 ≠ (TJ3 b).2.1 := by decide +kernel
theorem tyJ3_ok : ∀ k, k < 0 → parseFieldDescriptor (TJ3 k).2.2.1 = some (tyJ3 k) := by decide +kernel
abbrev cJ3_checkIndex_8e157 : ByteArray := prog_35_method_11_code
def yJ3_checkIndex_8e157 : MethodName := ⟨RJ3, "checkIndex", "(IILjava/util/function/BiFunction;)I"⟩
def RL : String := "BrandRoomLaw"
abbrev cL_below : ByteArray := method_2_code
def yL_below : MethodName := ⟨RL, "below", "(II)I"⟩
abbrev cL_cell : ByteArray := method_3_code
def yL_cell : MethodName := ⟨RL, "cell", "([II)I"⟩
abbrev cL_law : ByteArray := code
def yL_law : MethodName := ⟨RL, "law", "([I)Z"⟩
abbrev cL_act : ByteArray := method_5_code
def yL_act : MethodName := ⟨RL, "act", "(LBrandRoom;I)Z"⟩
abbrev cL_areBookingsRight : ByteArray := method_6_code
def yL_areBookingsRight : MethodName := ⟨RL, "areBookingsRight", "(LBrandRoom;)Z"⟩
abbrev cL_arePiecesRight : ByteArray := method_7_code
def yL_arePiecesRight : MethodName := ⟨RL, "arePiecesRight", "(LBrandRoom;I)Z"⟩
abbrev cL_arePlacesRight : ByteArray := method_8_code
def yL_arePlacesRight : MethodName := ⟨RL, "arePlacesRight", "(LBrandRoom;I)Z"⟩
abbrev vwCl : List vw_C := [(RJx4a65c, TJx4a65c, 3), (RX0, TX0, 5), (RX1, TX1, 12), (RX2, TX2, 5), (RX3, TX3, 3), (RX4, TX4, 4)]
/-- the types of the arrays that the worlds hold -/
def z_tys : List FieldType := [.int, .object "java/lang/Object", .array .int, .int, .int]
/-- the texts of exceptions -/
def z_strs : List (String × Nat × String) := [("BrandRoom", 36, "there are 16 assets"), ("BrandRoom", 357, "no such asset"), ("BrandRoom", 58, "day is not today to 99"), ("BrandRoom", 65, "there are 5 versions"), ("BrandRoom", 84, "lands is not 0 to 15"), ("BrandRoom", 373, "a day is not 0 to 99"), ("BrandRoom", 89, "to is below from"), ("BrandRoom", 108, "format is not 0 to 2"), ("BrandRoom", 110, "assets is empty, or has one that there is not"), ("BrandRoom", 115, "there are 12 pieces"), ("BrandRoom", 361, "no such booking"), ("BrandRoom", 260, "what is not 0 to 11"), ("BrandRoom", 279, "what is not 0 to 10"), ("BrandRoom", 359, "no such piece"), ("BrandRoom", 171, "what is not 0 to 4"), ("BrandRoom", 369, "no such land"), ("BrandRoom", 301, "days is not 1 to 30"), ("BrandRoom", 139, "the piece is not laid"), ("BrandRoom", 363, "from is not above today"), ("BrandRoom", 365, "to is not from to 99"), ("BrandRoom", 367, "base is not 1 to 999"), ("BrandRoom", 371, "no such medium"), ("BrandRoom", 182, "there were 16 bookings"), ("BrandRoom", 188, "another booking has one of these days"), ("BrandRoom", 207, "the booking is neither booked nor running"), ("BrandRoom", 222, "the piece cannot be swapped for that of the booking"), ("BrandRoom", 67, "days is not 1 to 20"), ("BrandRoom", 72, "no version is still to come"), ("BrandRoom", 284, "groups is not 0 to 1023"), ("BrandRoom", 262, "today is 99")]
/-- classes of exceptions that are not of one another -/
def z_ncs : List (String × String) := [("java/lang/IllegalStateException", "java/lang/IndexOutOfBoundsException"), ("java/lang/IllegalArgumentException", "java/lang/IndexOutOfBoundsException"), ("java/lang/IndexOutOfBoundsException", "java/lang/IllegalStateException"), ("java/lang/IllegalArgumentException", "java/lang/IllegalStateException")]
/-- what is called through an interface -/
def z_ifs : List (String × MethodName × MethodName) := []
theorem z_ifs_ok : ∀ q ∈ z_ifs, q.2.1.cls ≠ "java/lang/invoke/MethodHandle" ∧ q.2.1.cls ≠ "java/lang/invoke/VarHandle" := by decide +kernel
end
section
/-! THE LAYER (own rows): one world for all methods. A heap is seen as two functions: zT: address to (kind, size); zF: address and place to value. Kinds below 100: a class's place in vwCl; 100 + j: arrays of the j-th type of zw_tys. A method's contract speaks of any two such functions; what it does is said by a predicate transformer. -/
abbrev zT : Type := Nat → Option (Nat × Nat)
abbrev zF : Type := Nat → Nat → Value
def zu (F : zF) (a k : Nat) (v : Value) : zF := fun b j => if b = a ∧ j = k then v else F b j
def zn (T : zT) (a : Nat) (t : Nat × Nat) : zT := fun b => if b = a then some t else T b
def zm (F : zF) (a : Nat) (V : Nat → Value) : zF := fun b j => if b = a then V j else F b j
/-- the words that all methods need: all of the law's tables that stay true as classes warm -/
def zw_gw : Cond → Bool
  | .fieldLinkNest .. => true
  | .methodLinkNest .. => true
  | .arrayOver (.object _) => true
  | .castable .. => true
  | .declares _ => true
  | w => goodWord w
def zG : List Cond := lw_tbl.filter zw_gw
theorem zG_of {w : Cond} (i : Nat) (h : lw_tbl[i]? = some w) (g : zw_gw w = true) : w ∈ zG := List.mem_filter.mpr ⟨List.mem_of_getElem? h, g⟩
theorem zw_move {w : Cond} (g : zw_gw w = true) {a a' : Array Value} {s U : State} (hW : s.WarmedH U.vm) (h : w.before a s = true) : w.before a' U = true := by
  have base : goodWord w = true → w.before a' U = true := fun g => word_at hW (good_of_word g) h
  cases w <;> first | exact base g | skip
  case fieldLinkNest => exact va_Nw.use rfl (va_Nw.warmF hW (va_Nw.of rfl h))
  case methodLinkNest => exact va_Nw.use rfl (va_Nw.warmM hW (va_Nw.of rfl h))
  case arrayOver ty => 
    cases ty <;> first | exact va_AO.use (va_AO.moved hW.alike (va_AO.of h)) | exact base g
  case castable => exact va_Nw.use rfl (va_Nw.warmC hW (va_Nw.of rfl h))
  case declares x => 
    have h1 : (Cond.declares x).before a (s.setVm U.vm) = true := by rw [Cond.declares_setVm hW.alike]; exact h
    exact va_tabs (u := s.setVm U.vm) (A := a) rfl rfl h1
/-! the world -/
def z_at (D : va_G) (cA : Nat → ClassId) (a : Nat) (t : Nat × Nat) (V : Nat → Value) (H : Heap) : Prop :=
  if t.1 < 100 then ∃ r : vw_C, vwCl[t.1]? = some r ∧ t.2 = r.2.2 ∧ t_OB a (D.1 t.1) r.2.2 (D.2 t.1) H V
  else H[a]? = some (arrV (cA (t.1 - 100)) t.2 V) ∨ ((t.2 = 0 ∨ t.1 = 104) ∧ ∃ c : Cell, H[a]? = some c ∧ c.cls = cA (t.1 - 100) ∧ c.slots.size = t.2 ∧ (∀ j : Nat, j < t.2 → c.slots[j]? = some (V j)) ∧ c.vm ≠ .unknown ∧ ∀ k : ClassId, c.vm ≠ .statics k)
theorem z_at.kept {D : va_G} {cA : Nat → ClassId} {a : Nat} {t : Nat × Nat} {V : Nat → Value} {H H1 : Heap} (h : z_at D cA a t V H) (hq : H1[a]? = H[a]?) : z_at D cA a t V H1 := by
  unfold z_at at h ⊢
  split at h
  · next g =>
    rw [if_pos g]
    obtain ⟨r, h1, h2, h3⟩ := h
    exact ⟨r, h1, h2, h3.kept hq⟩
  · next g =>
    rw [if_neg g, hq]
    exact h
theorem z_at.lt {D : va_G} {cA : Nat → ClassId} {a : Nat} {t : Nat × Nat} {V : Nat → Value} {H : Heap} (h : z_at D cA a t V H) : a < H.size := by
  unfold z_at at h
  split at h
  · obtain ⟨r, h1, h2, cell, h3, -⟩ := h
    exact (Array.getElem?_eq_some_iff.mp h3).1
  · rcases h with h | ⟨-, c, h, -⟩ <;> exact (Array.getElem?_eq_some_iff.mp h).1
def z_P (D : va_G) (cA : Nat → ClassId) (N0 : Nat) (T : zT) (F : zF) (H : Heap) : Prop := ∀ (a : Nat) (t : Nat × Nat), T a = some t → (N0 ≤ a ∨ (t.2 = 0 ∧ 100 ≤ t.1) ∨ t.1 = 104) ∧ z_at D cA a t (F a) H
theorem z_P.kept {D : va_G} {cA : Nat → ClassId} {N0 : Nat} {T : zT} {F : zF} {H H1 : Heap} (h : z_P D cA N0 T F H) (hq : ∀ a : Nat, a < H.size → H1[a]? = H[a]?) : z_P D cA N0 T F H1 := fun a t ht => ⟨(h a t ht).1, (h a t ht).2.kept (hq a (h a t ht).2.lt)⟩
theorem z_P.set {D : va_G} {cA : Nat → ClassId} {N0 : Nat} {T : zT} {F : zF} {H H1 : Heap} {a k : Nat} {t : Nat × Nat} {v : Value} (h : z_P D cA N0 T F H) (hT : T a = some t) (he : z_at D cA a t (fun j => if j = k then v else F a j) H1) (oq : ∀ q : Nat, q ≠ a → H1[q]? = H[q]?) : z_P D cA N0 T (zu F a k v) H1 := by
  intro b t' hb
  by_cases g : b = a
  · subst g
    cases hT.symm.trans hb
    refine ⟨(h b t hT).1, ?_⟩
    have e : (zu F b k v) b = (fun j => if j = k then v else F b j) := by funext j; simp [zu]
    rw [e]; exact he
  · refine ⟨(h b t' hb).1, ?_⟩
    have e : (zu F a k v) b = F b := by funext j; simp [zu, g]
    rw [e]; exact (h b t' hb).2.kept (oq b g)
theorem z_P.push {D : va_G} {cA : Nat → ClassId} {N0 : Nat} {T : zT} {F : zF} {H H1 : Heap} {t : Nat × Nat} {V : Nat → Value} (h : z_P D cA N0 T F H) (hN : N0 ≤ H.size) (he : z_at D cA H.size t V H1) (oq : ∀ q : Nat, q < H.size → H1[q]? = H[q]?) : T H.size = none ∧ z_P D cA N0 (zn T H.size t) (zm F H.size V) H1 := by
  refine ⟨?_, fun b t' hb => ?_⟩
  · cases g : T H.size with
    | none => rfl
    | some t' => exact absurd (h _ _ g).2.lt (Nat.lt_irrefl _)
  · by_cases g : b = H.size
    · subst g
      have : t = t' := by simpa [zn] using hb
      subst this
      refine ⟨Or.inl hN, ?_⟩
      have e : (zm F H.size V) H.size = V := by funext j; simp [zm]
      rw [e]; exact he
    · have hb' : T b = some t' := by simpa [zn, g] using hb
      refine ⟨(h b t' hb').1, ?_⟩
      have e : (zm F H.size V) b = F b := by funext j; simp [zm, g]
      rw [e]; exact (h b t' hb').2.kept (oq b (h b t' hb').2.lt)
theorem z_P.none {D : va_G} {cA : Nat → ClassId} {N0 : Nat} {T : zT} {F : zF} {H : Heap} (h : z_P D cA N0 T F H) : T H.size = none := by
  cases g : T H.size with
  | none => rfl
  | some t' => exact absurd (h _ _ g).2.lt (Nat.lt_irrefl _)
/-- the array class over an array type stands in the machine's tables -/
def z_AA (ty : FieldType) (U : State) : Prop := ∃ (comp cA : ClassId) (k : Class), U.vm.findClass (FieldType.array ty).toString = some comp ∧ (U.vm.classes.findIdx? fun (x : Class) => match x.kind with | .array component _ => component == comp | _ => false) = some cA ∧ U.vm.classes[cA]? = some k ∧ k.kind = .array comp (.array ty) ∧ U.vm.findClass ("[" ++ (FieldType.array ty).toString) = some cA
theorem z_AA.of {ty : FieldType} {A : Array Value} {U : State} (h : (Cond.arrayOver (.array ty)).before A U = true) : z_AA ty U := by
  simp only [Cond.before, Cond.holds, Cond.value, beq_iff_eq] at h
  rw [Option.bind_eq_some_iff] at h
  obtain ⟨comp, hcomp, h⟩ := h
  rw [Option.bind_eq_some_iff] at h
  obtain ⟨cA, hi, h⟩ := h
  cases hk : U.vm.classes[cA]? with
  | none => rw [hk] at h; simp at h
  | some k =>
    rw [hk, Option.map_some] at h
    cases hkind : k.kind with
    | array component t2 =>
      rw [hkind] at h
      simp at h
      have hp := (Array.findIdx?_eq_some_iff_getElem.mp hi)
      obtain ⟨hlt, hp, -⟩ := hp
      have e : U.vm.classes[cA] = k := by
        have := (Array.getElem?_eq_some_iff.mp hk).2
        exact this
      rw [e, hkind] at hp
      simp at hp
      exact ⟨comp, cA, k, hcomp, hi, hk, by rw [hkind, hp, h.1], h.2⟩
    | _ => rw [hkind] at h; simp at h
theorem z_AA.moved {ty : FieldType} {u U : State} (hvm : u.vm.Alike U.vm) (h : z_AA ty u) : z_AA ty U := by
  obtain ⟨comp, c, k, h1, h2, h3, h4, h5⟩ := h
  obtain ⟨k', hk', he⟩ := hvm.2.2 _ _ h3
  have hi : (U.vm.classes.findIdx? fun (x : Class) => match x.kind with | .array component _ => component == comp | _ => false) = some c := by
    have a1 := va_idx_bare U.vm comp
    have a2 := va_idx_bare u.vm comp
    have a3 : U.vm.bare = u.vm.bare := by first | exact hvm.bare_eq | exact hvm.bare_eq.symm
    rw [a3] at a1
    exact (a1.symm.trans a2).trans h2
  exact ⟨comp, c, k', by rw [hvm.findClass]; exact h1, hi, hk', by rw [he]; exact h4, by rw [hvm.findClass]; exact h5⟩
theorem z_AA.use {ty : FieldType} {A : Array Value} {U : State} (h : z_AA ty U) : (Cond.arrayOver (.array ty)).before A U = true := by
  obtain ⟨comp, c, k, h1, h2, h3, h4, h5⟩ := h
  unfold Cond.before Cond.holds
  simp only [Cond.value]
  rw [h1, Option.bind_some]
  refine (congrArg (fun o : Option Nat => (o.bind (fun c => (U.vm.classes[c]?).map fun (k : Class) => match k.kind with | .array _ t2 => decide (t2 = FieldType.array ty) && decide (U.vm.findClass ("[" ++ (FieldType.array ty).toString) = some c) | _ => false) == some true)) h2).trans ?_
  simp [h3, h4, h5]
/-- what stands outside the cells that a method may change -/
def z_K (l : Launch) (D : va_G) (cA : Nat → ClassId) (N0 zE : Nat) (U : State) : Prop :=
  l.stackTraces = false ∧ N0 ≤ U.heap.size ∧ va_K D vwCl [] U ∧ (∀ (j : Nat) (ty : FieldType), z_tys[j]? = some ty → ArrOfT U (cA j) ty ∧ (j = 4 ∨ va_RA U (cA j) ty)) ∧
  va_Z "java/util/ArrayList" "DEFAULTCAPACITY_EMPTY_ELEMENTDATA" "[Ljava/lang/Object;" (.ref zE) (fun q => N0 ≤ q) U U.heap ∧
  vx_Zq Bundle.tN "UNASSIGNED_STACK" Bundle.steD (fun q => N0 ≤ q) U U.heap ∧ vx_Zq Bundle.tN "SUPPRESSED_SENTINEL" Bundle.listD (fun q => N0 ≤ q) U U.heap ∧
  (∀ q ∈ z_strs, ∃ sa : Nat, vk_R q.1 q.2.1 q.2.2 sa U) ∧ (∀ q ∈ z_ncs, va_Nc q.1 q.2 U) ∧ (∀ q ∈ z_ifs, va_Fw q.1 q.2.1 q.2.2 U) ∧ z_AA .int U ∧ va_Mi "[Ljava/lang/Object;" (cA 5) U ∧ va_Dc U
theorem z_K.move {l : Launch} {D : va_G} {cA : Nat → ClassId} {N0 zE : Nat} {s U : State} (h : z_K l D cA N0 zE s) (hW : s.WarmedH U.vm) (hz : s.heap.size ≤ U.heap.size) (hk : ∀ a : Nat, a < s.heap.size → ¬ N0 ≤ a → U.heap[a]? = s.heap[a]?) : z_K l D cA N0 zE U := by
  obtain ⟨h0, h1, h2, h3, h4, h5, h6, h7, h8, h9, h10, h11, h12⟩ := h
  exact ⟨h0, Nat.le_trans h1 hz, va_K.moved hW.alike h2, fun j ty e => ⟨arrOfT_moved hW.alike (h3 j ty e).1, (h3 j ty e).2.imp id (fun g => g.moved hW.alike)⟩, va_Z.moved hW.alike (h4.kept hk), vx_Zq.moved hW.alike (h5.kept hk), vx_Zq.moved hW.alike (h6.kept hk), fun q hq => (h7 q hq).imp fun sa g => vk_R.warm hW g, fun q hq => va_Nc.moved hW.alike (h8 q hq), fun q hq => va_Fw.moved (z_ifs_ok q hq) hW.alike (h9 q hq), h10.moved hW.alike, va_Mi.moved hW.alike h11, va_Dc.moved hW.alike h12⟩
def z_C (p : Program) (l : Launch) (s : State) (m : MethodId) (args : Array Value) (meth : Method) (c : Code) (own : String) (cc : ByteArray) (nL : Nat) (ret : Option FieldType) (D : va_G) (cA : Nat → ClassId) (N0 zE : Nat) : Prop :=
  p.tables.exec = Jvm.exec ∧ c.code = cc ∧ c.maxLocals = nL ∧ s.vm.findClass own = some m.cls ∧ (∀ w ∈ zG, w.before args s = true) ∧ z_K l D cA N0 zE s ∧ meth.locks = false ∧ meth.sig.returnType = ret
def z_w (p : Program) (l : Launch) (e : Env) (R : Room) (s : State) (m : MethodId) (args : Array Value) (below : List Frame) (meth : Method) (c : Code) (D : va_G) (cA : Nat → ClassId) (N0 nL : Nat) (cells slots : Nat) (Q : State → Prop) (pc : Nat) (lo : List (Nat × Value)) (st : List Value) (T : zT) (F : zF) : Prop :=
  ∀ (H : Heap) (locs : List Loc) (ls : Array Slot), z_P D cA N0 T F H → va_S (fun q => N0 ≤ q) s.heap H locs → lv_has ls nL lo → W p l e R s m args below meth c H locs cells slots Q (F0 m pc ls st)
/-- an exception q of the class E stands over the frame -/
def z_x (p : Program) (l : Launch) (e : Env) (R : Room) (s : State) (m : MethodId) (args : Array Value) (below : List Frame) (meth : Method) (c : Code) (D : va_G) (cA : Nat → ClassId) (N0 nL : Nat) (cells slots : Nat) (Q : State → Prop) (pc : Nat) (lo : List (Nat × Value)) (st : List Value) (E : String) (T : zT) (F : zF) : Prop :=
  ∀ (H : Heap) (locs : List Loc) (ls : Array Slot) (ce : Cell) (q : Addr), z_P D cA N0 T F H → va_S (fun q => N0 ≤ q) s.heap H locs → lv_has ls nL lo → H[q]? = some ce → ce.vm = .none → s.vm.findClass E = some ce.cls → vx_W p l e R s m args below meth c H locs cells slots Q (F0 m pc ls st) q
/-! contracts -/
def z_Pc (l : Launch) (D : va_G) (cA : Nat → ClassId) (N0 zE : Nat) (as : List Value) (T : zT) (F : zF) : Array Value → State → Prop := fun v U => v = as.toArray ∧ z_P D cA N0 T F U.heap ∧ z_K l D cA N0 zE U
def z_Qc (D : va_G) (cA : Nat → ClassId) (N0 : Nat) (Post : Option Value → zT → zF → Prop) : Array Value → State → Outcome → State → Prop := fun _ st oc t => ∃ (v : Option Value) (T : zT) (F : zF), oc = .returned v ∧ Post v T F ∧ z_P D cA N0 T F t.heap ∧ va_F (fun q => N0 ≤ q) st t
def z_XC (D : va_G) (cA : Nat → ClassId) (N0 : Nat) (PX : String → zT → zF → Prop) : String → State → State → Prop := fun E st t => ∃ (T : zT) (F : zF), PX E T F ∧ z_P D cA N0 T F t.heap ∧ va_F (fun q => N0 ≤ q) st t
def z_Met (l : Launch) (D : va_G) (cA : Nat → ClassId) (N0 zE : Nat) (y : MethodName) (cc : ByteArray) (maxL : Nat) (ret : Option FieldType) (rm : Room) (as : List Value) (T : zT) (F : zF) (Post : Option Value → zT → zF → Prop) (PX : String → zT → zF → Prop) : Prop :=
  vx_Met l y (Cond.code y cc maxL ret :: zG) rm (z_Pc l D cA N0 zE as T F) (z_Qc D cA N0 Post) (z_XC D cA N0 PX) rm.cells rm.slots (fun q => N0 ≤ q)
/-- a body that is walked: its contract -/
theorem z_body {l : Launch} {D : va_G} {cA : Nat → ClassId} {N0 zE : Nat} {y : MethodName} {cc : ByteArray} {maxL : Nat} {ret : Option FieldType} {rm : Room} {as : List Value} {T : zT} {F : zF} {Post : Option Value → zT → zF → Prop} {PX : String → zT → zF → Prop} (hy : plainName y.cls = true) (hn : (lg_sl as).length ≤ maxL)
    (body : ∀ (p : Program) (e : Env) (s : State) (m : MethodId) (args : Array Value) (below : List Frame) (meth : Method) (c : Code), z_C p l s m args meth c y.cls cc maxL ret D cA N0 zE → (∀ x ∈ c.exceptionTable.toList, False) → meth.name = y.name →
      z_w p l e rm s m args below meth c D cA N0 maxL 0 0 (vx_MQ below (z_Qc D cA N0 Post) (z_XC D cA N0 PX) args s rm.cells rm.slots (fun q => N0 ≤ q)) 0 (lv_args 0 as) [] T F) : z_Met l D cA N0 zE y cc maxL ret rm as T F Post PX := by
  refine vx_ofW (cc := cc) (maxL := maxL) (ret := ret) hy rfl ?_
  intro p e s m args below meth c s₁ B hml hxt hv
  obtain ⟨rfl, hP, hK⟩ := hv
  have hts := atoms_spec (ws := Cond.code y cc maxL ret :: zG) B.pre
  have hC : z_C p l s m as.toArray meth c y.cls cc maxL ret D cA N0 zE := ⟨B.exec, B.bytes, hml, findClass_of_methodNamed B.named, fun w hw => hts w (List.mem_cons_of_mem _ hw), hK, B.notSynchronized, B.returns⟩
  have hl := lv_entry as (n := maxL) hn
  rw [lg_entry_eq]
  exact body p e s m as.toArray below meth c hC hxt (name_of_methodNamed B.named B.method).1 s.heap [] _ hP va_S.rf hl
section ZR
variable {p : Program} {l : Launch} {e : Env} {R : Room} {s : State} {m : MethodId} {args : Array Value} {below : List Frame} {meth : Method} {c : Code} {Q : State → Prop}
variable {D : va_G} {cA : Nat → ClassId} {N0 zE nL cells slots pc : Nat} {own : String} {cc : ByteArray} {ret : Option FieldType} {T : zT} {F : zF} {lo lo' : List (Nat × Value)} {st : List Value}
theorem zr_iconst (C : z_C p l s m args meth c own cc nL ret D cA N0 zE) {n : Int} (v : Int32) (hdg : decode cc pc = .ok (.iconst n, 1)) (hv : Int32.ofInt n = v) (k : z_w p l e R s m args below meth c D cA N0 nL cells slots Q (pc + 1) lo (.int v :: st) T F) : z_w p l e R s m args below meth c D cA N0 nL cells slots Q pc lo st T F :=
  fun H locs ls hP hS hL => lv_iconst C.1 C.2.1 hdg hv (k H locs ls hP hS hL)
theorem zr_bipush (C : z_C p l s m args meth c own cc nL ret D cA N0 zE) {n : Int} (v : Int32) (hdg : decode cc pc = .ok (.bipush n, 2)) (hv : (Int8.ofInt n).toInt32 = v) (k : z_w p l e R s m args below meth c D cA N0 nL cells slots Q (pc + 2) lo (.int v :: st) T F) : z_w p l e R s m args below meth c D cA N0 nL cells slots Q pc lo st T F :=
  fun H locs ls hP hS hL => lv_bipush C.1 C.2.1 hdg hv (k H locs ls hP hS hL)
theorem zr_sipush (C : z_C p l s m args meth c own cc nL ret D cA N0 zE) {n : Int} (v : Int32) (hdg : decode cc pc = .ok (.sipush n, 3)) (hv : (Int16.ofInt n).toInt32 = v) (k : z_w p l e R s m args below meth c D cA N0 nL cells slots Q (pc + 3) lo (.int v :: st) T F) : z_w p l e R s m args below meth c D cA N0 nL cells slots Q pc lo st T F :=
  fun H locs ls hP hS hL => lv_sipush C.1 C.2.1 hdg hv (k H locs ls hP hS hL)
theorem zr_iload_n (C : z_C p l s m args meth c own cc nL ret D cA N0 zE) {n : Fin 4} {x : Int32} (j : Nat) {i : Nat} (hdg : decode cc pc = .ok (.iload_n n, 1)) (hi : (n : Nat) = i) (hl : lo[j]? = some (i, .int x)) (k : z_w p l e R s m args below meth c D cA N0 nL cells slots Q (pc + 1) lo (.int x :: st) T F) : z_w p l e R s m args below meth c D cA N0 nL cells slots Q pc lo st T F :=
  fun H locs ls hP hS hL => lv_iload_n C.1 C.2.1 hdg hi (lv_at hL j hl) (k H locs ls hP hS hL)
theorem zr_iload (C : z_C p l s m args meth c own cc nL ret D cA N0 zE) {x : Int32} (j : Nat) {i : Nat} (hdg : decode cc pc = .ok (.iload i, 2)) (hl : lo[j]? = some (i, .int x)) (k : z_w p l e R s m args below meth c D cA N0 nL cells slots Q (pc + 2) lo (.int x :: st) T F) : z_w p l e R s m args below meth c D cA N0 nL cells slots Q pc lo st T F :=
  fun H locs ls hP hS hL => lv_iload C.1 C.2.1 hdg (lv_at hL j hl) (k H locs ls hP hS hL)
theorem zr_lload_n (C : z_C p l s m args meth c own cc nL ret D cA N0 zE) {n : Fin 4} {x : Int64} (j : Nat) {i : Nat} (hdg : decode cc pc = .ok (.lload_n n, 1)) (hi : (n : Nat) = i) (hl : lo[j]? = some (i, .long x)) (k : z_w p l e R s m args below meth c D cA N0 nL cells slots Q (pc + 1) lo (.long x :: st) T F) : z_w p l e R s m args below meth c D cA N0 nL cells slots Q pc lo st T F :=
  fun H locs ls hP hS hL => lv_lload_n C.1 C.2.1 hdg hi (lv_at hL j hl) (k H locs ls hP hS hL)
theorem zr_lload (C : z_C p l s m args meth c own cc nL ret D cA N0 zE) {x : Int64} (j : Nat) {i : Nat} (hdg : decode cc pc = .ok (.lload i, 2)) (hl : lo[j]? = some (i, .long x)) (k : z_w p l e R s m args below meth c D cA N0 nL cells slots Q (pc + 2) lo (.long x :: st) T F) : z_w p l e R s m args below meth c D cA N0 nL cells slots Q pc lo st T F :=
  fun H locs ls hP hS hL => lv_lload C.1 C.2.1 hdg (lv_at hL j hl) (k H locs ls hP hS hL)
theorem zr_aload_n (C : z_C p l s m args meth c own cc nL ret D cA N0 zE) {n : Fin 4} {x : Nat} (j : Nat) {i : Nat} (hdg : decode cc pc = .ok (.aload_n n, 1)) (hi : (n : Nat) = i) (hl : lo[j]? = some (i, .ref x)) (k : z_w p l e R s m args below meth c D cA N0 nL cells slots Q (pc + 1) lo (.ref x :: st) T F) : z_w p l e R s m args below meth c D cA N0 nL cells slots Q pc lo st T F :=
  fun H locs ls hP hS hL => lv_aload_n C.1 C.2.1 hdg hi (lv_at hL j hl) (k H locs ls hP hS hL)
theorem zr_aload (C : z_C p l s m args meth c own cc nL ret D cA N0 zE) {x : Nat} (j : Nat) {i : Nat} (hdg : decode cc pc = .ok (.aload i, 2)) (hl : lo[j]? = some (i, .ref x)) (k : z_w p l e R s m args below meth c D cA N0 nL cells slots Q (pc + 2) lo (.ref x :: st) T F) : z_w p l e R s m args below meth c D cA N0 nL cells slots Q pc lo st T F :=
  fun H locs ls hP hS hL => lv_aload C.1 C.2.1 hdg (lv_at hL j hl) (k H locs ls hP hS hL)
theorem zr_aload_nN (C : z_C p l s m args meth c own cc nL ret D cA N0 zE) {n : Fin 4} (j : Nat) {i : Nat} (hdg : decode cc pc = .ok (.aload_n n, 1)) (hi : (n : Nat) = i) (hl : lo[j]? = some (i, .null)) (k : z_w p l e R s m args below meth c D cA N0 nL cells slots Q (pc + 1) lo (.null :: st) T F) : z_w p l e R s m args below meth c D cA N0 nL cells slots Q pc lo st T F :=
  fun H locs ls hP hS hL => lv_aload_nN C.1 C.2.1 hdg hi (lv_at hL j hl) (k H locs ls hP hS hL)
theorem zr_aloadN (C : z_C p l s m args meth c own cc nL ret D cA N0 zE) (j : Nat) {i : Nat} (hdg : decode cc pc = .ok (.aload i, 2)) (hl : lo[j]? = some (i, .null)) (k : z_w p l e R s m args below meth c D cA N0 nL cells slots Q (pc + 2) lo (.null :: st) T F) : z_w p l e R s m args below meth c D cA N0 nL cells slots Q pc lo st T F :=
  fun H locs ls hP hS hL => lv_aloadN C.1 C.2.1 hdg (lv_at hL j hl) (k H locs ls hP hS hL)
theorem zr_istore_n (C : z_C p l s m args meth c own cc nL ret D cA N0 zE) (lo' : List (Nat × Value)) {n : Fin 4} {i : Nat} {x : Int32} (hdg : decode cc pc = .ok (.istore_n n, 1)) (hi : (n : Nat) = i) (hn : i < nL) (hl : (i, Value.int x) :: lo.filter (fun q => !(q.1 == i) && !(q.1 + 1 == i && q.2.category == 2)) = lo') (k : z_w p l e R s m args below meth c D cA N0 nL cells slots Q (pc + 1) lo' st T F) : z_w p l e R s m args below meth c D cA N0 nL cells slots Q pc lo (.int x :: st) T F :=
  fun H locs ls hP hS hL => lv_istore_n C.1 C.2.1 hdg hi hL hn hl (fun ls hl => k H locs ls hP hS hl)
theorem zr_istore (C : z_C p l s m args meth c own cc nL ret D cA N0 zE) (lo' : List (Nat × Value)) {i : Nat} {x : Int32} (hdg : decode cc pc = .ok (.istore i, 2)) (hn : i < nL) (hl : (i, Value.int x) :: lo.filter (fun q => !(q.1 == i) && !(q.1 + 1 == i && q.2.category == 2)) = lo') (k : z_w p l e R s m args below meth c D cA N0 nL cells slots Q (pc + 2) lo' st T F) : z_w p l e R s m args below meth c D cA N0 nL cells slots Q pc lo (.int x :: st) T F :=
  fun H locs ls hP hS hL => lv_istore C.1 C.2.1 hdg hL hn hl (fun ls hl => k H locs ls hP hS hl)
theorem zr_lstore_n (C : z_C p l s m args meth c own cc nL ret D cA N0 zE) (lo' : List (Nat × Value)) {n : Fin 4} {i : Nat} {x : Int64} (hdg : decode cc pc = .ok (.lstore_n n, 1)) (hi : (n : Nat) = i) (hn : i + 1 < nL) (hl : (i, Value.long x) :: lo.filter (fun q => !(q.1 == i) && (!(q.1 == i + 1) && !(q.1 + 1 == i && q.2.category == 2))) = lo') (k : z_w p l e R s m args below meth c D cA N0 nL cells slots Q (pc + 1) lo' st T F) : z_w p l e R s m args below meth c D cA N0 nL cells slots Q pc lo (.long x :: st) T F :=
  fun H locs ls hP hS hL => lv_lstore_n C.1 C.2.1 hdg hi hL hn hl (fun ls hl => k H locs ls hP hS hl)
theorem zr_lstore (C : z_C p l s m args meth c own cc nL ret D cA N0 zE) (lo' : List (Nat × Value)) {i : Nat} {x : Int64} (hdg : decode cc pc = .ok (.lstore i, 2)) (hn : i + 1 < nL) (hl : (i, Value.long x) :: lo.filter (fun q => !(q.1 == i) && (!(q.1 == i + 1) && !(q.1 + 1 == i && q.2.category == 2))) = lo') (k : z_w p l e R s m args below meth c D cA N0 nL cells slots Q (pc + 2) lo' st T F) : z_w p l e R s m args below meth c D cA N0 nL cells slots Q pc lo (.long x :: st) T F :=
  fun H locs ls hP hS hL => lv_lstore C.1 C.2.1 hdg hL hn hl (fun ls hl => k H locs ls hP hS hl)
theorem zr_astore_n (C : z_C p l s m args meth c own cc nL ret D cA N0 zE) (lo' : List (Nat × Value)) {n : Fin 4} {i x : Nat} (hdg : decode cc pc = .ok (.astore_n n, 1)) (hi : (n : Nat) = i) (hn : i < nL) (hl : (i, Value.ref x) :: lo.filter (fun q => !(q.1 == i) && !(q.1 + 1 == i && q.2.category == 2)) = lo') (k : z_w p l e R s m args below meth c D cA N0 nL cells slots Q (pc + 1) lo' st T F) : z_w p l e R s m args below meth c D cA N0 nL cells slots Q pc lo (.ref x :: st) T F :=
  fun H locs ls hP hS hL => lv_astore_n C.1 C.2.1 hdg hi hL hn hl (fun ls hl => k H locs ls hP hS hl)
theorem zr_astore (C : z_C p l s m args meth c own cc nL ret D cA N0 zE) (lo' : List (Nat × Value)) {i x : Nat} (hdg : decode cc pc = .ok (.astore i, 2)) (hn : i < nL) (hl : (i, Value.ref x) :: lo.filter (fun q => !(q.1 == i) && !(q.1 + 1 == i && q.2.category == 2)) = lo') (k : z_w p l e R s m args below meth c D cA N0 nL cells slots Q (pc + 2) lo' st T F) : z_w p l e R s m args below meth c D cA N0 nL cells slots Q pc lo (.ref x :: st) T F :=
  fun H locs ls hP hS hL => lv_astore C.1 C.2.1 hdg hL hn hl (fun ls hl => k H locs ls hP hS hl)
theorem zr_iinc (C : z_C p l s m args meth c own cc nL ret D cA N0 zE) (lo' : List (Nat × Value)) (j : Nat) {i : Nat} {n : Int} {x v : Int32} (hdg : decode cc pc = .ok (.iinc i n, 3)) (hk : lo[j]? = some (i, .int x)) (hv : x + Int32.ofInt n = v) (hn : i < nL) (hl : (i, Value.int v) :: lo.filter (fun q => !(q.1 == i) && !(q.1 + 1 == i && q.2.category == 2)) = lo') (k : z_w p l e R s m args below meth c D cA N0 nL cells slots Q (pc + 3) lo' st T F) : z_w p l e R s m args below meth c D cA N0 nL cells slots Q pc lo st T F :=
  fun H locs ls hP hS hL => lv_iinc C.1 C.2.1 hdg hL hk hv hn hl (fun ls hl => k H locs ls hP hS hl)
theorem z_ueq {F : zF} {a k : Nat} {v : Value} : zu F a k v a k = v := if_pos ⟨rfl, rfl⟩
theorem z_une {F : zF} {a b k j : Nat} {v x : Value} (h : F b j = x) (hne : ¬ j = k) : zu F a k v b j = x := (if_neg (fun g => hne g.2)).trans h
theorem z_nq {T : zT} {q : Nat} {t : Nat × Nat} : zn T q t q = some t := if_pos rfl
theorem z_nb {v : Int32} (h : v = 0 ∨ v = 1) : narrow .boolean (.int v) = .int v := by rcases h with rfl | rfl <;> rfl
theorem z_fb {v : Int32} (h : v = 0 ∨ v = 1) : fits .boolean (.int v) = true := by rcases h with rfl | rfl <;> rfl
/-- an object of one of the classes of vwCl, which may stand in an Object[] -/
def z_ob (T : zT) (v : Nat) : Prop := ∃ (ci n : Nat) (r : vw_C), T v = some (ci, n) ∧ ci < 100 ∧ vwCl[ci]? = some r ∧ Cond.castable r.1 "java/lang/Object" ∈ zG
theorem z_sw {x : Int32} (hi : Nat) (h : ¬ (x.toInt < 0 ∨ (hi : Int) < x.toInt)) : ∃ j : Nat, j ≤ hi ∧ x = nI j := by
  refine ⟨x.toInt.toNat, by omega, ?_⟩
  have e : ((x.toInt.toNat : Nat) : Int) = x.toInt := by omega
  show x = Int32.ofNat x.toInt.toNat
  rw [← Int32.ofInt_eq_ofNat, e, Int32.ofInt_toInt]
theorem zr_iadd (C : z_C p l s m args meth c own cc nL ret D cA N0 zE) {x y : Int32} (hdg : decode cc pc = .ok (.iadd, 1)) (k : z_w p l e R s m args below meth c D cA N0 nL cells slots Q (pc + 1) lo (.int (x + y) :: st) T F) : z_w p l e R s m args below meth c D cA N0 nL cells slots Q pc lo (.int y :: .int x :: st) T F :=
  fun H locs ls hP hS hL => lv_iadd C.1 C.2.1 hdg (k H locs ls hP hS hL)
theorem zr_isub (C : z_C p l s m args meth c own cc nL ret D cA N0 zE) {x y : Int32} (hdg : decode cc pc = .ok (.isub, 1)) (k : z_w p l e R s m args below meth c D cA N0 nL cells slots Q (pc + 1) lo (.int (x - y) :: st) T F) : z_w p l e R s m args below meth c D cA N0 nL cells slots Q pc lo (.int y :: .int x :: st) T F :=
  fun H locs ls hP hS hL => lv_isub C.1 C.2.1 hdg (k H locs ls hP hS hL)
theorem zr_imul (C : z_C p l s m args meth c own cc nL ret D cA N0 zE) {x y : Int32} (hdg : decode cc pc = .ok (.imul, 1)) (k : z_w p l e R s m args below meth c D cA N0 nL cells slots Q (pc + 1) lo (.int (x * y) :: st) T F) : z_w p l e R s m args below meth c D cA N0 nL cells slots Q pc lo (.int y :: .int x :: st) T F :=
  fun H locs ls hP hS hL => lv_imul C.1 C.2.1 hdg (k H locs ls hP hS hL)
theorem zr_iand (C : z_C p l s m args meth c own cc nL ret D cA N0 zE) {x y : Int32} (hdg : decode cc pc = .ok (.iand, 1)) (k : z_w p l e R s m args below meth c D cA N0 nL cells slots Q (pc + 1) lo (.int (x &&& y) :: st) T F) : z_w p l e R s m args below meth c D cA N0 nL cells slots Q pc lo (.int y :: .int x :: st) T F :=
  fun H locs ls hP hS hL => lv_iand C.1 C.2.1 hdg (k H locs ls hP hS hL)
theorem zr_ior (C : z_C p l s m args meth c own cc nL ret D cA N0 zE) {x y : Int32} (hdg : decode cc pc = .ok (.ior, 1)) (k : z_w p l e R s m args below meth c D cA N0 nL cells slots Q (pc + 1) lo (.int (x ||| y) :: st) T F) : z_w p l e R s m args below meth c D cA N0 nL cells slots Q pc lo (.int y :: .int x :: st) T F :=
  fun H locs ls hP hS hL => lv_ior C.1 C.2.1 hdg (k H locs ls hP hS hL)
theorem zr_ixor (C : z_C p l s m args meth c own cc nL ret D cA N0 zE) {x y : Int32} (hdg : decode cc pc = .ok (.ixor, 1)) (k : z_w p l e R s m args below meth c D cA N0 nL cells slots Q (pc + 1) lo (.int (x ^^^ y) :: st) T F) : z_w p l e R s m args below meth c D cA N0 nL cells slots Q pc lo (.int y :: .int x :: st) T F :=
  fun H locs ls hP hS hL => lv_ixor C.1 C.2.1 hdg (k H locs ls hP hS hL)
theorem zr_ishl (C : z_C p l s m args meth c own cc nL ret D cA N0 zE) {x y : Int32} (hdg : decode cc pc = .ok (.ishl, 1)) (k : z_w p l e R s m args below meth c D cA N0 nL cells slots Q (pc + 1) lo (.int (x <<< (y &&& 31)) :: st) T F) : z_w p l e R s m args below meth c D cA N0 nL cells slots Q pc lo (.int y :: .int x :: st) T F :=
  fun H locs ls hP hS hL => lv_ishl C.1 C.2.1 hdg (k H locs ls hP hS hL)
theorem zr_ishr (C : z_C p l s m args meth c own cc nL ret D cA N0 zE) {x y : Int32} (hdg : decode cc pc = .ok (.ishr, 1)) (k : z_w p l e R s m args below meth c D cA N0 nL cells slots Q (pc + 1) lo (.int (x >>> (y &&& 31)) :: st) T F) : z_w p l e R s m args below meth c D cA N0 nL cells slots Q pc lo (.int y :: .int x :: st) T F :=
  fun H locs ls hP hS hL => lv_ishr C.1 C.2.1 hdg (k H locs ls hP hS hL)
theorem zr_iushr (C : z_C p l s m args meth c own cc nL ret D cA N0 zE) {x y : Int32} (hdg : decode cc pc = .ok (.iushr, 1)) (k : z_w p l e R s m args below meth c D cA N0 nL cells slots Q (pc + 1) lo (.int ((x.toUInt32 >>> (y.toUInt32 &&& Int32.toUInt32 31)).toInt32) :: st) T F) : z_w p l e R s m args below meth c D cA N0 nL cells slots Q pc lo (.int y :: .int x :: st) T F :=
  fun H locs ls hP hS hL => lv_iushr C.1 C.2.1 hdg rfl (k H locs ls hP hS hL)
theorem zr_idiv (C : z_C p l s m args meth c own cc nL ret D cA N0 zE) {x y : Int32} (hdg : decode cc pc = .ok (.idiv, 1)) (hne : ¬ y = 0) (k : z_w p l e R s m args below meth c D cA N0 nL cells slots Q (pc + 1) lo (.int (x / y) :: st) T F) : z_w p l e R s m args below meth c D cA N0 nL cells slots Q pc lo (.int y :: .int x :: st) T F :=
  fun H locs ls hP hS hL => lv_idiv C.1 C.2.1 hdg hne (k H locs ls hP hS hL)
theorem zr_irem (C : z_C p l s m args meth c own cc nL ret D cA N0 zE) {x y : Int32} (hdg : decode cc pc = .ok (.irem, 1)) (hne : ¬ y = 0) (k : z_w p l e R s m args below meth c D cA N0 nL cells slots Q (pc + 1) lo (.int (x - x / y * y) :: st) T F) : z_w p l e R s m args below meth c D cA N0 nL cells slots Q pc lo (.int y :: .int x :: st) T F :=
  fun H locs ls hP hS hL => lv_irem C.1 C.2.1 hdg hne (k H locs ls hP hS hL)
theorem zr_ladd (C : z_C p l s m args meth c own cc nL ret D cA N0 zE) {x y : Int64} (hdg : decode cc pc = .ok (.ladd, 1)) (k : z_w p l e R s m args below meth c D cA N0 nL cells slots Q (pc + 1) lo (.long (x + y) :: st) T F) : z_w p l e R s m args below meth c D cA N0 nL cells slots Q pc lo (.long y :: .long x :: st) T F :=
  fun H locs ls hP hS hL => lv_ladd C.1 C.2.1 hdg (k H locs ls hP hS hL)
theorem zr_lsub (C : z_C p l s m args meth c own cc nL ret D cA N0 zE) {x y : Int64} (hdg : decode cc pc = .ok (.lsub, 1)) (k : z_w p l e R s m args below meth c D cA N0 nL cells slots Q (pc + 1) lo (.long (x - y) :: st) T F) : z_w p l e R s m args below meth c D cA N0 nL cells slots Q pc lo (.long y :: .long x :: st) T F :=
  fun H locs ls hP hS hL => lv_lsub C.1 C.2.1 hdg (k H locs ls hP hS hL)
theorem zr_lmul (C : z_C p l s m args meth c own cc nL ret D cA N0 zE) {x y : Int64} (hdg : decode cc pc = .ok (.lmul, 1)) (k : z_w p l e R s m args below meth c D cA N0 nL cells slots Q (pc + 1) lo (.long (x * y) :: st) T F) : z_w p l e R s m args below meth c D cA N0 nL cells slots Q pc lo (.long y :: .long x :: st) T F :=
  fun H locs ls hP hS hL => lv_lmul C.1 C.2.1 hdg (k H locs ls hP hS hL)
theorem zr_ineg (C : z_C p l s m args meth c own cc nL ret D cA N0 zE) {x : Int32} (hdg : decode cc pc = .ok (.ineg, 1)) (k : z_w p l e R s m args below meth c D cA N0 nL cells slots Q (pc + 1) lo (.int (-x) :: st) T F) : z_w p l e R s m args below meth c D cA N0 nL cells slots Q pc lo (.int x :: st) T F :=
  fun H locs ls hP hS hL => lv_ineg C.1 C.2.1 hdg (k H locs ls hP hS hL)
theorem zr_i2l (C : z_C p l s m args meth c own cc nL ret D cA N0 zE) {x : Int32} (hdg : decode cc pc = .ok (.i2l, 1)) (k : z_w p l e R s m args below meth c D cA N0 nL cells slots Q (pc + 1) lo (.long x.toInt64 :: st) T F) : z_w p l e R s m args below meth c D cA N0 nL cells slots Q pc lo (.int x :: st) T F :=
  fun H locs ls hP hS hL => lv_i2l C.1 C.2.1 hdg rfl (k H locs ls hP hS hL)
theorem zr_lcmp (C : z_C p l s m args meth c own cc nL ret D cA N0 zE) {x y : Int64} (hdg : decode cc pc = .ok (.lcmp, 1)) (k : z_w p l e R s m args below meth c D cA N0 nL cells slots Q (pc + 1) lo (.int (lg_cmp x y) :: st) T F) : z_w p l e R s m args below meth c D cA N0 nL cells slots Q pc lo (.long y :: .long x :: st) T F :=
  fun H locs ls hP hS hL => W.lcmp C.1 C.2.1 hdg (k H locs ls hP hS hL)
theorem zr_lconst (C : z_C p l s m args meth c own cc nL ret D cA N0 zE) {n : Fin 2} (v : Int64) (hdg : decode cc pc = .ok (.lconst n, 1)) (hv : Int64.ofNat (n : Nat) = v) (k : z_w p l e R s m args below meth c D cA N0 nL cells slots Q (pc + 1) lo (.long v :: st) T F) : z_w p l e R s m args below meth c D cA N0 nL cells slots Q pc lo st T F :=
  fun H locs ls hP hS hL => lv_lconst C.1 C.2.1 hdg hv (k H locs ls hP hS hL)
theorem zr_dup (C : z_C p l s m args meth c own cc nL ret D cA N0 zE) {v : Value} (hdg : decode cc pc = .ok (.dup, 1)) (hv : v.category = 1) (k : z_w p l e R s m args below meth c D cA N0 nL cells slots Q (pc + 1) lo (v :: v :: st) T F) : z_w p l e R s m args below meth c D cA N0 nL cells slots Q pc lo (v :: st) T F :=
  fun H locs ls hP hS hL => lv_dup C.1 C.2.1 hdg hv (k H locs ls hP hS hL)
theorem zr_pop (C : z_C p l s m args meth c own cc nL ret D cA N0 zE) {v : Value} (hdg : decode cc pc = .ok (.pop, 1)) (hv : v.category = 1) (k : z_w p l e R s m args below meth c D cA N0 nL cells slots Q (pc + 1) lo st T F) : z_w p l e R s m args below meth c D cA N0 nL cells slots Q pc lo (v :: st) T F :=
  fun H locs ls hP hS hL => lv_pop C.1 C.2.1 hdg hv (k H locs ls hP hS hL)
theorem zr_dup_x1 (C : z_C p l s m args meth c own cc nL ret D cA N0 zE) {v w : Value} (hdg : decode cc pc = .ok (.dup_x1, 1)) (hv : v.category = 1) (hw : w.category = 1) (k : z_w p l e R s m args below meth c D cA N0 nL cells slots Q (pc + 1) lo (v :: w :: v :: st) T F) : z_w p l e R s m args below meth c D cA N0 nL cells slots Q pc lo (v :: w :: st) T F :=
  fun H locs ls hP hS hL => lv_dup_x1 C.1 C.2.1 hdg hv hw (k H locs ls hP hS hL)
theorem zr_dup2 (C : z_C p l s m args meth c own cc nL ret D cA N0 zE) {v w : Value} (hdg : decode cc pc = .ok (.dup2, 1)) (hv : v.category = 1) (hw : w.category = 1) (k : z_w p l e R s m args below meth c D cA N0 nL cells slots Q (pc + 1) lo (v :: w :: v :: w :: st) T F) : z_w p l e R s m args below meth c D cA N0 nL cells slots Q pc lo (v :: w :: st) T F :=
  fun H locs ls hP hS hL => lv_dup2_11 C.1 C.2.1 hdg hv hw (k H locs ls hP hS hL)
theorem zr_null (C : z_C p l s m args meth c own cc nL ret D cA N0 zE) (hdg : decode cc pc = .ok (.aconst_null, 1)) (k : z_w p l e R s m args below meth c D cA N0 nL cells slots Q (pc + 1) lo (.null :: st) T F) : z_w p l e R s m args below meth c D cA N0 nL cells slots Q pc lo st T F :=
  fun H locs ls hP hS hL => lv_null C.1 C.2.1 hdg (k H locs ls hP hS hL)
theorem zr_ldc (C : z_C p l s m args meth c own cc nL ret D cA N0 zE) {index : Nat} (v : Int32) (hdg : decode cc pc = .ok (.ldc index, 2)) (hw : Cond.constant own index v ∈ zG) (k : z_w p l e R s m args below meth c D cA N0 nL cells slots Q (pc + 2) lo (.int v :: st) T F) : z_w p l e R s m args below meth c D cA N0 nL cells slots Q pc lo st T F :=
  fun H locs ls hP hS hL => lv_ldc C.1 C.2.1 C.2.2.2.1 (C.2.2.2.2.1 _ hw) hdg (k H locs ls hP hS hL)
theorem zr_ldcw (C : z_C p l s m args meth c own cc nL ret D cA N0 zE) {index : Nat} (v : Int32) (hdg : decode cc pc = .ok (.ldc_w index, 3)) (hw : Cond.constant own index v ∈ zG) (k : z_w p l e R s m args below meth c D cA N0 nL cells slots Q (pc + 3) lo (.int v :: st) T F) : z_w p l e R s m args below meth c D cA N0 nL cells slots Q pc lo st T F :=
  fun H locs ls hP hS hL => lv_ldcw C.1 C.2.1 C.2.2.2.1 (C.2.2.2.2.1 _ hw) hdg (k H locs ls hP hS hL)
theorem zr_ldc2 (C : z_C p l s m args meth c own cc nL ret D cA N0 zE) {index : Nat} (v : Int64) (hdg : decode cc pc = .ok (.ldc2_w index, 3)) (hw : Cond.constantLong own index v ∈ zG) (k : z_w p l e R s m args below meth c D cA N0 nL cells slots Q (pc + 3) lo (.long v :: st) T F) : z_w p l e R s m args below meth c D cA N0 nL cells slots Q pc lo st T F :=
  fun H locs ls hP hS hL => lv_ldc2 C.1 C.2.1 C.2.2.2.1 (C.2.2.2.2.1 _ hw) hdg (k H locs ls hP hS hL)
theorem zr_if_eq (C : z_C p l s m args meth c own cc nL ret D cA N0 zE) {x : Int32} {off : Int} (tgt : Nat) (hdg : decode cc pc = .ok (.ifCond .eq off, 3)) (ht : (pc : Int) + off = (tgt : Int)) (kt : x = 0 → z_w p l e R s m args below meth c D cA N0 nL cells slots Q tgt lo st T F) (kf : ¬ x = 0 → z_w p l e R s m args below meth c D cA N0 nL cells slots Q (pc + 3) lo st T F) : z_w p l e R s m args below meth c D cA N0 nL cells slots Q pc lo (.int x :: st) T F :=
  fun H locs ls hP hS hL => lv_if_eq C.1 C.2.1 hdg ht (fun h => kt h H locs ls hP hS hL) (fun h => kf h H locs ls hP hS hL)
theorem zr_icmp_eq (C : z_C p l s m args meth c own cc nL ret D cA N0 zE) {x y : Int32} {off : Int} (tgt : Nat) (hdg : decode cc pc = .ok (.if_icmp .eq off, 3)) (ht : (pc : Int) + off = (tgt : Int)) (kt : x = y → z_w p l e R s m args below meth c D cA N0 nL cells slots Q tgt lo st T F) (kf : ¬ x = y → z_w p l e R s m args below meth c D cA N0 nL cells slots Q (pc + 3) lo st T F) : z_w p l e R s m args below meth c D cA N0 nL cells slots Q pc lo (.int y :: .int x :: st) T F :=
  fun H locs ls hP hS hL => lv_icmp_eq C.1 C.2.1 hdg ht (fun h => kt h H locs ls hP hS hL) (fun h => kf h H locs ls hP hS hL)
theorem zr_if_ne (C : z_C p l s m args meth c own cc nL ret D cA N0 zE) {x : Int32} {off : Int} (tgt : Nat) (hdg : decode cc pc = .ok (.ifCond .ne off, 3)) (ht : (pc : Int) + off = (tgt : Int)) (kt : ¬ x = 0 → z_w p l e R s m args below meth c D cA N0 nL cells slots Q tgt lo st T F) (kf : x = 0 → z_w p l e R s m args below meth c D cA N0 nL cells slots Q (pc + 3) lo st T F) : z_w p l e R s m args below meth c D cA N0 nL cells slots Q pc lo (.int x :: st) T F :=
  fun H locs ls hP hS hL => lv_if_ne C.1 C.2.1 hdg ht (fun h => kt h H locs ls hP hS hL) (fun h => kf h H locs ls hP hS hL)
theorem zr_icmp_ne (C : z_C p l s m args meth c own cc nL ret D cA N0 zE) {x y : Int32} {off : Int} (tgt : Nat) (hdg : decode cc pc = .ok (.if_icmp .ne off, 3)) (ht : (pc : Int) + off = (tgt : Int)) (kt : ¬ x = y → z_w p l e R s m args below meth c D cA N0 nL cells slots Q tgt lo st T F) (kf : x = y → z_w p l e R s m args below meth c D cA N0 nL cells slots Q (pc + 3) lo st T F) : z_w p l e R s m args below meth c D cA N0 nL cells slots Q pc lo (.int y :: .int x :: st) T F :=
  fun H locs ls hP hS hL => lv_icmp_ne C.1 C.2.1 hdg ht (fun h => kt h H locs ls hP hS hL) (fun h => kf h H locs ls hP hS hL)
theorem zr_if_lt (C : z_C p l s m args meth c own cc nL ret D cA N0 zE) {x : Int32} {off : Int} (tgt : Nat) (hdg : decode cc pc = .ok (.ifCond .lt off, 3)) (ht : (pc : Int) + off = (tgt : Int)) (kt : x < 0 → z_w p l e R s m args below meth c D cA N0 nL cells slots Q tgt lo st T F) (kf : ¬ x < 0 → z_w p l e R s m args below meth c D cA N0 nL cells slots Q (pc + 3) lo st T F) : z_w p l e R s m args below meth c D cA N0 nL cells slots Q pc lo (.int x :: st) T F :=
  fun H locs ls hP hS hL => lv_if_lt C.1 C.2.1 hdg ht (fun h => kt h H locs ls hP hS hL) (fun h => kf h H locs ls hP hS hL)
theorem zr_icmp_lt (C : z_C p l s m args meth c own cc nL ret D cA N0 zE) {x y : Int32} {off : Int} (tgt : Nat) (hdg : decode cc pc = .ok (.if_icmp .lt off, 3)) (ht : (pc : Int) + off = (tgt : Int)) (kt : x < y → z_w p l e R s m args below meth c D cA N0 nL cells slots Q tgt lo st T F) (kf : ¬ x < y → z_w p l e R s m args below meth c D cA N0 nL cells slots Q (pc + 3) lo st T F) : z_w p l e R s m args below meth c D cA N0 nL cells slots Q pc lo (.int y :: .int x :: st) T F :=
  fun H locs ls hP hS hL => lv_icmp_lt C.1 C.2.1 hdg ht (fun h => kt h H locs ls hP hS hL) (fun h => kf h H locs ls hP hS hL)
theorem zr_if_ge (C : z_C p l s m args meth c own cc nL ret D cA N0 zE) {x : Int32} {off : Int} (tgt : Nat) (hdg : decode cc pc = .ok (.ifCond .ge off, 3)) (ht : (pc : Int) + off = (tgt : Int)) (kt : 0 ≤ x → z_w p l e R s m args below meth c D cA N0 nL cells slots Q tgt lo st T F) (kf : ¬ 0 ≤ x → z_w p l e R s m args below meth c D cA N0 nL cells slots Q (pc + 3) lo st T F) : z_w p l e R s m args below meth c D cA N0 nL cells slots Q pc lo (.int x :: st) T F :=
  fun H locs ls hP hS hL => lv_if_ge C.1 C.2.1 hdg ht (fun h => kt h H locs ls hP hS hL) (fun h => kf h H locs ls hP hS hL)
theorem zr_icmp_ge (C : z_C p l s m args meth c own cc nL ret D cA N0 zE) {x y : Int32} {off : Int} (tgt : Nat) (hdg : decode cc pc = .ok (.if_icmp .ge off, 3)) (ht : (pc : Int) + off = (tgt : Int)) (kt : y ≤ x → z_w p l e R s m args below meth c D cA N0 nL cells slots Q tgt lo st T F) (kf : ¬ y ≤ x → z_w p l e R s m args below meth c D cA N0 nL cells slots Q (pc + 3) lo st T F) : z_w p l e R s m args below meth c D cA N0 nL cells slots Q pc lo (.int y :: .int x :: st) T F :=
  fun H locs ls hP hS hL => lv_icmp_ge C.1 C.2.1 hdg ht (fun h => kt h H locs ls hP hS hL) (fun h => kf h H locs ls hP hS hL)
theorem zr_if_gt (C : z_C p l s m args meth c own cc nL ret D cA N0 zE) {x : Int32} {off : Int} (tgt : Nat) (hdg : decode cc pc = .ok (.ifCond .gt off, 3)) (ht : (pc : Int) + off = (tgt : Int)) (kt : 0 < x → z_w p l e R s m args below meth c D cA N0 nL cells slots Q tgt lo st T F) (kf : ¬ 0 < x → z_w p l e R s m args below meth c D cA N0 nL cells slots Q (pc + 3) lo st T F) : z_w p l e R s m args below meth c D cA N0 nL cells slots Q pc lo (.int x :: st) T F :=
  fun H locs ls hP hS hL => lv_if_gt C.1 C.2.1 hdg ht (fun h => kt h H locs ls hP hS hL) (fun h => kf h H locs ls hP hS hL)
theorem zr_icmp_gt (C : z_C p l s m args meth c own cc nL ret D cA N0 zE) {x y : Int32} {off : Int} (tgt : Nat) (hdg : decode cc pc = .ok (.if_icmp .gt off, 3)) (ht : (pc : Int) + off = (tgt : Int)) (kt : y < x → z_w p l e R s m args below meth c D cA N0 nL cells slots Q tgt lo st T F) (kf : ¬ y < x → z_w p l e R s m args below meth c D cA N0 nL cells slots Q (pc + 3) lo st T F) : z_w p l e R s m args below meth c D cA N0 nL cells slots Q pc lo (.int y :: .int x :: st) T F :=
  fun H locs ls hP hS hL => lv_icmp_gt C.1 C.2.1 hdg ht (fun h => kt h H locs ls hP hS hL) (fun h => kf h H locs ls hP hS hL)
theorem zr_if_le (C : z_C p l s m args meth c own cc nL ret D cA N0 zE) {x : Int32} {off : Int} (tgt : Nat) (hdg : decode cc pc = .ok (.ifCond .le off, 3)) (ht : (pc : Int) + off = (tgt : Int)) (kt : x ≤ 0 → z_w p l e R s m args below meth c D cA N0 nL cells slots Q tgt lo st T F) (kf : ¬ x ≤ 0 → z_w p l e R s m args below meth c D cA N0 nL cells slots Q (pc + 3) lo st T F) : z_w p l e R s m args below meth c D cA N0 nL cells slots Q pc lo (.int x :: st) T F :=
  fun H locs ls hP hS hL => lv_if_le C.1 C.2.1 hdg ht (fun h => kt h H locs ls hP hS hL) (fun h => kf h H locs ls hP hS hL)
theorem zr_icmp_le (C : z_C p l s m args meth c own cc nL ret D cA N0 zE) {x y : Int32} {off : Int} (tgt : Nat) (hdg : decode cc pc = .ok (.if_icmp .le off, 3)) (ht : (pc : Int) + off = (tgt : Int)) (kt : x ≤ y → z_w p l e R s m args below meth c D cA N0 nL cells slots Q tgt lo st T F) (kf : ¬ x ≤ y → z_w p l e R s m args below meth c D cA N0 nL cells slots Q (pc + 3) lo st T F) : z_w p l e R s m args below meth c D cA N0 nL cells slots Q pc lo (.int y :: .int x :: st) T F :=
  fun H locs ls hP hS hL => lv_icmp_le C.1 C.2.1 hdg ht (fun h => kt h H locs ls hP hS hL) (fun h => kf h H locs ls hP hS hL)
theorem zr_acmp_eq (C : z_C p l s m args meth c own cc nL ret D cA N0 zE) {rx ry : Option Nat} {off : Int} (tgt : Nat) (hdg : decode cc pc = .ok (.if_acmp .eq off, 3)) (ht : (pc : Int) + off = (tgt : Int)) (kt : rx = ry → z_w p l e R s m args below meth c D cA N0 nL cells slots Q tgt lo st T F) (kf : ¬ rx = ry → z_w p l e R s m args below meth c D cA N0 nL cells slots Q (pc + 3) lo st T F) : z_w p l e R s m args below meth c D cA N0 nL cells slots Q pc lo (va_rf ry :: va_rf rx :: st) T F :=
  fun H locs ls hP hS hL => lv_acmp_eq C.1 C.2.1 hdg ht (fun h => kt h H locs ls hP hS hL) (fun h => kf h H locs ls hP hS hL)
theorem zr_acmp_ne (C : z_C p l s m args meth c own cc nL ret D cA N0 zE) {rx ry : Option Nat} {off : Int} (tgt : Nat) (hdg : decode cc pc = .ok (.if_acmp .ne off, 3)) (ht : (pc : Int) + off = (tgt : Int)) (kt : ¬ rx = ry → z_w p l e R s m args below meth c D cA N0 nL cells slots Q tgt lo st T F) (kf : rx = ry → z_w p l e R s m args below meth c D cA N0 nL cells slots Q (pc + 3) lo st T F) : z_w p l e R s m args below meth c D cA N0 nL cells slots Q pc lo (va_rf ry :: va_rf rx :: st) T F :=
  fun H locs ls hP hS hL => lv_acmp_ne C.1 C.2.1 hdg ht (fun h => kt h H locs ls hP hS hL) (fun h => kf h H locs ls hP hS hL)
theorem zr_goto (C : z_C p l s m args meth c own cc nL ret D cA N0 zE) {off : Int} (tgt : Nat) (hdg : decode cc pc = .ok (.goto off, 3)) (ht : (pc : Int) + off = (tgt : Int)) (k : z_w p l e R s m args below meth c D cA N0 nL cells slots Q tgt lo st T F) : z_w p l e R s m args below meth c D cA N0 nL cells slots Q pc lo st T F :=
  fun H locs ls hP hS hL => lv_goto C.1 C.2.1 hdg ht (k H locs ls hP hS hL)
theorem zr_ifnull (C : z_C p l s m args meth c own cc nL ret D cA N0 zE) {x : Nat} {off : Int} (hdg : decode cc pc = .ok (.ifnull off, 3)) (k : z_w p l e R s m args below meth c D cA N0 nL cells slots Q (pc + 3) lo st T F) : z_w p l e R s m args below meth c D cA N0 nL cells slots Q pc lo (.ref x :: st) T F :=
  fun H locs ls hP hS hL => lv_ifnull C.1 C.2.1 hdg (k H locs ls hP hS hL)
theorem zr_ifnullN (C : z_C p l s m args meth c own cc nL ret D cA N0 zE) {off : Int} (tgt : Nat) (hdg : decode cc pc = .ok (.ifnull off, 3)) (ht : (pc : Int) + off = (tgt : Int)) (k : z_w p l e R s m args below meth c D cA N0 nL cells slots Q tgt lo st T F) : z_w p l e R s m args below meth c D cA N0 nL cells slots Q pc lo (.null :: st) T F :=
  fun H locs ls hP hS hL => lv_ifnullN C.1 C.2.1 hdg ht (k H locs ls hP hS hL)
theorem zr_ifnonnull (C : z_C p l s m args meth c own cc nL ret D cA N0 zE) {x : Nat} {off : Int} (tgt : Nat) (hdg : decode cc pc = .ok (.ifnonnull off, 3)) (ht : (pc : Int) + off = (tgt : Int)) (k : z_w p l e R s m args below meth c D cA N0 nL cells slots Q tgt lo st T F) : z_w p l e R s m args below meth c D cA N0 nL cells slots Q pc lo (.ref x :: st) T F :=
  fun H locs ls hP hS hL => lv_ifnonnull C.1 C.2.1 hdg ht (k H locs ls hP hS hL)
theorem zr_ifnonnullN (C : z_C p l s m args meth c own cc nL ret D cA N0 zE) {off : Int} (hdg : decode cc pc = .ok (.ifnonnull off, 3)) (k : z_w p l e R s m args below meth c D cA N0 nL cells slots Q (pc + 3) lo st T F) : z_w p l e R s m args below meth c D cA N0 nL cells slots Q pc lo (.null :: st) T F :=
  fun H locs ls hP hS hL => lv_ifnonnullN C.1 C.2.1 hdg (k H locs ls hP hS hL)
theorem zr_astore_nN (C : z_C p l s m args meth c own cc nL ret D cA N0 zE) (lo' : List (Nat × Value)) {n : Fin 4} {i : Nat} (hdg : decode cc pc = .ok (.astore_n n, 1)) (hi : (n : Nat) = i) (hn : i < nL) (hl : (i, Value.null) :: lo.filter (fun q => !(q.1 == i) && !(q.1 + 1 == i && q.2.category == 2)) = lo') (k : z_w p l e R s m args below meth c D cA N0 nL cells slots Q (pc + 1) lo' st T F) : z_w p l e R s m args below meth c D cA N0 nL cells slots Q pc lo (.null :: st) T F :=
  fun H locs ls hP hS hL => lv_astore_nN C.1 C.2.1 hdg hi hL hn hl (fun ls hl => k H locs ls hP hS hl)
theorem zr_astoreN (C : z_C p l s m args meth c own cc nL ret D cA N0 zE) (lo' : List (Nat × Value)) {i : Nat} (hdg : decode cc pc = .ok (.astore i, 2)) (hn : i < nL) (hl : (i, Value.null) :: lo.filter (fun q => !(q.1 == i) && !(q.1 + 1 == i && q.2.category == 2)) = lo') (k : z_w p l e R s m args below meth c D cA N0 nL cells slots Q (pc + 2) lo' st T F) : z_w p l e R s m args below meth c D cA N0 nL cells slots Q pc lo (.null :: st) T F :=
  fun H locs ls hP hS hL => lv_astoreN C.1 C.2.1 hdg hL hn hl (fun ls hl => k H locs ls hP hS hl)
theorem zr_tableOut (C : z_C p l s m args meth c own cc nL ret D cA N0 zE) {dflt lw hi : Int} {offs : Array Int} {len : Nat} {x : Int32} (tgt : Nat) (hdg : decode cc pc = .ok (.tableswitch dflt lw hi offs, len)) (h : x.toInt < lw ∨ hi < x.toInt) (ht : (pc : Int) + dflt = (tgt : Int)) (k : z_w p l e R s m args below meth c D cA N0 nL cells slots Q tgt lo st T F) : z_w p l e R s m args below meth c D cA N0 nL cells slots Q pc lo (.int x :: st) T F :=
  fun H locs ls hP hS hL => lv_tableOut C.1 C.2.1 hdg h ht (k H locs ls hP hS hL)
theorem zr_tableIn (C : z_C p l s m args meth c own cc nL ret D cA N0 zE) {dflt lw hi : Int} {offs : Array Int} {len : Nat} {x : Int32} {off : Int} (tgt : Nat) (hdg : decode cc pc = .ok (.tableswitch dflt lw hi offs, len)) (h1 : ¬ x.toInt < lw) (h2 : ¬ hi < x.toInt) (ho : offs[(x.toInt - lw).toNat]? = some off) (ht : (pc : Int) + off = (tgt : Int)) (k : z_w p l e R s m args below meth c D cA N0 nL cells slots Q tgt lo st T F) : z_w p l e R s m args below meth c D cA N0 nL cells slots Q pc lo (.int x :: st) T F :=
  fun H locs ls hP hS hL => lv_tableIn C.1 C.2.1 hdg h1 h2 ho ht (k H locs ls hP hS hL)
theorem zr_widen {cells2 slots2 : Nat} (h1 : cells ≤ cells2) (h2 : slots ≤ slots2) (k : z_w p l e R s m args below meth c D cA N0 nL cells2 slots2 Q pc lo st T F) : z_w p l e R s m args below meth c D cA N0 nL cells slots Q pc lo st T F :=
  fun H locs ls hP hS hL => W.widen h1 h2 (k H locs ls hP hS hL)
theorem zr_sub (is : List Nat) (hl : lv_pick lo is = lo') (k : z_w p l e R s m args below meth c D cA N0 nL cells slots Q pc lo' st T F) : z_w p l e R s m args below meth c D cA N0 nL cells slots Q pc lo st T F :=
  fun H locs ls hP hS hL => k H locs ls hP hS (lv_sub hL is hl)
theorem zr_topi {x : Int32} (k : ∀ y : Int32, y = x → z_w p l e R s m args below meth c D cA N0 nL cells slots Q pc lo (.int y :: st) T F) : z_w p l e R s m args below meth c D cA N0 nL cells slots Q pc lo (.int x :: st) T F := k x rfl
/-! fields -/
/-- what the tables say of a field's entry in a class's pool: own's entry 'index' is the k-th field of the class ci of vwCl -/
def z_fld (own : String) (index ci k N : Nat) (ty : FieldType) (fin : Bool) : Prop := ci < 100 ∧ k < N ∧ ∃ (Cn : String) (Tb : u_T) (ref : String), vwCl[ci]? = some (Cn, Tb, N) ∧ (∀ w ∈ u_ws Cn Tb N, w ∈ zG) ∧ ((Tb k).1 = ref ∨ Cond.sameField ref (Tb k).1 (Tb k).2.1 (Tb k).2.2.1 ∈ zG) ∧
  (Cond.fieldLink own index ref (Tb k).2.1 (Tb k).2.2.1 ∈ zG ∨ ∃ host, Cond.fieldLinkNest own index ref (Tb k).2.1 (Tb k).2.2.1 host ∈ zG) ∧ parseFieldDescriptor (Tb k).2.2.1 = some ty ∧ (Tb k).2.2.2 = fin ∧ (∃ ty0 : Nat → FieldType, ∀ j, j < N → parseFieldDescriptor (Tb j).2.2.1 = some (ty0 j)) ∧ (∀ a, a < N → ∀ b, b < N → a ≠ b → (Tb a).2.1 ≠ (Tb b).2.1)
/-- the k-th field of the class ci is declared by own -/
def z_fin (own : String) (ci k : Nat) : Prop := ∃ (Cn : String) (Tb : u_T) (N : Nat), vwCl[ci]? = some (Cn, Tb, N) ∧ (Tb k).1 = own
theorem zr_get (C : z_C p l s m args meth c own cc nL ret D cA N0 zE) {index ci k N a : Nat} {ty : FieldType} {fin : Bool} {v : Value} (f : z_fld own index ci k N ty fin) (hT : T a = some (ci, N)) (hv : F a k = v) (hdg : decode cc pc = .ok (.getfield index, 3))
    (kk : z_w p l e R s m args below meth c D cA N0 nL cells slots Q (pc + 3) lo (v :: st) T F) : z_w p l e R s m args below meth c D cA N0 nL cells slots Q pc lo (.ref a :: st) T F := by
  intro H locs ls hP hS hL
  obtain ⟨hx, hb, -, hown, hts, hK, -⟩ := id C
  obtain ⟨hci, hk, Cn, Tb, ref, hc, hin, hsm, hlk, -⟩ := f
  have h0 := (hP a _ hT).2
  unfold z_at at h0
  rw [if_pos hci] at h0
  obtain ⟨r, h1, -, cell, q1, q2, q3, q4⟩ := h0
  cases Option.some.inj (h1.symm.trans hc)
  obtain ⟨hSl, hfc, kC, hkC, hkind⟩ := hK.2.2.1.1 ci _ hc
  obtain ⟨cf, kf, fi, fd, hi, hsl⟩ := hSl k hk
  have hi2 : s.fieldFound? ref (Tb k).2.1 (Tb k).2.2.1 = some (cf, kf, fi, fd) := by
    rcases hsm with rfl | h
    · exact hi
    · exact u_same (hts _ h) _ hi
  have hst := (u_facts hfc hkC (u_lays hts hin hk) hi).1
  have hsv : cell.slots[fd.slot]? = some v := by rw [hsl, q4 k hk, hv]
  rcases hlk with hlk | ⟨host, hlk⟩
  · exact W.getf hx hb hown (hts _ hlk) hi2 hst q1 (by rw [q3]; exact fun h => by cases h) (v := v) hsv rfl rfl hdg (kk H locs ls hP hS hL)
  · exact va_Wgetf hx hb hown (hts _ hlk) hi2 hst q1 (by rw [q3]; exact fun h => by cases h) (v := v) hsv rfl rfl hdg (kk H locs ls hP hS hL)
theorem zr_put (C : z_C p l s m args meth c own cc nL ret D cA N0 zE) {index ci k N a : Nat} {ty : FieldType} {v : Value} (f : z_fld own index ci k N ty false) (hT : T a = some (ci, N)) (hn : narrow ty v = v) (hfit : fits ty v = true) (hdg : decode cc pc = .ok (.putfield index, 3))
    (kk : z_w p l e R s m args below meth c D cA N0 nL cells slots Q (pc + 3) lo st T (zu F a k v)) : z_w p l e R s m args below meth c D cA N0 nL cells slots Q pc lo (v :: .ref a :: st) T F := by
  intro H locs ls hP hS hL
  obtain ⟨hx, hb, -, hown, hts, hK, -⟩ := id C
  obtain ⟨hci, hk, Cn, Tb, ref, hc, hin, hsm, hlk, hd, hfin, ⟨ty0, hty⟩, hnm⟩ := f
  obtain ⟨hNa, h0⟩ := hP a _ hT
  have hNa : N0 ≤ a := by
    rcases hNa with h | ⟨-, h⟩ | h
    · exact h
    · exact absurd hci (Nat.not_lt.mpr h)
    · exact absurd hci (by have h : ci = 104 := h; omega)
  unfold z_at at h0
  rw [if_pos hci] at h0
  obtain ⟨r, h1, -, cell, q1, q2, q3, q4⟩ := h0
  cases Option.some.inj (h1.symm.trans hc)
  have hap := va_apart (own := own) hts hin ty0 hty hnm hK.2.2.1 hc
  obtain ⟨hSl, hfc, kC, hkC, hkind⟩ := hK.2.2.1.1 ci _ hc
  obtain ⟨cf, kf, fi, fd, hi, hsl⟩ := hSl k hk
  have hi2 : s.fieldFound? ref (Tb k).2.1 (Tb k).2.2.1 = some (cf, kf, fi, fd) := by
    rcases hsm with rfl | h
    · exact hi
    · exact u_same (hts _ h) _ hi
  have hst := (u_facts hfc hkC (u_lays hts hin hk) hi).1
  have hlay := hts _ (hin _ (u_in_lay hk))
  unfold u_lay at hlay
  rw [if_neg (by rw [hfin]; decide)] at hlay
  have h6 := u_store hfc hkC hkind hlay hi hd hn hfit
  have fin : ∀ H' : Heap, H'[a]? = some (cell.setSlot fd.slot v) → H'.size = H.size → (∀ q, q ≠ a → H'[q]? = H[q]?) → W p l e R s m args below meth c H' (locs ++ [⟨a, fd.slot⟩]) cells slots Q (F0 m (pc + 3) ls st) := by
    intro H' e1 e2 e3
    refine kk H' _ ls (hP.set hT ?_ e3) (hS.put e2 e3 hNa) hL
    unfold z_at
    rw [if_pos hci]
    refine ⟨_, hc, rfl, ?_⟩
    rw [hsl] at e1
    exact t_OB.to (V := updV (F a) k v) ⟨_, e1, q2, q3, t_set q4 hap hk v⟩ (fun j _ => rfl)
  rcases hlk with hlk | ⟨host, hlk⟩
  · exact W.putK hx hb (f := fd) ⟨hown, hts _ hlk, ⟨_, _, _, hi2⟩, hst⟩ (by rw [q2]; exact h6) q1 q3 (by rw [hsl]; exact k2_hasslot (q4 k hk)) rfl rfl hdg fin
  · exact va_WputK hx hb hown (hts _ hlk) hi2 hst (by rw [q2]; exact h6) q1 q3 (by rw [hsl]; exact k2_hasslot (q4 k hk)) rfl rfl hdg fin
theorem zr_putF (C : z_C p l s m args meth c own cc nL ret D cA N0 zE) {index ci k N a : Nat} {ty : FieldType} {v : Value} (f : z_fld own index ci k N ty true) (g : z_fin own ci k) (hT : T a = some (ci, N)) (hn : narrow ty v = v) (hfit : fits ty v = true) (hin2 : meth.name = "<init>") (hdg : decode cc pc = .ok (.putfield index, 3))
    (kk : z_w p l e R s m args below meth c D cA N0 nL cells slots Q (pc + 3) lo st T (zu F a k v)) : z_w p l e R s m args below meth c D cA N0 nL cells slots Q pc lo (v :: .ref a :: st) T F := by
  intro H locs ls hP hS hL
  obtain ⟨hx, hb, -, hown, hts, hK, -⟩ := id C
  obtain ⟨hci, hk, Cn, Tb, ref, hc, hin, hsm, hlk, hd, hfin, ⟨ty0, hty⟩, hnm⟩ := f
  obtain ⟨Cn8, Tb8, N8, hc8, hdecl⟩ := g
  cases Option.some.inj (hc8.symm.trans hc)
  obtain ⟨hNa, h0⟩ := hP a _ hT
  have hNa : N0 ≤ a := by
    rcases hNa with h | ⟨-, h⟩ | h
    · exact h
    · exact absurd hci (Nat.not_lt.mpr h)
    · exact absurd hci (by have h : ci = 104 := h; omega)
  unfold z_at at h0
  rw [if_pos hci] at h0
  obtain ⟨r, h1, -, cell, q1, q2, q3, q4⟩ := h0
  cases Option.some.inj (h1.symm.trans hc)
  have hap := va_apart (own := own) hts hin ty0 hty hnm hK.2.2.1 hc
  obtain ⟨hSl, hfc, kC, hkC, hkind⟩ := hK.2.2.1.1 ci _ hc
  obtain ⟨cf, kf, fi, fd, hi, hsl⟩ := hSl k hk
  have hi2 : s.fieldFound? ref (Tb k).2.1 (Tb k).2.2.1 = some (cf, kf, fi, fd) := by
    rcases hsm with rfl | h
    · exact hi
    · exact u_same (hts _ h) _ hi
  have hst := (u_facts hfc hkC (u_lays hts hin hk) hi).1
  have hlay := hts _ (hin _ (u_in_lay hk))
  unfold u_lay at hlay
  rw [if_pos hfin] at hlay
  have hcf : m.cls = cf := by
    obtain ⟨_, _, c', _, _, _, -, -, hf', -, -, -, hown2, -⟩ := Cond.laysFinal_spec hlay
    have e1 : c' = cf := by have := hi.symm.trans hf'; simp at this; exact this.1.symm
    rw [hdecl] at hown2
    rw [← e1]; exact Option.some.inj (hown.symm.trans hown2)
  have h6 := u_fits hfc hkC hkind (Or.inr hlay) hi hd hn hfit
  have fin : ∀ H' : Heap, H'[a]? = some (cell.setSlot fd.slot v) → H'.size = H.size → (∀ q, q ≠ a → H'[q]? = H[q]?) → W p l e R s m args below meth c H' (locs ++ [⟨a, fd.slot⟩]) cells slots Q (F0 m (pc + 3) ls st) := by
    intro H' e1 e2 e3
    refine kk H' _ ls (hP.set hT ?_ e3) (hS.put e2 e3 hNa) hL
    unfold z_at
    rw [if_pos hci]
    refine ⟨_, hc, rfl, ?_⟩
    rw [hsl] at e1
    exact t_OB.to (V := updV (F a) k v) ⟨_, e1, q2, q3, t_set q4 hap hk v⟩ (fun j _ => rfl)
  rcases hlk with hlk | ⟨host, hlk⟩
  · exact W.putFinK hx hb hown (hts _ hlk) hi2 hst hcf hin2 (by rw [q2]; exact h6) q1 q3 (by rw [hsl]; exact k2_hasslot (q4 k hk)) rfl rfl hdg fin
  · exact va_Wputf hx hb hown (hts _ hlk) hi2 hst (Or.inr ⟨hcf, hin2⟩) q1 (by rw [q3]; exact fun h => by cases h) (by rw [hsl]; exact k2_hasslot (q4 k hk)) h6.1 (by rw [q2, q3]; exact h6.2) rfl rfl hdg (fin _ (by have ha : a < H.size := (Array.getElem?_eq_some_iff.mp q1).1; simp [Array.getElem?_setIfInBounds, ha]) (by simp) (fun q hq => by simp [Array.getElem?_setIfInBounds, Ne.symm hq]))
/-! making -/
def z_nw (own : String) (index ci N : Nat) (ty : Nat → FieldType) : Prop := ci < 100 ∧ ∃ (Cn : String) (Tb : u_T), vwCl[ci]? = some (Cn, Tb, N) ∧ (∀ w ∈ u_ws Cn Tb N, w ∈ zG) ∧ (∀ k, k < N → parseFieldDescriptor (Tb k).2.2.1 = some (ty k)) ∧ Cond.classLink own index Cn ∈ zG ∧ Cond.instantiable Cn N ∈ zG ∧ Cond.initialized Cn ∈ zG
theorem zr_new (C : z_C p l s m args meth c own cc nL ret D cA N0 zE) {index ci N : Nat} {ty : Nat → FieldType} (f : z_nw own index ci N ty) (hc1 : cells + 1 ≤ R.cells) (hs1 : slots + N ≤ R.slots) (hdg : decode cc pc = .ok (.new index, 3))
    (kk : ∀ q : Nat, (∀ b, q ≤ b → T b = none) → z_w p l e R s m args below meth c D cA N0 nL (cells + 1) (slots + N) Q (pc + 3) lo (.ref q :: st) (zn T q (ci, N)) (zm F q (fun j => defaultValue (ty j)))) : z_w p l e R s m args below meth c D cA N0 nL cells slots Q pc lo st T F := by
  intro H locs ls hP hS hL
  obtain ⟨hx, hb, -, hown, hts, hK, -⟩ := id C
  obtain ⟨hci, Cn, Tb, hc, hin, hty, w1, w2, w3⟩ := f
  have hKn := hK.2.2.1.1 ci _ hc
  refine W.newcK hx hb hown (hts _ w1) (hts _ w2) (hts _ w3) rfl hdg hc1 hs1 hKn.2.1 rfl fun H1 kC hkC e1 z1 o1 => ?_
  have hN : N0 ≤ H.size := Nat.le_trans hK.2.1 hS.1
  have hb1 := u_born ty hts hin hKn hkC e1 hty
  refine kk H.size (fun b hb => ?_) H1 locs ls (hP.push hN ?_ o1).2 ⟨Nat.le_trans hS.1 (by omega), fun x h1 h2 => (o1 x (Nat.lt_of_lt_of_le h1 hS.1)).trans (hS.2.1 x h1 h2), hS.2.2⟩ hL
  · cases g : T b with
    | none => rfl
    | some t' => exact absurd (hP _ _ g).2.lt (Nat.not_lt.mpr hb)
  · unfold z_at
    rw [if_pos hci]
    exact ⟨_, hc, rfl, hb1⟩
theorem z_ra {U : State} {cA cB : ClassId} {ty : FieldType} (h1 : va_RA U cA ty) (h2 : U.vm.findClass ("[" ++ ty.toString) = some cB) : cA = cB := by
  cases ty with
  | object Cn => obtain ⟨_, _, _, _, _, h4⟩ := h1; exact Option.some.inj (h4.symm.trans h2)
  | _ => exact Option.some.inj (h1.symm.trans h2)
theorem zr_newarr (C : z_C p l s m args meth c own cc nL ret D cA N0 zE) {n : Int32} {atype : ArrayType} (j : Nat) (hj : z_tys[j]? = some (newarray.typeOf atype)) (hw : Cond.arrayClass (newarray.typeOf atype) ∈ zG) (hn : ¬ n < 0) (hby : n.toNatClampNeg * componentBytes (newarray.typeOf atype) ≤ 536870912) (hc1 : cells + 1 ≤ R.cells) (hs1 : slots + n.toNatClampNeg ≤ R.slots) (hdg : decode cc pc = .ok (.newarray atype, 2))
    (kk : ∀ q : Nat, (∀ b, q ≤ b → T b = none) → z_w p l e R s m args below meth c D cA N0 nL (cells + 1) (slots + n.toNatClampNeg) Q (pc + 2) lo (.ref q :: st) (zn T q (100 + j, n.toNatClampNeg)) (zm F q (fun _ => defaultValue (newarray.typeOf atype)))) (hj4 : ¬ j = 4 := by decide) : z_w p l e R s m args below meth c D cA N0 nL cells slots Q pc lo (.int n :: st) T F := by
  intro H locs ls hP hS hL
  obtain ⟨hx, hb, -, hown, hts, hK, -⟩ := id C
  refine W.newa hx hb (hts _ hw) rfl hdg rfl hn hby hc1 hs1 fun cB kA comp h1 h2 h3 => ?_
  have hcA : cA j = cB := z_ra ((hK.2.2.2.1 j _ hj).2.resolve_left hj4) h1
  subst hcA
  have hN : N0 ≤ H.size := Nat.le_trans hK.2.1 hS.1
  have o1 : ∀ q : Nat, q < H.size → (H.push { cls := cA j, slots := Array.replicate n.toNatClampNeg (defaultValue (newarray.typeOf atype)), vm := .none })[q]? = H[q]? := fun q hq => by rw [Array.getElem?_push, if_neg (Nat.ne_of_lt hq)]
  refine kk H.size (fun b hb => ?_) _ locs ls (hP.push hN ?_ o1).2 ⟨Nat.le_trans hS.1 (by simp), fun x h1 h2 => (o1 x (Nat.lt_of_lt_of_le h1 hS.1)).trans (hS.2.1 x h1 h2), hS.2.2⟩ hL
  · cases g : T b with
    | none => rfl
    | some t' => exact absurd (hP _ _ g).2.lt (Nat.not_lt.mpr hb)
  · unfold z_at
    rw [if_neg (by show ¬ 100 + j < 100; omega)]
    left
    show _ = some (arrV (cA (100 + j - 100)) _ _)
    rw [Nat.add_sub_cancel_left, ← arrV_new]
    simp
theorem zr_anew (C : z_C p l s m args meth c own cc nL ret D cA N0 zE) {n : Int32} {index : Nat} {Cn : String} (j : Nat) (hj : z_tys[j]? = some (.object Cn)) (hw : Cond.classLink own index Cn ∈ zG) (hw2 : Cond.arrayOver (.object Cn) ∈ zG) (hn : ¬ n < 0) (hby : n.toNatClampNeg * 4 ≤ 536870912) (hc1 : cells + 1 ≤ R.cells) (hs1 : slots + n.toNatClampNeg ≤ R.slots) (hdg : decode cc pc = .ok (.anewarray index, 3))
    (kk : ∀ q : Nat, (∀ b, q ≤ b → T b = none) → z_w p l e R s m args below meth c D cA N0 nL (cells + 1) (slots + n.toNatClampNeg) Q (pc + 3) lo (.ref q :: st) (zn T q (100 + j, n.toNatClampNeg)) (zm F q (fun _ => .null))) (hj4 : ¬ j = 4 := by decide) : z_w p l e R s m args below meth c D cA N0 nL cells slots Q pc lo (.int n :: st) T F := by
  intro H locs ls hP hS hL
  obtain ⟨hx, hb, -, hown, hts, hK, -⟩ := id C
  refine W.anew hx hb hown (hts _ hw) (hts _ hw2) rfl hdg rfl hn hby hc1 hs1 fun cB kA comp h1 h2 h3 h4 => ?_
  have hcA : cA j = cB := z_ra ((hK.2.2.2.1 j _ hj).2.resolve_left hj4) h1
  subst hcA
  have hN : N0 ≤ H.size := Nat.le_trans hK.2.1 hS.1
  have o1 : ∀ q : Nat, q < H.size → (H.push { cls := cA j, slots := Array.replicate n.toNatClampNeg .null, vm := .none })[q]? = H[q]? := fun q hq => by rw [Array.getElem?_push, if_neg (Nat.ne_of_lt hq)]
  refine kk H.size (fun b hb => ?_) _ locs ls (hP.push hN ?_ o1).2 ⟨Nat.le_trans hS.1 (by simp), fun x h1 h2 => (o1 x (Nat.lt_of_lt_of_le h1 hS.1)).trans (hS.2.1 x h1 h2), hS.2.2⟩ hL
  · cases g : T b with
    | none => rfl
    | some t' => exact absurd (hP _ _ g).2.lt (Nat.not_lt.mpr hb)
  · unfold z_at
    rw [if_neg (by show ¬ 100 + j < 100; omega)]
    left
    show _ = some (arrV (cA (100 + j - 100)) _ _)
    rw [Nat.add_sub_cancel_left, ← arrV_new]
    simp
/-! arrays -/
theorem z_arr {H : Heap} {a t n : Nat} (hP : z_P D cA N0 T F H) (hT : T a = some (t, n)) (ht : 100 ≤ t) (hn : 0 < n) (h4 : ¬ t = 104) : H[a]? = some (arrV (cA (t - 100)) n (F a)) := by
  have h0 := (hP a _ hT).2
  unfold z_at at h0
  rw [if_neg (Nat.not_lt.mpr ht)] at h0
  rcases h0 with h0 | ⟨h0 | h0, -⟩
  · exact h0
  · exact absurd h0 (by show ¬ n = 0; omega)
  · exact absurd h0 h4
/-- any array, one that was there before among them: what a reading instruction needs -/
theorem z_arrG {H : Heap} {a t n : Nat} {ty : FieldType} (hP : z_P D cA N0 T F H) (hT : T a = some (t, n)) (ht : 100 ≤ t) (hA : ArrOfT s (cA (t - 100)) ty) : ∃ c : Cell, H[a]? = some c ∧ s.isArrayOf c ty ∧ c.slots.size = n ∧ (∀ j : Nat, j < n → c.slots[j]? = some (F a j)) ∧ c.vm ≠ .unknown := by
  have h0 := (hP a _ hT).2
  unfold z_at at h0
  rw [if_neg (Nat.not_lt.mpr ht)] at h0
  rcases h0 with h0 | ⟨-, c, h1, h2, h3, h4, h5, h6⟩
  · exact ⟨_, h0, hA n (F a), arrV_size _ _ _, fun j hj => arrV_read _ _ hj, fun q => by cases q⟩
  · refine ⟨c, h1, ⟨h6, ?_⟩, h3, h4, h5⟩
    have h9 := (hA n (F a)).2
    rw [show (arrV (cA (t - 100)) n (F a)).cls = c.cls from h2.symm] at h9
    exact h9
theorem z_arrN {H : Heap} {a t n : Nat} (hP : z_P D cA N0 T F H) (hT : T a = some (t, n)) (hn : 0 < n) (ht : t ≠ 104 := by decide) : N0 ≤ a := by
  rcases (hP a _ hT).1 with h | ⟨h, -⟩ | h
  · exact h
  · exact absurd h (by show ¬ n = 0; omega)
  · exact absurd h ht
theorem zr_alen (C : z_C p l s m args meth c own cc nL ret D cA N0 zE) {a t n : Nat} {ty : FieldType} (hT : T a = some (t, n)) (ht : 100 ≤ t) (hj : z_tys[t - 100]? = some ty) (hdg : decode cc pc = .ok (.arraylength, 1))
    (kk : z_w p l e R s m args below meth c D cA N0 nL cells slots Q (pc + 1) lo (.int (nI n) :: st) T F) : z_w p l e R s m args below meth c D cA N0 nL cells slots Q pc lo (.ref a :: st) T F :=
  fun H locs ls hP hS hL => by
  obtain ⟨cl, g1, g2, g3, -⟩ := z_arrG hP hT ht (C.2.2.2.2.2.1.2.2.2.1 _ _ hj).1
  exact W.alen (n := nI n) C.1 C.2.1 g1 g2 (by rw [g3] <;> rfl) rfl rfl hdg (kk H locs ls hP hS hL)
theorem zr_iald (C : z_C p l s m args meth c own cc nL ret D cA N0 zE) {a n : Nat} {i x : Int32} (hj : z_tys[0]? = some .int) (hT : T a = some (100, n)) (hin : vp_in i n) (hv : F a i.toNatClampNeg = .int x) (hdg : decode cc pc = .ok (.iaload, 1))
    (kk : z_w p l e R s m args below meth c D cA N0 nL cells slots Q (pc + 1) lo (.int x :: st) T F) : z_w p l e R s m args below meth c D cA N0 nL cells slots Q pc lo (.int i :: .ref a :: st) T F := by
  intro H locs ls hP hS hL
  have hlt : i.toNatClampNeg < n := Nat.not_le.mp fun q => hin (Or.inr q)
  exact W.iald C.1 C.2.1 (z_arr hP hT (Nat.le_refl _) (by omega) (by decide)) ((C.2.2.2.2.2.1.2.2.2.1 _ _ hj).1 n (F a)) (fun q => by cases q) (by rw [arrV_size]; exact hin) (by rw [arrV_read _ _ hlt, hv]) rfl rfl hdg (kk H locs ls hP hS hL)
theorem z_st {H H1 : Heap} {a t n i : Nat} {v : Value} (hP : z_P D cA N0 T F H) (hT : T a = some (t, n)) (ht : 100 ≤ t) (e : H1[a]? = some ((arrV (cA (t - 100)) n (F a)).setSlot i v)) (oq : ∀ q : Nat, q ≠ a → H1[q]? = H[q]?) : z_P D cA N0 T (zu F a i v) H1 := by
  refine hP.set hT ?_ oq
  unfold z_at
  rw [if_neg (Nat.not_lt.mpr ht)]
  left
  rw [e, arrV_store]
  rfl
theorem zr_iast (C : z_C p l s m args meth c own cc nL ret D cA N0 zE) {a n : Nat} {i x : Int32} (hj : z_tys[0]? = some .int) (hT : T a = some (100, n)) (hin : vp_in i n) (hdg : decode cc pc = .ok (.iastore, 1))
    (kk : z_w p l e R s m args below meth c D cA N0 nL cells slots Q (pc + 1) lo st T (zu F a i.toNatClampNeg (.int x))) : z_w p l e R s m args below meth c D cA N0 nL cells slots Q pc lo (.int x :: .int i :: .ref a :: st) T F := by
  intro H locs ls hP hS hL
  have hlt : i.toNatClampNeg < n := Nat.not_le.mp fun q => hin (Or.inr q)
  refine W.iast C.1 C.2.1 (z_arr hP hT (Nat.le_refl _) (by omega) (by decide)) ((C.2.2.2.2.2.1.2.2.2.1 _ _ hj).1 n (F a)) (fun q => by cases q) (by rw [arrV_size]; exact hin) rfl rfl hdg fun H1 e1 z1 oq => ?_
  exact kk H1 _ ls (z_st hP hT (Nat.le_refl _) e1 oq) (hS.put z1 oq (z_arrN hP hT (by omega))) hL
theorem zr_aald (C : z_C p l s m args meth c own cc nL ret D cA N0 zE) {a t n : Nat} {ty : FieldType} {i : Int32} {v : Value} (hT : T a = some (t, n)) (ht : 100 ≤ t) (hj : z_tys[t - 100]? = some ty) (hr : ty.isReference = true) (hin : vp_in i n) (hv : F a i.toNatClampNeg = v) (hdg : decode cc pc = .ok (.aaload, 1))
    (kk : z_w p l e R s m args below meth c D cA N0 nL cells slots Q (pc + 1) lo (v :: st) T F) : z_w p l e R s m args below meth c D cA N0 nL cells slots Q pc lo (.int i :: .ref a :: st) T F := by
  intro H locs ls hP hS hL
  have hlt : i.toNatClampNeg < n := Nat.not_le.mp fun q => hin (Or.inr q)
  have h4 : ¬ t = 104 := fun g => by
    subst g
    cases (show some FieldType.int = some ty from hj)
    cases hr
  exact W.aald C.1 C.2.1 (z_arr hP hT ht (by omega) h4) ((C.2.2.2.2.2.1.2.2.2.1 _ _ hj).1 n (F a)) hr (fun q => by cases q) (by rw [arrV_size]; exact hin) (by rw [arrV_read _ _ hlt, hv]) rfl rfl hdg (kk H locs ls hP hS hL)
theorem z_obj {H : Heap} {a ci N : Nat} {r : vw_C} (hP : z_P D cA N0 T F H) (hK : z_K l D cA N0 zE s) (hT : T a = some (ci, N)) (hci : ci < 100) (hc : vwCl[ci]? = some r) : ∃ cell : Cell, H[a]? = some cell ∧ cell.vm.isStatics = false ∧ s.vm.findClass r.1 = some cell.cls := by
  have h0 := (hP a _ hT).2
  unfold z_at at h0
  rw [if_pos hci] at h0
  obtain ⟨r', h1, -, cell, q1, q2, q3, q4⟩ := h0
  cases Option.some.inj (h1.symm.trans hc)
  exact ⟨cell, q1, by rw [q3]; rfl, by rw [q2]; exact (hK.2.2.1.1 ci _ hc).2.1⟩
theorem zr_aastO (C : z_C p l s m args meth c own cc nL ret D cA N0 zE) {a n v ci N : Nat} {i : Int32} {r : vw_C} (hj : z_tys[1]? = some (.object "java/lang/Object")) (hT : T a = some (101, n)) (hin : vp_in i n) (hTv : T v = some (ci, N)) (hci : ci < 100) (hc : vwCl[ci]? = some r) (hw : Cond.castable r.1 "java/lang/Object" ∈ zG) (hdg : decode cc pc = .ok (.aastore, 1))
    (kk : z_w p l e R s m args below meth c D cA N0 nL cells slots Q (pc + 1) lo st T (zu F a i.toNatClampNeg (.ref v))) : z_w p l e R s m args below meth c D cA N0 nL cells slots Q pc lo (.ref v :: .int i :: .ref a :: st) T F := by
  intro H locs ls hP hS hL
  have hlt : i.toNatClampNeg < n := Nat.not_le.mp fun q => hin (Or.inr q)
  have h0 : ¬ i < 0 := fun q => hin (Or.inl q)
  obtain ⟨cellV, g1, g2, g3⟩ := z_obj hP C.2.2.2.2.2.1 hTv hci hc
  obtain ⟨kC, hkC, -⟩ := Vm.findClass_spec g3
  obtain ⟨kA, comp, k1, k2, k3, -⟩ := (C.2.2.2.2.2.1.2.2.2.1 _ _ hj).2.resolve_left (by decide)
  obtain ⟨kE, hkE, -⟩ := Vm.findClass_spec k3
  obtain ⟨c0, t1, f1, f2, f3⟩ := Cond.castable_spec (C.2.2.2.2.1 _ hw)
  cases Option.some.inj (f1.symm.trans g3)
  cases Option.some.inj (f2.symm.trans k3)
  refine W.aast C.1 C.2.1 (z_arr hP hT (by decide) (by omega) (by decide)) (fun q h => by cases h) (fun h => by cases h) k1 k2 rfl hkE ⟨h0, by rw [arrV_size]; exact hlt⟩ g1 (fun q h => by rw [h] at g2; cases g2) hkC f3 rfl rfl hdg fun H1 e1 z1 oq => ?_
  exact kk H1 _ ls (z_st hP hT (by decide) e1 oq) (hS.put z1 oq (z_arrN hP hT (by omega))) hL
theorem zr_castS (C : z_C p l s m args meth c own cc nL ret D cA N0 zE) {a ci N index : Nat} {r : vw_C} (hT : T a = some (ci, N)) (hci : ci < 100) (hc : vwCl[ci]? = some r) (hw : Cond.classLink own index r.1 ∈ zG) (hdg : decode cc pc = .ok (.checkcast index, 3))
    (kk : z_w p l e R s m args below meth c D cA N0 nL cells slots Q (pc + 3) lo (.ref a :: st) T F) : z_w p l e R s m args below meth c D cA N0 nL cells slots Q pc lo (.ref a :: st) T F :=
  fun H locs ls hP hS hL => va_castS C.1 C.2.1 C.2.2.2.1 (C.2.2.2.2.1 _ hw) (C.2.2.2.2.2.1.2.2.1.1 ci _ hc).2 (z_obj hP C.2.2.2.2.2.1 hT hci hc) hdg (kk H locs ls hP hS hL)
theorem zr_objInit (C : z_C p l s m args meth c own cc nL ret D cA N0 zE) {a index : Nat} (h1 : Cond.methodLink own index Lib.objectInit ∈ zG) (h2 : Cond.instanceMethod Lib.objectInit ∈ zG) (h3 : Cond.code Lib.objectInit ⟨#[0xb1]⟩ 1 none ∈ zG) (hf : 1 ≤ R.frames) (hlo : (st.map fun v => v.category).sum + 12 ≤ R.locals) (hdg : decode cc pc = .ok (.invokespecial index, 3))
    (kk : z_w p l e R s m args below meth c D cA N0 nL cells slots Q (pc + 3) lo st T F) : z_w p l e R s m args below meth c D cA N0 nL cells slots Q pc lo (.ref a :: st) T F :=
  fun H locs ls hP hS hL => W.objInit C.1 C.2.1 C.2.2.2.1 (C.2.2.2.2.1 _ h1) (C.2.2.2.2.1 _ h2) (C.2.2.2.2.1 _ h3) rfl (by rw [C.2.2.1]; exact hL.1) rfl hdg hf (by show 2 * 0 + _ + 12 ≤ _; omega) (kk H locs ls hP hS hL)
theorem zr_getsE (C : z_C p l s m args meth c own cc nL ret D cA N0 zE) {index : Nat} (hw : Cond.fieldLink own index "java/util/ArrayList" "DEFAULTCAPACITY_EMPTY_ELEMENTDATA" "[Ljava/lang/Object;" ∈ zG) (hdg : decode cc pc = .ok (.getstatic index, 3))
    (kk : z_w p l e R s m args below meth c D cA N0 nL cells slots Q (pc + 3) lo (.ref zE :: st) T F) : z_w p l e R s m args below meth c D cA N0 nL cells slots Q pc lo st T F :=
  fun H locs ls hP hS hL => va_gets C.1 C.2.1 C.2.2.2.2.2.1.2.2.2.2.1 hS C.2.2.2.1 (C.2.2.2.2.1 _ hw) (fun _ h => h) hdg (kk H locs ls hP hS hL)
theorem zr_max (C : z_C p l s m args meth c own cc nL ret D cA N0 zE) {index : Nat} {x y : Int32} (h1 : Cond.methodLink own index Lib.Math.max.name ∈ zG) (h2 : Cond.static Lib.Math.max.name ∈ zG) (h3 : Cond.initialized "java/lang/Math" ∈ zG) (h4 : Cond.code Lib.Math.max.name Lib.Math.max.code 2 (some .int) ∈ zG) (hf : 1 ≤ R.frames) (hlo : (st.map fun v => v.category).sum + 13 ≤ R.locals) (hc1 : cells ≤ R.cells) (hs1 : slots ≤ R.slots) (hdg : decode cc pc = .ok (.invokestatic index, 3))
    (kk : z_w p l e R s m args below meth c D cA N0 nL cells slots Q (pc + 3) lo (.int (if x < y then y else x) :: st) T F) : z_w p l e R s m args below meth c D cA N0 nL cells slots Q pc lo (.int y :: .int x :: st) T F :=
  fun H locs ls hP hS hL => va_mmax C.1 C.2.1 (by rw [C.2.2.1]; exact hL.1.symm) C.2.2.2.1 (C.2.2.2.2.1 _ h1) (C.2.2.2.2.1 _ h2) (C.2.2.2.2.1 _ h3) (C.2.2.2.2.1 _ h4) hf hlo hc1 hs1 hdg (kk H locs ls hP hS hL)
theorem zr_min (C : z_C p l s m args meth c own cc nL ret D cA N0 zE) {index : Nat} {x y : Int32} (h1 : Cond.methodLink own index Lib.Math.min.name ∈ zG) (h2 : Cond.static Lib.Math.min.name ∈ zG) (h3 : Cond.initialized "java/lang/Math" ∈ zG) (h4 : Cond.code Lib.Math.min.name Lib.Math.min.code 2 (some .int) ∈ zG) (hf : 1 ≤ R.frames) (hlo : (st.map fun v => v.category).sum + 13 ≤ R.locals) (hc1 : cells ≤ R.cells) (hs1 : slots ≤ R.slots) (hdg : decode cc pc = .ok (.invokestatic index, 3))
    (kk : z_w p l e R s m args below meth c D cA N0 nL cells slots Q (pc + 3) lo (.int (if y < x then y else x) :: st) T F) : z_w p l e R s m args below meth c D cA N0 nL cells slots Q pc lo (.int y :: .int x :: st) T F :=
  fun H locs ls hP hS hL => va_mmin C.1 C.2.1 (by rw [C.2.2.1]; exact hL.1.symm) C.2.2.2.1 (C.2.2.2.2.1 _ h1) (C.2.2.2.2.1 _ h2) (C.2.2.2.2.1 _ h3) (C.2.2.2.2.1 _ h4) hf hlo hc1 hs1 hdg (kk H locs ls hP hS hL)
/-! calls -/
def z_ok (own : String) (index : Nat) (y : MethodName) (bytes : ByteArray) (maxL : Nat) (ret : Option FieldType) (n : Nat) : Prop := Cond.code y bytes maxL ret ∈ zG ∧ Cond.methodLink own index y ∈ zG ∧ Cond.initialized y.cls ∈ zG ∧ (y.cls ≠ "java/lang/invoke/MethodHandle" ∧ y.cls ≠ "java/lang/invoke/VarHandle") ∧ (parseMethodDescriptor y.desc).map (fun d => d.parameters.length) = some n
def z_okN (own : String) (index : Nat) (host : String) (y : MethodName) (bytes : ByteArray) (maxL : Nat) (ret : Option FieldType) (n : Nat) : Prop := Cond.code y bytes maxL ret ∈ zG ∧ Cond.methodLinkNest own index y host ∈ zG ∧ Cond.initialized y.cls ∈ zG ∧ (y.cls ≠ "java/lang/invoke/MethodHandle" ∧ y.cls ≠ "java/lang/invoke/VarHandle") ∧ (parseMethodDescriptor y.desc).map (fun d => d.parameters.length) = some n
theorem z_len {y : MethodName} {n : Nat} (h : (parseMethodDescriptor y.desc).map (fun d => d.parameters.length) = some n) : ∀ sig, parseMethodDescriptor y.desc = some sig → n = sig.parameters.length := fun sig h1 => by
  rw [h1] at h
  exact (Option.some.inj h).symm
theorem z_ws (hts : ∀ w ∈ zG, w.before args s = true) {y : MethodName} {bytes : ByteArray} {maxL : Nat} {ret : Option FieldType} (h : Cond.code y bytes maxL ret ∈ zG) : ∀ w ∈ Cond.code y bytes maxL ret :: zG, ∀ (a' : Array Value) (U : State), s.WarmedH U.vm → w.before a' U = true := fun w hw a' U hW => by
  have hw : w ∈ zG := (List.mem_cons.mp hw).elim (fun e => e ▸ h) id
  exact zw_move (List.mem_filter.mp hw).2 hW (hts w hw)
theorem z_blind {as : List Value} : FrameBlind (z_Pc l D cA N0 zE as T F) := fun a U g mk h => ⟨h.1, h.2.1, z_K.move h.2.2 (State.WarmedH.refl U) (Nat.le_refl _) (fun _ _ _ => rfl)⟩
theorem z_pre {H : Heap} {locs : List Loc} {as : List Value} (hP : z_P D cA N0 T F H) (hS : va_S (fun q => N0 ≤ q) s.heap H locs) (hK : z_K l D cA N0 zE s) (U : State) (hU : U.heap = H) (hW : s.WarmedH U.vm) : z_Pc l D cA N0 zE as T F as.toArray U := ⟨rfl, by rw [hU]; exact hP, z_K.move hK hW (by rw [hU]; exact hS.1) (fun a h1 h2 => by rw [hU]; exact hS.2.1 a h1 h2)⟩
theorem z_back {H : Heap} {locs L : List Loc} {st₀ t T' : State} (h0 : st₀.heap = H) (e1 : T'.heap = t.heap) (hS : va_S (fun q => N0 ≤ q) s.heap H locs) (hL : ∀ q ∈ L, N0 ≤ q.base) (hF : va_F (fun q => N0 ≤ q) st₀ t) : va_S (fun q => N0 ≤ q) s.heap T'.heap (locs ++ L) := by
  obtain ⟨hz, hk⟩ := hF
  rw [h0] at hz hk
  refine ⟨Nat.le_trans hS.1 (by rw [e1]; exact hz), fun q h1 h2 => ?_, fun q hq => ?_⟩
  · rw [e1, hk q (Nat.lt_of_lt_of_le h1 hS.1) h2]
    exact hS.2.1 q h1 h2
  · rcases List.mem_append.mp hq with h | h
    · exact hS.2.2 q h
    · exact hL q h
def z_Mt (l : Launch) (D : va_G) (cA : Nat → ClassId) (N0 zE : Nat) (y : MethodName) (cc : ByteArray) (maxL : Nat) (ret : Option FieldType) (rm : Room) (as : List Value) (T : zT) (F : zF) (Post : Option Value → zT → zF → Prop) : Prop :=
  Met l y (Cond.code y cc maxL ret :: zG) rm (z_Pc l D cA N0 zE as T F) (z_Qc D cA N0 Post) rm.cells rm.slots (fun q => N0 ≤ q)
theorem z_bodyT {l : Launch} {D : va_G} {cA : Nat → ClassId} {N0 zE : Nat} {y : MethodName} {cc : ByteArray} {maxL : Nat} {ret : Option FieldType} {rm : Room} {as : List Value} {T : zT} {F : zF} {Post : Option Value → zT → zF → Prop} (hy : plainName y.cls = true) (hn : (lg_sl as).length ≤ maxL)
    (body : ∀ (p : Program) (e : Env) (s : State) (m : MethodId) (args : Array Value) (below : List Frame) (meth : Method) (c : Code), z_C p l s m args meth c y.cls cc maxL ret D cA N0 zE → meth.name = y.name →
      z_w p l e rm s m args below meth c D cA N0 maxL 0 0 (MQ below (z_Qc D cA N0 Post) args s rm.cells rm.slots (fun q => N0 ≤ q)) 0 (lv_args 0 as) [] T F) : z_Mt l D cA N0 zE y cc maxL ret rm as T F Post := by
  refine Met.ofW (cc := cc) (maxL := maxL) (ret := ret) hy rfl ?_
  intro p e s m args below meth c s₁ B hml hv
  obtain ⟨rfl, hP, hK⟩ := hv
  have hts := atoms_spec (ws := Cond.code y cc maxL ret :: zG) B.pre
  have hC : z_C p l s m as.toArray meth c y.cls cc maxL ret D cA N0 zE := ⟨B.exec, B.bytes, hml, findClass_of_methodNamed B.named, fun w hw => hts w (List.mem_cons_of_mem _ hw), hK, B.notSynchronized, B.returns⟩
  have hl := lv_entry as (n := maxL) hn
  rw [lg_entry_eq]
  exact body p e s m as.toArray below meth c hC (name_of_methodNamed B.named B.method).1 s.heap [] _ hP va_S.rf hl
theorem zr_callV (C : z_C p l s m args meth c own cc nL ret D cA N0 zE) {index n ci N b maxL : Nat} {y : MethodName} {bytes : ByteArray} {ret' : Option FieldType} {rm : Room} {As : List Value} {r : vw_C} {Post : Option Value → zT → zF → Prop} (hM : z_Mt l D cA N0 zE y bytes maxL ret' rm (.ref b :: As) T F Post) (f : z_ok own index y bytes maxL ret' n) (hi : Cond.instanceMethod y ∈ zG) (hse : Cond.selects r.1 y y ∈ zG)
    (hT : T b = some (ci, N)) (hci : ci < 100) (hc : vwCl[ci]? = some r) (hn : As.length = n) (hR : rm.frames + 1 ≤ R.frames ∧ 8 + (maxL + 11) + rm.locals ≤ R.locals) (hf : cells + rm.cells ≤ R.cells ∧ slots + rm.slots ≤ R.slots) (hW : (st.map fun v => v.category).sum ≤ 8) (hdg : decode cc pc = .ok (.invokevirtual index, 3))
    (kk : ∀ (v : Option Value) (T' : zT) (F' : zF), Post v T' F' → z_w p l e R s m args below meth c D cA N0 nL (cells + rm.cells) (slots + rm.slots) Q (pc + 3) lo (v.toList ++ st) T' F') : z_w p l e R s m args below meth c D cA N0 nL cells slots Q pc lo (As.reverse ++ .ref b :: st) T F := by
  intro H locs ls hP hS hL T0 hT0 X
  obtain ⟨hx, hb, hml, hown, hts, hK, -⟩ := id C
  obtain ⟨f1, f2, f3, f4, f5⟩ := f
  obtain ⟨v, st₀, t, T', L, h0, X', hL', e1, e2, ⟨w, T1, F1, hv, hp, hP1, hF⟩, stp⟩ := va_runV (Ts := zG) (C := r.1) ⟨hx, hb, hml, hown, hts⟩ hM ⟨⟨rfl, rfl, hR.1, hR.2, z_ws hts f1, List.mem_cons_self, hts _ f1, hts _ f3, f4, z_len f5, hts _ f2⟩, hts _ hi, hts _ hse⟩ ⟨z_blind, z_obj hP hK hT hci hc, fun U hU hW => z_pre hP hS hK U hU hW⟩ rfl hn hL.1 rfl (lv_room hW) hdg hf T0 hT0 X
  cases hv
  obtain ⟨t2, a1, b1⟩ := kk v T1 F1 hp T'.heap (locs ++ L) ls (by rw [e1]; exact hP1) (z_back h0 e1 hS hL' hF) hL T' rfl X'
  exact ⟨t2, stp t2 a1, b1⟩
theorem zr_callVN (C : z_C p l s m args meth c own cc nL ret D cA N0 zE) {index n ci N b maxL : Nat} {host : String} {y : MethodName} {bytes : ByteArray} {ret' : Option FieldType} {rm : Room} {As : List Value} {r : vw_C} {Post : Option Value → zT → zF → Prop} (hM : z_Mt l D cA N0 zE y bytes maxL ret' rm (.ref b :: As) T F Post) (f : z_okN own index host y bytes maxL ret' n) (hi : Cond.instanceMethod y ∈ zG) (hse : Cond.selects r.1 y y ∈ zG)
    (hT : T b = some (ci, N)) (hci : ci < 100) (hc : vwCl[ci]? = some r) (hn : As.length = n) (hR : rm.frames + 1 ≤ R.frames ∧ 8 + (maxL + 11) + rm.locals ≤ R.locals) (hf : cells + rm.cells ≤ R.cells ∧ slots + rm.slots ≤ R.slots) (hW : (st.map fun v => v.category).sum ≤ 8) (hdg : decode cc pc = .ok (.invokevirtual index, 3))
    (kk : ∀ (v : Option Value) (T' : zT) (F' : zF), Post v T' F' → z_w p l e R s m args below meth c D cA N0 nL (cells + rm.cells) (slots + rm.slots) Q (pc + 3) lo (v.toList ++ st) T' F') : z_w p l e R s m args below meth c D cA N0 nL cells slots Q pc lo (As.reverse ++ .ref b :: st) T F := by
  intro H locs ls hP hS hL T0 hT0 X
  obtain ⟨hx, hb, hml, hown, hts, hK, -⟩ := id C
  obtain ⟨f1, f2, f3, f4, f5⟩ := f
  obtain ⟨v, st₀, t, T', L, h0, X', hL', e1, e2, ⟨w, T1, F1, hv, hp, hP1, hF⟩, stp⟩ := va_runVN (Ts := zG) (C := r.1) (host := host) ⟨hx, hb, hml, hown, hts⟩ hM ⟨⟨⟨rfl, rfl, hR.1, hR.2, z_ws hts f1, List.mem_cons_self⟩, hts _ f1, hts _ f3, f4, z_len f5, hts _ f2⟩, hts _ hi, hts _ hse⟩ ⟨z_blind, z_obj hP hK hT hci hc, fun U hU hW => z_pre hP hS hK U hU hW⟩ rfl hn hL.1 rfl (lv_room hW) hdg hf T0 hT0 X
  cases hv
  obtain ⟨t2, a1, b1⟩ := kk v T1 F1 hp T'.heap (locs ++ L) ls (by rw [e1]; exact hP1) (z_back h0 e1 hS hL' hF) hL T' rfl X'
  exact ⟨t2, stp t2 a1, b1⟩
theorem zr_callS (C : z_C p l s m args meth c own cc nL ret D cA N0 zE) {index n maxL : Nat} {y : MethodName} {bytes : ByteArray} {ret' : Option FieldType} {rm : Room} {As : List Value} {Post : Option Value → zT → zF → Prop} (hM : z_Mt l D cA N0 zE y bytes maxL ret' rm As T F Post) (f : z_ok own index y bytes maxL ret' n) (hi : Cond.static y ∈ zG)
    (hn : As.length = n) (hR : rm.frames + 1 ≤ R.frames ∧ 8 + (maxL + 11) + rm.locals ≤ R.locals) (hf : cells + rm.cells ≤ R.cells ∧ slots + rm.slots ≤ R.slots) (hW : (st.map fun v => v.category).sum ≤ 8) (hdg : decode cc pc = .ok (.invokestatic index, 3))
    (kk : ∀ (v : Option Value) (T' : zT) (F' : zF), Post v T' F' → z_w p l e R s m args below meth c D cA N0 nL (cells + rm.cells) (slots + rm.slots) Q (pc + 3) lo (v.toList ++ st) T' F') : z_w p l e R s m args below meth c D cA N0 nL cells slots Q pc lo (As.reverse ++ st) T F := by
  intro H locs ls hP hS hL T0 hT0 X
  obtain ⟨hx, hb, hml, hown, hts, hK, -⟩ := id C
  obtain ⟨f1, f2, f3, f4, f5⟩ := f
  obtain ⟨v, st₀, t, T', L, h0, X', hL', e1, e2, ⟨w, T1, F1, hv, hp, hP1, hF⟩, stp⟩ := va_runS (Ts := zG) ⟨hx, hb, hml, hown, hts⟩ hM ⟨⟨rfl, rfl, hR.1, hR.2, z_ws hts f1, List.mem_cons_self, hts _ f1, hts _ f3, f4, z_len f5, hts _ f2⟩, hts _ hi⟩ ⟨z_blind, fun U hU hW => z_pre hP hS hK U hU hW⟩ rfl hn hL.1 rfl (lv_room hW) hdg hf T0 hT0 X
  cases hv
  obtain ⟨t2, a1, b1⟩ := kk v T1 F1 hp T'.heap (locs ++ L) ls (by rw [e1]; exact hP1) (z_back h0 e1 hS hL' hF) hL T' rfl X'
  exact ⟨t2, stp t2 a1, b1⟩
theorem zr_callI (C : z_C p l s m args meth c own cc nL ret D cA N0 zE) {index n b maxL : Nat} {y : MethodName} {bytes : ByteArray} {rm : Room} {As : List Value} {Post : Option Value → zT → zF → Prop} (hM : z_Mt l D cA N0 zE y bytes maxL none rm (.ref b :: As) T F Post) (f : z_ok own index y bytes maxL none n) (hi : Cond.instanceMethod y ∈ zG) (hnm : y.name = "<init>")
    (hn : As.length = n) (hR : rm.frames + 1 ≤ R.frames ∧ 8 + (maxL + 11) + rm.locals ≤ R.locals) (hf : cells + rm.cells ≤ R.cells ∧ slots + rm.slots ≤ R.slots) (hW : (st.map fun v => v.category).sum ≤ 8) (hdg : decode cc pc = .ok (.invokespecial index, 3))
    (kk : ∀ (v : Option Value) (T' : zT) (F' : zF), Post v T' F' → z_w p l e R s m args below meth c D cA N0 nL (cells + rm.cells) (slots + rm.slots) Q (pc + 3) lo (v.toList ++ st) T' F') : z_w p l e R s m args below meth c D cA N0 nL cells slots Q pc lo (As.reverse ++ .ref b :: st) T F := by
  intro H locs ls hP hS hL T0 hT0 X
  obtain ⟨hx, hb, hml, hown, hts, hK, -⟩ := id C
  obtain ⟨f1, f2, f3, f4, f5⟩ := f
  obtain ⟨v, st₀, t, T', L, h0, X', hL', e1, e2, ⟨w, T1, F1, hv, hp, hP1, hF⟩, stp⟩ := va_runI (Ts := zG) ⟨hx, hb, hml, hown, hts⟩ hM ⟨⟨rfl, rfl, hR.1, hR.2, z_ws hts f1, List.mem_cons_self, hts _ f1, hts _ f3, f4, z_len f5, hts _ f2⟩, hnm, hts _ hi⟩ ⟨z_blind, fun U hU hW => z_pre hP hS hK U hU hW⟩ rfl hn hL.1 rfl (lv_room hW) hdg hf T0 hT0 X
  cases hv
  obtain ⟨t2, a1, b1⟩ := kk v T1 F1 hp T'.heap (locs ++ L) ls (by rw [e1]; exact hP1) (z_back h0 e1 hS hL' hF) hL T' rfl X'
  exact ⟨t2, stp t2 a1, b1⟩
theorem zr_callIN (C : z_C p l s m args meth c own cc nL ret D cA N0 zE) {index n b maxL : Nat} {host : String} {y : MethodName} {bytes : ByteArray} {rm : Room} {As : List Value} {Post : Option Value → zT → zF → Prop} (hM : z_Mt l D cA N0 zE y bytes maxL none rm (.ref b :: As) T F Post) (f : z_okN own index host y bytes maxL none n) (hi : Cond.instanceMethod y ∈ zG) (hnm : y.name = "<init>")
    (hn : As.length = n) (hR : rm.frames + 1 ≤ R.frames ∧ 8 + (maxL + 11) + rm.locals ≤ R.locals) (hf : cells + rm.cells ≤ R.cells ∧ slots + rm.slots ≤ R.slots) (hW : (st.map fun v => v.category).sum ≤ 8) (hdg : decode cc pc = .ok (.invokespecial index, 3))
    (kk : ∀ (v : Option Value) (T' : zT) (F' : zF), Post v T' F' → z_w p l e R s m args below meth c D cA N0 nL (cells + rm.cells) (slots + rm.slots) Q (pc + 3) lo (v.toList ++ st) T' F') : z_w p l e R s m args below meth c D cA N0 nL cells slots Q pc lo (As.reverse ++ .ref b :: st) T F := by
  intro H locs ls hP hS hL T0 hT0 X
  obtain ⟨hx, hb, hml, hown, hts, hK, -⟩ := id C
  obtain ⟨f1, f2, f3, f4, f5⟩ := f
  obtain ⟨v, st₀, t, T', L, h0, X', hL', e1, e2, ⟨w, T1, F1, hv, hp, hP1, hF⟩, stp⟩ := va_runIN (Ts := zG) (host := host) ⟨hx, hb, hml, hown, hts⟩ hM ⟨⟨⟨rfl, rfl, hR.1, hR.2, z_ws hts f1, List.mem_cons_self⟩, hts _ f1, hts _ f3, f4, z_len f5, hts _ f2⟩, hnm, hts _ hi⟩ ⟨z_blind, fun U hU hW => z_pre hP hS hK U hU hW⟩ rfl hn hL.1 rfl (lv_room hW) hdg hf T0 hT0 X
  cases hv
  obtain ⟨t2, a1, b1⟩ := kk v T1 F1 hp T'.heap (locs ++ L) ls (by rw [e1]; exact hP1) (z_back h0 e1 hS hL' hF) hL T' rfl X'
  exact ⟨t2, stp t2 a1, b1⟩
theorem zr_callVX (C : z_C p l s m args meth c own cc nL ret D cA N0 zE) {index n ci N b maxL : Nat} {y : MethodName} {bytes : ByteArray} {ret' : Option FieldType} {rm : Room} {As : List Value} {r : vw_C} {Post : Option Value → zT → zF → Prop} {PX : String → zT → zF → Prop} (hM : z_Met l D cA N0 zE y bytes maxL ret' rm (.ref b :: As) T F Post PX) (f : z_ok own index y bytes maxL ret' n) (hi : Cond.instanceMethod y ∈ zG) (hse : Cond.selects r.1 y y ∈ zG)
    (hT : T b = some (ci, N)) (hci : ci < 100) (hc : vwCl[ci]? = some r) (hn : As.length = n) (hR : rm.frames + 1 ≤ R.frames ∧ 8 + (maxL + 11) + rm.locals ≤ R.locals) (hf : cells + rm.cells ≤ R.cells ∧ slots + rm.slots ≤ R.slots) (hW : (st.map fun v => v.category).sum ≤ 8) (hdg : decode cc pc = .ok (.invokevirtual index, 3))
    (kx : ∀ (E : String) (T' : zT) (F' : zF), PX E T' F' → z_x p l e R s m args below meth c D cA N0 nL (cells + rm.cells) (slots + rm.slots) Q pc lo st E T' F')
    (kk : ∀ (v : Option Value) (T' : zT) (F' : zF), Post v T' F' → z_w p l e R s m args below meth c D cA N0 nL (cells + rm.cells) (slots + rm.slots) Q (pc + 3) lo (v.toList ++ st) T' F') : z_w p l e R s m args below meth c D cA N0 nL cells slots Q pc lo (As.reverse ++ .ref b :: st) T F := by
  intro H locs ls hP hS hL T0 hT0 X
  obtain ⟨hx, hb, hml, hown, hts, hK, -⟩ := id C
  obtain ⟨f1, f2, f3, f4, f5⟩ := f
  rcases vx_runV (Ts := zG) (C := r.1) ⟨hx, hb, hml, hown, hts⟩ hM ⟨⟨rfl, rfl, hR.1, hR.2, z_ws hts f1, List.mem_cons_self, hts _ f1, hts _ f3, f4, z_len f5, hts _ f2⟩, hts _ hi, hts _ hse⟩ ⟨z_blind, z_obj hP hK hT hci hc, fun U hU hW => z_pre hP hS hK U hU hW⟩ rfl hn hL.1 rfl (lv_room hW) hdg hf T0 hT0 X with ⟨v, st₀, t, T', L, h0, X', hL', e1, e2, ⟨w, T1, F1, hv, hp, hP1, hF⟩, stp⟩ | ⟨q, st₀, t, T', L, E, ce, h0, X', hL', e1, e2, ⟨T1, F1, hp, hP1, hF⟩, hce, hcv, hcl, stp⟩
  · cases hv
    obtain ⟨t2, a1, b1⟩ := kk v T1 F1 hp T'.heap (locs ++ L) ls (by rw [e1]; exact hP1) (z_back h0 e1 hS hL' hF) hL T' rfl X'
    exact ⟨t2, stp t2 a1, b1⟩
  · obtain ⟨t2, a1, b1⟩ := kx E T1 F1 hp T'.heap (locs ++ L) ls ce q (by rw [e1]; exact hP1) (z_back h0 e1 hS hL' hF) hL (by rw [e1]; exact hce) hcv hcl T' rfl X'
    exact ⟨t2, stp.trans a1, b1⟩
theorem zr_callSX (C : z_C p l s m args meth c own cc nL ret D cA N0 zE) {index n maxL : Nat} {y : MethodName} {bytes : ByteArray} {ret' : Option FieldType} {rm : Room} {As : List Value} {Post : Option Value → zT → zF → Prop} {PX : String → zT → zF → Prop} (hM : z_Met l D cA N0 zE y bytes maxL ret' rm As T F Post PX) (f : z_ok own index y bytes maxL ret' n) (hi : Cond.static y ∈ zG)
    (hn : As.length = n) (hR : rm.frames + 1 ≤ R.frames ∧ 8 + (maxL + 11) + rm.locals ≤ R.locals) (hf : cells + rm.cells ≤ R.cells ∧ slots + rm.slots ≤ R.slots) (hW : (st.map fun v => v.category).sum ≤ 8) (hdg : decode cc pc = .ok (.invokestatic index, 3))
    (kx : ∀ (E : String) (T' : zT) (F' : zF), PX E T' F' → z_x p l e R s m args below meth c D cA N0 nL (cells + rm.cells) (slots + rm.slots) Q pc lo st E T' F')
    (kk : ∀ (v : Option Value) (T' : zT) (F' : zF), Post v T' F' → z_w p l e R s m args below meth c D cA N0 nL (cells + rm.cells) (slots + rm.slots) Q (pc + 3) lo (v.toList ++ st) T' F') : z_w p l e R s m args below meth c D cA N0 nL cells slots Q pc lo (As.reverse ++ st) T F := by
  intro H locs ls hP hS hL T0 hT0 X
  obtain ⟨hx, hb, hml, hown, hts, hK, -⟩ := id C
  obtain ⟨f1, f2, f3, f4, f5⟩ := f
  rcases vx_runS (Ts := zG) ⟨hx, hb, hml, hown, hts⟩ hM ⟨⟨rfl, rfl, hR.1, hR.2, z_ws hts f1, List.mem_cons_self, hts _ f1, hts _ f3, f4, z_len f5, hts _ f2⟩, hts _ hi⟩ ⟨z_blind, fun U hU hW => z_pre hP hS hK U hU hW⟩ rfl hn hL.1 rfl (lv_room hW) hdg hf T0 hT0 X with ⟨v, st₀, t, T', L, h0, X', hL', e1, e2, ⟨w, T1, F1, hv, hp, hP1, hF⟩, stp⟩ | ⟨q, st₀, t, T', L, E, ce, h0, X', hL', e1, e2, ⟨T1, F1, hp, hP1, hF⟩, hce, hcv, hcl, stp⟩
  · cases hv
    obtain ⟨t2, a1, b1⟩ := kk v T1 F1 hp T'.heap (locs ++ L) ls (by rw [e1]; exact hP1) (z_back h0 e1 hS hL' hF) hL T' rfl X'
    exact ⟨t2, stp t2 a1, b1⟩
  · obtain ⟨t2, a1, b1⟩ := kx E T1 F1 hp T'.heap (locs ++ L) ls ce q (by rw [e1]; exact hP1) (z_back h0 e1 hS hL' hF) hL (by rw [e1]; exact hce) hcv hcl T' rfl X'
    exact ⟨t2, stp.trans a1, b1⟩
/-! ends -/
theorem zr_iret (C : z_C p l s m args meth c own cc nL ret D cA N0 zE) {v : Int32} {mc ms : Nat} {Post : Option Value → zT → zF → Prop} (hr : ret = some .int) (hp : Post (some (.int v)) T F) (hc1 : cells ≤ mc) (hs1 : slots ≤ ms) (hdg : decode cc pc = .ok (.ireturn, 1)) : z_w p l e R s m args below meth c D cA N0 nL cells slots (MQ below (z_Qc D cA N0 Post) args s mc ms (fun q => N0 ≤ q)) pc lo [.int v] T F :=
  fun H locs ls hP hS hL => W.widen hc1 hs1 (W.iret C.1 C.2.1 (by rw [C.2.2.2.2.2.2.2, hr]) (fun t ht hW => ⟨_, T, F, rfl, hp, by rw [ht]; exact hP, hS.F ht⟩) hS.2.2 hdg C.2.2.2.2.2.2.1)
theorem zr_zret (C : z_C p l s m args meth c own cc nL ret D cA N0 zE) {v : Int32} {mc ms : Nat} {Post : Option Value → zT → zF → Prop} (hr : ret = some .boolean) (hv : v = 0 ∨ v = 1) (hp : Post (some (.int v)) T F) (hc1 : cells ≤ mc) (hs1 : slots ≤ ms) (hdg : decode cc pc = .ok (.ireturn, 1)) : z_w p l e R s m args below meth c D cA N0 nL cells slots (MQ below (z_Qc D cA N0 Post) args s mc ms (fun q => N0 ≤ q)) pc lo [.int v] T F :=
  fun H locs ls hP hS hL => W.widen hc1 hs1 (W.zret C.1 C.2.1 (by rw [C.2.2.2.2.2.2.2, hr]) (by rcases hv with rfl | rfl <;> rfl) (fun t ht hW => ⟨_, T, F, rfl, hp, by rw [ht]; exact hP, hS.F ht⟩) hS.2.2 hdg C.2.2.2.2.2.2.1)
theorem zr_lret (C : z_C p l s m args meth c own cc nL ret D cA N0 zE) {v : Int64} {mc ms : Nat} {Post : Option Value → zT → zF → Prop} (hr : ret = some .long) (hp : Post (some (.long v)) T F) (hc1 : cells ≤ mc) (hs1 : slots ≤ ms) (hdg : decode cc pc = .ok (.lreturn, 1)) : z_w p l e R s m args below meth c D cA N0 nL cells slots (MQ below (z_Qc D cA N0 Post) args s mc ms (fun q => N0 ≤ q)) pc lo [.long v] T F :=
  fun H locs ls hP hS hL => W.widen hc1 hs1 (W.lret C.1 C.2.1 (by rw [C.2.2.2.2.2.2.2, hr]) (fun t ht hW => ⟨_, T, F, rfl, hp, by rw [ht]; exact hP, hS.F ht⟩) hS.2.2 hdg C.2.2.2.2.2.2.1)
theorem zr_vret (C : z_C p l s m args meth c own cc nL ret D cA N0 zE) {mc ms : Nat} {Post : Option Value → zT → zF → Prop} (hr : ret = none) (hp : Post none T F) (hc1 : cells ≤ mc) (hs1 : slots ≤ ms) (hdg : decode cc pc = .ok (.return_, 1)) : z_w p l e R s m args below meth c D cA N0 nL cells slots (MQ below (z_Qc D cA N0 Post) args s mc ms (fun q => N0 ≤ q)) pc lo [] T F :=
  fun H locs ls hP hS hL => W.widen hc1 hs1 (W.vret C.1 C.2.1 (by rw [C.2.2.2.2.2.2.2, hr]) (fun t ht hW => ⟨_, T, F, rfl, hp, by rw [ht]; exact hP, hS.F ht⟩) hS.2.2 hdg C.2.2.2.2.2.2.1)
theorem zr_aret (C : z_C p l s m args meth c own cc nL ret D cA N0 zE) {v : Value} {rt : FieldType} {mc ms : Nat} {Post : Option Value → zT → zF → Prop} (hr : ret = some rt) (hrt : (∃ n, rt = .object n) ∨ ∃ t, rt = .array t) (hv : v = .null ∨ ∃ a, v = .ref a) (hp : Post (some v) T F) (hc1 : cells ≤ mc) (hs1 : slots ≤ ms) (hdg : decode cc pc = .ok (.areturn, 1)) : z_w p l e R s m args below meth c D cA N0 nL cells slots (MQ below (z_Qc D cA N0 Post) args s mc ms (fun q => N0 ≤ q)) pc lo [v] T F :=
  fun H locs ls hP hS hL => W.widen hc1 hs1 (W.aret C.1 C.2.1 (by rw [C.2.2.2.2.2.2.2, hr]) hrt hv (fun t ht hW => ⟨_, T, F, rfl, hp, by rw [ht]; exact hP, hS.F ht⟩) hS.2.2 hdg C.2.2.2.2.2.2.1)
/-- a body that may throw ends by returning -/
theorem zr_X {XC : String → State → State → Prop} {Qc : Array Value → State → Outcome → State → Prop} {mc ms : Nat} {free : Addr → Prop} (k : z_w p l e R s m args below meth c D cA N0 nL cells slots (MQ below Qc args s mc ms free) pc lo st T F) : z_w p l e R s m args below meth c D cA N0 nL cells slots (vx_MQ below Qc XC args s mc ms free) pc lo st T F :=
  fun H locs ls hP hS hL => vx_ret (k H locs ls hP hS hL)
theorem zr_out (C : z_C p l s m args meth c own cc nL ret D cA N0 zE) {E : String} {mc ms : Nat} {Qc : Array Value → State → Outcome → State → Prop} {PX : String → zT → zF → Prop} (hxt : ∀ x ∈ c.exceptionTable.toList, covers x pc = false) (hp : PX E T F) (hc1 : cells ≤ mc) (hs1 : slots ≤ ms) : z_x p l e R s m args below meth c D cA N0 nL cells slots (vx_MQ below Qc (z_XC D cA N0 PX) args s mc ms (fun q => N0 ≤ q)) pc lo st E T F :=
  fun H locs ls ce q hP hS hL h1 h2 h3 => vx_out hxt C.2.2.2.2.2.2.1 h1 h2 h3 (fun t ht _ => ⟨T, F, hp, by rw [ht]; exact hP, hS.F ht⟩) hS.2.2 hc1 hs1
def z_thr (own : String) (ik ic is : Nat) (cls text : String) (names : List String) : Prop := Bundle.fit cls = true ∧ (∀ n ∈ names, Bundle.fit n = true) ∧ Cond.classLink own ik cls ∈ zG ∧ Cond.initialized cls ∈ zG ∧ (own, is, text) ∈ z_strs ∧ (∀ w ∈ vx_atS own ic cls names, w ∈ zG) ∧ (∀ w ∈ Cond.classLink own ik cls :: Cond.initialized cls :: vx_atS own ic cls names, vx_ot w = true)
theorem zr_throw (C : z_C p l s m args meth c own cc nL ret D cA N0 zE) {cls text : String} {names : List String} {ik ic is mc ms : Nat} {Qc : Array Value → State → Outcome → State → Prop} {PX : String → zT → zF → Prop} (f : z_thr own ik ic is cls text names) (hxt : ∀ x ∈ c.exceptionTable.toList, covers x (pc + 9) = false) (hp : PX cls T F)
    (d0 : decode cc pc = .ok (.new ik, 3)) (d3 : decode cc (pc + 3) = .ok (.dup, 1)) (d4 : decode cc (pc + 4) = .ok (.ldc is, 2)) (d6 : decode cc (pc + 6) = .ok (.invokespecial ic, 3)) (d9 : decode cc (pc + 9) = .ok (.athrow, 1))
    (hRf : names.length + 3 < R.frames) (hRl : (st.map fun v => v.category).sum + (13 * (names.length + 1) + 43) ≤ R.locals) (hRc : cells + 1 ≤ R.cells ∧ slots + 6 ≤ R.slots) (hm : cells + 1 ≤ mc ∧ slots + 6 ≤ ms) : z_w p l e R s m args below meth c D cA N0 nL cells slots (vx_MQ below Qc (z_XC D cA N0 PX) args s mc ms (fun q => N0 ≤ q)) pc lo st T F := by
  intro H locs ls hP hS hL
  obtain ⟨hx, hb, hml, hown, hts, hK, hlk, -⟩ := id C
  obtain ⟨f1, f2, f3, f4, f5, f6, f7⟩ := f
  obtain ⟨sa, hsa⟩ := hK.2.2.2.2.2.2.2.1 _ f5
  exact vx_throwS hx hb hK.1 hown f1 f2 (hts _ f3) (hts _ f4) hsa (fun w hw => hts w (f6 w hw)) f7 hK.2.2.2.2.2.1 hK.2.2.2.2.2.2.1 hS (by rw [hml]; exact hL.1) d0 d3 d4 d6 d9 hxt hRf hRl hRc.1 hRc.2 hlk (fun t _ h1 h2 => ⟨T, F, hp, hP.kept (fun q hq => h2 q hq), ⟨Nat.le_trans hS.1 h1, fun q h3 h4 => (h2 q (Nat.lt_of_lt_of_le h3 hS.1)).trans (hS.2.1 q h3 h4)⟩⟩) hS.2.2 hm.1 hm.2
theorem zr_throwW (C : z_C p l s m args meth c own cc nL ret D cA N0 zE) {cls text : String} {names : List String} {ik ic is mc ms : Nat} {Qc : Array Value → State → Outcome → State → Prop} {PX : String → zT → zF → Prop} (f : z_thr own ik ic is cls text names) (hxt : ∀ x ∈ c.exceptionTable.toList, covers x (pc + 10) = false) (hp : PX cls T F)
    (d0 : decode cc pc = .ok (.new ik, 3)) (d3 : decode cc (pc + 3) = .ok (.dup, 1)) (d4 : decode cc (pc + 4) = .ok (.ldc_w is, 3)) (d7 : decode cc (pc + 7) = .ok (.invokespecial ic, 3)) (d10 : decode cc (pc + 10) = .ok (.athrow, 1))
    (hRf : names.length + 3 < R.frames) (hRl : (st.map fun v => v.category).sum + (13 * (names.length + 1) + 43) ≤ R.locals) (hRc : cells + 1 ≤ R.cells ∧ slots + 6 ≤ R.slots) (hm : cells + 1 ≤ mc ∧ slots + 6 ≤ ms) : z_w p l e R s m args below meth c D cA N0 nL cells slots (vx_MQ below Qc (z_XC D cA N0 PX) args s mc ms (fun q => N0 ≤ q)) pc lo st T F := by
  intro H locs ls hP hS hL
  obtain ⟨hx, hb, hml, hown, hts, hK, hlk, -⟩ := id C
  obtain ⟨f1, f2, f3, f4, f5, f6, f7⟩ := f
  obtain ⟨sa, hsa⟩ := hK.2.2.2.2.2.2.2.1 _ f5
  exact vx_throwSW hx hb hK.1 hown f1 f2 (hts _ f3) (hts _ f4) hsa (fun w hw => hts w (f6 w hw)) f7 hK.2.2.2.2.2.1 hK.2.2.2.2.2.2.1 hS (by rw [hml]; exact hL.1) d0 d3 d4 d7 d10 hxt hRf hRl hRc.1 hRc.2 hlk (fun t _ h1 h2 => ⟨T, F, hp, hP.kept (fun q hq => h2 q hq), ⟨Nat.le_trans hS.1 h1, fun q h3 h4 => (h2 q (Nat.lt_of_lt_of_le h3 hS.1)).trans (hS.2.1 q h3 h4)⟩⟩) hS.2.2 hm.1 hm.2
end ZR
section ZR5
variable {p : Program} {l : Launch} {e : Env} {R : Room} {s : State} {m : MethodId} {args : Array Value} {below : List Frame} {meth : Method} {c : Code} {Q : State → Prop}
variable {D : va_G} {cA : Nat → ClassId} {N0 zE nL cells slots pc : Nat} {own : String} {cc : ByteArray} {ret : Option FieldType} {T : zT} {F : zF} {lo lo' : List (Nat × Value)} {st : List Value}
theorem zr_eqi {x y : Int32} (h : x = y) (k : z_w p l e R s m args below meth c D cA N0 nL cells slots Q pc lo (.int y :: st) T F) : z_w p l e R s m args below meth c D cA N0 nL cells slots Q pc lo (.int x :: st) T F := h ▸ k
theorem zr_lald (C : z_C p l s m args meth c own cc nL ret D cA N0 zE) {a n : Nat} {i : Int32} {x : Int64} (hj : z_tys[3]? = some .long) (hT : T a = some (103, n)) (hin : vp_in i n) (hv : F a i.toNatClampNeg = .long x) (hdg : decode cc pc = .ok (.laload, 1))
    (kk : z_w p l e R s m args below meth c D cA N0 nL cells slots Q (pc + 1) lo (.long x :: st) T F) : z_w p l e R s m args below meth c D cA N0 nL cells slots Q pc lo (.int i :: .ref a :: st) T F := by
  intro H locs ls hP hS hL
  have hlt : i.toNatClampNeg < n := Nat.not_le.mp fun q => hin (Or.inr q)
  exact W.lald C.1 C.2.1 (z_arr hP hT (by decide) (by omega) (by decide)) ((C.2.2.2.2.2.1.2.2.2.1 _ _ hj).1 n (F a)) (fun q => by cases q) (by rw [arrV_size]; exact hin) (by rw [arrV_read _ _ hlt, hv]) rfl rfl hdg (kk H locs ls hP hS hL)
theorem zr_last (C : z_C p l s m args meth c own cc nL ret D cA N0 zE) {a n : Nat} {i : Int32} {x : Int64} (hj : z_tys[3]? = some .long) (hT : T a = some (103, n)) (hin : vp_in i n) (hdg : decode cc pc = .ok (.lastore, 1))
    (kk : z_w p l e R s m args below meth c D cA N0 nL cells slots Q (pc + 1) lo st T (zu F a i.toNatClampNeg (.long x))) : z_w p l e R s m args below meth c D cA N0 nL cells slots Q pc lo (.long x :: .int i :: .ref a :: st) T F := by
  intro H locs ls hP hS hL
  have hlt : i.toNatClampNeg < n := Nat.not_le.mp fun q => hin (Or.inr q)
  refine W.last C.1 C.2.1 (z_arr hP hT (by decide) (by omega) (by decide)) ((C.2.2.2.2.2.1.2.2.2.1 _ _ hj).1 n (F a)) (fun q => by cases q) (by rw [arrV_size]; exact hin) rfl rfl hdg fun H1 e1 z1 oq => ?_
  exact kk H1 _ ls (z_st hP hT (by decide) e1 oq) (hS.put z1 oq (z_arrN hP hT (by omega))) hL
theorem zr_iald4 (C : z_C p l s m args meth c own cc nL ret D cA N0 zE) {a n : Nat} {i x : Int32} (hj : z_tys[4]? = some .int) (hT : T a = some (104, n)) (hin : vp_in i n) (hv : F a i.toNatClampNeg = .int x) (hdg : decode cc pc = .ok (.iaload, 1))
    (kk : z_w p l e R s m args below meth c D cA N0 nL cells slots Q (pc + 1) lo (.int x :: st) T F) : z_w p l e R s m args below meth c D cA N0 nL cells slots Q pc lo (.int i :: .ref a :: st) T F := by
  intro H locs ls hP hS hL
  have hlt : i.toNatClampNeg < n := Nat.not_le.mp fun q => hin (Or.inr q)
  obtain ⟨cl, g1, g2, g3, g4, g5⟩ := z_arrG hP hT (by decide) (C.2.2.2.2.2.1.2.2.2.1 4 _ hj).1
  exact W.iald (v := .int x) C.1 C.2.1 g1 g2 g5 (by rw [g3]; exact hin) (by rw [g4 _ hlt, hv]) rfl rfl hdg (kk H locs ls hP hS hL)
theorem zr_dconst (C : z_C p l s m args meth c own cc nL ret D cA N0 zE) (hdg : decode cc pc = .ok (.dconst 0, 1)) (k : z_w p l e R s m args below meth c D cA N0 nL cells slots Q (pc + 1) lo (.double FP.dconst0 :: st) T F) : z_w p l e R s m args below meth c D cA N0 nL cells slots Q pc lo st T F :=
  fun H locs ls hP hS hL => lv_dconst0 C.1 C.2.1 hdg (k H locs ls hP hS hL)
theorem zr_dload_n (C : z_C p l s m args meth c own cc nL ret D cA N0 zE) {n : Fin 4} {x : UInt64} (j : Nat) {i : Nat} (hdg : decode cc pc = .ok (.dload_n n, 1)) (hi : (n : Nat) = i) (hl : lo[j]? = some (i, .double x)) (k : z_w p l e R s m args below meth c D cA N0 nL cells slots Q (pc + 1) lo (.double x :: st) T F) : z_w p l e R s m args below meth c D cA N0 nL cells slots Q pc lo st T F :=
  fun H locs ls hP hS hL => lv_dload_n C.1 C.2.1 hdg hi (lv_at hL j hl) (k H locs ls hP hS hL)
theorem zr_dload (C : z_C p l s m args meth c own cc nL ret D cA N0 zE) {x : UInt64} (j : Nat) {i : Nat} (hdg : decode cc pc = .ok (.dload i, 2)) (hl : lo[j]? = some (i, .double x)) (k : z_w p l e R s m args below meth c D cA N0 nL cells slots Q (pc + 2) lo (.double x :: st) T F) : z_w p l e R s m args below meth c D cA N0 nL cells slots Q pc lo st T F :=
  fun H locs ls hP hS hL => lv_dload C.1 C.2.1 hdg (lv_at hL j hl) (k H locs ls hP hS hL)
theorem zr_dstore_n (C : z_C p l s m args meth c own cc nL ret D cA N0 zE) (lo' : List (Nat × Value)) {n : Fin 4} {i : Nat} {x : UInt64} (hdg : decode cc pc = .ok (.dstore_n n, 1)) (hi : (n : Nat) = i) (hn : i + 1 < nL) (hl : (i, Value.double x) :: lo.filter (fun q => !(q.1 == i) && (!(q.1 == i + 1) && !(q.1 + 1 == i && q.2.category == 2))) = lo') (k : z_w p l e R s m args below meth c D cA N0 nL cells slots Q (pc + 1) lo' st T F) : z_w p l e R s m args below meth c D cA N0 nL cells slots Q pc lo (.double x :: st) T F :=
  fun H locs ls hP hS hL => lv_dstore_n C.1 C.2.1 hdg hi hL hn hl (fun ls hl => k H locs ls hP hS hl)
theorem zr_dstore (C : z_C p l s m args meth c own cc nL ret D cA N0 zE) (lo' : List (Nat × Value)) {i : Nat} {x : UInt64} (hdg : decode cc pc = .ok (.dstore i, 2)) (hn : i + 1 < nL) (hl : (i, Value.double x) :: lo.filter (fun q => !(q.1 == i) && (!(q.1 == i + 1) && !(q.1 + 1 == i && q.2.category == 2))) = lo') (k : z_w p l e R s m args below meth c D cA N0 nL cells slots Q (pc + 2) lo' st T F) : z_w p l e R s m args below meth c D cA N0 nL cells slots Q pc lo (.double x :: st) T F :=
  fun H locs ls hP hS hL => lv_dstore C.1 C.2.1 hdg hL hn hl (fun ls hl => k H locs ls hP hS hl)
theorem zr_dcmp (C : z_C p l s m args meth c own cc nL ret D cA N0 zE) {x y : UInt64} {op : CmpOp} (hdg : decode cc pc = .ok (.dcmp op, 1)) (k : z_w p l e R s m args below meth c D cA N0 nL cells slots Q (pc + 1) lo (.int (Op.cmpValue (FP.dcmp x y) op) :: st) T F) : z_w p l e R s m args below meth c D cA N0 nL cells slots Q pc lo (.double y :: .double x :: st) T F :=
  fun H locs ls hP hS hL => lv_dcmp C.1 C.2.1 hdg (k H locs ls hP hS hL)
theorem zr_dret (C : z_C p l s m args meth c own cc nL ret D cA N0 zE) {v : UInt64} {mc ms : Nat} {Post : Option Value → zT → zF → Prop} (hr : ret = some .double) (hp : Post (some (.double v)) T F) (hc1 : cells ≤ mc) (hs1 : slots ≤ ms) (hdg : decode cc pc = .ok (.dreturn, 1)) : z_w p l e R s m args below meth c D cA N0 nL cells slots (MQ below (z_Qc D cA N0 Post) args s mc ms (fun q => N0 ≤ q)) pc lo [.double v] T F :=
  fun H locs ls hP hS hL => W.widen hc1 hs1 (W.dret C.1 C.2.1 (by rw [C.2.2.2.2.2.2.2, hr]) (fun t ht hW => ⟨_, T, F, rfl, hp, by rw [ht]; exact hP, hS.F ht⟩) hS.2.2 hdg C.2.2.2.2.2.2.1)
/-- an exception that a row of the table takes -/
theorem zr_catch (C : z_C p l s m args meth c own cc nL ret D cA N0 zE) {E : String} (name : String) (tb pre : List ExceptionTableEntry) (x : ExceptionTableEntry) (suf : List ExceptionTableEntry) (tgt : Nat) (hxt : c.exceptionTable.toList = tb) (hsplit : tb = pre ++ x :: suf)
    (hpass : ∀ z ∈ pre, covers z pc = false ∨ (z.catchType ≠ 0 ∧ ∃ nm : String, Cond.classLink own z.catchType nm ∈ zG ∧ (E, nm) ∈ z_ncs)) (hx : covers x pc = true) (h0 : x.catchType ≠ 0) (hw : Cond.classLink own x.catchType name ∈ zG) (hw2 : Cond.castable E name ∈ zG) (ht : x.handlerPc = tgt)
    (kk : ∀ q : Nat, z_w p l e R s m args below meth c D cA N0 nL cells slots Q tgt lo [.ref q] T F) : z_x p l e R s m args below meth c D cA N0 nL cells slots Q pc lo st E T F := by
  intro H locs ls ce q hP hS hL h1 h2 h3
  subst ht
  exact vx_catch C.2.2.2.1 pre x suf (hxt.trans hsplit) (fun z hz => (hpass z hz).imp id fun g => ⟨g.1, g.2.imp fun nm g2 => ⟨C.2.2.2.2.1 _ g2.1, C.2.2.2.2.2.1.2.2.2.2.2.2.2.2.1 _ g2.2⟩⟩) hx h0 (C.2.2.2.2.1 _ hw) (C.2.2.2.2.1 _ hw2) h1 h2 h3 (kk q H locs ls hP hS hL)
/-! a method with a table of handlers -/
def z_MH (l : Launch) (D : va_G) (cA : Nat → ClassId) (N0 zE : Nat) (y : MethodName) (cc : ByteArray) (maxL : Nat) (ret : Option FieldType) (hh : List (Nat × Nat × Nat × Nat)) (rm : Room) (as : List Value) (T : zT) (F : zF) (Post : Option Value → zT → zF → Prop) (PX : String → zT → zF → Prop) : Prop :=
  vx_Met l y (Cond.codeWith y cc maxL ret hh :: zG) rm (z_Pc l D cA N0 zE as T F) (z_Qc D cA N0 Post) (z_XC D cA N0 PX) rm.cells rm.slots (fun q => N0 ≤ q)
theorem z_bodyH {l : Launch} {D : va_G} {cA : Nat → ClassId} {N0 zE : Nat} {y : MethodName} {cc : ByteArray} {maxL : Nat} {ret : Option FieldType} {hh : List (Nat × Nat × Nat × Nat)} {rm : Room} {as : List Value} {T : zT} {F : zF} {Post : Option Value → zT → zF → Prop} {PX : String → zT → zF → Prop} (hy : plainName y.cls = true) (hn : (lg_sl as).length ≤ maxL)
    (body : ∀ (p : Program) (e : Env) (s : State) (m : MethodId) (args : Array Value) (below : List Frame) (meth : Method) (c : Code), z_C p l s m args meth c y.cls cc maxL ret D cA N0 zE → c.exceptionTable.toList = tableOf hh → meth.name = y.name →
      z_w p l e rm s m args below meth c D cA N0 maxL 0 0 (vx_MQ below (z_Qc D cA N0 Post) (z_XC D cA N0 PX) args s rm.cells rm.slots (fun q => N0 ≤ q)) 0 (lv_args 0 as) [] T F) : z_MH l D cA N0 zE y cc maxL ret hh rm as T F Post PX := by
  refine vx_ofWH (cc := cc) (maxL := maxL) (ret := ret) (hh := hh) hy rfl ?_
  intro p e s m args below meth c s₁ B hml hv
  obtain ⟨rfl, hP, hK⟩ := hv
  have hts := atoms_spec (ws := Cond.codeWith y cc maxL ret hh :: zG) B.pre
  have hC : z_C p l s m as.toArray meth c y.cls cc maxL ret D cA N0 zE := ⟨B.exec, B.bytes, hml, findClass_of_methodNamed B.named, fun w hw => hts w (List.mem_cons_of_mem _ hw), hK, B.notSynchronized, B.returns⟩
  have hl := lv_entry as (n := maxL) hn
  rw [lg_entry_eq]
  exact body p e s m as.toArray below meth c hC (vx_table (x := y) B (hts _ List.mem_cons_self)) (name_of_methodNamed B.named B.method).1 s.heap [] _ hP va_S.rf hl
def z_okH (own : String) (index : Nat) (y : MethodName) (bytes : ByteArray) (maxL : Nat) (ret : Option FieldType) (hh : List (Nat × Nat × Nat × Nat)) (n : Nat) : Prop := Cond.codeWith y bytes maxL ret hh ∈ zG ∧ Cond.methodLink own index y ∈ zG ∧ Cond.initialized y.cls ∈ zG ∧ (y.cls ≠ "java/lang/invoke/MethodHandle" ∧ y.cls ≠ "java/lang/invoke/VarHandle") ∧ (parseMethodDescriptor y.desc).map (fun d => d.parameters.length) = some n
theorem z_wsH (hts : ∀ w ∈ zG, w.before args s = true) {y : MethodName} {bytes : ByteArray} {maxL : Nat} {ret : Option FieldType} {hh : List (Nat × Nat × Nat × Nat)} (h : Cond.codeWith y bytes maxL ret hh ∈ zG) : ∀ w ∈ Cond.codeWith y bytes maxL ret hh :: zG, ∀ (a' : Array Value) (U : State), s.WarmedH U.vm → w.before a' U = true := fun w hw a' U hW => by
  have hw : w ∈ zG := (List.mem_cons.mp hw).elim (fun e => e ▸ h) id
  exact zw_move (List.mem_filter.mp hw).2 hW (hts w hw)
theorem zr_callSH (C : z_C p l s m args meth c own cc nL ret D cA N0 zE) {index n maxL : Nat} {y : MethodName} {bytes : ByteArray} {ret' : Option FieldType} {hh : List (Nat × Nat × Nat × Nat)} {rm : Room} {As : List Value} {Post : Option Value → zT → zF → Prop} (hM : z_MH l D cA N0 zE y bytes maxL ret' hh rm As T F Post (fun _ _ _ => False)) (f : z_okH own index y bytes maxL ret' hh n) (hi : Cond.static y ∈ zG)
    (hn : As.length = n) (hR : rm.frames + 1 ≤ R.frames ∧ 8 + (maxL + 11) + rm.locals ≤ R.locals) (hf : cells + rm.cells ≤ R.cells ∧ slots + rm.slots ≤ R.slots) (hW : (st.map fun v => v.category).sum ≤ 8) (hdg : decode cc pc = .ok (.invokestatic index, 3))
    (kk : ∀ (v : Option Value) (T' : zT) (F' : zF), Post v T' F' → z_w p l e R s m args below meth c D cA N0 nL (cells + rm.cells) (slots + rm.slots) Q (pc + 3) lo (v.toList ++ st) T' F') : z_w p l e R s m args below meth c D cA N0 nL cells slots Q pc lo (As.reverse ++ st) T F := by
  intro H locs ls hP hS hL T0 hT0 X
  obtain ⟨hx, hb, hml, hown, hts, hK, -⟩ := id C
  obtain ⟨f1, f2, f3, f4, f5⟩ := f
  rcases vx_runSX (Ts := zG) (hh := hh) ⟨hx, hb, hml, hown, hts⟩ hM ⟨⟨rfl, rfl, hR.1, hR.2, z_wsH hts f1, List.mem_cons_self⟩, hts _ f1, hts _ f3, f4, z_len f5, hts _ f2, hts _ hi⟩ ⟨z_blind, fun U hU hW => z_pre hP hS hK U hU hW⟩ rfl hn hL.1 rfl (lv_room hW) hdg hf T0 hT0 X with ⟨v, st₀, t, T', L, h0, X', hL', e1, e2, ⟨w, T1, F1, hv, hp, hP1, hF⟩, stp⟩ | ⟨q, st₀, t, T', L, E, ce, h0, X', hL', e1, e2, ⟨T1, F1, hp, hP1, hF⟩, hce, hcv, hcl, stp⟩
  · cases hv
    obtain ⟨t2, a1, b1⟩ := kk v T1 F1 hp T'.heap (locs ++ L) ls (by rw [e1]; exact hP1) (z_back h0 e1 hS hL' hF) hL T' rfl X'
    exact ⟨t2, stp t2 a1, b1⟩
  · exact hp.elim
/-! a call through an interface -/
def z_okF (own : String) (index : Nat) (x y : MethodName) (Cn : String) (bytes : ByteArray) (maxL : Nat) (ret : Option FieldType) (n : Nat) : Prop := Cond.code y bytes maxL ret ∈ zG ∧ Cond.methodLink own index x ∈ zG ∧ Cond.initialized y.cls ∈ zG ∧ (x.cls ≠ "java/lang/invoke/MethodHandle" ∧ x.cls ≠ "java/lang/invoke/VarHandle") ∧ (parseMethodDescriptor x.desc).map (fun d => d.parameters.length) = some n ∧ Cond.instanceMethod y ∈ zG ∧ Cond.selects Cn x y ∈ zG ∧ (Cn, x, y) ∈ z_ifs
theorem zr_callF (C : z_C p l s m args meth c own cc nL ret D cA N0 zE) {index n ci N b maxL count : Nat} {x y : MethodName} {bytes : ByteArray} {ret' : Option FieldType} {rm : Room} {As : List Value} {r : vw_C} {Post : Option Value → zT → zF → Prop} (hM : z_Mt l D cA N0 zE y bytes maxL ret' rm (.ref b :: As) T F Post) (f : z_okF own index x y r.1 bytes maxL ret' n)
    (hT : T b = some (ci, N)) (hci : ci < 100) (hc : vwCl[ci]? = some r) (hn : As.length = n) (hR : rm.frames + 1 ≤ R.frames ∧ 8 + (maxL + 11) + rm.locals ≤ R.locals) (hf : cells + rm.cells ≤ R.cells ∧ slots + rm.slots ≤ R.slots) (hW : (st.map fun v => v.category).sum ≤ 8) (hdg : decode cc pc = .ok (.invokeinterface index count, 5))
    (kk : ∀ (v : Option Value) (T' : zT) (F' : zF), Post v T' F' → z_w p l e R s m args below meth c D cA N0 nL (cells + rm.cells) (slots + rm.slots) Q (pc + 5) lo (v.toList ++ st) T' F') : z_w p l e R s m args below meth c D cA N0 nL cells slots Q pc lo (As.reverse ++ .ref b :: st) T F := by
  intro H locs ls hP hS hL T0 hT0 X
  obtain ⟨hx, hb, hml, hown, hts, hK, -⟩ := id C
  obtain ⟨f1, f2, f3, f4, f5, f6, f7, f8⟩ := f
  have hF9 := hK.2.2.2.2.2.2.2.2.2.1 _ f8
  obtain ⟨v, st₀, t, T', L, h0, X', hL', e1, e2, ⟨w, T1, F1, hv, hp, hP1, hF⟩, stp⟩ := va_runF (Ts := zG) (C := r.1) (hK.2.2.1.1 ci _ hc).2 ⟨hx, hb, hml, hown, hts⟩ hM ⟨⟨rfl, rfl, hR.1, hR.2, z_ws hts f1, List.mem_cons_self⟩, hts _ f2, va_any rfl hF9.1, va_any rfl hF9.2.1, hts _ f7, hts _ f6, va_any rfl hF9.2.2.1, va_any rfl hF9.2.2.2.1, va_any rfl hF9.2.2.2.2, hts _ f3, hts _ f1, f4, z_len f5⟩ ⟨z_blind, z_obj hP hK hT hci hc, fun U hU hW => z_pre hP hS hK U hU hW⟩ rfl hn hL.1 rfl (lv_room hW) hdg hf T0 hT0 X
  cases hv
  obtain ⟨t2, a1, b1⟩ := kk v T1 F1 hp T'.heap (locs ++ L) ls (by rw [e1]; exact hP1) (z_back h0 e1 hS hL' hF) hL T' rfl X'
  exact ⟨t2, stp t2 a1, b1⟩
end ZR5
end
section
/-! new T[n][m] in the worlds -/
def znm (T : zT) (q n k : Nat) : zT := fun b => if b = q then some (102, n) else if q < b ∧ b ≤ q + n then some (100, k) else T b
def zmm (F : zF) (q n : Nat) : zF := fun b j => if b = q then (if j < n then .ref (q + 1 + j) else .null) else if q < b ∧ b ≤ q + n then .int 0 else F b j
theorem z_outer (c : ClassId) (N h0 : Nat) : ∀ i : Nat, Jvm.Free.Multi.outerC c N h0 i = arrV c N (fun j => if j < i then .ref (h0 + 1 + j) else .null)
  | 0 => by
    show ({ cls := c, slots := Array.replicate N .null, vm := .none } : Cell) = _
    rw [arrV_new]
    refine congrArg (arrV c N) (funext fun j => ?_)
    simp
  | i + 1 => by
    show (Jvm.Free.Multi.outerC c N h0 i).setSlot i (.ref (h0 + 1 + i)) = _
    rw [z_outer c N h0 i, arrV_store]
    refine congrArg (arrV c N) (funext fun j => ?_)
    by_cases e : j = i
    · subst e
      simp [updV]
    · by_cases h : j < i
      · simp [updV, e, h, Nat.lt_succ_of_lt h]
      · simp [updV, e, h, show ¬ j < i + 1 by omega]
theorem zr_multi {p : Program} {l : Launch} {e : Env} {R : Room} {s : State} {m : MethodId} {args : Array Value} {below : List Frame} {meth : Method} {c : Code} {Q : State → Prop} {D : va_G} {cA : Nat → ClassId} {N0 zE nL cells slots pc : Nat} {own : String} {cc : ByteArray} {ret : Option FieldType} {T : zT} {F : zF} {lo : List (Nat × Value)} {st : List Value}
    (C : z_C p l s m args meth c own cc nL ret D cA N0 zE) {n k : Int32} {index : Nat} (hj0 : z_tys[0]? = some .int) (hj2 : z_tys[2]? = some (.array .int)) (h1 : Cond.classLink own index "[[I" ∈ zG) (h2 : Cond.arrayClass .int ∈ zG) (hn : ¬ n < 0) (hk : ¬ k < 0) (hb1 : n.toNatClampNeg * 4 ≤ 536870912) (hb2 : k.toNatClampNeg * 4 ≤ 536870912)
    (hc1 : cells + (1 + n.toNatClampNeg) ≤ R.cells) (hs1 : slots + (n.toNatClampNeg + n.toNatClampNeg * k.toNatClampNeg) ≤ R.slots) (hdg : decode cc pc = .ok (.multianewarray index 2, 4))
    (kk : ∀ q : Nat, (∀ b, q ≤ b → T b = none) → z_w p l e R s m args below meth c D cA N0 nL (cells + 1 + n.toNatClampNeg) (slots + n.toNatClampNeg + n.toNatClampNeg * k.toNatClampNeg) Q (pc + 4) lo (.ref q :: st) (znm T q n.toNatClampNeg k.toNatClampNeg) (zmm F q n.toNatClampNeg)) : z_w p l e R s m args below meth c D cA N0 nL cells slots Q pc lo (.int k :: .int n :: st) T F := by
  intro H locs ls hP hS hL T0 hT0 Xs
  obtain ⟨hx, hb, -, hown, hts, hK, -⟩ := id C
  obtain ⟨vm₁, cB, comp, -, fA, fC, hO, -, X', step⟩ := Xs.multianewarray2F hx (ty := .int) hown (hts _ h1) (z_AA.use hK.2.2.2.2.2.2.2.2.2.2.1) (hts _ h2) (g := F0 m pc ls (.int k :: .int n :: st)) rfl (by rw [hb]; exact hdg) rfl hn hk hb1 hb2 (by omega) rfl rfl hc1 hs1
  have e0 : cA 0 = comp := z_ra ((hK.2.2.2.1 0 _ hj0).2.resolve_left (by decide)) fC
  have e2 : cA 2 = cB := z_ra ((hK.2.2.2.1 2 _ hj2).2.resolve_left (by decide)) fA
  subst e0
  subst e2
  generalize hn' : n.toNatClampNeg = n' at *
  generalize hk' : k.toNatClampNeg = k' at *
  generalize hF : Jvm.Free.Multi.fill (T0.setVm vm₁) (cA 2) (cA 0) n' k' (defaultValue .int) n' = G at X' step
  have hTh : (T0.setVm vm₁).heap = H := hT0
  obtain ⟨f1, f2, -, -⟩ := Jvm.Free.Multi.fill_facts (T0.setVm vm₁) (cA 2) (cA 0) n' k' (defaultValue .int) n'
  rw [hF, hTh] at f1 f2
  have hold : ∀ x : Nat, x < H.size → G.heap[x]? = H[x]? := fun x hx => by
    have := Jvm.Free.Multi.fill_old (T0.setVm vm₁) (cA 2) (cA 0) n' k' (defaultValue .int) (a := x) (by rw [hTh]; exact hx) n'
    rw [hF, hTh] at this
    exact this
  have hrow : ∀ j : Nat, j < n' → G.heap[H.size + 1 + j]? = some (arrV (cA 0) k' (fun _ => .int 0)) := fun j hj => by
    have := Jvm.Free.Multi.fill_inner (T0.setVm vm₁) (cA 2) (cA 0) n' k' (defaultValue .int) n' j hj
    rw [hF, hTh] at this
    rw [this, ← arrV_new]
    rfl
  rw [z_outer] at f2
  have hN : N0 ≤ H.size := Nat.le_trans hK.2.1 hS.1
  have hnone : ∀ b, H.size ≤ b → T b = none := fun b hb => by
    cases g : T b with
    | none => rfl
    | some t' => exact absurd (hP _ _ g).2.lt (Nat.not_lt.mpr hb)
  have hP1 : z_P D cA N0 (znm T H.size n' k') (zmm F H.size n') G.heap := by
    intro b t hb
    unfold znm at hb
    by_cases g1 : b = H.size
    · rw [if_pos g1] at hb
      cases hb
      refine ⟨Or.inl (by omega), ?_⟩
      unfold z_at
      rw [if_neg (by show ¬ 102 < 100; decide)]
      left
      rw [g1, f2]
      refine congrArg some (congrArg (arrV _ _) (funext fun j => ?_))
      unfold zmm
      rw [if_pos rfl]
    · rw [if_neg g1] at hb
      by_cases g2 : H.size < b ∧ b ≤ H.size + n'
      · rw [if_pos g2] at hb
        cases hb
        refine ⟨Or.inl (by omega), ?_⟩
        unfold z_at
        rw [if_neg (by show ¬ 100 < 100; decide)]
        left
        rw [show b = H.size + 1 + (b - H.size - 1) by omega, hrow _ (by omega)]
        refine congrArg some (congrArg (arrV _ _) (funext fun j => ?_))
        unfold zmm
        rw [if_neg (by omega), if_pos (by omega)]
      · rw [if_neg g2] at hb
        have h0 := hP b t hb
        refine ⟨h0.1, ?_⟩
        have e9 : zmm F H.size n' b = F b := funext fun j => by
          unfold zmm
          rw [if_neg g1, if_neg g2]
        rw [e9]
        exact h0.2.kept (hold b h0.2.lt)
  obtain ⟨t, a1, b1⟩ := kk H.size hnone G.heap locs ls hP1 ⟨by rw [f1]; have := hS.1; omega, fun x h1 h2 => (hold x (Nat.lt_of_lt_of_le h1 hS.1)).trans (hS.2.1 x h1 h2), hS.2.2⟩ hL G rfl X'
  refine ⟨t, step t ?_, b1⟩
  have e9 : T0.heap.size = H.size := by rw [hT0]
  rw [e9]
  exact a1
theorem z_mq {T : zT} {q n k : Nat} : znm T q n k q = some (102, n) := if_pos rfl
end
section
/-! copies of arrays of references; getClass() of one; new T[n][m] of a number that is known but for its bound -/
def zcp (F : zF) (a0 a1 k : Nat) : zF := fun b j => if b = a1 ∧ j < k then F a0 j else F b j
section ZR7
variable {p : Program} {l : Launch} {e : Env} {R : Room} {s : State} {m : MethodId} {args : Array Value} {below : List Frame} {meth : Method} {c : Code} {Q : State → Prop}
variable {D : va_G} {cA : Nat → ClassId} {N0 zE nL cells slots pc : Nat} {own : String} {cc : ByteArray} {ret : Option FieldType} {T : zT} {F : zF} {lo lo' : List (Nat × Value)} {st : List Value}
theorem zr_ldcM (C : z_C p l s m args meth c own cc nL ret D cA N0 zE) {index : Nat} (hw : Cond.classLink own index "[Ljava/lang/Object;" ∈ zG) (hdg : decode cc pc = .ok (.ldc index, 2))
    (kk : z_w p l e R s m args below meth c D cA N0 nL cells slots Q (pc + 2) lo (.ref (cA 5) :: st) T F) : z_w p l e R s m args below meth c D cA N0 nL cells slots Q pc lo st T F :=
  fun H locs ls hP hS hL => va_ldcM C.1 C.2.1 C.2.2.2.1 (C.2.2.2.2.1 _ hw) C.2.2.2.2.2.1.2.2.2.2.2.2.2.2.2.2.2.1 hdg (kk H locs ls hP hS hL)
theorem zr_getC (C : z_C p l s m args meth c own cc nL ret D cA N0 zE) {a n index : Nat} (hj : z_tys[1]? = some (.object "java/lang/Object")) (hT : T a = some (101, n)) (h1 : Cond.methodLink own index ⟨"java/lang/Object", "getClass", "()Ljava/lang/Class;"⟩ ∈ zG) (h2 : Cond.selects "[Ljava/lang/Object;" ⟨"java/lang/Object", "getClass", "()Ljava/lang/Class;"⟩ ⟨"java/lang/Object", "getClass", "()Ljava/lang/Class;"⟩ ∈ zG) (h3 : Cond.instanceMethod ⟨"java/lang/Object", "getClass", "()Ljava/lang/Class;"⟩ ∈ zG) (h4 : Cond.native ⟨"java/lang/Object", "getClass", "()Ljava/lang/Class;"⟩ ∈ zG)
    (hf : 1 ≤ R.frames) (hlo : (st.map fun v => v.category).sum + 14 ≤ R.locals) (hdg : decode cc pc = .ok (.invokevirtual index, 3))
    (kk : z_w p l e R s m args below meth c D cA N0 nL cells slots Q (pc + 3) lo (.ref (cA 5) :: st) T F) : z_w p l e R s m args below meth c D cA N0 nL cells slots Q pc lo (.ref a :: st) T F := by
  intro H locs ls hP hS hL
  have hk1 := C.2.2.2.2.2.1.2.2.2.1 1 _ hj
  have hnm : s.vm.findClass "[Ljava/lang/Object;" = some (cA 1) := va_nmO (hk1.2.resolve_left (by decide)) (by decide +kernel)
  have h0 := (hP a _ hT).2
  unfold z_at at h0
  rw [if_neg (by show ¬ 101 < 100; decide)] at h0
  have hcell : ∃ cell : Cell, H[a]? = some cell ∧ cell.vm.isStatics = false ∧ s.vm.findClass "[Ljava/lang/Object;" = some cell.cls := by
    rcases h0 with h0 | ⟨-, cl, g1, g2, -, -, -, g6⟩
    · exact ⟨_, h0, rfl, hnm⟩
    · refine ⟨cl, g1, ?_, by rw [g2]; exact hnm⟩
      cases hv : cl.vm with
      | statics k => exact absurd hv (g6 k)
      | _ => rfl
  exact va_getC C.1 C.2.1 (by rw [C.2.2.1]; exact hL.1.symm) C.2.2.2.1 (C.2.2.2.2.1 _ h1) (va_Dc.use C.2.2.2.2.2.1.2.2.2.2.2.2.2.2.2.2.2.2) (C.2.2.2.2.1 _ h2) (C.2.2.2.2.1 _ h3) (C.2.2.2.2.1 _ h4) C.2.2.2.2.2.1.2.2.2.2.2.2.2.2.2.2.2.1 hcell hf hlo hdg (kk H locs ls hP hS hL)
/-- System.arraycopy of the first places of an Object[] into another -/
theorem zr_acopy (C : z_C p l s m args meth c own cc nL ret D cA N0 zE) {a0 a1 n0 n1 index : Nat} {n : Int32} (hj : z_tys[1]? = some (.object "java/lang/Object")) (hT0 : T a0 = some (101, n0)) (hT1 : T a1 = some (101, n1)) (hn0 : 0 < n0) (hn1 : 0 < n1) (h3 : ¬ n < 0) (h4 : n.toNatClampNeg ≤ n0) (h5 : n.toNatClampNeg ≤ n1) (hne : a0 ≠ a1)
    (hel : ∀ i : Nat, i < n.toNatClampNeg → F a0 i = .null ∨ ∃ y : Nat, F a0 i = .ref y ∧ z_ob T y)
    (w1 : Cond.methodLink own index arraycopyName ∈ zG) (w2 : Cond.native arraycopyName ∈ zG) (w3 : Cond.static arraycopyName ∈ zG) (w4 : Cond.initialized "java/lang/System" ∈ zG)
    (hf : 1 ≤ R.frames) (hlo : (st.map fun v => v.category).sum + (nativeFrameWords "java/lang/System" "arraycopy" 5 + 11) ≤ R.locals) (hdg : decode cc pc = .ok (.invokestatic index, 3))
    (kk : z_w p l e R s m args below meth c D cA N0 nL cells slots Q (pc + 3) lo st T (zcp F a0 a1 n.toNatClampNeg)) : z_w p l e R s m args below meth c D cA N0 nL cells slots Q pc lo (.int n :: .int 0 :: .ref a1 :: .int 0 :: .ref a0 :: st) T F := by
  intro H locs ls hP hS hL T9 hT9 X
  obtain ⟨hx, hb, hml, hown, hts, hK, -⟩ := id C
  have nn : n.toInt = (n.toNatClampNeg : Int) := by
    have hz0 : (0 : Int) ≤ n.toInt := by
      have := Int32.not_lt.mp h3
      simpa using Int32.le_iff_toInt_le.mp this
    show n.toInt = ((n.toInt.toNat : Nat) : Int)
    omega
  have hc0 : H[a0]? = some (arrV (cA 1) n0 (F a0)) := z_arr hP hT0 (by decide) hn0 (by decide)
  have hc1 : H[a1]? = some (arrV (cA 1) n1 (F a1)) := z_arr hP hT1 (by decide) hn1 (by decide)
  have hk1 := hK.2.2.2.1 1 _ hj
  obtain ⟨-, k0, hk0, cm0, hkk0⟩ := hk1.1 n0 (F a0)
  obtain ⟨kA, comp, r1, r2, r3, -⟩ := hk1.2.resolve_left (by decide)
  cases hk0.symm.trans r1
  cases hkk0.symm.trans r2
  obtain ⟨vm', X', step⟩ := X.arraycopy hx hown (hts _ w1) (hts _ w2) (hts _ w3) (hts _ w4) (src := a0) (dst := a1) (cs := arrV (cA 1) n0 (F a0)) (cd := arrV (cA 1) n1 (F a1)) (srcPos := 0) (destPos := 0) (n := n) (by rw [hT9]; exact hc0) (by rw [hT9]; exact hc1)
    (fun _ h => by cases h) (fun _ h => by cases h) (fun h => by cases h) (fun h => by cases h) hk0 hk0 hkk0 hkk0 rfl (by decide) (by decide) h3
    (by rw [nn, arrV_size, show ((0 : Int32)).toInt = 0 by decide]; omega)
    (by rw [nn, arrV_size, show ((0 : Int32)).toInt = 0 by decide]; omega)
    (fun vm₁ hal i hi => by
      have e : (arrV (cA 1) n0 (F a0)).slots.getD ((0 : Int32).toNatClampNeg + i) .null = F a0 i := by
        rw [show (0 : Int32).toNatClampNeg + i = i by rw [show (0 : Int32).toNatClampNeg = 0 by decide]; omega, Array.getD_eq_getD_getElem?, arrV_read _ _ (by omega)]
        rfl
      rw [e]
      rcases hel i hi with h | ⟨y, h, ci, N, r, hTy, hci, hc, hw⟩
      · rw [h]; exact ⟨rfl, trivial⟩
      · rw [h]
        obtain ⟨cellV, g1, g2, g3⟩ := z_obj hP hK hTy hci hc
        obtain ⟨kC, hkC, -⟩ := Vm.findClass_spec g3
        obtain ⟨kE, hkE, -⟩ := Vm.findClass_spec r3
        obtain ⟨kC', hkC', -⟩ := hal.2.2 _ _ hkC
        obtain ⟨kE', hkE', -⟩ := hal.2.2 _ _ hkE
        obtain ⟨c0, t1, f1, f2, f3⟩ := Cond.castable_spec (hts _ hw)
        cases Option.some.inj (f1.symm.trans g3)
        cases Option.some.inj (f2.symm.trans r3)
        refine ⟨rfl, cellV, (show T9.heap[y]? = some cellV by rw [hT9]; exact g1), (fun q h => by rw [h] at g2; cases g2), ⟨kC', hkC'⟩, ?_, ?_⟩
        · exact ⟨kE', hkE'⟩
        · show vm₁.assignable _ _ = true
          rw [hal.assignable]
          exact f3)
    (g := F0 m pc ls (.int n :: .int 0 :: .ref a1 :: .int 0 :: .ref a0 :: st)) rfl (by rw [hml]; exact hL.1) (rest := st) rfl (by rw [hb]; exact hdg) hf (by show 2 * 0 + _ + _ ≤ _; omega)
  have e1 : copied (arrV (cA 1) n0 (F a0)) (arrV (cA 1) n1 (F a1)) 0 0 n = arrV (cA 1) n1 (fun j => if j < n.toNatClampNeg then F a0 j else F a1 j) := by
    refine (va_copied (fun z => z) (cA 1) (cA 1) (F a0) (F a1) (sp := (0 : Int32).toNatClampNeg) (dp := (0 : Int32).toNatClampNeg) (n := n.toNatClampNeg) (n0 := n0) (n1 := n1) (by rw [show (0 : Int32).toNatClampNeg = 0 by decide]; omega)).trans (congrArg (arrV (cA 1) n1) (funext fun j => ?_))
    unfold va_cpy
    rw [show (0 : Int32).toNatClampNeg = 0 by decide]
    by_cases h : j < n.toNatClampNeg
    · rw [if_pos ⟨Nat.zero_le _, by omega⟩, if_pos h]
      congr 1
      omega
    · rw [if_neg (fun g => h (by omega)), if_neg h]
  rw [e1] at X' step
  have hl : a1 < H.size := (Array.getElem?_eq_some_iff.mp hc1).1
  have hheap : ((T9.setVm vm').setCell a1 (arrV (cA 1) n1 (fun j => if j < n.toNatClampNeg then F a0 j else F a1 j))).heap = H.setIfInBounds a1 (arrV (cA 1) n1 (fun j => if j < n.toNatClampNeg then F a0 j else F a1 j)) := by rw [← hT9]; rfl
  have oq : ∀ q : Nat, q ≠ a1 → (H.setIfInBounds a1 (arrV (cA 1) n1 (fun j => if j < n.toNatClampNeg then F a0 j else F a1 j)))[q]? = H[q]? := fun q hq => by simp [Array.getElem?_setIfInBounds, Ne.symm hq]
  have hN1 : N0 ≤ a1 := z_arrN hP hT1 hn1
  have hP1 : z_P D cA N0 T (zcp F a0 a1 n.toNatClampNeg) (H.setIfInBounds a1 (arrV (cA 1) n1 (fun j => if j < n.toNatClampNeg then F a0 j else F a1 j))) := by
    intro b t hb
    by_cases g : b = a1
    · subst g
      cases hT1.symm.trans hb
      refine ⟨(hP b _ hb).1, ?_⟩
      unfold z_at
      rw [if_neg (by show ¬ 101 < 100; decide)]
      left
      have e9 : (fun j => if b = b ∧ j < n.toNatClampNeg then F a0 j else F b j) = (fun j => if j < n.toNatClampNeg then F a0 j else F b j) := by
        funext j
        by_cases h : j < n.toNatClampNeg
        · rw [if_pos ⟨rfl, h⟩, if_pos h]
        · rw [if_neg (fun q => h q.2), if_neg h]
      show _ = some (arrV (cA (101 - 100)) n1 (fun j => if b = b ∧ j < n.toNatClampNeg then F a0 j else F b j))
      rw [e9]
      simp [Array.getElem?_setIfInBounds, hl]
    · refine ⟨(hP b t hb).1, ?_⟩
      have e9 : (fun j => if b = a1 ∧ j < n.toNatClampNeg then F a0 j else F b j) = F b := funext fun j => if_neg (fun q => g q.1)
      show z_at D cA b t (fun j => if b = a1 ∧ j < n.toNatClampNeg then F a0 j else F b j) _
      rw [e9]
      exact (hP b t hb).2.kept (oq b g)
  obtain ⟨t, a2, b1⟩ := kk _ _ ls hP1 ⟨by simp; exact hS.1, fun q g1 g2 => by
      rw [oq q (fun e => g2 (by rw [e]; exact hN1))]
      exact hS.2.1 q g1 g2, fun q hq => by
      rcases List.mem_append.mp hq with h | h
      · exact hS.2.2 q h
      · obtain ⟨z, -, hz⟩ := List.mem_map.mp h
        rw [← hz]
        exact hN1⟩ hL _ hheap X'
  exact ⟨t, step t a2, b1⟩
theorem zr_multiB (C : z_C p l s m args meth c own cc nL ret D cA N0 zE) {n k : Int32} {index : Nat} (B : Nat) (hB : n.toNatClampNeg ≤ B) (hj0 : z_tys[0]? = some .int) (hj2 : z_tys[2]? = some (.array .int)) (h1 : Cond.classLink own index "[[I" ∈ zG) (h2 : Cond.arrayClass .int ∈ zG) (hn : ¬ n < 0) (hk : ¬ k < 0) (hb1 : B * 4 ≤ 536870912 ∧ k.toNatClampNeg * 4 ≤ 536870912)
    (hc1 : cells + (1 + B) ≤ R.cells) (hs1 : slots + (B + B * k.toNatClampNeg) ≤ R.slots) (hdg : decode cc pc = .ok (.multianewarray index 2, 4))
    (kk : ∀ q : Nat, (∀ b, q ≤ b → T b = none) → z_w p l e R s m args below meth c D cA N0 nL (cells + (1 + B)) (slots + (B + B * k.toNatClampNeg)) Q (pc + 4) lo (.ref q :: st) (znm T q n.toNatClampNeg k.toNatClampNeg) (zmm F q n.toNatClampNeg)) : z_w p l e R s m args below meth c D cA N0 nL cells slots Q pc lo (.int k :: .int n :: st) T F := by
  have hm := Nat.mul_le_mul_right k.toNatClampNeg hB
  exact zr_multi C hj0 hj2 h1 h2 hn hk (by omega) (by omega) (by omega) (by omega) hdg fun q hq => zr_widen (by omega) (by omega) (kk q hq)
theorem zr_anewB (C : z_C p l s m args meth c own cc nL ret D cA N0 zE) {n : Int32} {index : Nat} {Cn : String} (B : Nat) (hB : n.toNatClampNeg ≤ B) (j : Nat) (hj : z_tys[j]? = some (.object Cn)) (hw : Cond.classLink own index Cn ∈ zG) (hw2 : Cond.arrayOver (.object Cn) ∈ zG) (hn : ¬ n < 0) (hby : B * 4 ≤ 536870912) (hc1 : cells + 1 ≤ R.cells) (hs1 : slots + B ≤ R.slots) (hdg : decode cc pc = .ok (.anewarray index, 3))
    (kk : ∀ q : Nat, (∀ b, q ≤ b → T b = none) → z_w p l e R s m args below meth c D cA N0 nL (cells + 1) (slots + B) Q (pc + 3) lo (.ref q :: st) (zn T q (100 + j, n.toNatClampNeg)) (zm F q (fun _ => .null))) (hj4 : ¬ j = 4 := by decide) : z_w p l e R s m args below meth c D cA N0 nL cells slots Q pc lo (.int n :: st) T F :=
  zr_anew C j hj hw hw2 hn (by omega) hc1 (by omega) hdg (fun q hq => zr_widen (Nat.le_refl _) (by omega) (kk q hq)) hj4
end ZR7
end
section
/-! the words of the law's own methods -/
set_option maxRecDepth 100000 in
theorem zq_678 : Cond.code yL_below cL_below 2 (some .int) ∈ zG := zG_of 678 (by rfl) rfl
set_option maxRecDepth 100000 in
theorem zq_682 : Cond.code yL_cell cL_cell 2 (some .int) ∈ zG := zG_of 682 (by rfl) rfl
set_option maxRecDepth 100000 in
theorem zq_686 : Cond.codeWith yL_act cL_act 15 (some .boolean) [(41, 125, 568, 109), (126, 151, 568, 109), (152, 283, 568, 109), (284, 328, 568, 109), (329, 394, 568, 109), (395, 431, 568, 109), (432, 463, 568, 109), (464, 496, 568, 109), (497, 567, 568, 109), (41, 125, 584, 111), (126, 151, 584, 111), (152, 283, 584, 111), (284, 328, 584, 111), (329, 394, 584, 111), (395, 431, 584, 111), (432, 463, 584, 111), (464, 496, 584, 111), (497, 567, 584, 111)] ∈ zG := zG_of 686 (by rfl) rfl
set_option maxRecDepth 100000 in
theorem zq_793 : Cond.code yL_areBookingsRight cL_areBookingsRight 11 (some .boolean) ∈ zG := zG_of 793 (by rfl) rfl
set_option maxRecDepth 100000 in
theorem zq_798 : Cond.code yL_arePiecesRight cL_arePiecesRight 10 (some .boolean) ∈ zG := zG_of 798 (by rfl) rfl
set_option maxRecDepth 100000 in
theorem zq_807 : Cond.code yL_arePlacesRight cL_arePlacesRight 12 (some .boolean) ∈ zG := zG_of 807 (by rfl) rfl
end
section
/-! the words that the instructions need, by their places; what the tables say of entries -/
theorem zq_1 : Cond.selects "java/util/ArrayList" yJx4a65c_add_72be8 yJx4a65c_add_72be8 ∈ zG := zG_of 1 (by decide +kernel) rfl
theorem zq_2 : Cond.selects "java/util/ArrayList" yJx4a65c_grow_d5877 yJx4a65c_grow_d5877 ∈ zG := zG_of 2 (by decide +kernel) rfl
theorem zq_3 : Cond.selects "java/util/ArrayList" yJx4a65c_grow_92f84 yJx4a65c_grow_92f84 ∈ zG := zG_of 3 (by decide +kernel) rfl
theorem zq_4 : Cond.selects "BrandRoom" yX4_assetAt yX4_assetAt ∈ zG := zG_of 4 (by decide +kernel) rfl
theorem zq_5 : Cond.selects "BrandRoom" yX4_bookingAt yX4_bookingAt ∈ zG := zG_of 5 (by decide +kernel) rfl
theorem zq_6 : Cond.selects "BrandRoom" yX4_addPiece yX4_addPiece ∈ zG := zG_of 6 (by decide +kernel) rfl
theorem zq_7 : Cond.selects "BrandRoom" yX4_pieceAt yX4_pieceAt ∈ zG := zG_of 7 (by decide +kernel) rfl
theorem zq_8 : Cond.selects "BrandRoom" yX4_addBooking yX4_addBooking ∈ zG := zG_of 8 (by decide +kernel) rfl
theorem zq_9 : Cond.selects "BrandRoom$Plan" yX3_isUsedIn yX3_isUsedIn ∈ zG := zG_of 9 (by decide +kernel) rfl
theorem zq_10 : Cond.selects "BrandRoom" yX4_groupsReached yX4_groupsReached ∈ zG := zG_of 10 (by decide +kernel) rfl
theorem zq_11 : Cond.selects "BrandRoom" yX4_groupsOf yX4_groupsOf ∈ zG := zG_of 11 (by decide +kernel) rfl
theorem zq_12 : Cond.selects "BrandRoom$Booking" yX1_setTo yX1_setTo ∈ zG := zG_of 12 (by decide +kernel) rfl
theorem zq_13 : Cond.selects "BrandRoom$Plan" yX3_settle yX3_settle ∈ zG := zG_of 13 (by decide +kernel) rfl
theorem zq_14 : Cond.selects "BrandRoom" yX4_needOffer yX4_needOffer ∈ zG := zG_of 14 (by decide +kernel) rfl
theorem zq_15 : Cond.selects "BrandRoom$Asset" yX0_hasLast yX0_hasLast ∈ zG := zG_of 15 (by decide +kernel) rfl
theorem zq_16 : Cond.initialized "BrandRoomLaw" ∈ zG := zG_of 16 (by decide +kernel) rfl
theorem zq_17 : Cond.initialized "BrandRoom" ∈ zG := zG_of 17 (by decide +kernel) rfl
theorem zq_18 : Cond.initialized "java/util/AbstractCollection" ∈ zG := zG_of 18 (by decide +kernel) rfl
theorem zq_19 : Cond.initialized "java/util/AbstractList" ∈ zG := zG_of 19 (by decide +kernel) rfl
theorem zq_20 : Cond.initialized "java/util/ArrayList" ∈ zG := zG_of 20 (by decide +kernel) rfl
theorem zq_21 : Cond.initialized "BrandRoom$Plan" ∈ zG := zG_of 21 (by decide +kernel) rfl
theorem zq_25 : Cond.initialized "java/lang/IllegalStateException" ∈ zG := zG_of 25 (by decide +kernel) rfl
theorem zq_26 : Cond.initialized "BrandRoom$Asset" ∈ zG := zG_of 26 (by decide +kernel) rfl
theorem zq_27 : Cond.initialized "java/util/Arrays" ∈ zG := zG_of 27 (by decide +kernel) rfl
theorem zq_28 : Cond.initialized "jdk/internal/util/ArraysSupport" ∈ zG := zG_of 28 (by decide +kernel) rfl
theorem zq_29 : Cond.initialized "java/lang/Math" ∈ zG := zG_of 29 (by decide +kernel) rfl
theorem zq_30 : Cond.initialized "java/lang/System" ∈ zG := zG_of 30 (by decide +kernel) rfl
theorem zq_31 : Cond.initialized "java/lang/IndexOutOfBoundsException" ∈ zG := zG_of 31 (by decide +kernel) rfl
theorem zq_32 : Cond.initialized "java/util/Objects" ∈ zG := zG_of 32 (by decide +kernel) rfl
theorem zq_33 : Cond.initialized "jdk/internal/util/Preconditions" ∈ zG := zG_of 33 (by decide +kernel) rfl
theorem zq_34 : Cond.initialized "java/lang/IllegalArgumentException" ∈ zG := zG_of 34 (by decide +kernel) rfl
theorem zq_35 : Cond.initialized "BrandRoom$Piece" ∈ zG := zG_of 35 (by decide +kernel) rfl
theorem zq_36 : Cond.initialized "BrandRoom$Booking" ∈ zG := zG_of 36 (by decide +kernel) rfl
theorem zq_37 : Cond.initialized "java/lang/Integer" ∈ zG := zG_of 37 (by decide +kernel) rfl
theorem zq_38 : Cond.classLink "BrandRoomLaw" 9 "BrandRoom" ∈ zG := zG_of 38 (by decide +kernel) rfl
theorem zq_39 : Cond.instantiable "BrandRoom" 4 ∈ zG := zG_of 39 (by decide +kernel) rfl
theorem zq_40 : Cond.methodLink "BrandRoomLaw" 11 yX4_init ∈ zG := zG_of 40 (by decide +kernel) rfl
theorem zq_41 : Cond.instanceMethod yX4_init ∈ zG := zG_of 41 (by decide +kernel) rfl
theorem zq_42 : Cond.code yX4_init cX4_init 1 none ∈ zG := zG_of 42 (by decide +kernel) rfl
theorem zq_43 : Cond.methodLink "BrandRoom" 1 Lib.objectInit ∈ zG := zG_of 43 (by decide +kernel) rfl
theorem zq_44 : Cond.instanceMethod Lib.objectInit ∈ zG := zG_of 44 (by decide +kernel) rfl
theorem zq_45 : Cond.code Lib.objectInit ⟨#[0xb1]⟩ 1 none ∈ zG := zG_of 45 (by decide +kernel) rfl
theorem zq_46 : Cond.classLink "BrandRoom" 7 "java/util/ArrayList" ∈ zG := zG_of 46 (by decide +kernel) rfl
theorem zq_47 : Cond.instantiable "java/util/ArrayList" 3 ∈ zG := zG_of 47 (by decide +kernel) rfl
theorem zq_48 : Cond.methodLink "BrandRoom" 9 yJx4a65c_init_da8c8 ∈ zG := zG_of 48 (by decide +kernel) rfl
theorem zq_49 : Cond.instanceMethod yJx4a65c_init_da8c8 ∈ zG := zG_of 49 (by decide +kernel) rfl
theorem zq_50 : Cond.code yJx4a65c_init_da8c8 cJx4a65c_init_da8c8 1 none ∈ zG := zG_of 50 (by decide +kernel) rfl
theorem zq_51 : Cond.methodLink "java/util/ArrayList" 1 yJxc12de_init_da8c8 ∈ zG := zG_of 51 (by decide +kernel) rfl
theorem zq_52 : Cond.instanceMethod yJxc12de_init_da8c8 ∈ zG := zG_of 52 (by decide +kernel) rfl
theorem zq_53 : Cond.code yJxc12de_init_da8c8 cJxc12de_init_da8c8 1 none ∈ zG := zG_of 53 (by decide +kernel) rfl
theorem zq_54 : Cond.methodLink "java/util/AbstractList" 1 yJxa1e45_init_da8c8 ∈ zG := zG_of 54 (by decide +kernel) rfl
theorem zq_55 : Cond.instanceMethod yJxa1e45_init_da8c8 ∈ zG := zG_of 55 (by decide +kernel) rfl
theorem zq_56 : Cond.code yJxa1e45_init_da8c8 cJxa1e45_init_da8c8 1 none ∈ zG := zG_of 56 (by decide +kernel) rfl
theorem zq_57 : Cond.methodLink "java/util/AbstractCollection" 1 Lib.objectInit ∈ zG := zG_of 57 (by decide +kernel) rfl
theorem zq_58 : Cond.fieldLink "java/util/ArrayList" 39 "java/util/ArrayList" "DEFAULTCAPACITY_EMPTY_ELEMENTDATA" "[Ljava/lang/Object;" ∈ zG := zG_of 58 (by decide +kernel) rfl
theorem zq_60 : Cond.fieldLink "java/util/ArrayList" 9 "java/util/ArrayList" "elementData" "[Ljava/lang/Object;" ∈ zG := zG_of 60 (by decide +kernel) rfl
theorem zq_61 : Cond.fieldLink "java/util/ArrayList" 48 "java/util/ArrayList" "size" "I" ∈ zG := zG_of 61 (by decide +kernel) rfl
theorem zq_62 : Cond.fieldLink "java/util/AbstractList" 7 "java/util/AbstractList" "modCount" "I" ∈ zG := zG_of 62 (by decide +kernel) rfl
theorem zq_63 : Cond.fieldLink "java/util/ArrayList" 63 "java/util/ArrayList" "modCount" "I" ∈ zG := zG_of 63 (by decide +kernel) rfl
theorem zq_64 : Cond.sameField "java/util/ArrayList" "java/util/AbstractList" "modCount" "I" ∈ zG := zG_of 64 (by decide +kernel) rfl
theorem zq_72 : Cond.classLink "BrandRoom" 20 "BrandRoom$Plan" ∈ zG := zG_of 72 (by decide +kernel) rfl
theorem zq_73 : Cond.instantiable "BrandRoom$Plan" 3 ∈ zG := zG_of 73 (by decide +kernel) rfl
theorem zq_74 : Cond.methodLinkNest "BrandRoom" 22 yX3_init "BrandRoom" ∈ zG := zG_of 74 (by decide +kernel) rfl
theorem zq_75 : Cond.instanceMethod yX3_init ∈ zG := zG_of 75 (by decide +kernel) rfl
theorem zq_76 : Cond.code yX3_init cX3_init 1 none ∈ zG := zG_of 76 (by decide +kernel) rfl
theorem zq_77 : Cond.methodLink "BrandRoom$Plan" 3 Lib.objectInit ∈ zG := zG_of 77 (by decide +kernel) rfl
theorem zq_78 : Cond.classLink "BrandRoom$Plan" 9 "java/util/ArrayList" ∈ zG := zG_of 78 (by decide +kernel) rfl
theorem zq_79 : Cond.methodLink "BrandRoom$Plan" 11 yJx4a65c_init_da8c8 ∈ zG := zG_of 79 (by decide +kernel) rfl
theorem zq_80 : Cond.fieldLink "BrandRoom$Plan" 12 "BrandRoom$Plan" "bookings" "Ljava/util/ArrayList;" ∈ zG := zG_of 80 (by decide +kernel) rfl
theorem zq_81 : Cond.fieldLinkNest "BrandRoom" 179 "BrandRoom$Plan" "bookings" "Ljava/util/ArrayList;" "BrandRoom" ∈ zG := zG_of 81 (by decide +kernel) rfl
theorem zq_82 : Cond.fieldLink "BrandRoom$Plan" 18 "BrandRoom$Plan" "pieces" "Ljava/util/ArrayList;" ∈ zG := zG_of 82 (by decide +kernel) rfl
theorem zq_83 : Cond.fieldLinkNest "BrandRoom" 112 "BrandRoom$Plan" "pieces" "Ljava/util/ArrayList;" "BrandRoom" ∈ zG := zG_of 83 (by decide +kernel) rfl
theorem zq_84 : Cond.fieldLink "BrandRoom$Plan" 21 "BrandRoom$Plan" "today" "I" ∈ zG := zG_of 84 (by decide +kernel) rfl
theorem zq_85 : Cond.fieldLinkNest "BrandRoom" 52 "BrandRoom$Plan" "today" "I" "BrandRoom" ∈ zG := zG_of 85 (by decide +kernel) rfl
theorem zq_93 : Cond.arrayClass .int ∈ zG := zG_of 93 (by decide +kernel) rfl
theorem zq_94 : Cond.fieldLink "BrandRoom" 10 "BrandRoom" "assets" "Ljava/util/ArrayList;" ∈ zG := zG_of 94 (by decide +kernel) rfl
theorem zq_95 : Cond.fieldLink "BrandRoom" 16 "BrandRoom" "groupSets" "[I" ∈ zG := zG_of 95 (by decide +kernel) rfl
theorem zq_96 : Cond.fieldLink "BrandRoom" 23 "BrandRoom" "plan" "LBrandRoom$Plan;" ∈ zG := zG_of 96 (by decide +kernel) rfl
theorem zq_97 : Cond.fieldLink "BrandRoom" 27 "BrandRoom" "trial" "LBrandRoom$Plan;" ∈ zG := zG_of 97 (by decide +kernel) rfl
theorem zq_107 : Cond.methodLink "BrandRoomLaw" 18 yX4_asset ∈ zG := zG_of 107 (by decide +kernel) rfl
theorem zq_108 : Cond.instanceMethod yX4_asset ∈ zG := zG_of 108 (by decide +kernel) rfl
theorem zq_109 : Cond.selects "BrandRoom" yX4_asset yX4_asset ∈ zG := zG_of 109 (by decide +kernel) rfl
theorem zq_110 : Cond.code yX4_asset cX4_asset 1 (some .int) ∈ zG := zG_of 110 (by decide +kernel) rfl
theorem zq_111 : Cond.methodLink "BrandRoom" 30 yJx4a65c_size_8abf5 ∈ zG := zG_of 111 (by decide +kernel) rfl
theorem zq_112 : Cond.instanceMethod yJx4a65c_size_8abf5 ∈ zG := zG_of 112 (by decide +kernel) rfl
theorem zq_113 : Cond.selects "java/util/ArrayList" yJx4a65c_size_8abf5 yJx4a65c_size_8abf5 ∈ zG := zG_of 113 (by decide +kernel) rfl
theorem zq_114 : Cond.code yJx4a65c_size_8abf5 cJx4a65c_size_8abf5 1 (some .int) ∈ zG := zG_of 114 (by decide +kernel) rfl
theorem zq_115 : Cond.classLink "BrandRoom" 34 "java/lang/IllegalStateException" ∈ zG := zG_of 115 (by decide +kernel) rfl
theorem zq_117 : Cond.castable "java/lang/IllegalStateException" "java/lang/IllegalStateException" ∈ zG := zG_of 117 (by decide +kernel) rfl
theorem zq_183 : Cond.classLink "BrandRoom" 41 "BrandRoom$Asset" ∈ zG := zG_of 183 (by decide +kernel) rfl
theorem zq_184 : Cond.instantiable "BrandRoom$Asset" 5 ∈ zG := zG_of 184 (by decide +kernel) rfl
theorem zq_185 : Cond.methodLink "BrandRoom" 43 yX0_init ∈ zG := zG_of 185 (by decide +kernel) rfl
theorem zq_186 : Cond.instanceMethod yX0_init ∈ zG := zG_of 186 (by decide +kernel) rfl
theorem zq_187 : Cond.code yX0_init cX0_init 1 none ∈ zG := zG_of 187 (by decide +kernel) rfl
theorem zq_188 : Cond.methodLink "BrandRoom$Asset" 3 Lib.objectInit ∈ zG := zG_of 188 (by decide +kernel) rfl
theorem zq_189 : Cond.methodLink "BrandRoom$Asset" 28 yJ7_fill_53178 ∈ zG := zG_of 189 (by decide +kernel) rfl
theorem zq_190 : Cond.static yJ7_fill_53178 ∈ zG := zG_of 190 (by decide +kernel) rfl
theorem zq_191 : Cond.code yJ7_fill_53178 cJ7_fill_53178 4 none ∈ zG := zG_of 191 (by decide +kernel) rfl
theorem zq_192 : Cond.fieldLink "BrandRoom$Asset" 9 "BrandRoom$Asset" "comes" "[I" ∈ zG := zG_of 192 (by decide +kernel) rfl
theorem zq_193 : Cond.fieldLink "BrandRoom$Asset" 15 "BrandRoom$Asset" "versions" "I" ∈ zG := zG_of 193 (by decide +kernel) rfl
theorem zq_194 : Cond.fieldLink "BrandRoom$Asset" 19 "BrandRoom$Asset" "lands" "I" ∈ zG := zG_of 194 (by decide +kernel) rfl
theorem zq_195 : Cond.fieldLinkNest "BrandRoom" 91 "BrandRoom$Asset" "lands" "I" "BrandRoom" ∈ zG := zG_of 195 (by decide +kernel) rfl
theorem zq_196 : Cond.fieldLink "BrandRoom$Asset" 22 "BrandRoom$Asset" "from" "I" ∈ zG := zG_of 196 (by decide +kernel) rfl
theorem zq_197 : Cond.fieldLink "BrandRoom$Asset" 25 "BrandRoom$Asset" "to" "I" ∈ zG := zG_of 197 (by decide +kernel) rfl
theorem zq_209 : Cond.methodLink "BrandRoom" 44 yJx4a65c_add_9ea2d ∈ zG := zG_of 209 (by decide +kernel) rfl
theorem zq_210 : Cond.instanceMethod yJx4a65c_add_9ea2d ∈ zG := zG_of 210 (by decide +kernel) rfl
theorem zq_211 : Cond.selects "java/util/ArrayList" yJx4a65c_add_9ea2d yJx4a65c_add_9ea2d ∈ zG := zG_of 211 (by decide +kernel) rfl
theorem zq_212 : Cond.code yJx4a65c_add_9ea2d cJx4a65c_add_9ea2d 2 (some .boolean) ∈ zG := zG_of 212 (by decide +kernel) rfl
theorem zq_213 : Cond.methodLink "java/util/ArrayList" 131 yJx4a65c_add_72be8 ∈ zG := zG_of 213 (by decide +kernel) rfl
theorem zq_215 : Cond.instanceMethod yJx4a65c_add_72be8 ∈ zG := zG_of 215 (by decide +kernel) rfl
theorem zq_216 : Cond.code yJx4a65c_add_72be8 cJx4a65c_add_72be8 4 none ∈ zG := zG_of 216 (by decide +kernel) rfl
theorem zq_217 : Cond.methodLink "java/util/ArrayList" 129 yJx4a65c_grow_d5877 ∈ zG := zG_of 217 (by decide +kernel) rfl
theorem zq_219 : Cond.instanceMethod yJx4a65c_grow_d5877 ∈ zG := zG_of 219 (by decide +kernel) rfl
theorem zq_220 : Cond.code yJx4a65c_grow_d5877 cJx4a65c_grow_d5877 1 (some (.array (.object "java/lang/Object"))) ∈ zG := zG_of 220 (by decide +kernel) rfl
theorem zq_221 : Cond.methodLink "java/util/ArrayList" 69 yJx4a65c_grow_92f84 ∈ zG := zG_of 221 (by decide +kernel) rfl
theorem zq_223 : Cond.instanceMethod yJx4a65c_grow_92f84 ∈ zG := zG_of 223 (by decide +kernel) rfl
theorem zq_224 : Cond.code yJx4a65c_grow_92f84 cJx4a65c_grow_92f84 4 (some (.array (.object "java/lang/Object"))) ∈ zG := zG_of 224 (by decide +kernel) rfl
theorem zq_225 : Cond.methodLink "java/util/ArrayList" 73 yJ8_newLength_cabcc ∈ zG := zG_of 225 (by decide +kernel) rfl
theorem zq_226 : Cond.static yJ8_newLength_cabcc ∈ zG := zG_of 226 (by decide +kernel) rfl
theorem zq_227 : Cond.code yJ8_newLength_cabcc cJ8_newLength_cabcc 4 (some .int) ∈ zG := zG_of 227 (by decide +kernel) rfl
theorem zq_228 : Cond.methodLink "jdk/internal/util/ArraysSupport" 194 Lib.Math.max.name ∈ zG := zG_of 228 (by decide +kernel) rfl
theorem zq_229 : Cond.static Lib.Math.max.name ∈ zG := zG_of 229 (by decide +kernel) rfl
theorem zq_230 : Cond.code Lib.Math.max.name Lib.Math.max.code 2 (some .int) ∈ zG := zG_of 230 (by decide +kernel) rfl
theorem zq_231 : Cond.constant "jdk/internal/util/ArraysSupport" 200 2147483639 ∈ zG := zG_of 231 (by decide +kernel) rfl
theorem zq_235 : Cond.methodLink "java/util/ArrayList" 66 yJ7_copyOf_1904c ∈ zG := zG_of 235 (by decide +kernel) rfl
theorem zq_236 : Cond.static yJ7_copyOf_1904c ∈ zG := zG_of 236 (by decide +kernel) rfl
theorem zq_237 : Cond.code yJ7_copyOf_1904c cJ7_copyOf_1904c 2 (some (.array (.object "java/lang/Object"))) ∈ zG := zG_of 237 (by decide +kernel) rfl
theorem zq_238 : Cond.methodLink "java/util/Arrays" 86 ⟨"java/lang/Object", "getClass", "()Ljava/lang/Class;"⟩ ∈ zG := zG_of 238 (by decide +kernel) rfl
theorem zq_239 : Cond.instanceMethod ⟨"java/lang/Object", "getClass", "()Ljava/lang/Class;"⟩ ∈ zG := zG_of 239 (by decide +kernel) rfl
theorem zq_250 : Cond.native ⟨"java/lang/Object", "getClass", "()Ljava/lang/Class;"⟩ ∈ zG := zG_of 250 (by decide +kernel) rfl
theorem zq_251 : Cond.methodLink "java/util/Arrays" 300 yJ7_copyOf_6403c ∈ zG := zG_of 251 (by decide +kernel) rfl
theorem zq_252 : Cond.static yJ7_copyOf_6403c ∈ zG := zG_of 252 (by decide +kernel) rfl
theorem zq_253 : Cond.code yJ7_copyOf_6403c cJ7_copyOf_6403c 4 (some (.array (.object "java/lang/Object"))) ∈ zG := zG_of 253 (by decide +kernel) rfl
theorem zq_254 : Cond.classLink "java/util/Arrays" 110 "[Ljava/lang/Object;" ∈ zG := zG_of 254 (by decide +kernel) rfl
theorem zq_255 : Cond.arrayOver (.object "java/lang/Object") ∈ zG := zG_of 255 (by decide +kernel) rfl
theorem zq_256 : Cond.classLink "java/util/Arrays" 2 "java/lang/Object" ∈ zG := zG_of 256 (by decide +kernel) rfl
theorem zq_257 : Cond.methodLink "java/util/Arrays" 304 Lib.Math.min.name ∈ zG := zG_of 257 (by decide +kernel) rfl
theorem zq_258 : Cond.static Lib.Math.min.name ∈ zG := zG_of 258 (by decide +kernel) rfl
theorem zq_259 : Cond.code Lib.Math.min.name Lib.Math.min.code 2 (some .int) ∈ zG := zG_of 259 (by decide +kernel) rfl
theorem zq_260 : Cond.methodLink "java/util/Arrays" 150 arraycopyName ∈ zG := zG_of 260 (by decide +kernel) rfl
theorem zq_261 : Cond.static arraycopyName ∈ zG := zG_of 261 (by decide +kernel) rfl
theorem zq_262 : Cond.native arraycopyName ∈ zG := zG_of 262 (by decide +kernel) rfl
theorem zq_263 : Cond.methodLink "java/util/ArrayList" 79 Lib.Math.max.name ∈ zG := zG_of 263 (by decide +kernel) rfl
theorem zq_264 : Cond.classLink "java/util/ArrayList" 7 "java/lang/Object" ∈ zG := zG_of 264 (by decide +kernel) rfl
theorem zq_265 : Cond.methodLink "BrandRoomLaw" 26 yX4_version ∈ zG := zG_of 265 (by decide +kernel) rfl
theorem zq_266 : Cond.instanceMethod yX4_version ∈ zG := zG_of 266 (by decide +kernel) rfl
theorem zq_267 : Cond.selects "BrandRoom" yX4_version yX4_version ∈ zG := zG_of 267 (by decide +kernel) rfl
theorem zq_268 : Cond.code yX4_version cX4_version 5 (some .int) ∈ zG := zG_of 268 (by decide +kernel) rfl
theorem zq_269 : Cond.methodLink "BrandRoom" 48 yX4_assetAt ∈ zG := zG_of 269 (by decide +kernel) rfl
theorem zq_271 : Cond.instanceMethod yX4_assetAt ∈ zG := zG_of 271 (by decide +kernel) rfl
theorem zq_272 : Cond.code yX4_assetAt cX4_assetAt 2 (some (.object "BrandRoom$Asset")) ∈ zG := zG_of 272 (by decide +kernel) rfl
theorem zq_273 : Cond.classLink "BrandRoom" 307 "java/lang/IndexOutOfBoundsException" ∈ zG := zG_of 273 (by decide +kernel) rfl
theorem zq_275 : Cond.castable "java/lang/IndexOutOfBoundsException" "java/lang/IndexOutOfBoundsException" ∈ zG := zG_of 275 (by decide +kernel) rfl
theorem zq_289 : Cond.methodLink "BrandRoom" 124 yJx4a65c_get_915e3 ∈ zG := zG_of 289 (by decide +kernel) rfl
theorem zq_290 : Cond.instanceMethod yJx4a65c_get_915e3 ∈ zG := zG_of 290 (by decide +kernel) rfl
theorem zq_291 : Cond.selects "java/util/ArrayList" yJx4a65c_get_915e3 yJx4a65c_get_915e3 ∈ zG := zG_of 291 (by decide +kernel) rfl
theorem zq_292 : Cond.code yJx4a65c_get_915e3 cJx4a65c_get_915e3 2 (some (.object "java/lang/Object")) ∈ zG := zG_of 292 (by decide +kernel) rfl
theorem zq_293 : Cond.methodLink "java/util/ArrayList" 118 yJ15_checkIndex_7cf53 ∈ zG := zG_of 293 (by decide +kernel) rfl
theorem zq_294 : Cond.static yJ15_checkIndex_7cf53 ∈ zG := zG_of 294 (by decide +kernel) rfl
theorem zq_295 : Cond.code yJ15_checkIndex_7cf53 cJ15_checkIndex_7cf53 2 (some .int) ∈ zG := zG_of 295 (by decide +kernel) rfl
theorem zq_296 : Cond.methodLink "java/util/Objects" 105 yJ3_checkIndex_8e157 ∈ zG := zG_of 296 (by decide +kernel) rfl
theorem zq_297 : Cond.static yJ3_checkIndex_8e157 ∈ zG := zG_of 297 (by decide +kernel) rfl
theorem zq_298 : Cond.code yJ3_checkIndex_8e157 cJ3_checkIndex_8e157 3 (some .int) ∈ zG := zG_of 298 (by decide +kernel) rfl
theorem zq_299 : Cond.methodLink "java/util/ArrayList" 123 yJx4a65c_elementData_915e3 ∈ zG := zG_of 299 (by decide +kernel) rfl
theorem zq_300 : Cond.instanceMethod yJx4a65c_elementData_915e3 ∈ zG := zG_of 300 (by decide +kernel) rfl
theorem zq_301 : Cond.selects "java/util/ArrayList" yJx4a65c_elementData_915e3 yJx4a65c_elementData_915e3 ∈ zG := zG_of 301 (by decide +kernel) rfl
theorem zq_302 : Cond.code yJx4a65c_elementData_915e3 cJx4a65c_elementData_915e3 2 (some (.object "java/lang/Object")) ∈ zG := zG_of 302 (by decide +kernel) rfl
theorem zq_303 : Cond.classLink "BrandRoom" 56 "java/lang/IllegalArgumentException" ∈ zG := zG_of 303 (by decide +kernel) rfl
theorem zq_319 : Cond.methodLink "BrandRoom" 61 yX0_addVersion ∈ zG := zG_of 319 (by decide +kernel) rfl
theorem zq_320 : Cond.instanceMethod yX0_addVersion ∈ zG := zG_of 320 (by decide +kernel) rfl
theorem zq_321 : Cond.selects "BrandRoom$Asset" yX0_addVersion yX0_addVersion ∈ zG := zG_of 321 (by decide +kernel) rfl
theorem zq_322 : Cond.code yX0_addVersion cX0_addVersion 2 (some .int) ∈ zG := zG_of 322 (by decide +kernel) rfl
theorem zq_324 : Cond.methodLink "BrandRoomLaw" 29 yX4_rights ∈ zG := zG_of 324 (by decide +kernel) rfl
theorem zq_325 : Cond.instanceMethod yX4_rights ∈ zG := zG_of 325 (by decide +kernel) rfl
theorem zq_326 : Cond.selects "BrandRoom" yX4_rights yX4_rights ∈ zG := zG_of 326 (by decide +kernel) rfl
theorem zq_327 : Cond.code yX4_rights cX4_rights 7 (some .int) ∈ zG := zG_of 327 (by decide +kernel) rfl
theorem zq_329 : Cond.methodLink "BrandRoom" 86 yX4_needDay ∈ zG := zG_of 329 (by decide +kernel) rfl
theorem zq_330 : Cond.static yX4_needDay ∈ zG := zG_of 330 (by decide +kernel) rfl
theorem zq_331 : Cond.code yX4_needDay cX4_needDay 1 none ∈ zG := zG_of 331 (by decide +kernel) rfl
theorem zq_334 : Cond.methodLink "BrandRoom" 94 yX0_grant ∈ zG := zG_of 334 (by decide +kernel) rfl
theorem zq_335 : Cond.instanceMethod yX0_grant ∈ zG := zG_of 335 (by decide +kernel) rfl
theorem zq_336 : Cond.selects "BrandRoom$Asset" yX0_grant yX0_grant ∈ zG := zG_of 336 (by decide +kernel) rfl
theorem zq_337 : Cond.code yX0_grant cX0_grant 4 none ∈ zG := zG_of 337 (by decide +kernel) rfl
theorem zq_338 : Cond.methodLink "BrandRoomLaw" 33 yX4_piece ∈ zG := zG_of 338 (by decide +kernel) rfl
theorem zq_339 : Cond.instanceMethod yX4_piece ∈ zG := zG_of 339 (by decide +kernel) rfl
theorem zq_340 : Cond.selects "BrandRoom" yX4_piece yX4_piece ∈ zG := zG_of 340 (by decide +kernel) rfl
theorem zq_341 : Cond.code yX4_piece cX4_piece 5 (some .int) ∈ zG := zG_of 341 (by decide +kernel) rfl
theorem zq_345 : Cond.classLink "BrandRoom" 117 "BrandRoom$Piece" ∈ zG := zG_of 345 (by decide +kernel) rfl
theorem zq_346 : Cond.instantiable "BrandRoom$Piece" 5 ∈ zG := zG_of 346 (by decide +kernel) rfl
theorem zq_347 : Cond.methodLink "BrandRoom" 119 yX2_init ∈ zG := zG_of 347 (by decide +kernel) rfl
theorem zq_348 : Cond.instanceMethod yX2_init ∈ zG := zG_of 348 (by decide +kernel) rfl
theorem zq_349 : Cond.code yX2_init cX2_init 5 none ∈ zG := zG_of 349 (by decide +kernel) rfl
theorem zq_350 : Cond.methodLink "BrandRoom$Piece" 3 Lib.objectInit ∈ zG := zG_of 350 (by decide +kernel) rfl
theorem zq_351 : Cond.classLink "BrandRoom$Piece" 9 "java/util/ArrayList" ∈ zG := zG_of 351 (by decide +kernel) rfl
theorem zq_352 : Cond.methodLink "BrandRoom$Piece" 11 yJx4a65c_init_da8c8 ∈ zG := zG_of 352 (by decide +kernel) rfl
theorem zq_353 : Cond.classLink "BrandRoom$Piece" 18 "[[I" ∈ zG := zG_of 353 (by decide +kernel) rfl
theorem zq_355 : Cond.methodLink "BrandRoom$Piece" 33 yJ7_fill_53178 ∈ zG := zG_of 355 (by decide +kernel) rfl
theorem zq_356 : Cond.fieldLink "BrandRoom$Piece" 23 "BrandRoom$Piece" "number" "I" ∈ zG := zG_of 356 (by decide +kernel) rfl
theorem zq_357 : Cond.fieldLinkNest "BrandRoom" 128 "BrandRoom$Piece" "number" "I" "BrandRoom" ∈ zG := zG_of 357 (by decide +kernel) rfl
theorem zq_358 : Cond.fieldLink "BrandRoom$Piece" 27 "BrandRoom$Piece" "format" "I" ∈ zG := zG_of 358 (by decide +kernel) rfl
theorem zq_359 : Cond.fieldLinkNest "BrandRoom$Plan" 117 "BrandRoom$Piece" "format" "I" "BrandRoom" ∈ zG := zG_of 359 (by decide +kernel) rfl
theorem zq_360 : Cond.fieldLinkNest "BrandRoom" 155 "BrandRoom$Piece" "format" "I" "BrandRoom" ∈ zG := zG_of 360 (by decide +kernel) rfl
theorem zq_361 : Cond.fieldLink "BrandRoom$Piece" 30 "BrandRoom$Piece" "assetSet" "I" ∈ zG := zG_of 361 (by decide +kernel) rfl
theorem zq_362 : Cond.fieldLinkNest "BrandRoom" 158 "BrandRoom$Piece" "assetSet" "I" "BrandRoom" ∈ zG := zG_of 362 (by decide +kernel) rfl
theorem zq_363 : Cond.fieldLink "BrandRoom$Piece" 12 "BrandRoom$Piece" "parts" "Ljava/util/ArrayList;" ∈ zG := zG_of 363 (by decide +kernel) rfl
theorem zq_364 : Cond.fieldLinkNest "BrandRoom" 121 "BrandRoom$Piece" "parts" "Ljava/util/ArrayList;" "BrandRoom" ∈ zG := zG_of 364 (by decide +kernel) rfl
theorem zq_365 : Cond.fieldLink "BrandRoom$Piece" 20 "BrandRoom$Piece" "approved" "[[I" ∈ zG := zG_of 365 (by decide +kernel) rfl
theorem zq_377 : Cond.methodLink "BrandRoomLaw" 40 yX4_ofBooking ∈ zG := zG_of 377 (by decide +kernel) rfl
theorem zq_378 : Cond.instanceMethod yX4_ofBooking ∈ zG := zG_of 378 (by decide +kernel) rfl
theorem zq_379 : Cond.selects "BrandRoom" yX4_ofBooking yX4_ofBooking ∈ zG := zG_of 379 (by decide +kernel) rfl
theorem zq_380 : Cond.code yX4_ofBooking cX4_ofBooking 4 (some .int) ∈ zG := zG_of 380 (by decide +kernel) rfl
theorem zq_381 : Cond.methodLink "BrandRoom" 199 yX4_bookingAt ∈ zG := zG_of 381 (by decide +kernel) rfl
theorem zq_383 : Cond.instanceMethod yX4_bookingAt ∈ zG := zG_of 383 (by decide +kernel) rfl
theorem zq_384 : Cond.code yX4_bookingAt cX4_bookingAt 2 (some (.object "BrandRoom$Booking")) ∈ zG := zG_of 384 (by decide +kernel) rfl
theorem zq_386 : Cond.classLink "BrandRoom" 190 "BrandRoom$Booking" ∈ zG := zG_of 386 (by decide +kernel) rfl
theorem zq_387 : Cond.methodLink "BrandRoom" 212 yX1_costNow ∈ zG := zG_of 387 (by decide +kernel) rfl
theorem zq_388 : Cond.instanceMethod yX1_costNow ∈ zG := zG_of 388 (by decide +kernel) rfl
theorem zq_389 : Cond.selects "BrandRoom$Booking" yX1_costNow yX1_costNow ∈ zG := zG_of 389 (by decide +kernel) rfl
theorem zq_390 : Cond.code yX1_costNow cX1_costNow 2 (some .int) ∈ zG := zG_of 390 (by decide +kernel) rfl
theorem zq_392 : Cond.methodLink "BrandRoomLaw" 36 yX4_many ∈ zG := zG_of 392 (by decide +kernel) rfl
theorem zq_393 : Cond.instanceMethod yX4_many ∈ zG := zG_of 393 (by decide +kernel) rfl
theorem zq_394 : Cond.selects "BrandRoom" yX4_many yX4_many ∈ zG := zG_of 394 (by decide +kernel) rfl
theorem zq_395 : Cond.code yX4_many cX4_many 2 (some .int) ∈ zG := zG_of 395 (by decide +kernel) rfl
theorem zq_396 : Cond.methodLink "BrandRoom" 270 yX3_countInState ∈ zG := zG_of 396 (by decide +kernel) rfl
theorem zq_397 : Cond.instanceMethod yX3_countInState ∈ zG := zG_of 397 (by decide +kernel) rfl
theorem zq_398 : Cond.selects "BrandRoom$Plan" yX3_countInState yX3_countInState ∈ zG := zG_of 398 (by decide +kernel) rfl
theorem zq_399 : Cond.code yX3_countInState cX3_countInState 4 (some .int) ∈ zG := zG_of 399 (by decide +kernel) rfl
theorem zq_400 : Cond.methodLink "BrandRoom$Plan" 25 yJx4a65c_size_8abf5 ∈ zG := zG_of 400 (by decide +kernel) rfl
theorem zq_401 : Cond.methodLink "BrandRoom$Plan" 29 yJx4a65c_get_915e3 ∈ zG := zG_of 401 (by decide +kernel) rfl
theorem zq_402 : Cond.classLink "BrandRoom$Plan" 33 "BrandRoom$Booking" ∈ zG := zG_of 402 (by decide +kernel) rfl
theorem zq_403 : Cond.methodLink "BrandRoom" 273 yX3_countOn ∈ zG := zG_of 403 (by decide +kernel) rfl
theorem zq_404 : Cond.instanceMethod yX3_countOn ∈ zG := zG_of 404 (by decide +kernel) rfl
theorem zq_405 : Cond.selects "BrandRoom$Plan" yX3_countOn yX3_countOn ∈ zG := zG_of 405 (by decide +kernel) rfl
theorem zq_406 : Cond.code yX3_countOn cX3_countOn 3 (some .int) ∈ zG := zG_of 406 (by decide +kernel) rfl
theorem zq_407 : Cond.methodLink "BrandRoom" 276 yX3_costOfAll ∈ zG := zG_of 407 (by decide +kernel) rfl
theorem zq_408 : Cond.instanceMethod yX3_costOfAll ∈ zG := zG_of 408 (by decide +kernel) rfl
theorem zq_409 : Cond.selects "BrandRoom$Plan" yX3_costOfAll yX3_costOfAll ∈ zG := zG_of 409 (by decide +kernel) rfl
theorem zq_410 : Cond.code yX3_costOfAll cX3_costOfAll 3 (some .int) ∈ zG := zG_of 410 (by decide +kernel) rfl
theorem zq_411 : Cond.methodLink "BrandRoom$Plan" 141 yX1_costNow ∈ zG := zG_of 411 (by decide +kernel) rfl
theorem zq_413 : Cond.methodLink "BrandRoomLaw" 47 yX4_digest ∈ zG := zG_of 413 (by decide +kernel) rfl
theorem zq_414 : Cond.instanceMethod yX4_digest ∈ zG := zG_of 414 (by decide +kernel) rfl
theorem zq_415 : Cond.selects "BrandRoom" yX4_digest yX4_digest ∈ zG := zG_of 415 (by decide +kernel) rfl
theorem zq_416 : Cond.code yX4_digest cX4_digest 4 (some .long) ∈ zG := zG_of 416 (by decide +kernel) rfl
theorem zq_417 : Cond.constantLong "BrandRoom" 313 5741 ∈ zG := zG_of 417 (by decide +kernel) rfl
theorem zq_418 : Cond.constantLong "BrandRoom" 315 31 ∈ zG := zG_of 418 (by decide +kernel) rfl
theorem zq_419 : Cond.methodLink "BrandRoom" 317 yX4_many ∈ zG := zG_of 419 (by decide +kernel) rfl
theorem zq_420 : Cond.methodLink "BrandRoom" 320 yX4_versionOn ∈ zG := zG_of 420 (by decide +kernel) rfl
theorem zq_421 : Cond.instanceMethod yX4_versionOn ∈ zG := zG_of 421 (by decide +kernel) rfl
theorem zq_422 : Cond.selects "BrandRoom" yX4_versionOn yX4_versionOn ∈ zG := zG_of 422 (by decide +kernel) rfl
theorem zq_423 : Cond.code yX4_versionOn cX4_versionOn 4 (some .int) ∈ zG := zG_of 423 (by decide +kernel) rfl
theorem zq_424 : Cond.methodLink "BrandRoom" 98 yX0_versionAt ∈ zG := zG_of 424 (by decide +kernel) rfl
theorem zq_425 : Cond.instanceMethod yX0_versionAt ∈ zG := zG_of 425 (by decide +kernel) rfl
theorem zq_426 : Cond.selects "BrandRoom$Asset" yX0_versionAt yX0_versionAt ∈ zG := zG_of 426 (by decide +kernel) rfl
theorem zq_427 : Cond.code yX0_versionAt cX0_versionAt 3 (some .int) ∈ zG := zG_of 427 (by decide +kernel) rfl
theorem zq_428 : Cond.methodLink "BrandRoom" 323 yX4_addPiece ∈ zG := zG_of 428 (by decide +kernel) rfl
theorem zq_430 : Cond.instanceMethod yX4_addPiece ∈ zG := zG_of 430 (by decide +kernel) rfl
theorem zq_431 : Cond.code yX4_addPiece cX4_addPiece 7 (some .long) ∈ zG := zG_of 431 (by decide +kernel) rfl
theorem zq_432 : Cond.methodLink "BrandRoom" 336 yX4_ofPiece ∈ zG := zG_of 432 (by decide +kernel) rfl
theorem zq_433 : Cond.instanceMethod yX4_ofPiece ∈ zG := zG_of 433 (by decide +kernel) rfl
theorem zq_434 : Cond.selects "BrandRoom" yX4_ofPiece yX4_ofPiece ∈ zG := zG_of 434 (by decide +kernel) rfl
theorem zq_435 : Cond.code yX4_ofPiece cX4_ofPiece 4 (some .int) ∈ zG := zG_of 435 (by decide +kernel) rfl
theorem zq_436 : Cond.methodLink "BrandRoom" 131 yX4_pieceAt ∈ zG := zG_of 436 (by decide +kernel) rfl
theorem zq_438 : Cond.instanceMethod yX4_pieceAt ∈ zG := zG_of 438 (by decide +kernel) rfl
theorem zq_439 : Cond.code yX4_pieceAt cX4_pieceAt 2 (some (.object "BrandRoom$Piece")) ∈ zG := zG_of 439 (by decide +kernel) rfl
theorem zq_441 : Cond.methodLink "BrandRoom" 161 yX2_landsFitOn ∈ zG := zG_of 441 (by decide +kernel) rfl
theorem zq_442 : Cond.instanceMethod yX2_landsFitOn ∈ zG := zG_of 442 (by decide +kernel) rfl
theorem zq_443 : Cond.selects "BrandRoom$Piece" yX2_landsFitOn yX2_landsFitOn ∈ zG := zG_of 443 (by decide +kernel) rfl
theorem zq_444 : Cond.code yX2_landsFitOn cX2_landsFitOn 4 (some .int) ∈ zG := zG_of 444 (by decide +kernel) rfl
theorem zq_445 : Cond.methodLink "BrandRoom$Piece" 64 yX2_isFitOn ∈ zG := zG_of 445 (by decide +kernel) rfl
theorem zq_446 : Cond.instanceMethod yX2_isFitOn ∈ zG := zG_of 446 (by decide +kernel) rfl
theorem zq_447 : Cond.selects "BrandRoom$Piece" yX2_isFitOn yX2_isFitOn ∈ zG := zG_of 447 (by decide +kernel) rfl
theorem zq_448 : Cond.code yX2_isFitOn cX2_isFitOn 6 (some .boolean) ∈ zG := zG_of 448 (by decide +kernel) rfl
theorem zq_449 : Cond.methodLink "BrandRoom$Piece" 39 yJx4a65c_size_8abf5 ∈ zG := zG_of 449 (by decide +kernel) rfl
theorem zq_450 : Cond.methodLink "BrandRoom$Piece" 43 yJx4a65c_get_915e3 ∈ zG := zG_of 450 (by decide +kernel) rfl
theorem zq_451 : Cond.classLink "BrandRoom$Piece" 47 "BrandRoom$Asset" ∈ zG := zG_of 451 (by decide +kernel) rfl
theorem zq_452 : Cond.methodLink "BrandRoom$Piece" 49 yX0_versionAt ∈ zG := zG_of 452 (by decide +kernel) rfl
theorem zq_453 : Cond.methodLink "BrandRoom" 164 yX3_openBookingsOf ∈ zG := zG_of 453 (by decide +kernel) rfl
theorem zq_454 : Cond.instanceMethod yX3_openBookingsOf ∈ zG := zG_of 454 (by decide +kernel) rfl
theorem zq_455 : Cond.selects "BrandRoom$Plan" yX3_openBookingsOf yX3_openBookingsOf ∈ zG := zG_of 455 (by decide +kernel) rfl
theorem zq_456 : Cond.code yX3_openBookingsOf cX3_openBookingsOf 5 (some .int) ∈ zG := zG_of 456 (by decide +kernel) rfl
theorem zq_457 : Cond.methodLink "BrandRoom$Plan" 97 yX1_isOpen ∈ zG := zG_of 457 (by decide +kernel) rfl
theorem zq_458 : Cond.instanceMethod yX1_isOpen ∈ zG := zG_of 458 (by decide +kernel) rfl
theorem zq_459 : Cond.selects "BrandRoom$Booking" yX1_isOpen yX1_isOpen ∈ zG := zG_of 459 (by decide +kernel) rfl
theorem zq_460 : Cond.code yX1_isOpen cX1_isOpen 1 (some .boolean) ∈ zG := zG_of 460 (by decide +kernel) rfl
theorem zq_461 : Cond.methodLink "BrandRoom" 168 yX2_firstLaidDay ∈ zG := zG_of 461 (by decide +kernel) rfl
theorem zq_462 : Cond.instanceMethod yX2_firstLaidDay ∈ zG := zG_of 462 (by decide +kernel) rfl
theorem zq_463 : Cond.selects "BrandRoom$Piece" yX2_firstLaidDay yX2_firstLaidDay ∈ zG := zG_of 463 (by decide +kernel) rfl
theorem zq_464 : Cond.code yX2_firstLaidDay cX2_firstLaidDay 3 (some .int) ∈ zG := zG_of 464 (by decide +kernel) rfl
theorem zq_465 : Cond.methodLink "BrandRoom$Piece" 68 yX0_firstComes ∈ zG := zG_of 465 (by decide +kernel) rfl
theorem zq_466 : Cond.instanceMethod yX0_firstComes ∈ zG := zG_of 466 (by decide +kernel) rfl
theorem zq_467 : Cond.selects "BrandRoom$Asset" yX0_firstComes yX0_firstComes ∈ zG := zG_of 467 (by decide +kernel) rfl
theorem zq_468 : Cond.code yX0_firstComes cX0_firstComes 3 (some .int) ∈ zG := zG_of 468 (by decide +kernel) rfl
theorem zq_469 : Cond.methodLink "BrandRoom$Asset" 38 Lib.Math.min.name ∈ zG := zG_of 469 (by decide +kernel) rfl
theorem zq_470 : Cond.methodLink "BrandRoom$Piece" 71 Lib.Math.max.name ∈ zG := zG_of 470 (by decide +kernel) rfl
theorem zq_472 : Cond.methodLink "BrandRoom" 339 yX4_reason ∈ zG := zG_of 472 (by decide +kernel) rfl
theorem zq_473 : Cond.instanceMethod yX4_reason ∈ zG := zG_of 473 (by decide +kernel) rfl
theorem zq_474 : Cond.selects "BrandRoom" yX4_reason yX4_reason ∈ zG := zG_of 474 (by decide +kernel) rfl
theorem zq_475 : Cond.code yX4_reason cX4_reason 5 (some .int) ∈ zG := zG_of 475 (by decide +kernel) rfl
theorem zq_476 : Cond.methodLink "BrandRoom" 101 yX4_needLand ∈ zG := zG_of 476 (by decide +kernel) rfl
theorem zq_477 : Cond.static yX4_needLand ∈ zG := zG_of 477 (by decide +kernel) rfl
theorem zq_478 : Cond.code yX4_needLand cX4_needLand 1 none ∈ zG := zG_of 478 (by decide +kernel) rfl
theorem zq_479 : Cond.methodLink "BrandRoom" 354 yX4_isLand ∈ zG := zG_of 479 (by decide +kernel) rfl
theorem zq_480 : Cond.static yX4_isLand ∈ zG := zG_of 480 (by decide +kernel) rfl
theorem zq_481 : Cond.code yX4_isLand cX4_isLand 1 (some .boolean) ∈ zG := zG_of 481 (by decide +kernel) rfl
theorem zq_483 : Cond.methodLink "BrandRoom" 152 yX2_reasonOn ∈ zG := zG_of 483 (by decide +kernel) rfl
theorem zq_484 : Cond.instanceMethod yX2_reasonOn ∈ zG := zG_of 484 (by decide +kernel) rfl
theorem zq_485 : Cond.selects "BrandRoom$Piece" yX2_reasonOn yX2_reasonOn ∈ zG := zG_of 485 (by decide +kernel) rfl
theorem zq_486 : Cond.code yX2_reasonOn cX2_reasonOn 3 (some .int) ∈ zG := zG_of 486 (by decide +kernel) rfl
theorem zq_487 : Cond.methodLink "BrandRoom$Piece" 57 yX2_isLaidOn ∈ zG := zG_of 487 (by decide +kernel) rfl
theorem zq_488 : Cond.instanceMethod yX2_isLaidOn ∈ zG := zG_of 488 (by decide +kernel) rfl
theorem zq_489 : Cond.selects "BrandRoom$Piece" yX2_isLaidOn yX2_isLaidOn ∈ zG := zG_of 489 (by decide +kernel) rfl
theorem zq_490 : Cond.code yX2_isLaidOn cX2_isLaidOn 3 (some .boolean) ∈ zG := zG_of 490 (by decide +kernel) rfl
theorem zq_491 : Cond.methodLink "BrandRoom$Piece" 61 yX2_isGrantedOn ∈ zG := zG_of 491 (by decide +kernel) rfl
theorem zq_492 : Cond.instanceMethod yX2_isGrantedOn ∈ zG := zG_of 492 (by decide +kernel) rfl
theorem zq_493 : Cond.selects "BrandRoom$Piece" yX2_isGrantedOn yX2_isGrantedOn ∈ zG := zG_of 493 (by decide +kernel) rfl
theorem zq_494 : Cond.code yX2_isGrantedOn cX2_isGrantedOn 5 (some .boolean) ∈ zG := zG_of 494 (by decide +kernel) rfl
theorem zq_495 : Cond.methodLink "BrandRoom$Piece" 53 yX0_isGranted ∈ zG := zG_of 495 (by decide +kernel) rfl
theorem zq_496 : Cond.instanceMethod yX0_isGranted ∈ zG := zG_of 496 (by decide +kernel) rfl
theorem zq_497 : Cond.selects "BrandRoom$Asset" yX0_isGranted yX0_isGranted ∈ zG := zG_of 497 (by decide +kernel) rfl
theorem zq_498 : Cond.code yX0_isGranted cX0_isGranted 4 (some .boolean) ∈ zG := zG_of 498 (by decide +kernel) rfl
theorem zq_499 : Cond.methodLink "BrandRoom" 327 yX4_addBooking ∈ zG := zG_of 499 (by decide +kernel) rfl
theorem zq_501 : Cond.instanceMethod yX4_addBooking ∈ zG := zG_of 501 (by decide +kernel) rfl
theorem zq_502 : Cond.code yX4_addBooking cX4_addBooking 7 (some .long) ∈ zG := zG_of 502 (by decide +kernel) rfl
theorem zq_503 : Cond.methodLink "BrandRoom" 342 yX4_ofBooking ∈ zG := zG_of 503 (by decide +kernel) rfl
theorem zq_504 : Cond.methodLink "BrandRoom" 345 yX4_swapFor ∈ zG := zG_of 504 (by decide +kernel) rfl
theorem zq_505 : Cond.instanceMethod yX4_swapFor ∈ zG := zG_of 505 (by decide +kernel) rfl
theorem zq_506 : Cond.selects "BrandRoom" yX4_swapFor yX4_swapFor ∈ zG := zG_of 506 (by decide +kernel) rfl
theorem zq_507 : Cond.code yX4_swapFor cX4_swapFor 3 (some .int) ∈ zG := zG_of 507 (by decide +kernel) rfl
theorem zq_508 : Cond.methodLink "BrandRoom" 294 yX3_firstSwap ∈ zG := zG_of 508 (by decide +kernel) rfl
theorem zq_509 : Cond.instanceMethod yX3_firstSwap ∈ zG := zG_of 509 (by decide +kernel) rfl
theorem zq_510 : Cond.selects "BrandRoom$Plan" yX3_firstSwap yX3_firstSwap ∈ zG := zG_of 510 (by decide +kernel) rfl
theorem zq_511 : Cond.code yX3_firstSwap cX3_firstSwap 3 (some (.object "BrandRoom$Piece")) ∈ zG := zG_of 511 (by decide +kernel) rfl
theorem zq_512 : Cond.classLink "BrandRoom$Plan" 107 "BrandRoom$Piece" ∈ zG := zG_of 512 (by decide +kernel) rfl
theorem zq_513 : Cond.methodLink "BrandRoom$Plan" 109 yX3_canSwap ∈ zG := zG_of 513 (by decide +kernel) rfl
theorem zq_514 : Cond.instanceMethod yX3_canSwap ∈ zG := zG_of 514 (by decide +kernel) rfl
theorem zq_515 : Cond.selects "BrandRoom$Plan" yX3_canSwap yX3_canSwap ∈ zG := zG_of 515 (by decide +kernel) rfl
theorem zq_516 : Cond.code yX3_canSwap cX3_canSwap 3 (some .boolean) ∈ zG := zG_of 516 (by decide +kernel) rfl
theorem zq_517 : Cond.methodLink "BrandRoom$Plan" 120 yX2_isFitOn ∈ zG := zG_of 517 (by decide +kernel) rfl
theorem zq_518 : Cond.methodLink "BrandRoom$Plan" 123 yX2_isGrantedOn ∈ zG := zG_of 518 (by decide +kernel) rfl
theorem zq_519 : Cond.methodLink "BrandRoom$Plan" 127 yX3_isUsedIn ∈ zG := zG_of 519 (by decide +kernel) rfl
theorem zq_521 : Cond.instanceMethod yX3_isUsedIn ∈ zG := zG_of 521 (by decide +kernel) rfl
theorem zq_522 : Cond.code yX3_isUsedIn cX3_isUsedIn 5 (some .boolean) ∈ zG := zG_of 522 (by decide +kernel) rfl
theorem zq_523 : Cond.methodLink "BrandRoom" 348 yX4_offIn ∈ zG := zG_of 523 (by decide +kernel) rfl
theorem zq_524 : Cond.instanceMethod yX4_offIn ∈ zG := zG_of 524 (by decide +kernel) rfl
theorem zq_525 : Cond.selects "BrandRoom" yX4_offIn yX4_offIn ∈ zG := zG_of 525 (by decide +kernel) rfl
theorem zq_526 : Cond.code yX4_offIn cX4_offIn 5 (some .int) ∈ zG := zG_of 526 (by decide +kernel) rfl
theorem zq_527 : Cond.methodLink "BrandRoom" 298 Lib.Math.max.name ∈ zG := zG_of 527 (by decide +kernel) rfl
theorem zq_528 : Cond.methodLink "BrandRoom" 330 yX4_reach ∈ zG := zG_of 528 (by decide +kernel) rfl
theorem zq_529 : Cond.instanceMethod yX4_reach ∈ zG := zG_of 529 (by decide +kernel) rfl
theorem zq_530 : Cond.selects "BrandRoom" yX4_reach yX4_reach ∈ zG := zG_of 530 (by decide +kernel) rfl
theorem zq_531 : Cond.code yX4_reach cX4_reach 2 (some .int) ∈ zG := zG_of 531 (by decide +kernel) rfl
theorem zq_532 : Cond.methodLink "BrandRoom" 286 yX4_groupsReached ∈ zG := zG_of 532 (by decide +kernel) rfl
theorem zq_534 : Cond.instanceMethod yX4_groupsReached ∈ zG := zG_of 534 (by decide +kernel) rfl
theorem zq_535 : Cond.code yX4_groupsReached cX4_groupsReached 5 (some .int) ∈ zG := zG_of 535 (by decide +kernel) rfl
theorem zq_536 : Cond.methodLink "BrandRoom" 310 yX4_groupsOf ∈ zG := zG_of 536 (by decide +kernel) rfl
theorem zq_538 : Cond.instanceMethod yX4_groupsOf ∈ zG := zG_of 538 (by decide +kernel) rfl
theorem zq_539 : Cond.code yX4_groupsOf cX4_groupsOf 3 (some .int) ∈ zG := zG_of 539 (by decide +kernel) rfl
theorem zq_540 : Cond.methodLink "BrandRoom" 351 yX4_isMedium ∈ zG := zG_of 540 (by decide +kernel) rfl
theorem zq_541 : Cond.static yX4_isMedium ∈ zG := zG_of 541 (by decide +kernel) rfl
theorem zq_542 : Cond.code yX4_isMedium cX4_isMedium 1 (some .boolean) ∈ zG := zG_of 542 (by decide +kernel) rfl
theorem zq_543 : Cond.methodLink "BrandRoom" 289 yJ6_bitCount_0f7a4 ∈ zG := zG_of 543 (by decide +kernel) rfl
theorem zq_544 : Cond.static yJ6_bitCount_0f7a4 ∈ zG := zG_of 544 (by decide +kernel) rfl
theorem zq_545 : Cond.code yJ6_bitCount_0f7a4 cJ6_bitCount_0f7a4 1 (some .int) ∈ zG := zG_of 545 (by decide +kernel) rfl
theorem zq_546 : Cond.constant "java/lang/Integer" 265 1431655765 ∈ zG := zG_of 546 (by decide +kernel) rfl
theorem zq_547 : Cond.constant "java/lang/Integer" 266 858993459 ∈ zG := zG_of 547 (by decide +kernel) rfl
theorem zq_548 : Cond.constant "java/lang/Integer" 267 252645135 ∈ zG := zG_of 548 (by decide +kernel) rfl
theorem zq_549 : Cond.methodLink "BrandRoom" 333 yX4_lostIn ∈ zG := zG_of 549 (by decide +kernel) rfl
theorem zq_550 : Cond.instanceMethod yX4_lostIn ∈ zG := zG_of 550 (by decide +kernel) rfl
theorem zq_551 : Cond.selects "BrandRoom" yX4_lostIn yX4_lostIn ∈ zG := zG_of 551 (by decide +kernel) rfl
theorem zq_552 : Cond.code yX4_lostIn cX4_lostIn 4 (some .int) ∈ zG := zG_of 552 (by decide +kernel) rfl
theorem zq_554 : Cond.methodLink "BrandRoom" 303 yX3_copyFrom ∈ zG := zG_of 554 (by decide +kernel) rfl
theorem zq_555 : Cond.instanceMethod yX3_copyFrom ∈ zG := zG_of 555 (by decide +kernel) rfl
theorem zq_556 : Cond.selects "BrandRoom$Plan" yX3_copyFrom yX3_copyFrom ∈ zG := zG_of 556 (by decide +kernel) rfl
theorem zq_557 : Cond.code yX3_copyFrom cX3_copyFrom 4 none ∈ zG := zG_of 557 (by decide +kernel) rfl
theorem zq_558 : Cond.methodLinkNest "BrandRoom$Plan" 35 yX1_setTo "BrandRoom" ∈ zG := zG_of 558 (by decide +kernel) rfl
theorem zq_560 : Cond.instanceMethod yX1_setTo ∈ zG := zG_of 560 (by decide +kernel) rfl
theorem zq_561 : Cond.instantiable "BrandRoom$Booking" 12 ∈ zG := zG_of 561 (by decide +kernel) rfl
theorem zq_562 : Cond.code yX1_setTo cX1_setTo 2 none ∈ zG := zG_of 562 (by decide +kernel) rfl
theorem zq_563 : Cond.methodLink "BrandRoom$Plan" 39 yX1_init_ ∈ zG := zG_of 563 (by decide +kernel) rfl
theorem zq_564 : Cond.instanceMethod yX1_init_ ∈ zG := zG_of 564 (by decide +kernel) rfl
theorem zq_565 : Cond.code yX1_init_ cX1_init_ 2 none ∈ zG := zG_of 565 (by decide +kernel) rfl
theorem zq_566 : Cond.methodLink "BrandRoom$Booking" 3 Lib.objectInit ∈ zG := zG_of 566 (by decide +kernel) rfl
theorem zq_567 : Cond.methodLink "BrandRoom$Booking" 50 yX1_setTo ∈ zG := zG_of 567 (by decide +kernel) rfl
theorem zq_568 : Cond.fieldLink "BrandRoom$Booking" 31 "BrandRoom$Booking" "piece" "LBrandRoom$Piece;" ∈ zG := zG_of 568 (by decide +kernel) rfl
theorem zq_569 : Cond.fieldLinkNest "BrandRoom$Plan" 113 "BrandRoom$Booking" "piece" "LBrandRoom$Piece;" "BrandRoom" ∈ zG := zG_of 569 (by decide +kernel) rfl
theorem zq_570 : Cond.fieldLinkNest "BrandRoom" 224 "BrandRoom$Booking" "piece" "LBrandRoom$Piece;" "BrandRoom" ∈ zG := zG_of 570 (by decide +kernel) rfl
theorem zq_571 : Cond.fieldLink "BrandRoom$Booking" 35 "BrandRoom$Booking" "land" "I" ∈ zG := zG_of 571 (by decide +kernel) rfl
theorem zq_572 : Cond.fieldLinkNest "BrandRoom$Plan" 75 "BrandRoom$Booking" "land" "I" "BrandRoom" ∈ zG := zG_of 572 (by decide +kernel) rfl
theorem zq_573 : Cond.fieldLinkNest "BrandRoom" 232 "BrandRoom$Booking" "land" "I" "BrandRoom" ∈ zG := zG_of 573 (by decide +kernel) rfl
theorem zq_574 : Cond.fieldLink "BrandRoom$Booking" 38 "BrandRoom$Booking" "medium" "I" ∈ zG := zG_of 574 (by decide +kernel) rfl
theorem zq_575 : Cond.fieldLinkNest "BrandRoom$Plan" 78 "BrandRoom$Booking" "medium" "I" "BrandRoom" ∈ zG := zG_of 575 (by decide +kernel) rfl
theorem zq_576 : Cond.fieldLinkNest "BrandRoom" 235 "BrandRoom$Booking" "medium" "I" "BrandRoom" ∈ zG := zG_of 576 (by decide +kernel) rfl
theorem zq_577 : Cond.fieldLink "BrandRoom$Booking" 41 "BrandRoom$Booking" "from" "I" ∈ zG := zG_of 577 (by decide +kernel) rfl
theorem zq_578 : Cond.fieldLinkNest "BrandRoom$Plan" 81 "BrandRoom$Booking" "from" "I" "BrandRoom" ∈ zG := zG_of 578 (by decide +kernel) rfl
theorem zq_579 : Cond.fieldLinkNest "BrandRoom" 238 "BrandRoom$Booking" "from" "I" "BrandRoom" ∈ zG := zG_of 579 (by decide +kernel) rfl
theorem zq_580 : Cond.fieldLink "BrandRoom$Booking" 44 "BrandRoom$Booking" "to" "I" ∈ zG := zG_of 580 (by decide +kernel) rfl
theorem zq_581 : Cond.fieldLinkNest "BrandRoom$Plan" 84 "BrandRoom$Booking" "to" "I" "BrandRoom" ∈ zG := zG_of 581 (by decide +kernel) rfl
theorem zq_582 : Cond.fieldLinkNest "BrandRoom" 241 "BrandRoom$Booking" "to" "I" "BrandRoom" ∈ zG := zG_of 582 (by decide +kernel) rfl
theorem zq_583 : Cond.fieldLink "BrandRoom$Booking" 47 "BrandRoom$Booking" "price" "I" ∈ zG := zG_of 583 (by decide +kernel) rfl
theorem zq_584 : Cond.fieldLinkNest "BrandRoom" 244 "BrandRoom$Booking" "price" "I" "BrandRoom" ∈ zG := zG_of 584 (by decide +kernel) rfl
theorem zq_585 : Cond.fieldLink "BrandRoom$Booking" 9 "BrandRoom$Booking" "state" "I" ∈ zG := zG_of 585 (by decide +kernel) rfl
theorem zq_586 : Cond.fieldLinkNest "BrandRoom$Plan" 94 "BrandRoom$Booking" "state" "I" "BrandRoom" ∈ zG := zG_of 586 (by decide +kernel) rfl
theorem zq_587 : Cond.fieldLinkNest "BrandRoom" 215 "BrandRoom$Booking" "state" "I" "BrandRoom" ∈ zG := zG_of 587 (by decide +kernel) rfl
theorem zq_588 : Cond.fieldLink "BrandRoom$Booking" 15 "BrandRoom$Booking" "moved" "I" ∈ zG := zG_of 588 (by decide +kernel) rfl
theorem zq_589 : Cond.fieldLinkNest "BrandRoom" 247 "BrandRoom$Booking" "moved" "I" "BrandRoom" ∈ zG := zG_of 589 (by decide +kernel) rfl
theorem zq_590 : Cond.fieldLink "BrandRoom$Booking" 18 "BrandRoom$Booking" "pulled" "I" ∈ zG := zG_of 590 (by decide +kernel) rfl
theorem zq_591 : Cond.fieldLinkNest "BrandRoom" 250 "BrandRoom$Booking" "pulled" "I" "BrandRoom" ∈ zG := zG_of 591 (by decide +kernel) rfl
theorem zq_592 : Cond.fieldLink "BrandRoom$Booking" 21 "BrandRoom$Booking" "swapped" "I" ∈ zG := zG_of 592 (by decide +kernel) rfl
theorem zq_593 : Cond.fieldLinkNest "BrandRoom" 257 "BrandRoom$Booking" "swapped" "I" "BrandRoom" ∈ zG := zG_of 593 (by decide +kernel) rfl
theorem zq_594 : Cond.fieldLink "BrandRoom$Booking" 24 "BrandRoom$Booking" "on" "Z" ∈ zG := zG_of 594 (by decide +kernel) rfl
theorem zq_595 : Cond.fieldLinkNest "BrandRoom$Plan" 137 "BrandRoom$Booking" "on" "Z" "BrandRoom" ∈ zG := zG_of 595 (by decide +kernel) rfl
theorem zq_596 : Cond.fieldLinkNest "BrandRoom" 253 "BrandRoom$Booking" "on" "Z" "BrandRoom" ∈ zG := zG_of 596 (by decide +kernel) rfl
theorem zq_597 : Cond.fieldLink "BrandRoom$Booking" 28 "BrandRoom$Booking" "free" "Z" ∈ zG := zG_of 597 (by decide +kernel) rfl
theorem zq_623 : Cond.methodLink "BrandRoom$Plan" 41 yJx4a65c_add_9ea2d ∈ zG := zG_of 623 (by decide +kernel) rfl
theorem zq_624 : Cond.methodLink "BrandRoom" 74 Lib.Math.min.name ∈ zG := zG_of 624 (by decide +kernel) rfl
theorem zq_625 : Cond.methodLink "BrandRoom" 264 yX3_beginDay ∈ zG := zG_of 625 (by decide +kernel) rfl
theorem zq_626 : Cond.instanceMethod yX3_beginDay ∈ zG := zG_of 626 (by decide +kernel) rfl
theorem zq_627 : Cond.selects "BrandRoom$Plan" yX3_beginDay yX3_beginDay ∈ zG := zG_of 627 (by decide +kernel) rfl
theorem zq_628 : Cond.code yX3_beginDay cX3_beginDay 4 (some .int) ∈ zG := zG_of 628 (by decide +kernel) rfl
theorem zq_629 : Cond.methodLink "BrandRoom$Plan" 45 yX1_endIfPast ∈ zG := zG_of 629 (by decide +kernel) rfl
theorem zq_630 : Cond.instanceMethod yX1_endIfPast ∈ zG := zG_of 630 (by decide +kernel) rfl
theorem zq_631 : Cond.selects "BrandRoom$Booking" yX1_endIfPast yX1_endIfPast ∈ zG := zG_of 631 (by decide +kernel) rfl
theorem zq_632 : Cond.code yX1_endIfPast cX1_endIfPast 2 none ∈ zG := zG_of 632 (by decide +kernel) rfl
theorem zq_633 : Cond.methodLink "BrandRoom$Plan" 49 yX1_missesDeadline ∈ zG := zG_of 633 (by decide +kernel) rfl
theorem zq_634 : Cond.instanceMethod yX1_missesDeadline ∈ zG := zG_of 634 (by decide +kernel) rfl
theorem zq_635 : Cond.selects "BrandRoom$Booking" yX1_missesDeadline yX1_missesDeadline ∈ zG := zG_of 635 (by decide +kernel) rfl
theorem zq_636 : Cond.code yX1_missesDeadline cX1_missesDeadline 2 (some .boolean) ∈ zG := zG_of 636 (by decide +kernel) rfl
theorem zq_637 : Cond.methodLink "BrandRoom$Booking" 54 yX2_isFitOn ∈ zG := zG_of 637 (by decide +kernel) rfl
theorem zq_638 : Cond.methodLink "BrandRoom$Plan" 53 yX3_firstSwap ∈ zG := zG_of 638 (by decide +kernel) rfl
theorem zq_639 : Cond.methodLink "BrandRoom$Plan" 57 yX3_settle ∈ zG := zG_of 639 (by decide +kernel) rfl
theorem zq_641 : Cond.instanceMethod yX3_settle ∈ zG := zG_of 641 (by decide +kernel) rfl
theorem zq_642 : Cond.code yX3_settle cX3_settle 3 none ∈ zG := zG_of 642 (by decide +kernel) rfl
theorem zq_643 : Cond.methodLink "BrandRoom$Plan" 67 yX1_takePiece ∈ zG := zG_of 643 (by decide +kernel) rfl
theorem zq_644 : Cond.instanceMethod yX1_takePiece ∈ zG := zG_of 644 (by decide +kernel) rfl
theorem zq_645 : Cond.selects "BrandRoom$Booking" yX1_takePiece yX1_takePiece ∈ zG := zG_of 645 (by decide +kernel) rfl
theorem zq_646 : Cond.code yX1_takePiece cX1_takePiece 2 none ∈ zG := zG_of 646 (by decide +kernel) rfl
theorem zq_647 : Cond.methodLink "BrandRoom$Plan" 71 yX1_mayMove ∈ zG := zG_of 647 (by decide +kernel) rfl
theorem zq_648 : Cond.instanceMethod yX1_mayMove ∈ zG := zG_of 648 (by decide +kernel) rfl
theorem zq_649 : Cond.selects "BrandRoom$Booking" yX1_mayMove yX1_mayMove ∈ zG := zG_of 649 (by decide +kernel) rfl
theorem zq_650 : Cond.code yX1_mayMove cX1_mayMove 1 (some .boolean) ∈ zG := zG_of 650 (by decide +kernel) rfl
theorem zq_651 : Cond.methodLink "BrandRoom$Plan" 87 yX3_isTaken ∈ zG := zG_of 651 (by decide +kernel) rfl
theorem zq_652 : Cond.instanceMethod yX3_isTaken ∈ zG := zG_of 652 (by decide +kernel) rfl
theorem zq_653 : Cond.selects "BrandRoom$Plan" yX3_isTaken yX3_isTaken ∈ zG := zG_of 653 (by decide +kernel) rfl
theorem zq_654 : Cond.code yX3_isTaken cX3_isTaken 8 (some .boolean) ∈ zG := zG_of 654 (by decide +kernel) rfl
theorem zq_655 : Cond.methodLink "BrandRoom$Plan" 100 yX1_isIn ∈ zG := zG_of 655 (by decide +kernel) rfl
theorem zq_656 : Cond.instanceMethod yX1_isIn ∈ zG := zG_of 656 (by decide +kernel) rfl
theorem zq_657 : Cond.selects "BrandRoom$Booking" yX1_isIn yX1_isIn ∈ zG := zG_of 657 (by decide +kernel) rfl
theorem zq_658 : Cond.code yX1_isIn cX1_isIn 3 (some .boolean) ∈ zG := zG_of 658 (by decide +kernel) rfl
theorem zq_659 : Cond.methodLink "BrandRoom$Plan" 104 yX1_hasDayIn ∈ zG := zG_of 659 (by decide +kernel) rfl
theorem zq_660 : Cond.instanceMethod yX1_hasDayIn ∈ zG := zG_of 660 (by decide +kernel) rfl
theorem zq_661 : Cond.selects "BrandRoom$Booking" yX1_hasDayIn yX1_hasDayIn ∈ zG := zG_of 661 (by decide +kernel) rfl
theorem zq_662 : Cond.code yX1_hasDayIn cX1_hasDayIn 3 (some .boolean) ∈ zG := zG_of 662 (by decide +kernel) rfl
theorem zq_663 : Cond.methodLink "BrandRoom$Plan" 91 yX1_moveOn ∈ zG := zG_of 663 (by decide +kernel) rfl
theorem zq_664 : Cond.instanceMethod yX1_moveOn ∈ zG := zG_of 664 (by decide +kernel) rfl
theorem zq_665 : Cond.selects "BrandRoom$Booking" yX1_moveOn yX1_moveOn ∈ zG := zG_of 665 (by decide +kernel) rfl
theorem zq_666 : Cond.code yX1_moveOn cX1_moveOn 1 none ∈ zG := zG_of 666 (by decide +kernel) rfl
theorem zq_667 : Cond.methodLink "BrandRoom$Plan" 61 yX1_startIfDue ∈ zG := zG_of 667 (by decide +kernel) rfl
theorem zq_668 : Cond.instanceMethod yX1_startIfDue ∈ zG := zG_of 668 (by decide +kernel) rfl
theorem zq_669 : Cond.selects "BrandRoom$Booking" yX1_startIfDue yX1_startIfDue ∈ zG := zG_of 669 (by decide +kernel) rfl
theorem zq_670 : Cond.code yX1_startIfDue cX1_startIfDue 2 none ∈ zG := zG_of 670 (by decide +kernel) rfl
theorem zq_671 : Cond.methodLink "BrandRoom$Plan" 64 yX1_showOrPull ∈ zG := zG_of 671 (by decide +kernel) rfl
theorem zq_672 : Cond.instanceMethod yX1_showOrPull ∈ zG := zG_of 672 (by decide +kernel) rfl
theorem zq_673 : Cond.selects "BrandRoom$Booking" yX1_showOrPull yX1_showOrPull ∈ zG := zG_of 673 (by decide +kernel) rfl
theorem zq_674 : Cond.code yX1_showOrPull cX1_showOrPull 2 none ∈ zG := zG_of 674 (by decide +kernel) rfl
theorem zq_675 : Cond.methodLink "BrandRoom$Booking" 60 yX2_reasonOn ∈ zG := zG_of 675 (by decide +kernel) rfl
theorem zq_676 : Cond.methodLink "BrandRoomLaw" 22 yL_below ∈ zG := zG_of 676 (by decide +kernel) rfl
theorem zq_677 : Cond.static yL_below ∈ zG := zG_of 677 (by decide +kernel) rfl
theorem zq_679 : Cond.constant "BrandRoomLaw" 7 2147483647 ∈ zG := zG_of 679 (by decide +kernel) rfl
theorem zq_680 : Cond.methodLink "BrandRoomLaw" 12 yL_cell ∈ zG := zG_of 680 (by decide +kernel) rfl
theorem zq_681 : Cond.static yL_cell ∈ zG := zG_of 681 (by decide +kernel) rfl
theorem zq_683 : Cond.constant "BrandRoomLaw" 8 790386105 ∈ zG := zG_of 683 (by decide +kernel) rfl
theorem zq_684 : Cond.methodLink "BrandRoomLaw" 43 yL_act ∈ zG := zG_of 684 (by decide +kernel) rfl
theorem zq_685 : Cond.static yL_act ∈ zG := zG_of 685 (by decide +kernel) rfl
theorem zq_687 : Cond.classLink "BrandRoomLaw" 109 "java/lang/IndexOutOfBoundsException" ∈ zG := zG_of 687 (by decide +kernel) rfl
theorem zq_688 : Cond.classLink "BrandRoomLaw" 111 "java/lang/IllegalStateException" ∈ zG := zG_of 688 (by decide +kernel) rfl
theorem zq_689 : Cond.methodLink "BrandRoomLaw" 61 Lib.Math.max.name ∈ zG := zG_of 689 (by decide +kernel) rfl
theorem zq_690 : Cond.methodLink "BrandRoomLaw" 66 yX4_approve ∈ zG := zG_of 690 (by decide +kernel) rfl
theorem zq_691 : Cond.instanceMethod yX4_approve ∈ zG := zG_of 691 (by decide +kernel) rfl
theorem zq_692 : Cond.selects "BrandRoom" yX4_approve yX4_approve ∈ zG := zG_of 692 (by decide +kernel) rfl
theorem zq_693 : Cond.code yX4_approve cX4_approve 5 (some .boolean) ∈ zG := zG_of 693 (by decide +kernel) rfl
theorem zq_694 : Cond.methodLink "BrandRoom" 135 yX2_isLaidOn ∈ zG := zG_of 694 (by decide +kernel) rfl
theorem zq_696 : Cond.methodLink "BrandRoom" 141 yX2_isFitOn ∈ zG := zG_of 696 (by decide +kernel) rfl
theorem zq_697 : Cond.methodLink "BrandRoom" 145 yX2_approveLook ∈ zG := zG_of 697 (by decide +kernel) rfl
theorem zq_698 : Cond.instanceMethod yX2_approveLook ∈ zG := zG_of 698 (by decide +kernel) rfl
theorem zq_699 : Cond.selects "BrandRoom$Piece" yX2_approveLook yX2_approveLook ∈ zG := zG_of 699 (by decide +kernel) rfl
theorem zq_700 : Cond.code yX2_approveLook cX2_approveLook 5 none ∈ zG := zG_of 700 (by decide +kernel) rfl
theorem zq_701 : Cond.methodLink "BrandRoomLaw" 70 yX4_isFit ∈ zG := zG_of 701 (by decide +kernel) rfl
theorem zq_702 : Cond.instanceMethod yX4_isFit ∈ zG := zG_of 702 (by decide +kernel) rfl
theorem zq_703 : Cond.selects "BrandRoom" yX4_isFit yX4_isFit ∈ zG := zG_of 703 (by decide +kernel) rfl
theorem zq_704 : Cond.code yX4_isFit cX4_isFit 5 (some .boolean) ∈ zG := zG_of 704 (by decide +kernel) rfl
theorem zq_705 : Cond.methodLink "BrandRoomLaw" 74 yX4_hold ∈ zG := zG_of 705 (by decide +kernel) rfl
theorem zq_706 : Cond.instanceMethod yX4_hold ∈ zG := zG_of 706 (by decide +kernel) rfl
theorem zq_707 : Cond.selects "BrandRoom" yX4_hold yX4_hold ∈ zG := zG_of 707 (by decide +kernel) rfl
theorem zq_708 : Cond.code yX4_hold cX4_hold 5 (some .boolean) ∈ zG := zG_of 708 (by decide +kernel) rfl
theorem zq_709 : Cond.methodLink "BrandRoom" 149 yX2_dropApproval ∈ zG := zG_of 709 (by decide +kernel) rfl
theorem zq_710 : Cond.instanceMethod yX2_dropApproval ∈ zG := zG_of 710 (by decide +kernel) rfl
theorem zq_711 : Cond.selects "BrandRoom$Piece" yX2_dropApproval yX2_dropApproval ∈ zG := zG_of 711 (by decide +kernel) rfl
theorem zq_712 : Cond.code yX2_dropApproval cX2_dropApproval 2 none ∈ zG := zG_of 712 (by decide +kernel) rfl
theorem zq_713 : Cond.methodLink "BrandRoomLaw" 77 Lib.Math.min.name ∈ zG := zG_of 713 (by decide +kernel) rfl
theorem zq_714 : Cond.methodLink "BrandRoomLaw" 80 yX4_price ∈ zG := zG_of 714 (by decide +kernel) rfl
theorem zq_715 : Cond.instanceMethod yX4_price ∈ zG := zG_of 715 (by decide +kernel) rfl
theorem zq_716 : Cond.selects "BrandRoom" yX4_price yX4_price ∈ zG := zG_of 716 (by decide +kernel) rfl
theorem zq_717 : Cond.code yX4_price cX4_price 4 (some .int) ∈ zG := zG_of 717 (by decide +kernel) rfl
theorem zq_718 : Cond.methodLink "BrandRoom" 176 yX4_needOffer ∈ zG := zG_of 718 (by decide +kernel) rfl
theorem zq_720 : Cond.instanceMethod yX4_needOffer ∈ zG := zG_of 720 (by decide +kernel) rfl
theorem zq_721 : Cond.code yX4_needOffer cX4_needOffer 4 none ∈ zG := zG_of 721 (by decide +kernel) rfl
theorem zq_725 : Cond.methodLink "BrandRoom" 192 yX3_priceToday ∈ zG := zG_of 725 (by decide +kernel) rfl
theorem zq_726 : Cond.instanceMethod yX3_priceToday ∈ zG := zG_of 726 (by decide +kernel) rfl
theorem zq_727 : Cond.selects "BrandRoom$Plan" yX3_priceToday yX3_priceToday ∈ zG := zG_of 727 (by decide +kernel) rfl
theorem zq_728 : Cond.code yX3_priceToday cX3_priceToday 6 (some .int) ∈ zG := zG_of 728 (by decide +kernel) rfl
theorem zq_729 : Cond.methodLink "BrandRoom$Plan" 131 Lib.Math.max.name ∈ zG := zG_of 729 (by decide +kernel) rfl
theorem zq_730 : Cond.methodLink "BrandRoomLaw" 84 yX4_book ∈ zG := zG_of 730 (by decide +kernel) rfl
theorem zq_731 : Cond.instanceMethod yX4_book ∈ zG := zG_of 731 (by decide +kernel) rfl
theorem zq_732 : Cond.selects "BrandRoom" yX4_book yX4_book ∈ zG := zG_of 732 (by decide +kernel) rfl
theorem zq_733 : Cond.code yX4_book cX4_book 8 (some .int) ∈ zG := zG_of 733 (by decide +kernel) rfl
theorem zq_734 : Cond.methodLink "BrandRoom" 173 yX4_needMedium ∈ zG := zG_of 734 (by decide +kernel) rfl
theorem zq_735 : Cond.static yX4_needMedium ∈ zG := zG_of 735 (by decide +kernel) rfl
theorem zq_736 : Cond.code yX4_needMedium cX4_needMedium 1 none ∈ zG := zG_of 736 (by decide +kernel) rfl
theorem zq_739 : Cond.methodLink "BrandRoom" 184 yX3_isTaken ∈ zG := zG_of 739 (by decide +kernel) rfl
theorem zq_741 : Cond.methodLink "BrandRoom" 196 yX1_init ∈ zG := zG_of 741 (by decide +kernel) rfl
theorem zq_742 : Cond.instanceMethod yX1_init ∈ zG := zG_of 742 (by decide +kernel) rfl
theorem zq_743 : Cond.code yX1_init cX1_init 7 none ∈ zG := zG_of 743 (by decide +kernel) rfl
theorem zq_744 : Cond.methodLink "BrandRoomLaw" 88 yX4_cancel ∈ zG := zG_of 744 (by decide +kernel) rfl
theorem zq_745 : Cond.instanceMethod yX4_cancel ∈ zG := zG_of 745 (by decide +kernel) rfl
theorem zq_746 : Cond.selects "BrandRoom" yX4_cancel yX4_cancel ∈ zG := zG_of 746 (by decide +kernel) rfl
theorem zq_747 : Cond.code yX4_cancel cX4_cancel 3 (some .int) ∈ zG := zG_of 747 (by decide +kernel) rfl
theorem zq_748 : Cond.methodLink "BrandRoom" 203 yX1_isOpen ∈ zG := zG_of 748 (by decide +kernel) rfl
theorem zq_750 : Cond.methodLink "BrandRoom" 209 yX1_giveUp ∈ zG := zG_of 750 (by decide +kernel) rfl
theorem zq_751 : Cond.instanceMethod yX1_giveUp ∈ zG := zG_of 751 (by decide +kernel) rfl
theorem zq_752 : Cond.selects "BrandRoom$Booking" yX1_giveUp yX1_giveUp ∈ zG := zG_of 752 (by decide +kernel) rfl
theorem zq_753 : Cond.code yX1_giveUp cX1_giveUp 1 none ∈ zG := zG_of 753 (by decide +kernel) rfl
theorem zq_754 : Cond.methodLink "BrandRoomLaw" 91 yX4_swapFor ∈ zG := zG_of 754 (by decide +kernel) rfl
theorem zq_755 : Cond.methodLink "BrandRoomLaw" 94 yX4_swap ∈ zG := zG_of 755 (by decide +kernel) rfl
theorem zq_756 : Cond.instanceMethod yX4_swap ∈ zG := zG_of 756 (by decide +kernel) rfl
theorem zq_757 : Cond.selects "BrandRoom" yX4_swap yX4_swap ∈ zG := zG_of 757 (by decide +kernel) rfl
theorem zq_758 : Cond.code yX4_swap cX4_swap 6 (some .int) ∈ zG := zG_of 758 (by decide +kernel) rfl
theorem zq_759 : Cond.methodLink "BrandRoom" 218 yX3_canSwap ∈ zG := zG_of 759 (by decide +kernel) rfl
theorem zq_761 : Cond.methodLink "BrandRoom" 228 yX1_takePiece ∈ zG := zG_of 761 (by decide +kernel) rfl
theorem zq_762 : Cond.methodLink "BrandRoomLaw" 97 yX4_late ∈ zG := zG_of 762 (by decide +kernel) rfl
theorem zq_763 : Cond.instanceMethod yX4_late ∈ zG := zG_of 763 (by decide +kernel) rfl
theorem zq_764 : Cond.selects "BrandRoom" yX4_late yX4_late ∈ zG := zG_of 764 (by decide +kernel) rfl
theorem zq_765 : Cond.code yX4_late cX4_late 6 (some .int) ∈ zG := zG_of 765 (by decide +kernel) rfl
theorem zq_767 : Cond.methodLink "BrandRoom" 69 yX0_lastComes ∈ zG := zG_of 767 (by decide +kernel) rfl
theorem zq_768 : Cond.instanceMethod yX0_lastComes ∈ zG := zG_of 768 (by decide +kernel) rfl
theorem zq_769 : Cond.selects "BrandRoom$Asset" yX0_lastComes yX0_lastComes ∈ zG := zG_of 769 (by decide +kernel) rfl
theorem zq_770 : Cond.code yX0_lastComes cX0_lastComes 1 (some .int) ∈ zG := zG_of 770 (by decide +kernel) rfl
theorem zq_771 : Cond.methodLink "BrandRoom$Asset" 34 yX0_hasLast ∈ zG := zG_of 771 (by decide +kernel) rfl
theorem zq_773 : Cond.instanceMethod yX0_hasLast ∈ zG := zG_of 773 (by decide +kernel) rfl
theorem zq_774 : Cond.code yX0_hasLast cX0_hasLast 1 (some .boolean) ∈ zG := zG_of 774 (by decide +kernel) rfl
theorem zq_776 : Cond.methodLink "BrandRoom" 80 yX0_putLast ∈ zG := zG_of 776 (by decide +kernel) rfl
theorem zq_777 : Cond.instanceMethod yX0_putLast ∈ zG := zG_of 777 (by decide +kernel) rfl
theorem zq_778 : Cond.selects "BrandRoom$Asset" yX0_putLast yX0_putLast ∈ zG := zG_of 778 (by decide +kernel) rfl
theorem zq_779 : Cond.code yX0_putLast cX0_putLast 2 none ∈ zG := zG_of 779 (by decide +kernel) rfl
theorem zq_780 : Cond.methodLink "BrandRoomLaw" 100 yX4_groups ∈ zG := zG_of 780 (by decide +kernel) rfl
theorem zq_781 : Cond.instanceMethod yX4_groups ∈ zG := zG_of 781 (by decide +kernel) rfl
theorem zq_782 : Cond.selects "BrandRoom" yX4_groups yX4_groups ∈ zG := zG_of 782 (by decide +kernel) rfl
theorem zq_783 : Cond.code yX4_groups cX4_groups 6 (some .int) ∈ zG := zG_of 783 (by decide +kernel) rfl
theorem zq_785 : Cond.methodLink "BrandRoomLaw" 103 yX4_lostIn ∈ zG := zG_of 785 (by decide +kernel) rfl
theorem zq_786 : Cond.methodLink "BrandRoomLaw" 106 yX4_day ∈ zG := zG_of 786 (by decide +kernel) rfl
theorem zq_787 : Cond.instanceMethod yX4_day ∈ zG := zG_of 787 (by decide +kernel) rfl
theorem zq_788 : Cond.selects "BrandRoom" yX4_day yX4_day ∈ zG := zG_of 788 (by decide +kernel) rfl
theorem zq_789 : Cond.code yX4_day cX4_day 1 (some .int) ∈ zG := zG_of 789 (by decide +kernel) rfl
theorem zq_791 : Cond.methodLink "BrandRoomLaw" 51 yL_areBookingsRight ∈ zG := zG_of 791 (by decide +kernel) rfl
theorem zq_792 : Cond.static yL_areBookingsRight ∈ zG := zG_of 792 (by decide +kernel) rfl
theorem zq_794 : Cond.methodLink "BrandRoomLaw" 113 yX4_offIn ∈ zG := zG_of 794 (by decide +kernel) rfl
theorem zq_795 : Cond.methodLink "BrandRoomLaw" 116 yX4_ofPiece ∈ zG := zG_of 795 (by decide +kernel) rfl
theorem zq_796 : Cond.methodLink "BrandRoomLaw" 55 yL_arePiecesRight ∈ zG := zG_of 796 (by decide +kernel) rfl
theorem zq_797 : Cond.static yL_arePiecesRight ∈ zG := zG_of 797 (by decide +kernel) rfl
theorem zq_799 : Cond.methodLink "BrandRoomLaw" 119 yX4_reason ∈ zG := zG_of 799 (by decide +kernel) rfl
theorem zq_800 : Cond.methodLink "BrandRoomLaw" 122 yX4_hasRights ∈ zG := zG_of 800 (by decide +kernel) rfl
theorem zq_801 : Cond.instanceMethod yX4_hasRights ∈ zG := zG_of 801 (by decide +kernel) rfl
theorem zq_802 : Cond.selects "BrandRoom" yX4_hasRights yX4_hasRights ∈ zG := zG_of 802 (by decide +kernel) rfl
theorem zq_803 : Cond.code yX4_hasRights cX4_hasRights 5 (some .boolean) ∈ zG := zG_of 803 (by decide +kernel) rfl
theorem zq_804 : Cond.methodLink "BrandRoom" 104 yX0_isGranted ∈ zG := zG_of 804 (by decide +kernel) rfl
theorem zq_805 : Cond.methodLink "BrandRoomLaw" 58 yL_arePlacesRight ∈ zG := zG_of 805 (by decide +kernel) rfl
theorem zq_806 : Cond.static yL_arePlacesRight ∈ zG := zG_of 806 (by decide +kernel) rfl
theorem zq_808 : Cond.classLink "BrandRoomLaw" 125 "[[I" ∈ zG := zG_of 808 (by decide +kernel) rfl
theorem zq_809 : Cond.methodLink "BrandRoomLaw" 127 yX4_reach ∈ zG := zG_of 809 (by decide +kernel) rfl
theorem zq_810 : Cond.methodLink "BrandRoomLaw" 130 yX4_at ∈ zG := zG_of 810 (by decide +kernel) rfl
theorem zq_811 : Cond.instanceMethod yX4_at ∈ zG := zG_of 811 (by decide +kernel) rfl
theorem zq_812 : Cond.selects "BrandRoom" yX4_at yX4_at ∈ zG := zG_of 812 (by decide +kernel) rfl
theorem zq_813 : Cond.code yX4_at cX4_at 4 (some .int) ∈ zG := zG_of 813 (by decide +kernel) rfl
theorem zq_814 : Cond.methodLink "BrandRoom" 267 yX3_bookingShownAt ∈ zG := zG_of 814 (by decide +kernel) rfl
theorem zq_815 : Cond.instanceMethod yX3_bookingShownAt ∈ zG := zG_of 815 (by decide +kernel) rfl
theorem zq_816 : Cond.selects "BrandRoom$Plan" yX3_bookingShownAt yX3_bookingShownAt ∈ zG := zG_of 816 (by decide +kernel) rfl
theorem zq_817 : Cond.code yX3_bookingShownAt cX3_bookingShownAt 6 (some .int) ∈ zG := zG_of 817 (by decide +kernel) rfl
theorem zq_831 : Cond.selects "[Ljava/lang/Object;" ⟨"java/lang/Object", "getClass", "()Ljava/lang/Class;"⟩ ⟨"java/lang/Object", "getClass", "()Ljava/lang/Class;"⟩ ∈ zG := zG_of 831 (by decide +kernel) rfl
theorem in_Jx4a65c : ∀ w ∈ u_ws RJx4a65c TJx4a65c 3, w ∈ zG := show ∀ w ∈ [u_lay RJx4a65c TJx4a65c 0, u_lay RJx4a65c TJx4a65c 1, u_lay RJx4a65c TJx4a65c 2], w ∈ zG from List.forall_mem_cons.mpr ⟨zG_of 69 (by decide +kernel) rfl, List.forall_mem_cons.mpr ⟨zG_of 65 (by decide +kernel) rfl, List.forall_mem_cons.mpr ⟨zG_of 67 (by decide +kernel) rfl, (fun _ h => nomatch h)⟩⟩⟩
theorem in_X0 : ∀ w ∈ u_ws RX0 TX0 5, w ∈ zG := show ∀ w ∈ [u_lay RX0 TX0 0, u_lay RX0 TX0 1, u_lay RX0 TX0 2, u_lay RX0 TX0 3, u_lay RX0 TX0 4], w ∈ zG from List.forall_mem_cons.mpr ⟨zG_of 198 (by decide +kernel) rfl, List.forall_mem_cons.mpr ⟨zG_of 200 (by decide +kernel) rfl, List.forall_mem_cons.mpr ⟨zG_of 202 (by decide +kernel) rfl, List.forall_mem_cons.mpr ⟨zG_of 204 (by decide +kernel) rfl, List.forall_mem_cons.mpr ⟨zG_of 206 (by decide +kernel) rfl, (fun _ h => nomatch h)⟩⟩⟩⟩⟩
theorem in_X1 : ∀ w ∈ u_ws RX1 TX1 12, w ∈ zG := show ∀ w ∈ [u_lay RX1 TX1 0, u_lay RX1 TX1 1, u_lay RX1 TX1 2, u_lay RX1 TX1 3, u_lay RX1 TX1 4, u_lay RX1 TX1 5, u_lay RX1 TX1 6, u_lay RX1 TX1 7, u_lay RX1 TX1 8, u_lay RX1 TX1 9, u_lay RX1 TX1 10, u_lay RX1 TX1 11], w ∈ zG from List.forall_mem_cons.mpr ⟨zG_of 598 (by decide +kernel) rfl, List.forall_mem_cons.mpr ⟨zG_of 600 (by decide +kernel) rfl, List.forall_mem_cons.mpr ⟨zG_of 602 (by decide +kernel) rfl, List.forall_mem_cons.mpr ⟨zG_of 604 (by decide +kernel) rfl, List.forall_mem_cons.mpr ⟨zG_of 606 (by decide +kernel) rfl, List.forall_mem_cons.mpr ⟨zG_of 608 (by decide +kernel) rfl, List.forall_mem_cons.mpr ⟨zG_of 610 (by decide +kernel) rfl, List.forall_mem_cons.mpr ⟨zG_of 612 (by decide +kernel) rfl, List.forall_mem_cons.mpr ⟨zG_of 614 (by decide +kernel) rfl, List.forall_mem_cons.mpr ⟨zG_of 616 (by decide +kernel) rfl, List.forall_mem_cons.mpr ⟨zG_of 618 (by decide +kernel) rfl, List.forall_mem_cons.mpr ⟨zG_of 620 (by decide +kernel) rfl, (fun _ h => nomatch h)⟩⟩⟩⟩⟩⟩⟩⟩⟩⟩⟩⟩
theorem in_X2 : ∀ w ∈ u_ws RX2 TX2 5, w ∈ zG := show ∀ w ∈ [u_lay RX2 TX2 0, u_lay RX2 TX2 1, u_lay RX2 TX2 2, u_lay RX2 TX2 3, u_lay RX2 TX2 4], w ∈ zG from List.forall_mem_cons.mpr ⟨zG_of 366 (by decide +kernel) rfl, List.forall_mem_cons.mpr ⟨zG_of 368 (by decide +kernel) rfl, List.forall_mem_cons.mpr ⟨zG_of 370 (by decide +kernel) rfl, List.forall_mem_cons.mpr ⟨zG_of 372 (by decide +kernel) rfl, List.forall_mem_cons.mpr ⟨zG_of 374 (by decide +kernel) rfl, (fun _ h => nomatch h)⟩⟩⟩⟩⟩
theorem in_X3 : ∀ w ∈ u_ws RX3 TX3 3, w ∈ zG := show ∀ w ∈ [u_lay RX3 TX3 0, u_lay RX3 TX3 1, u_lay RX3 TX3 2], w ∈ zG from List.forall_mem_cons.mpr ⟨zG_of 86 (by decide +kernel) rfl, List.forall_mem_cons.mpr ⟨zG_of 88 (by decide +kernel) rfl, List.forall_mem_cons.mpr ⟨zG_of 90 (by decide +kernel) rfl, (fun _ h => nomatch h)⟩⟩⟩
theorem in_X4 : ∀ w ∈ u_ws RX4 TX4 4, w ∈ zG := show ∀ w ∈ [u_lay RX4 TX4 0, u_lay RX4 TX4 1, u_lay RX4 TX4 2, u_lay RX4 TX4 3], w ∈ zG from List.forall_mem_cons.mpr ⟨zG_of 98 (by decide +kernel) rfl, List.forall_mem_cons.mpr ⟨zG_of 100 (by decide +kernel) rfl, List.forall_mem_cons.mpr ⟨zG_of 102 (by decide +kernel) rfl, List.forall_mem_cons.mpr ⟨zG_of 104 (by decide +kernel) rfl, (fun _ h => nomatch h)⟩⟩⟩⟩
theorem at_X4_309a : ∀ w ∈ vx_atS RX4 309 "java/lang/IndexOutOfBoundsException" ["java/lang/RuntimeException", "java/lang/Exception"], w ∈ lw_tbl ∧ zw_gw w = true := by decide +kernel
theorem at_X4_38a : ∀ w ∈ vx_atS RX4 38 "java/lang/IllegalStateException" ["java/lang/RuntimeException", "java/lang/Exception"], w ∈ lw_tbl ∧ zw_gw w = true := by decide +kernel
theorem at_X4_60a : ∀ w ∈ vx_atS RX4 60 "java/lang/IllegalArgumentException" ["java/lang/RuntimeException", "java/lang/Exception"], w ∈ lw_tbl ∧ zw_gw w = true := by decide +kernel
theorem at_X4_309 : ∀ w ∈ vx_atS RX4 309 "java/lang/IndexOutOfBoundsException" ["java/lang/RuntimeException", "java/lang/Exception"], w ∈ zG := fun w hw => List.mem_filter.mpr ⟨(at_X4_309a w hw).1, (at_X4_309a w hw).2⟩
theorem at_X4_38 : ∀ w ∈ vx_atS RX4 38 "java/lang/IllegalStateException" ["java/lang/RuntimeException", "java/lang/Exception"], w ∈ zG := fun w hw => List.mem_filter.mpr ⟨(at_X4_38a w hw).1, (at_X4_38a w hw).2⟩
theorem at_X4_60 : ∀ w ∈ vx_atS RX4 60 "java/lang/IllegalArgumentException" ["java/lang/RuntimeException", "java/lang/Exception"], w ∈ zG := fun w hw => List.mem_filter.mpr ⟨(at_X4_60a w hw).1, (at_X4_60a w hw).2⟩
theorem fd_X0_9 : z_fin RX0 1 0 := ⟨RX0, TX0, 5, rfl, rfl⟩
theorem fd_X2_12 : z_fin RX2 3 3 := ⟨RX2, TX2, 5, rfl, rfl⟩
theorem fd_X2_20 : z_fin RX2 3 4 := ⟨RX2, TX2, 5, rfl, rfl⟩
theorem fd_X2_23 : z_fin RX2 3 0 := ⟨RX2, TX2, 5, rfl, rfl⟩
theorem fd_X2_27 : z_fin RX2 3 1 := ⟨RX2, TX2, 5, rfl, rfl⟩
theorem fd_X2_30 : z_fin RX2 3 2 := ⟨RX2, TX2, 5, rfl, rfl⟩
theorem fd_X3_12 : z_fin RX3 4 0 := ⟨RX3, TX3, 3, rfl, rfl⟩
theorem fd_X4_10 : z_fin RX4 5 0 := ⟨RX4, TX4, 4, rfl, rfl⟩
theorem fd_X4_16 : z_fin RX4 5 1 := ⟨RX4, TX4, 4, rfl, rfl⟩
theorem fd_X4_23 : z_fin RX4 5 2 := ⟨RX4, TX4, 4, rfl, rfl⟩
theorem fd_X4_27 : z_fin RX4 5 3 := ⟨RX4, TX4, 4, rfl, rfl⟩
theorem fl_Jx4a65c_48 : z_fld RJx4a65c 48 0 2 3 .int false := ⟨by decide, by decide, RJx4a65c, TJx4a65c, "java/util/ArrayList", rfl, in_Jx4a65c, Or.inl rfl, Or.inl zq_61, by decide +kernel, rfl, ⟨tyJx4a65c, tyJx4a65c_ok⟩, nmJx4a65c⟩
theorem fl_Jx4a65c_63 : z_fld RJx4a65c 63 0 0 3 .int false := ⟨by decide, by decide, RJx4a65c, TJx4a65c, "java/util/ArrayList", rfl, in_Jx4a65c, Or.inr zq_64, Or.inl zq_63, by decide +kernel, rfl, ⟨tyJx4a65c, tyJx4a65c_ok⟩, nmJx4a65c⟩
theorem fl_Jx4a65c_9 : z_fld RJx4a65c 9 0 1 3 (.array (.object "java/lang/Object")) false := ⟨by decide, by decide, RJx4a65c, TJx4a65c, "java/util/ArrayList", rfl, in_Jx4a65c, Or.inl rfl, Or.inl zq_60, by decide +kernel, rfl, ⟨tyJx4a65c, tyJx4a65c_ok⟩, nmJx4a65c⟩
theorem fl_Jxc12de_7 : z_fld RJxc12de 7 0 0 3 .int false := ⟨by decide, by decide, RJx4a65c, TJx4a65c, "java/util/AbstractList", rfl, in_Jx4a65c, Or.inl rfl, Or.inl zq_62, by decide +kernel, rfl, ⟨tyJx4a65c, tyJx4a65c_ok⟩, nmJx4a65c⟩
theorem fl_X0_15 : z_fld RX0 15 1 1 5 .int false := ⟨by decide, by decide, RX0, TX0, "BrandRoom$Asset", rfl, in_X0, Or.inl rfl, Or.inl zq_193, by decide +kernel, rfl, ⟨tyX0, tyX0_ok⟩, nmX0⟩
theorem fl_X0_19 : z_fld RX0 19 1 2 5 .int false := ⟨by decide, by decide, RX0, TX0, "BrandRoom$Asset", rfl, in_X0, Or.inl rfl, Or.inl zq_194, by decide +kernel, rfl, ⟨tyX0, tyX0_ok⟩, nmX0⟩
theorem fl_X0_22 : z_fld RX0 22 1 3 5 .int false := ⟨by decide, by decide, RX0, TX0, "BrandRoom$Asset", rfl, in_X0, Or.inl rfl, Or.inl zq_196, by decide +kernel, rfl, ⟨tyX0, tyX0_ok⟩, nmX0⟩
theorem fl_X0_25 : z_fld RX0 25 1 4 5 .int false := ⟨by decide, by decide, RX0, TX0, "BrandRoom$Asset", rfl, in_X0, Or.inl rfl, Or.inl zq_197, by decide +kernel, rfl, ⟨tyX0, tyX0_ok⟩, nmX0⟩
theorem fl_X0_9 : z_fld RX0 9 1 0 5 (.array .int) true := ⟨by decide, by decide, RX0, TX0, "BrandRoom$Asset", rfl, in_X0, Or.inl rfl, Or.inl zq_192, by decide +kernel, rfl, ⟨tyX0, tyX0_ok⟩, nmX0⟩
theorem fl_X1_15 : z_fld RX1 15 2 7 12 .int false := ⟨by decide, by decide, RX1, TX1, "BrandRoom$Booking", rfl, in_X1, Or.inl rfl, Or.inl zq_588, by decide +kernel, rfl, ⟨tyX1, tyX1_ok⟩, nmX1⟩
theorem fl_X1_18 : z_fld RX1 18 2 8 12 .int false := ⟨by decide, by decide, RX1, TX1, "BrandRoom$Booking", rfl, in_X1, Or.inl rfl, Or.inl zq_590, by decide +kernel, rfl, ⟨tyX1, tyX1_ok⟩, nmX1⟩
theorem fl_X1_21 : z_fld RX1 21 2 9 12 .int false := ⟨by decide, by decide, RX1, TX1, "BrandRoom$Booking", rfl, in_X1, Or.inl rfl, Or.inl zq_592, by decide +kernel, rfl, ⟨tyX1, tyX1_ok⟩, nmX1⟩
theorem fl_X1_24 : z_fld RX1 24 2 10 12 .boolean false := ⟨by decide, by decide, RX1, TX1, "BrandRoom$Booking", rfl, in_X1, Or.inl rfl, Or.inl zq_594, by decide +kernel, rfl, ⟨tyX1, tyX1_ok⟩, nmX1⟩
theorem fl_X1_28 : z_fld RX1 28 2 11 12 .boolean false := ⟨by decide, by decide, RX1, TX1, "BrandRoom$Booking", rfl, in_X1, Or.inl rfl, Or.inl zq_597, by decide +kernel, rfl, ⟨tyX1, tyX1_ok⟩, nmX1⟩
theorem fl_X1_31 : z_fld RX1 31 2 0 12 (.object "BrandRoom$Piece") false := ⟨by decide, by decide, RX1, TX1, "BrandRoom$Booking", rfl, in_X1, Or.inl rfl, Or.inl zq_568, by decide +kernel, rfl, ⟨tyX1, tyX1_ok⟩, nmX1⟩
theorem fl_X1_35 : z_fld RX1 35 2 1 12 .int false := ⟨by decide, by decide, RX1, TX1, "BrandRoom$Booking", rfl, in_X1, Or.inl rfl, Or.inl zq_571, by decide +kernel, rfl, ⟨tyX1, tyX1_ok⟩, nmX1⟩
theorem fl_X1_38 : z_fld RX1 38 2 2 12 .int false := ⟨by decide, by decide, RX1, TX1, "BrandRoom$Booking", rfl, in_X1, Or.inl rfl, Or.inl zq_574, by decide +kernel, rfl, ⟨tyX1, tyX1_ok⟩, nmX1⟩
theorem fl_X1_41 : z_fld RX1 41 2 3 12 .int false := ⟨by decide, by decide, RX1, TX1, "BrandRoom$Booking", rfl, in_X1, Or.inl rfl, Or.inl zq_577, by decide +kernel, rfl, ⟨tyX1, tyX1_ok⟩, nmX1⟩
theorem fl_X1_44 : z_fld RX1 44 2 4 12 .int false := ⟨by decide, by decide, RX1, TX1, "BrandRoom$Booking", rfl, in_X1, Or.inl rfl, Or.inl zq_580, by decide +kernel, rfl, ⟨tyX1, tyX1_ok⟩, nmX1⟩
theorem fl_X1_47 : z_fld RX1 47 2 5 12 .int false := ⟨by decide, by decide, RX1, TX1, "BrandRoom$Booking", rfl, in_X1, Or.inl rfl, Or.inl zq_583, by decide +kernel, rfl, ⟨tyX1, tyX1_ok⟩, nmX1⟩
theorem fl_X1_9 : z_fld RX1 9 2 6 12 .int false := ⟨by decide, by decide, RX1, TX1, "BrandRoom$Booking", rfl, in_X1, Or.inl rfl, Or.inl zq_585, by decide +kernel, rfl, ⟨tyX1, tyX1_ok⟩, nmX1⟩
theorem fl_X2_12 : z_fld RX2 12 3 3 5 (.object "java/util/ArrayList") true := ⟨by decide, by decide, RX2, TX2, "BrandRoom$Piece", rfl, in_X2, Or.inl rfl, Or.inl zq_363, by decide +kernel, rfl, ⟨tyX2, tyX2_ok⟩, nmX2⟩
theorem fl_X2_20 : z_fld RX2 20 3 4 5 (.array (.array .int)) true := ⟨by decide, by decide, RX2, TX2, "BrandRoom$Piece", rfl, in_X2, Or.inl rfl, Or.inl zq_365, by decide +kernel, rfl, ⟨tyX2, tyX2_ok⟩, nmX2⟩
theorem fl_X2_23 : z_fld RX2 23 3 0 5 .int true := ⟨by decide, by decide, RX2, TX2, "BrandRoom$Piece", rfl, in_X2, Or.inl rfl, Or.inl zq_356, by decide +kernel, rfl, ⟨tyX2, tyX2_ok⟩, nmX2⟩
theorem fl_X2_27 : z_fld RX2 27 3 1 5 .int true := ⟨by decide, by decide, RX2, TX2, "BrandRoom$Piece", rfl, in_X2, Or.inl rfl, Or.inl zq_358, by decide +kernel, rfl, ⟨tyX2, tyX2_ok⟩, nmX2⟩
theorem fl_X2_30 : z_fld RX2 30 3 2 5 .int true := ⟨by decide, by decide, RX2, TX2, "BrandRoom$Piece", rfl, in_X2, Or.inl rfl, Or.inl zq_361, by decide +kernel, rfl, ⟨tyX2, tyX2_ok⟩, nmX2⟩
theorem fl_X3_113 : z_fld RX3 113 2 0 12 (.object "BrandRoom$Piece") false := ⟨by decide, by decide, RX1, TX1, "BrandRoom$Booking", rfl, in_X1, Or.inl rfl, Or.inr ⟨_, zq_569⟩, by decide +kernel, rfl, ⟨tyX1, tyX1_ok⟩, nmX1⟩
theorem fl_X3_117 : z_fld RX3 117 3 1 5 .int true := ⟨by decide, by decide, RX2, TX2, "BrandRoom$Piece", rfl, in_X2, Or.inl rfl, Or.inr ⟨_, zq_359⟩, by decide +kernel, rfl, ⟨tyX2, tyX2_ok⟩, nmX2⟩
theorem fl_X3_12 : z_fld RX3 12 4 0 3 (.object "java/util/ArrayList") true := ⟨by decide, by decide, RX3, TX3, "BrandRoom$Plan", rfl, in_X3, Or.inl rfl, Or.inl zq_80, by decide +kernel, rfl, ⟨tyX3, tyX3_ok⟩, nmX3⟩
theorem fl_X3_137 : z_fld RX3 137 2 10 12 .boolean false := ⟨by decide, by decide, RX1, TX1, "BrandRoom$Booking", rfl, in_X1, Or.inl rfl, Or.inr ⟨_, zq_595⟩, by decide +kernel, rfl, ⟨tyX1, tyX1_ok⟩, nmX1⟩
theorem fl_X3_18 : z_fld RX3 18 4 1 3 (.object "java/util/ArrayList") false := ⟨by decide, by decide, RX3, TX3, "BrandRoom$Plan", rfl, in_X3, Or.inl rfl, Or.inl zq_82, by decide +kernel, rfl, ⟨tyX3, tyX3_ok⟩, nmX3⟩
theorem fl_X3_21 : z_fld RX3 21 4 2 3 .int false := ⟨by decide, by decide, RX3, TX3, "BrandRoom$Plan", rfl, in_X3, Or.inl rfl, Or.inl zq_84, by decide +kernel, rfl, ⟨tyX3, tyX3_ok⟩, nmX3⟩
theorem fl_X3_75 : z_fld RX3 75 2 1 12 .int false := ⟨by decide, by decide, RX1, TX1, "BrandRoom$Booking", rfl, in_X1, Or.inl rfl, Or.inr ⟨_, zq_572⟩, by decide +kernel, rfl, ⟨tyX1, tyX1_ok⟩, nmX1⟩
theorem fl_X3_78 : z_fld RX3 78 2 2 12 .int false := ⟨by decide, by decide, RX1, TX1, "BrandRoom$Booking", rfl, in_X1, Or.inl rfl, Or.inr ⟨_, zq_575⟩, by decide +kernel, rfl, ⟨tyX1, tyX1_ok⟩, nmX1⟩
theorem fl_X3_81 : z_fld RX3 81 2 3 12 .int false := ⟨by decide, by decide, RX1, TX1, "BrandRoom$Booking", rfl, in_X1, Or.inl rfl, Or.inr ⟨_, zq_578⟩, by decide +kernel, rfl, ⟨tyX1, tyX1_ok⟩, nmX1⟩
theorem fl_X3_84 : z_fld RX3 84 2 4 12 .int false := ⟨by decide, by decide, RX1, TX1, "BrandRoom$Booking", rfl, in_X1, Or.inl rfl, Or.inr ⟨_, zq_581⟩, by decide +kernel, rfl, ⟨tyX1, tyX1_ok⟩, nmX1⟩
theorem fl_X3_94 : z_fld RX3 94 2 6 12 .int false := ⟨by decide, by decide, RX1, TX1, "BrandRoom$Booking", rfl, in_X1, Or.inl rfl, Or.inr ⟨_, zq_586⟩, by decide +kernel, rfl, ⟨tyX1, tyX1_ok⟩, nmX1⟩
theorem fl_X4_10 : z_fld RX4 10 5 0 4 (.object "java/util/ArrayList") true := ⟨by decide, by decide, RX4, TX4, "BrandRoom", rfl, in_X4, Or.inl rfl, Or.inl zq_94, by decide +kernel, rfl, ⟨tyX4, tyX4_ok⟩, nmX4⟩
theorem fl_X4_112 : z_fld RX4 112 4 1 3 (.object "java/util/ArrayList") false := ⟨by decide, by decide, RX3, TX3, "BrandRoom$Plan", rfl, in_X3, Or.inl rfl, Or.inr ⟨_, zq_83⟩, by decide +kernel, rfl, ⟨tyX3, tyX3_ok⟩, nmX3⟩
theorem fl_X4_121 : z_fld RX4 121 3 3 5 (.object "java/util/ArrayList") true := ⟨by decide, by decide, RX2, TX2, "BrandRoom$Piece", rfl, in_X2, Or.inl rfl, Or.inr ⟨_, zq_364⟩, by decide +kernel, rfl, ⟨tyX2, tyX2_ok⟩, nmX2⟩
theorem fl_X4_128 : z_fld RX4 128 3 0 5 .int true := ⟨by decide, by decide, RX2, TX2, "BrandRoom$Piece", rfl, in_X2, Or.inl rfl, Or.inr ⟨_, zq_357⟩, by decide +kernel, rfl, ⟨tyX2, tyX2_ok⟩, nmX2⟩
theorem fl_X4_155 : z_fld RX4 155 3 1 5 .int true := ⟨by decide, by decide, RX2, TX2, "BrandRoom$Piece", rfl, in_X2, Or.inl rfl, Or.inr ⟨_, zq_360⟩, by decide +kernel, rfl, ⟨tyX2, tyX2_ok⟩, nmX2⟩
theorem fl_X4_158 : z_fld RX4 158 3 2 5 .int true := ⟨by decide, by decide, RX2, TX2, "BrandRoom$Piece", rfl, in_X2, Or.inl rfl, Or.inr ⟨_, zq_362⟩, by decide +kernel, rfl, ⟨tyX2, tyX2_ok⟩, nmX2⟩
theorem fl_X4_16 : z_fld RX4 16 5 1 4 (.array .int) true := ⟨by decide, by decide, RX4, TX4, "BrandRoom", rfl, in_X4, Or.inl rfl, Or.inl zq_95, by decide +kernel, rfl, ⟨tyX4, tyX4_ok⟩, nmX4⟩
theorem fl_X4_179 : z_fld RX4 179 4 0 3 (.object "java/util/ArrayList") true := ⟨by decide, by decide, RX3, TX3, "BrandRoom$Plan", rfl, in_X3, Or.inl rfl, Or.inr ⟨_, zq_81⟩, by decide +kernel, rfl, ⟨tyX3, tyX3_ok⟩, nmX3⟩
theorem fl_X4_215 : z_fld RX4 215 2 6 12 .int false := ⟨by decide, by decide, RX1, TX1, "BrandRoom$Booking", rfl, in_X1, Or.inl rfl, Or.inr ⟨_, zq_587⟩, by decide +kernel, rfl, ⟨tyX1, tyX1_ok⟩, nmX1⟩
theorem fl_X4_224 : z_fld RX4 224 2 0 12 (.object "BrandRoom$Piece") false := ⟨by decide, by decide, RX1, TX1, "BrandRoom$Booking", rfl, in_X1, Or.inl rfl, Or.inr ⟨_, zq_570⟩, by decide +kernel, rfl, ⟨tyX1, tyX1_ok⟩, nmX1⟩
theorem fl_X4_23 : z_fld RX4 23 5 2 4 (.object "BrandRoom$Plan") true := ⟨by decide, by decide, RX4, TX4, "BrandRoom", rfl, in_X4, Or.inl rfl, Or.inl zq_96, by decide +kernel, rfl, ⟨tyX4, tyX4_ok⟩, nmX4⟩
theorem fl_X4_232 : z_fld RX4 232 2 1 12 .int false := ⟨by decide, by decide, RX1, TX1, "BrandRoom$Booking", rfl, in_X1, Or.inl rfl, Or.inr ⟨_, zq_573⟩, by decide +kernel, rfl, ⟨tyX1, tyX1_ok⟩, nmX1⟩
theorem fl_X4_235 : z_fld RX4 235 2 2 12 .int false := ⟨by decide, by decide, RX1, TX1, "BrandRoom$Booking", rfl, in_X1, Or.inl rfl, Or.inr ⟨_, zq_576⟩, by decide +kernel, rfl, ⟨tyX1, tyX1_ok⟩, nmX1⟩
theorem fl_X4_238 : z_fld RX4 238 2 3 12 .int false := ⟨by decide, by decide, RX1, TX1, "BrandRoom$Booking", rfl, in_X1, Or.inl rfl, Or.inr ⟨_, zq_579⟩, by decide +kernel, rfl, ⟨tyX1, tyX1_ok⟩, nmX1⟩
theorem fl_X4_241 : z_fld RX4 241 2 4 12 .int false := ⟨by decide, by decide, RX1, TX1, "BrandRoom$Booking", rfl, in_X1, Or.inl rfl, Or.inr ⟨_, zq_582⟩, by decide +kernel, rfl, ⟨tyX1, tyX1_ok⟩, nmX1⟩
theorem fl_X4_244 : z_fld RX4 244 2 5 12 .int false := ⟨by decide, by decide, RX1, TX1, "BrandRoom$Booking", rfl, in_X1, Or.inl rfl, Or.inr ⟨_, zq_584⟩, by decide +kernel, rfl, ⟨tyX1, tyX1_ok⟩, nmX1⟩
theorem fl_X4_247 : z_fld RX4 247 2 7 12 .int false := ⟨by decide, by decide, RX1, TX1, "BrandRoom$Booking", rfl, in_X1, Or.inl rfl, Or.inr ⟨_, zq_589⟩, by decide +kernel, rfl, ⟨tyX1, tyX1_ok⟩, nmX1⟩
theorem fl_X4_250 : z_fld RX4 250 2 8 12 .int false := ⟨by decide, by decide, RX1, TX1, "BrandRoom$Booking", rfl, in_X1, Or.inl rfl, Or.inr ⟨_, zq_591⟩, by decide +kernel, rfl, ⟨tyX1, tyX1_ok⟩, nmX1⟩
theorem fl_X4_253 : z_fld RX4 253 2 10 12 .boolean false := ⟨by decide, by decide, RX1, TX1, "BrandRoom$Booking", rfl, in_X1, Or.inl rfl, Or.inr ⟨_, zq_596⟩, by decide +kernel, rfl, ⟨tyX1, tyX1_ok⟩, nmX1⟩
theorem fl_X4_257 : z_fld RX4 257 2 9 12 .int false := ⟨by decide, by decide, RX1, TX1, "BrandRoom$Booking", rfl, in_X1, Or.inl rfl, Or.inr ⟨_, zq_593⟩, by decide +kernel, rfl, ⟨tyX1, tyX1_ok⟩, nmX1⟩
theorem fl_X4_27 : z_fld RX4 27 5 3 4 (.object "BrandRoom$Plan") true := ⟨by decide, by decide, RX4, TX4, "BrandRoom", rfl, in_X4, Or.inl rfl, Or.inl zq_97, by decide +kernel, rfl, ⟨tyX4, tyX4_ok⟩, nmX4⟩
theorem fl_X4_52 : z_fld RX4 52 4 2 3 .int false := ⟨by decide, by decide, RX3, TX3, "BrandRoom$Plan", rfl, in_X3, Or.inl rfl, Or.inr ⟨_, zq_85⟩, by decide +kernel, rfl, ⟨tyX3, tyX3_ok⟩, nmX3⟩
theorem fl_X4_91 : z_fld RX4 91 1 2 5 .int false := ⟨by decide, by decide, RX0, TX0, "BrandRoom$Asset", rfl, in_X0, Or.inl rfl, Or.inr ⟨_, zq_195⟩, by decide +kernel, rfl, ⟨tyX0, tyX0_ok⟩, nmX0⟩
theorem nw_L_9 : z_nw RL 9 5 4 tyX4 := ⟨by decide, RX4, TX4, rfl, in_X4, tyX4_ok, zq_38, zq_39, zq_17⟩
theorem nw_X2_9 : z_nw RX2 9 0 3 tyJx4a65c := ⟨by decide, RJx4a65c, TJx4a65c, rfl, in_Jx4a65c, tyJx4a65c_ok, zq_351, zq_47, zq_20⟩
theorem nw_X3_33 : z_nw RX3 33 2 12 tyX1 := ⟨by decide, RX1, TX1, rfl, in_X1, tyX1_ok, zq_402, zq_561, zq_36⟩
theorem nw_X3_9 : z_nw RX3 9 0 3 tyJx4a65c := ⟨by decide, RJx4a65c, TJx4a65c, rfl, in_Jx4a65c, tyJx4a65c_ok, zq_78, zq_47, zq_20⟩
theorem nw_X4_117 : z_nw RX4 117 3 5 tyX2 := ⟨by decide, RX2, TX2, rfl, in_X2, tyX2_ok, zq_345, zq_346, zq_35⟩
theorem nw_X4_190 : z_nw RX4 190 2 12 tyX1 := ⟨by decide, RX1, TX1, rfl, in_X1, tyX1_ok, zq_386, zq_561, zq_36⟩
theorem nw_X4_20 : z_nw RX4 20 4 3 tyX3 := ⟨by decide, RX3, TX3, rfl, in_X3, tyX3_ok, zq_72, zq_73, zq_21⟩
theorem nw_X4_41 : z_nw RX4 41 1 5 tyX0 := ⟨by decide, RX0, TX0, rfl, in_X0, tyX0_ok, zq_183, zq_184, zq_26⟩
theorem nw_X4_7 : z_nw RX4 7 0 3 tyJx4a65c := ⟨by decide, RJx4a65c, TJx4a65c, rfl, in_Jx4a65c, tyJx4a65c_ok, zq_46, zq_47, zq_20⟩
theorem ok_J15_105 : z_ok RJ15 105 yJ3_checkIndex_8e157 cJ3_checkIndex_8e157 3 (some .int) 3 := ⟨zq_298, zq_296, zq_33, ⟨by decide +kernel, by decide +kernel⟩, by decide +kernel⟩
theorem ok_J7_300 : z_ok RJ7 300 yJ7_copyOf_6403c cJ7_copyOf_6403c 4 (some (.array (.object "java/lang/Object"))) 3 := ⟨zq_253, zq_251, zq_27, ⟨by decide +kernel, by decide +kernel⟩, by decide +kernel⟩
theorem ok_Jx4a65c_1 : z_ok RJx4a65c 1 yJxc12de_init_da8c8 cJxc12de_init_da8c8 1 none 0 := ⟨zq_53, zq_51, zq_19, ⟨by decide +kernel, by decide +kernel⟩, by decide +kernel⟩
theorem ok_Jx4a65c_118 : z_ok RJx4a65c 118 yJ15_checkIndex_7cf53 cJ15_checkIndex_7cf53 2 (some .int) 2 := ⟨zq_295, zq_293, zq_32, ⟨by decide +kernel, by decide +kernel⟩, by decide +kernel⟩
theorem ok_Jx4a65c_123 : z_ok RJx4a65c 123 yJx4a65c_elementData_915e3 cJx4a65c_elementData_915e3 2 (some (.object "java/lang/Object")) 1 := ⟨zq_302, zq_299, zq_20, ⟨by decide +kernel, by decide +kernel⟩, by decide +kernel⟩
theorem ok_Jx4a65c_129 : z_ok RJx4a65c 129 yJx4a65c_grow_d5877 cJx4a65c_grow_d5877 1 (some (.array (.object "java/lang/Object"))) 0 := ⟨zq_220, zq_217, zq_20, ⟨by decide +kernel, by decide +kernel⟩, by decide +kernel⟩
theorem ok_Jx4a65c_131 : z_ok RJx4a65c 131 yJx4a65c_add_72be8 cJx4a65c_add_72be8 4 none 3 := ⟨zq_216, zq_213, zq_20, ⟨by decide +kernel, by decide +kernel⟩, by decide +kernel⟩
theorem ok_Jx4a65c_66 : z_ok RJx4a65c 66 yJ7_copyOf_1904c cJ7_copyOf_1904c 2 (some (.array (.object "java/lang/Object"))) 2 := ⟨zq_237, zq_235, zq_27, ⟨by decide +kernel, by decide +kernel⟩, by decide +kernel⟩
theorem ok_Jx4a65c_69 : z_ok RJx4a65c 69 yJx4a65c_grow_92f84 cJx4a65c_grow_92f84 4 (some (.array (.object "java/lang/Object"))) 1 := ⟨zq_224, zq_221, zq_20, ⟨by decide +kernel, by decide +kernel⟩, by decide +kernel⟩
theorem ok_Jx4a65c_73 : z_ok RJx4a65c 73 yJ8_newLength_cabcc cJ8_newLength_cabcc 4 (some .int) 3 := ⟨zq_227, zq_225, zq_28, ⟨by decide +kernel, by decide +kernel⟩, by decide +kernel⟩
theorem ok_Jxc12de_1 : z_ok RJxc12de 1 yJxa1e45_init_da8c8 cJxa1e45_init_da8c8 1 none 0 := ⟨zq_56, zq_54, zq_18, ⟨by decide +kernel, by decide +kernel⟩, by decide +kernel⟩
theorem ok_L_100 : z_ok RL 100 yX4_groups cX4_groups 6 (some .int) 3 := ⟨zq_783, zq_780, zq_17, ⟨by decide +kernel, by decide +kernel⟩, by decide +kernel⟩
theorem ok_L_103 : z_ok RL 103 yX4_lostIn cX4_lostIn 4 (some .int) 1 := ⟨zq_552, zq_785, zq_17, ⟨by decide +kernel, by decide +kernel⟩, by decide +kernel⟩
theorem ok_L_106 : z_ok RL 106 yX4_day cX4_day 1 (some .int) 0 := ⟨zq_789, zq_786, zq_17, ⟨by decide +kernel, by decide +kernel⟩, by decide +kernel⟩
theorem ok_L_11 : z_ok RL 11 yX4_init cX4_init 1 none 0 := ⟨zq_42, zq_40, zq_17, ⟨by decide +kernel, by decide +kernel⟩, by decide +kernel⟩
theorem ok_L_113 : z_ok RL 113 yX4_offIn cX4_offIn 5 (some .int) 1 := ⟨zq_526, zq_794, zq_17, ⟨by decide +kernel, by decide +kernel⟩, by decide +kernel⟩
theorem ok_L_116 : z_ok RL 116 yX4_ofPiece cX4_ofPiece 4 (some .int) 2 := ⟨zq_435, zq_795, zq_17, ⟨by decide +kernel, by decide +kernel⟩, by decide +kernel⟩
theorem ok_L_119 : z_ok RL 119 yX4_reason cX4_reason 5 (some .int) 3 := ⟨zq_475, zq_799, zq_17, ⟨by decide +kernel, by decide +kernel⟩, by decide +kernel⟩
theorem ok_L_12 : z_ok RL 12 yL_cell cL_cell 2 (some .int) 2 := ⟨zq_682, zq_680, zq_16, ⟨by decide +kernel, by decide +kernel⟩, by decide +kernel⟩
theorem ok_L_122 : z_ok RL 122 yX4_hasRights cX4_hasRights 5 (some .boolean) 3 := ⟨zq_803, zq_800, zq_17, ⟨by decide +kernel, by decide +kernel⟩, by decide +kernel⟩
theorem ok_L_127 : z_ok RL 127 yX4_reach cX4_reach 2 (some .int) 1 := ⟨zq_531, zq_809, zq_17, ⟨by decide +kernel, by decide +kernel⟩, by decide +kernel⟩
theorem ok_L_130 : z_ok RL 130 yX4_at cX4_at 4 (some .int) 3 := ⟨zq_813, zq_810, zq_17, ⟨by decide +kernel, by decide +kernel⟩, by decide +kernel⟩
theorem ok_L_18 : z_ok RL 18 yX4_asset cX4_asset 1 (some .int) 0 := ⟨zq_110, zq_107, zq_17, ⟨by decide +kernel, by decide +kernel⟩, by decide +kernel⟩
theorem ok_L_22 : z_ok RL 22 yL_below cL_below 2 (some .int) 2 := ⟨zq_678, zq_676, zq_16, ⟨by decide +kernel, by decide +kernel⟩, by decide +kernel⟩
theorem ok_L_26 : z_ok RL 26 yX4_version cX4_version 5 (some .int) 2 := ⟨zq_268, zq_265, zq_17, ⟨by decide +kernel, by decide +kernel⟩, by decide +kernel⟩
theorem ok_L_29 : z_ok RL 29 yX4_rights cX4_rights 7 (some .int) 4 := ⟨zq_327, zq_324, zq_17, ⟨by decide +kernel, by decide +kernel⟩, by decide +kernel⟩
theorem ok_L_33 : z_ok RL 33 yX4_piece cX4_piece 5 (some .int) 2 := ⟨zq_341, zq_338, zq_17, ⟨by decide +kernel, by decide +kernel⟩, by decide +kernel⟩
theorem ok_L_36 : z_ok RL 36 yX4_many cX4_many 2 (some .int) 1 := ⟨zq_395, zq_392, zq_17, ⟨by decide +kernel, by decide +kernel⟩, by decide +kernel⟩
theorem ok_L_40 : z_ok RL 40 yX4_ofBooking cX4_ofBooking 4 (some .int) 2 := ⟨zq_380, zq_377, zq_17, ⟨by decide +kernel, by decide +kernel⟩, by decide +kernel⟩
theorem ok_L_43 : z_okH RL 43 yL_act cL_act 15 (some .boolean) [(41, 125, 568, 109), (126, 151, 568, 109), (152, 283, 568, 109), (284, 328, 568, 109), (329, 394, 568, 109), (395, 431, 568, 109), (432, 463, 568, 109), (464, 496, 568, 109), (497, 567, 568, 109), (41, 125, 584, 111), (126, 151, 584, 111), (152, 283, 584, 111), (284, 328, 584, 111), (329, 394, 584, 111), (395, 431, 584, 111), (432, 463, 584, 111), (464, 496, 584, 111), (497, 567, 584, 111)] 2 := ⟨zq_686, zq_684, zq_16, ⟨by decide +kernel, by decide +kernel⟩, by decide +kernel⟩
theorem ok_L_47 : z_ok RL 47 yX4_digest cX4_digest 4 (some .long) 0 := ⟨zq_416, zq_413, zq_17, ⟨by decide +kernel, by decide +kernel⟩, by decide +kernel⟩
theorem ok_L_51 : z_ok RL 51 yL_areBookingsRight cL_areBookingsRight 11 (some .boolean) 1 := ⟨zq_793, zq_791, zq_16, ⟨by decide +kernel, by decide +kernel⟩, by decide +kernel⟩
theorem ok_L_55 : z_ok RL 55 yL_arePiecesRight cL_arePiecesRight 10 (some .boolean) 2 := ⟨zq_798, zq_796, zq_16, ⟨by decide +kernel, by decide +kernel⟩, by decide +kernel⟩
theorem ok_L_58 : z_ok RL 58 yL_arePlacesRight cL_arePlacesRight 12 (some .boolean) 2 := ⟨zq_807, zq_805, zq_16, ⟨by decide +kernel, by decide +kernel⟩, by decide +kernel⟩
theorem ok_L_66 : z_ok RL 66 yX4_approve cX4_approve 5 (some .boolean) 2 := ⟨zq_693, zq_690, zq_17, ⟨by decide +kernel, by decide +kernel⟩, by decide +kernel⟩
theorem ok_L_70 : z_ok RL 70 yX4_isFit cX4_isFit 5 (some .boolean) 3 := ⟨zq_704, zq_701, zq_17, ⟨by decide +kernel, by decide +kernel⟩, by decide +kernel⟩
theorem ok_L_74 : z_ok RL 74 yX4_hold cX4_hold 5 (some .boolean) 2 := ⟨zq_708, zq_705, zq_17, ⟨by decide +kernel, by decide +kernel⟩, by decide +kernel⟩
theorem ok_L_80 : z_ok RL 80 yX4_price cX4_price 4 (some .int) 3 := ⟨zq_717, zq_714, zq_17, ⟨by decide +kernel, by decide +kernel⟩, by decide +kernel⟩
theorem ok_L_84 : z_ok RL 84 yX4_book cX4_book 8 (some .int) 6 := ⟨zq_733, zq_730, zq_17, ⟨by decide +kernel, by decide +kernel⟩, by decide +kernel⟩
theorem ok_L_88 : z_ok RL 88 yX4_cancel cX4_cancel 3 (some .int) 1 := ⟨zq_747, zq_744, zq_17, ⟨by decide +kernel, by decide +kernel⟩, by decide +kernel⟩
theorem ok_L_91 : z_ok RL 91 yX4_swapFor cX4_swapFor 3 (some .int) 1 := ⟨zq_507, zq_754, zq_17, ⟨by decide +kernel, by decide +kernel⟩, by decide +kernel⟩
theorem ok_L_94 : z_ok RL 94 yX4_swap cX4_swap 6 (some .int) 2 := ⟨zq_758, zq_755, zq_17, ⟨by decide +kernel, by decide +kernel⟩, by decide +kernel⟩
theorem ok_L_97 : z_ok RL 97 yX4_late cX4_late 6 (some .int) 2 := ⟨zq_765, zq_762, zq_17, ⟨by decide +kernel, by decide +kernel⟩, by decide +kernel⟩
theorem ok_X0_28 : z_ok RX0 28 yJ7_fill_53178 cJ7_fill_53178 4 none 2 := ⟨zq_191, zq_189, zq_27, ⟨by decide +kernel, by decide +kernel⟩, by decide +kernel⟩
theorem ok_X0_34 : z_ok RX0 34 yX0_hasLast cX0_hasLast 1 (some .boolean) 0 := ⟨zq_774, zq_771, zq_26, ⟨by decide +kernel, by decide +kernel⟩, by decide +kernel⟩
theorem ok_X1_50 : z_ok RX1 50 yX1_setTo cX1_setTo 2 none 1 := ⟨zq_562, zq_567, zq_36, ⟨by decide +kernel, by decide +kernel⟩, by decide +kernel⟩
theorem ok_X1_54 : z_ok RX1 54 yX2_isFitOn cX2_isFitOn 6 (some .boolean) 2 := ⟨zq_448, zq_637, zq_35, ⟨by decide +kernel, by decide +kernel⟩, by decide +kernel⟩
theorem ok_X1_60 : z_ok RX1 60 yX2_reasonOn cX2_reasonOn 3 (some .int) 2 := ⟨zq_486, zq_675, zq_35, ⟨by decide +kernel, by decide +kernel⟩, by decide +kernel⟩
theorem ok_X2_11 : z_ok RX2 11 yJx4a65c_init_da8c8 cJx4a65c_init_da8c8 1 none 0 := ⟨zq_50, zq_352, zq_20, ⟨by decide +kernel, by decide +kernel⟩, by decide +kernel⟩
theorem ok_X2_33 : z_ok RX2 33 yJ7_fill_53178 cJ7_fill_53178 4 none 2 := ⟨zq_191, zq_355, zq_27, ⟨by decide +kernel, by decide +kernel⟩, by decide +kernel⟩
theorem ok_X2_39 : z_ok RX2 39 yJx4a65c_size_8abf5 cJx4a65c_size_8abf5 1 (some .int) 0 := ⟨zq_114, zq_449, zq_20, ⟨by decide +kernel, by decide +kernel⟩, by decide +kernel⟩
theorem ok_X2_43 : z_ok RX2 43 yJx4a65c_get_915e3 cJx4a65c_get_915e3 2 (some (.object "java/lang/Object")) 1 := ⟨zq_292, zq_450, zq_20, ⟨by decide +kernel, by decide +kernel⟩, by decide +kernel⟩
theorem ok_X2_49 : z_ok RX2 49 yX0_versionAt cX0_versionAt 3 (some .int) 1 := ⟨zq_427, zq_452, zq_26, ⟨by decide +kernel, by decide +kernel⟩, by decide +kernel⟩
theorem ok_X2_53 : z_ok RX2 53 yX0_isGranted cX0_isGranted 4 (some .boolean) 3 := ⟨zq_498, zq_495, zq_26, ⟨by decide +kernel, by decide +kernel⟩, by decide +kernel⟩
theorem ok_X2_57 : z_ok RX2 57 yX2_isLaidOn cX2_isLaidOn 3 (some .boolean) 1 := ⟨zq_490, zq_487, zq_35, ⟨by decide +kernel, by decide +kernel⟩, by decide +kernel⟩
theorem ok_X2_61 : z_ok RX2 61 yX2_isGrantedOn cX2_isGrantedOn 5 (some .boolean) 3 := ⟨zq_494, zq_491, zq_35, ⟨by decide +kernel, by decide +kernel⟩, by decide +kernel⟩
theorem ok_X2_64 : z_ok RX2 64 yX2_isFitOn cX2_isFitOn 6 (some .boolean) 2 := ⟨zq_448, zq_445, zq_35, ⟨by decide +kernel, by decide +kernel⟩, by decide +kernel⟩
theorem ok_X2_68 : z_ok RX2 68 yX0_firstComes cX0_firstComes 3 (some .int) 0 := ⟨zq_468, zq_465, zq_26, ⟨by decide +kernel, by decide +kernel⟩, by decide +kernel⟩
theorem ok_X3_100 : z_ok RX3 100 yX1_isIn cX1_isIn 3 (some .boolean) 2 := ⟨zq_658, zq_655, zq_36, ⟨by decide +kernel, by decide +kernel⟩, by decide +kernel⟩
theorem ok_X3_104 : z_ok RX3 104 yX1_hasDayIn cX1_hasDayIn 3 (some .boolean) 2 := ⟨zq_662, zq_659, zq_36, ⟨by decide +kernel, by decide +kernel⟩, by decide +kernel⟩
theorem ok_X3_109 : z_ok RX3 109 yX3_canSwap cX3_canSwap 3 (some .boolean) 2 := ⟨zq_516, zq_513, zq_21, ⟨by decide +kernel, by decide +kernel⟩, by decide +kernel⟩
theorem ok_X3_11 : z_ok RX3 11 yJx4a65c_init_da8c8 cJx4a65c_init_da8c8 1 none 0 := ⟨zq_50, zq_79, zq_20, ⟨by decide +kernel, by decide +kernel⟩, by decide +kernel⟩
theorem ok_X3_120 : z_ok RX3 120 yX2_isFitOn cX2_isFitOn 6 (some .boolean) 2 := ⟨zq_448, zq_517, zq_35, ⟨by decide +kernel, by decide +kernel⟩, by decide +kernel⟩
theorem ok_X3_123 : z_ok RX3 123 yX2_isGrantedOn cX2_isGrantedOn 5 (some .boolean) 3 := ⟨zq_494, zq_518, zq_35, ⟨by decide +kernel, by decide +kernel⟩, by decide +kernel⟩
theorem ok_X3_127 : z_ok RX3 127 yX3_isUsedIn cX3_isUsedIn 5 (some .boolean) 2 := ⟨zq_522, zq_519, zq_21, ⟨by decide +kernel, by decide +kernel⟩, by decide +kernel⟩
theorem ok_X3_141 : z_ok RX3 141 yX1_costNow cX1_costNow 2 (some .int) 0 := ⟨zq_390, zq_411, zq_36, ⟨by decide +kernel, by decide +kernel⟩, by decide +kernel⟩
theorem ok_X3_25 : z_ok RX3 25 yJx4a65c_size_8abf5 cJx4a65c_size_8abf5 1 (some .int) 0 := ⟨zq_114, zq_400, zq_20, ⟨by decide +kernel, by decide +kernel⟩, by decide +kernel⟩
theorem ok_X3_29 : z_ok RX3 29 yJx4a65c_get_915e3 cJx4a65c_get_915e3 2 (some (.object "java/lang/Object")) 1 := ⟨zq_292, zq_401, zq_20, ⟨by decide +kernel, by decide +kernel⟩, by decide +kernel⟩
theorem ok_X3_35 : z_okN RX3 35 "BrandRoom" yX1_setTo cX1_setTo 2 none 1 := ⟨zq_562, zq_558, zq_36, ⟨by decide +kernel, by decide +kernel⟩, by decide +kernel⟩
theorem ok_X3_39 : z_ok RX3 39 yX1_init_ cX1_init_ 2 none 1 := ⟨zq_565, zq_563, zq_36, ⟨by decide +kernel, by decide +kernel⟩, by decide +kernel⟩
theorem ok_X3_41 : z_ok RX3 41 yJx4a65c_add_9ea2d cJx4a65c_add_9ea2d 2 (some .boolean) 1 := ⟨zq_212, zq_623, zq_20, ⟨by decide +kernel, by decide +kernel⟩, by decide +kernel⟩
theorem ok_X3_45 : z_ok RX3 45 yX1_endIfPast cX1_endIfPast 2 none 1 := ⟨zq_632, zq_629, zq_36, ⟨by decide +kernel, by decide +kernel⟩, by decide +kernel⟩
theorem ok_X3_49 : z_ok RX3 49 yX1_missesDeadline cX1_missesDeadline 2 (some .boolean) 1 := ⟨zq_636, zq_633, zq_36, ⟨by decide +kernel, by decide +kernel⟩, by decide +kernel⟩
theorem ok_X3_53 : z_ok RX3 53 yX3_firstSwap cX3_firstSwap 3 (some (.object "BrandRoom$Piece")) 1 := ⟨zq_511, zq_638, zq_21, ⟨by decide +kernel, by decide +kernel⟩, by decide +kernel⟩
theorem ok_X3_57 : z_ok RX3 57 yX3_settle cX3_settle 3 none 2 := ⟨zq_642, zq_639, zq_21, ⟨by decide +kernel, by decide +kernel⟩, by decide +kernel⟩
theorem ok_X3_61 : z_ok RX3 61 yX1_startIfDue cX1_startIfDue 2 none 1 := ⟨zq_670, zq_667, zq_36, ⟨by decide +kernel, by decide +kernel⟩, by decide +kernel⟩
theorem ok_X3_64 : z_ok RX3 64 yX1_showOrPull cX1_showOrPull 2 none 1 := ⟨zq_674, zq_671, zq_36, ⟨by decide +kernel, by decide +kernel⟩, by decide +kernel⟩
theorem ok_X3_67 : z_ok RX3 67 yX1_takePiece cX1_takePiece 2 none 1 := ⟨zq_646, zq_643, zq_36, ⟨by decide +kernel, by decide +kernel⟩, by decide +kernel⟩
theorem ok_X3_71 : z_ok RX3 71 yX1_mayMove cX1_mayMove 1 (some .boolean) 0 := ⟨zq_650, zq_647, zq_36, ⟨by decide +kernel, by decide +kernel⟩, by decide +kernel⟩
theorem ok_X3_87 : z_ok RX3 87 yX3_isTaken cX3_isTaken 8 (some .boolean) 5 := ⟨zq_654, zq_651, zq_21, ⟨by decide +kernel, by decide +kernel⟩, by decide +kernel⟩
theorem ok_X3_91 : z_ok RX3 91 yX1_moveOn cX1_moveOn 1 none 0 := ⟨zq_666, zq_663, zq_36, ⟨by decide +kernel, by decide +kernel⟩, by decide +kernel⟩
theorem ok_X3_97 : z_ok RX3 97 yX1_isOpen cX1_isOpen 1 (some .boolean) 0 := ⟨zq_460, zq_457, zq_36, ⟨by decide +kernel, by decide +kernel⟩, by decide +kernel⟩
theorem ok_X4_101 : z_ok RX4 101 yX4_needLand cX4_needLand 1 none 1 := ⟨zq_478, zq_476, zq_17, ⟨by decide +kernel, by decide +kernel⟩, by decide +kernel⟩
theorem ok_X4_104 : z_ok RX4 104 yX0_isGranted cX0_isGranted 4 (some .boolean) 3 := ⟨zq_498, zq_804, zq_26, ⟨by decide +kernel, by decide +kernel⟩, by decide +kernel⟩
theorem ok_X4_119 : z_ok RX4 119 yX2_init cX2_init 5 none 3 := ⟨zq_349, zq_347, zq_35, ⟨by decide +kernel, by decide +kernel⟩, by decide +kernel⟩
theorem ok_X4_124 : z_ok RX4 124 yJx4a65c_get_915e3 cJx4a65c_get_915e3 2 (some (.object "java/lang/Object")) 1 := ⟨zq_292, zq_289, zq_20, ⟨by decide +kernel, by decide +kernel⟩, by decide +kernel⟩
theorem ok_X4_131 : z_ok RX4 131 yX4_pieceAt cX4_pieceAt 2 (some (.object "BrandRoom$Piece")) 1 := ⟨zq_439, zq_436, zq_17, ⟨by decide +kernel, by decide +kernel⟩, by decide +kernel⟩
theorem ok_X4_135 : z_ok RX4 135 yX2_isLaidOn cX2_isLaidOn 3 (some .boolean) 1 := ⟨zq_490, zq_694, zq_35, ⟨by decide +kernel, by decide +kernel⟩, by decide +kernel⟩
theorem ok_X4_141 : z_ok RX4 141 yX2_isFitOn cX2_isFitOn 6 (some .boolean) 2 := ⟨zq_448, zq_696, zq_35, ⟨by decide +kernel, by decide +kernel⟩, by decide +kernel⟩
theorem ok_X4_145 : z_ok RX4 145 yX2_approveLook cX2_approveLook 5 none 2 := ⟨zq_700, zq_697, zq_35, ⟨by decide +kernel, by decide +kernel⟩, by decide +kernel⟩
theorem ok_X4_149 : z_ok RX4 149 yX2_dropApproval cX2_dropApproval 2 none 1 := ⟨zq_712, zq_709, zq_35, ⟨by decide +kernel, by decide +kernel⟩, by decide +kernel⟩
theorem ok_X4_152 : z_ok RX4 152 yX2_reasonOn cX2_reasonOn 3 (some .int) 2 := ⟨zq_486, zq_483, zq_35, ⟨by decide +kernel, by decide +kernel⟩, by decide +kernel⟩
theorem ok_X4_161 : z_ok RX4 161 yX2_landsFitOn cX2_landsFitOn 4 (some .int) 1 := ⟨zq_444, zq_441, zq_35, ⟨by decide +kernel, by decide +kernel⟩, by decide +kernel⟩
theorem ok_X4_164 : z_ok RX4 164 yX3_openBookingsOf cX3_openBookingsOf 5 (some .int) 1 := ⟨zq_456, zq_453, zq_21, ⟨by decide +kernel, by decide +kernel⟩, by decide +kernel⟩
theorem ok_X4_168 : z_ok RX4 168 yX2_firstLaidDay cX2_firstLaidDay 3 (some .int) 0 := ⟨zq_464, zq_461, zq_35, ⟨by decide +kernel, by decide +kernel⟩, by decide +kernel⟩
theorem ok_X4_173 : z_ok RX4 173 yX4_needMedium cX4_needMedium 1 none 1 := ⟨zq_736, zq_734, zq_17, ⟨by decide +kernel, by decide +kernel⟩, by decide +kernel⟩
theorem ok_X4_176 : z_ok RX4 176 yX4_needOffer cX4_needOffer 4 none 3 := ⟨zq_721, zq_718, zq_17, ⟨by decide +kernel, by decide +kernel⟩, by decide +kernel⟩
theorem ok_X4_184 : z_ok RX4 184 yX3_isTaken cX3_isTaken 8 (some .boolean) 5 := ⟨zq_654, zq_739, zq_21, ⟨by decide +kernel, by decide +kernel⟩, by decide +kernel⟩
theorem ok_X4_192 : z_ok RX4 192 yX3_priceToday cX3_priceToday 6 (some .int) 3 := ⟨zq_728, zq_725, zq_21, ⟨by decide +kernel, by decide +kernel⟩, by decide +kernel⟩
theorem ok_X4_196 : z_ok RX4 196 yX1_init cX1_init 7 none 6 := ⟨zq_743, zq_741, zq_36, ⟨by decide +kernel, by decide +kernel⟩, by decide +kernel⟩
theorem ok_X4_199 : z_ok RX4 199 yX4_bookingAt cX4_bookingAt 2 (some (.object "BrandRoom$Booking")) 1 := ⟨zq_384, zq_381, zq_17, ⟨by decide +kernel, by decide +kernel⟩, by decide +kernel⟩
theorem ok_X4_203 : z_ok RX4 203 yX1_isOpen cX1_isOpen 1 (some .boolean) 0 := ⟨zq_460, zq_748, zq_36, ⟨by decide +kernel, by decide +kernel⟩, by decide +kernel⟩
theorem ok_X4_209 : z_ok RX4 209 yX1_giveUp cX1_giveUp 1 none 0 := ⟨zq_753, zq_750, zq_36, ⟨by decide +kernel, by decide +kernel⟩, by decide +kernel⟩
theorem ok_X4_212 : z_ok RX4 212 yX1_costNow cX1_costNow 2 (some .int) 0 := ⟨zq_390, zq_387, zq_36, ⟨by decide +kernel, by decide +kernel⟩, by decide +kernel⟩
theorem ok_X4_218 : z_ok RX4 218 yX3_canSwap cX3_canSwap 3 (some .boolean) 2 := ⟨zq_516, zq_759, zq_21, ⟨by decide +kernel, by decide +kernel⟩, by decide +kernel⟩
theorem ok_X4_22 : z_okN RX4 22 "BrandRoom" yX3_init cX3_init 1 none 0 := ⟨zq_76, zq_74, zq_21, ⟨by decide +kernel, by decide +kernel⟩, by decide +kernel⟩
theorem ok_X4_228 : z_ok RX4 228 yX1_takePiece cX1_takePiece 2 none 1 := ⟨zq_646, zq_761, zq_36, ⟨by decide +kernel, by decide +kernel⟩, by decide +kernel⟩
theorem ok_X4_264 : z_ok RX4 264 yX3_beginDay cX3_beginDay 4 (some .int) 0 := ⟨zq_628, zq_625, zq_21, ⟨by decide +kernel, by decide +kernel⟩, by decide +kernel⟩
theorem ok_X4_267 : z_ok RX4 267 yX3_bookingShownAt cX3_bookingShownAt 6 (some .int) 3 := ⟨zq_817, zq_814, zq_21, ⟨by decide +kernel, by decide +kernel⟩, by decide +kernel⟩
theorem ok_X4_270 : z_ok RX4 270 yX3_countInState cX3_countInState 4 (some .int) 1 := ⟨zq_399, zq_396, zq_21, ⟨by decide +kernel, by decide +kernel⟩, by decide +kernel⟩
theorem ok_X4_273 : z_ok RX4 273 yX3_countOn cX3_countOn 3 (some .int) 0 := ⟨zq_406, zq_403, zq_21, ⟨by decide +kernel, by decide +kernel⟩, by decide +kernel⟩
theorem ok_X4_276 : z_ok RX4 276 yX3_costOfAll cX3_costOfAll 3 (some .int) 0 := ⟨zq_410, zq_407, zq_21, ⟨by decide +kernel, by decide +kernel⟩, by decide +kernel⟩
theorem ok_X4_286 : z_ok RX4 286 yX4_groupsReached cX4_groupsReached 5 (some .int) 1 := ⟨zq_535, zq_532, zq_17, ⟨by decide +kernel, by decide +kernel⟩, by decide +kernel⟩
theorem ok_X4_289 : z_ok RX4 289 yJ6_bitCount_0f7a4 cJ6_bitCount_0f7a4 1 (some .int) 1 := ⟨zq_545, zq_543, zq_37, ⟨by decide +kernel, by decide +kernel⟩, by decide +kernel⟩
theorem ok_X4_294 : z_ok RX4 294 yX3_firstSwap cX3_firstSwap 3 (some (.object "BrandRoom$Piece")) 1 := ⟨zq_511, zq_508, zq_21, ⟨by decide +kernel, by decide +kernel⟩, by decide +kernel⟩
theorem ok_X4_30 : z_ok RX4 30 yJx4a65c_size_8abf5 cJx4a65c_size_8abf5 1 (some .int) 0 := ⟨zq_114, zq_111, zq_20, ⟨by decide +kernel, by decide +kernel⟩, by decide +kernel⟩
theorem ok_X4_303 : z_ok RX4 303 yX3_copyFrom cX3_copyFrom 4 none 1 := ⟨zq_557, zq_554, zq_21, ⟨by decide +kernel, by decide +kernel⟩, by decide +kernel⟩
theorem ok_X4_310 : z_ok RX4 310 yX4_groupsOf cX4_groupsOf 3 (some .int) 2 := ⟨zq_539, zq_536, zq_17, ⟨by decide +kernel, by decide +kernel⟩, by decide +kernel⟩
theorem ok_X4_317 : z_ok RX4 317 yX4_many cX4_many 2 (some .int) 1 := ⟨zq_395, zq_419, zq_17, ⟨by decide +kernel, by decide +kernel⟩, by decide +kernel⟩
theorem ok_X4_320 : z_ok RX4 320 yX4_versionOn cX4_versionOn 4 (some .int) 2 := ⟨zq_423, zq_420, zq_17, ⟨by decide +kernel, by decide +kernel⟩, by decide +kernel⟩
theorem ok_X4_323 : z_ok RX4 323 yX4_addPiece cX4_addPiece 7 (some .long) 2 := ⟨zq_431, zq_428, zq_17, ⟨by decide +kernel, by decide +kernel⟩, by decide +kernel⟩
theorem ok_X4_327 : z_ok RX4 327 yX4_addBooking cX4_addBooking 7 (some .long) 2 := ⟨zq_502, zq_499, zq_17, ⟨by decide +kernel, by decide +kernel⟩, by decide +kernel⟩
theorem ok_X4_330 : z_ok RX4 330 yX4_reach cX4_reach 2 (some .int) 1 := ⟨zq_531, zq_528, zq_17, ⟨by decide +kernel, by decide +kernel⟩, by decide +kernel⟩
theorem ok_X4_333 : z_ok RX4 333 yX4_lostIn cX4_lostIn 4 (some .int) 1 := ⟨zq_552, zq_549, zq_17, ⟨by decide +kernel, by decide +kernel⟩, by decide +kernel⟩
theorem ok_X4_336 : z_ok RX4 336 yX4_ofPiece cX4_ofPiece 4 (some .int) 2 := ⟨zq_435, zq_432, zq_17, ⟨by decide +kernel, by decide +kernel⟩, by decide +kernel⟩
theorem ok_X4_339 : z_ok RX4 339 yX4_reason cX4_reason 5 (some .int) 3 := ⟨zq_475, zq_472, zq_17, ⟨by decide +kernel, by decide +kernel⟩, by decide +kernel⟩
theorem ok_X4_342 : z_ok RX4 342 yX4_ofBooking cX4_ofBooking 4 (some .int) 2 := ⟨zq_380, zq_503, zq_17, ⟨by decide +kernel, by decide +kernel⟩, by decide +kernel⟩
theorem ok_X4_345 : z_ok RX4 345 yX4_swapFor cX4_swapFor 3 (some .int) 1 := ⟨zq_507, zq_504, zq_17, ⟨by decide +kernel, by decide +kernel⟩, by decide +kernel⟩
theorem ok_X4_348 : z_ok RX4 348 yX4_offIn cX4_offIn 5 (some .int) 1 := ⟨zq_526, zq_523, zq_17, ⟨by decide +kernel, by decide +kernel⟩, by decide +kernel⟩
theorem ok_X4_351 : z_ok RX4 351 yX4_isMedium cX4_isMedium 1 (some .boolean) 1 := ⟨zq_542, zq_540, zq_17, ⟨by decide +kernel, by decide +kernel⟩, by decide +kernel⟩
theorem ok_X4_354 : z_ok RX4 354 yX4_isLand cX4_isLand 1 (some .boolean) 1 := ⟨zq_481, zq_479, zq_17, ⟨by decide +kernel, by decide +kernel⟩, by decide +kernel⟩
theorem ok_X4_43 : z_ok RX4 43 yX0_init cX0_init 1 none 0 := ⟨zq_187, zq_185, zq_26, ⟨by decide +kernel, by decide +kernel⟩, by decide +kernel⟩
theorem ok_X4_44 : z_ok RX4 44 yJx4a65c_add_9ea2d cJx4a65c_add_9ea2d 2 (some .boolean) 1 := ⟨zq_212, zq_209, zq_20, ⟨by decide +kernel, by decide +kernel⟩, by decide +kernel⟩
theorem ok_X4_48 : z_ok RX4 48 yX4_assetAt cX4_assetAt 2 (some (.object "BrandRoom$Asset")) 1 := ⟨zq_272, zq_269, zq_17, ⟨by decide +kernel, by decide +kernel⟩, by decide +kernel⟩
theorem ok_X4_61 : z_ok RX4 61 yX0_addVersion cX0_addVersion 2 (some .int) 1 := ⟨zq_322, zq_319, zq_26, ⟨by decide +kernel, by decide +kernel⟩, by decide +kernel⟩
theorem ok_X4_69 : z_ok RX4 69 yX0_lastComes cX0_lastComes 1 (some .int) 0 := ⟨zq_770, zq_767, zq_26, ⟨by decide +kernel, by decide +kernel⟩, by decide +kernel⟩
theorem ok_X4_80 : z_ok RX4 80 yX0_putLast cX0_putLast 2 none 1 := ⟨zq_779, zq_776, zq_26, ⟨by decide +kernel, by decide +kernel⟩, by decide +kernel⟩
theorem ok_X4_86 : z_ok RX4 86 yX4_needDay cX4_needDay 1 none 1 := ⟨zq_331, zq_329, zq_17, ⟨by decide +kernel, by decide +kernel⟩, by decide +kernel⟩
theorem ok_X4_9 : z_ok RX4 9 yJx4a65c_init_da8c8 cJx4a65c_init_da8c8 1 none 0 := ⟨zq_50, zq_48, zq_20, ⟨by decide +kernel, by decide +kernel⟩, by decide +kernel⟩
theorem ok_X4_94 : z_ok RX4 94 yX0_grant cX0_grant 4 none 3 := ⟨zq_337, zq_334, zq_26, ⟨by decide +kernel, by decide +kernel⟩, by decide +kernel⟩
theorem ok_X4_98 : z_ok RX4 98 yX0_versionAt cX0_versionAt 3 (some .int) 1 := ⟨zq_427, zq_424, zq_26, ⟨by decide +kernel, by decide +kernel⟩, by decide +kernel⟩
theorem th_X4_307_309_357 : z_thr RX4 307 309 357 "java/lang/IndexOutOfBoundsException" "no such asset" ["java/lang/RuntimeException", "java/lang/Exception"] := ⟨by decide +kernel, by decide +kernel, zq_273, zq_31, by decide +kernel, at_X4_309, by decide +kernel⟩
theorem th_X4_307_309_359 : z_thr RX4 307 309 359 "java/lang/IndexOutOfBoundsException" "no such piece" ["java/lang/RuntimeException", "java/lang/Exception"] := ⟨by decide +kernel, by decide +kernel, zq_273, zq_31, by decide +kernel, at_X4_309, by decide +kernel⟩
theorem th_X4_307_309_361 : z_thr RX4 307 309 361 "java/lang/IndexOutOfBoundsException" "no such booking" ["java/lang/RuntimeException", "java/lang/Exception"] := ⟨by decide +kernel, by decide +kernel, zq_273, zq_31, by decide +kernel, at_X4_309, by decide +kernel⟩
theorem th_X4_307_309_369 : z_thr RX4 307 309 369 "java/lang/IndexOutOfBoundsException" "no such land" ["java/lang/RuntimeException", "java/lang/Exception"] := ⟨by decide +kernel, by decide +kernel, zq_273, zq_31, by decide +kernel, at_X4_309, by decide +kernel⟩
theorem th_X4_307_309_371 : z_thr RX4 307 309 371 "java/lang/IndexOutOfBoundsException" "no such medium" ["java/lang/RuntimeException", "java/lang/Exception"] := ⟨by decide +kernel, by decide +kernel, zq_273, zq_31, by decide +kernel, at_X4_309, by decide +kernel⟩
theorem th_X4_34_38_115 : z_thr RX4 34 38 115 "java/lang/IllegalStateException" "there are 12 pieces" ["java/lang/RuntimeException", "java/lang/Exception"] := ⟨by decide +kernel, by decide +kernel, zq_115, zq_25, by decide +kernel, at_X4_38, by decide +kernel⟩
theorem th_X4_34_38_139 : z_thr RX4 34 38 139 "java/lang/IllegalStateException" "the piece is not laid" ["java/lang/RuntimeException", "java/lang/Exception"] := ⟨by decide +kernel, by decide +kernel, zq_115, zq_25, by decide +kernel, at_X4_38, by decide +kernel⟩
theorem th_X4_34_38_182 : z_thr RX4 34 38 182 "java/lang/IllegalStateException" "there were 16 bookings" ["java/lang/RuntimeException", "java/lang/Exception"] := ⟨by decide +kernel, by decide +kernel, zq_115, zq_25, by decide +kernel, at_X4_38, by decide +kernel⟩
theorem th_X4_34_38_188 : z_thr RX4 34 38 188 "java/lang/IllegalStateException" "another booking has one of these days" ["java/lang/RuntimeException", "java/lang/Exception"] := ⟨by decide +kernel, by decide +kernel, zq_115, zq_25, by decide +kernel, at_X4_38, by decide +kernel⟩
theorem th_X4_34_38_207 : z_thr RX4 34 38 207 "java/lang/IllegalStateException" "the booking is neither booked nor running" ["java/lang/RuntimeException", "java/lang/Exception"] := ⟨by decide +kernel, by decide +kernel, zq_115, zq_25, by decide +kernel, at_X4_38, by decide +kernel⟩
theorem th_X4_34_38_222 : z_thr RX4 34 38 222 "java/lang/IllegalStateException" "the piece cannot be swapped for that of the booking" ["java/lang/RuntimeException", "java/lang/Exception"] := ⟨by decide +kernel, by decide +kernel, zq_115, zq_25, by decide +kernel, at_X4_38, by decide +kernel⟩
theorem th_X4_34_38_262 : z_thr RX4 34 38 262 "java/lang/IllegalStateException" "today is 99" ["java/lang/RuntimeException", "java/lang/Exception"] := ⟨by decide +kernel, by decide +kernel, zq_115, zq_25, by decide +kernel, at_X4_38, by decide +kernel⟩
theorem th_X4_34_38_36 : z_thr RX4 34 38 36 "java/lang/IllegalStateException" "there are 16 assets" ["java/lang/RuntimeException", "java/lang/Exception"] := ⟨by decide +kernel, by decide +kernel, zq_115, zq_25, by decide +kernel, at_X4_38, by decide +kernel⟩
theorem th_X4_34_38_65 : z_thr RX4 34 38 65 "java/lang/IllegalStateException" "there are 5 versions" ["java/lang/RuntimeException", "java/lang/Exception"] := ⟨by decide +kernel, by decide +kernel, zq_115, zq_25, by decide +kernel, at_X4_38, by decide +kernel⟩
theorem th_X4_34_38_72 : z_thr RX4 34 38 72 "java/lang/IllegalStateException" "no version is still to come" ["java/lang/RuntimeException", "java/lang/Exception"] := ⟨by decide +kernel, by decide +kernel, zq_115, zq_25, by decide +kernel, at_X4_38, by decide +kernel⟩
theorem th_X4_56_60_108 : z_thr RX4 56 60 108 "java/lang/IllegalArgumentException" "format is not 0 to 2" ["java/lang/RuntimeException", "java/lang/Exception"] := ⟨by decide +kernel, by decide +kernel, zq_303, zq_34, by decide +kernel, at_X4_60, by decide +kernel⟩
theorem th_X4_56_60_110 : z_thr RX4 56 60 110 "java/lang/IllegalArgumentException" "assets is empty, or has one that there is not" ["java/lang/RuntimeException", "java/lang/Exception"] := ⟨by decide +kernel, by decide +kernel, zq_303, zq_34, by decide +kernel, at_X4_60, by decide +kernel⟩
theorem th_X4_56_60_171 : z_thr RX4 56 60 171 "java/lang/IllegalArgumentException" "what is not 0 to 4" ["java/lang/RuntimeException", "java/lang/Exception"] := ⟨by decide +kernel, by decide +kernel, zq_303, zq_34, by decide +kernel, at_X4_60, by decide +kernel⟩
theorem th_X4_56_60_260 : z_thr RX4 56 60 260 "java/lang/IllegalArgumentException" "what is not 0 to 11" ["java/lang/RuntimeException", "java/lang/Exception"] := ⟨by decide +kernel, by decide +kernel, zq_303, zq_34, by decide +kernel, at_X4_60, by decide +kernel⟩
theorem th_X4_56_60_279 : z_thr RX4 56 60 279 "java/lang/IllegalArgumentException" "what is not 0 to 10" ["java/lang/RuntimeException", "java/lang/Exception"] := ⟨by decide +kernel, by decide +kernel, zq_303, zq_34, by decide +kernel, at_X4_60, by decide +kernel⟩
theorem th_X4_56_60_284 : z_thr RX4 56 60 284 "java/lang/IllegalArgumentException" "groups is not 0 to 1023" ["java/lang/RuntimeException", "java/lang/Exception"] := ⟨by decide +kernel, by decide +kernel, zq_303, zq_34, by decide +kernel, at_X4_60, by decide +kernel⟩
theorem th_X4_56_60_301 : z_thr RX4 56 60 301 "java/lang/IllegalArgumentException" "days is not 1 to 30" ["java/lang/RuntimeException", "java/lang/Exception"] := ⟨by decide +kernel, by decide +kernel, zq_303, zq_34, by decide +kernel, at_X4_60, by decide +kernel⟩
theorem th_X4_56_60_363 : z_thr RX4 56 60 363 "java/lang/IllegalArgumentException" "from is not above today" ["java/lang/RuntimeException", "java/lang/Exception"] := ⟨by decide +kernel, by decide +kernel, zq_303, zq_34, by decide +kernel, at_X4_60, by decide +kernel⟩
theorem th_X4_56_60_365 : z_thr RX4 56 60 365 "java/lang/IllegalArgumentException" "to is not from to 99" ["java/lang/RuntimeException", "java/lang/Exception"] := ⟨by decide +kernel, by decide +kernel, zq_303, zq_34, by decide +kernel, at_X4_60, by decide +kernel⟩
theorem th_X4_56_60_367 : z_thr RX4 56 60 367 "java/lang/IllegalArgumentException" "base is not 1 to 999" ["java/lang/RuntimeException", "java/lang/Exception"] := ⟨by decide +kernel, by decide +kernel, zq_303, zq_34, by decide +kernel, at_X4_60, by decide +kernel⟩
theorem th_X4_56_60_373 : z_thr RX4 56 60 373 "java/lang/IllegalArgumentException" "a day is not 0 to 99" ["java/lang/RuntimeException", "java/lang/Exception"] := ⟨by decide +kernel, by decide +kernel, zq_303, zq_34, by decide +kernel, at_X4_60, by decide +kernel⟩
theorem th_X4_56_60_58 : z_thr RX4 56 60 58 "java/lang/IllegalArgumentException" "day is not today to 99" ["java/lang/RuntimeException", "java/lang/Exception"] := ⟨by decide +kernel, by decide +kernel, zq_303, zq_34, by decide +kernel, at_X4_60, by decide +kernel⟩
theorem th_X4_56_60_67 : z_thr RX4 56 60 67 "java/lang/IllegalArgumentException" "days is not 1 to 20" ["java/lang/RuntimeException", "java/lang/Exception"] := ⟨by decide +kernel, by decide +kernel, zq_303, zq_34, by decide +kernel, at_X4_60, by decide +kernel⟩
theorem th_X4_56_60_84 : z_thr RX4 56 60 84 "java/lang/IllegalArgumentException" "lands is not 0 to 15" ["java/lang/RuntimeException", "java/lang/Exception"] := ⟨by decide +kernel, by decide +kernel, zq_303, zq_34, by decide +kernel, at_X4_60, by decide +kernel⟩
theorem th_X4_56_60_89 : z_thr RX4 56 60 89 "java/lang/IllegalArgumentException" "to is below from" ["java/lang/RuntimeException", "java/lang/Exception"] := ⟨by decide +kernel, by decide +kernel, zq_303, zq_34, by decide +kernel, at_X4_60, by decide +kernel⟩
end
section
theorem dJxa1e45_init_da8c8_0 : decode cJxa1e45_init_da8c8 0 = .ok (.aload_n 0, 1) := by decide +kernel
theorem dJxa1e45_init_da8c8_1 : decode cJxa1e45_init_da8c8 1 = .ok (.invokespecial 1, 3) := by decide +kernel
theorem dJxa1e45_init_da8c8_4 : decode cJxa1e45_init_da8c8 4 = .ok (.return_, 1) := by decide +kernel
def v_Jxa1e45_init_da8c8 (a0 : Nat) (T : zT) (F : zF) (Post : Prop) : Prop :=
  Post
set_option maxRecDepth 100000 in
set_option maxHeartbeats 4000000 in
theorem k_Jxa1e45_init_da8c8 {l : Launch} {D : va_G} {cA : Nat → ClassId} {N0 zE : Nat} {a0 : Nat} {T : zT} {F : zF} {Post : Prop} (h : v_Jxa1e45_init_da8c8 a0 T F Post) : z_Mt l D cA N0 zE yJxa1e45_init_da8c8 cJxa1e45_init_da8c8 1 none ({ frames := 1, cells := 0, slots := 0, locals := 20 } : Room) [.ref a0] T F (fun v T' F' => v = none ∧ T = T' ∧ F = F' ∧ Post) := by
  unfold v_Jxa1e45_init_da8c8 at h
  refine z_bodyT (by decide) (Nat.le_of_ble_eq_true rfl) ?_
  intro p e s m args below meth c C hnm
  have C : z_C p l s m args meth c RJxa1e45 cJxa1e45_init_da8c8 1 none D cA N0 zE := C
  show z_w p l e ({ frames := 1, cells := 0, slots := 0, locals := 20 } : Room) s m args below meth c D cA N0 1 0 0 (MQ below (z_Qc D cA N0 (fun v T' F' => v = none ∧ T = T' ∧ F = F' ∧ Post)) args s 0 0 (fun q => N0 ≤ q)) 0 [(0, .ref a0)] [] T F
  refine zr_aload_n C 0 dJxa1e45_init_da8c8_0 rfl rfl ?_
  refine zr_objInit C zq_57 zq_44 zq_45 (by decide) (Nat.le_of_ble_eq_true rfl) dJxa1e45_init_da8c8_1 ?_
  exact zr_vret C rfl ⟨rfl, rfl, rfl, h⟩ (Nat.le_of_ble_eq_true rfl) (Nat.le_of_ble_eq_true rfl) dJxa1e45_init_da8c8_4
theorem dJxc12de_init_da8c8_0 : decode cJxc12de_init_da8c8 0 = .ok (.aload_n 0, 1) := by decide +kernel
theorem dJxc12de_init_da8c8_4 : decode cJxc12de_init_da8c8 4 = .ok (.aload_n 0, 1) := by decide +kernel
theorem dJxc12de_init_da8c8_5 : decode cJxc12de_init_da8c8 5 = .ok (.iconst 0, 1) := by decide +kernel
theorem dJxc12de_init_da8c8_6 : decode cJxc12de_init_da8c8 6 = .ok (.putfield 7, 3) := by decide +kernel
theorem dJxc12de_init_da8c8_9 : decode cJxc12de_init_da8c8 9 = .ok (.return_, 1) := by decide +kernel
theorem dJxc12de_init_da8c8_1 : decode cJxc12de_init_da8c8 1 = .ok (.invokespecial 1, 3) := by decide +kernel
def v_Jxc12de_init_da8c8 (a0 : Nat) (T : zT) (F : zF) (Post : zF → Prop) : Prop :=
  (v_Jxa1e45_init_da8c8 a0 T F (T a0 = some (0, 3) ∧ Post (zu F a0 0 (.int 0))))
set_option maxRecDepth 100000 in
set_option maxHeartbeats 4000000 in
theorem k_Jxc12de_init_da8c8 {l : Launch} {D : va_G} {cA : Nat → ClassId} {N0 zE : Nat} {a0 : Nat} {T : zT} {F : zF} {Post : zF → Prop} (h : v_Jxc12de_init_da8c8 a0 T F Post) : z_Mt l D cA N0 zE yJxc12de_init_da8c8 cJxc12de_init_da8c8 1 none ({ frames := 2, cells := 0, slots := 0, locals := 40 } : Room) [.ref a0] T F (fun v T' F' => v = none ∧ T = T' ∧ Post F') := by
  unfold v_Jxc12de_init_da8c8 at h
  refine z_bodyT (by decide) (Nat.le_of_ble_eq_true rfl) ?_
  intro p e s m args below meth c C hnm
  have C : z_C p l s m args meth c RJxc12de cJxc12de_init_da8c8 1 none D cA N0 zE := C
  show z_w p l e ({ frames := 2, cells := 0, slots := 0, locals := 40 } : Room) s m args below meth c D cA N0 1 0 0 (MQ below (z_Qc D cA N0 (fun v T' F' => v = none ∧ T = T' ∧ Post F')) args s 0 0 (fun q => N0 ≤ q)) 0 [(0, .ref a0)] [] T F
  refine zr_aload_n C 0 dJxc12de_init_da8c8_0 rfl rfl ?_
  refine zr_callI (As := []) C (k_Jxa1e45_init_da8c8 h) ok_Jxc12de_1 zq_55 rfl rfl ⟨by decide, (Nat.le_of_ble_eq_true rfl)⟩ ⟨(Nat.le_of_ble_eq_true rfl), (Nat.le_of_ble_eq_true rfl)⟩ (Nat.le_of_ble_eq_true rfl) dJxc12de_init_da8c8_1 (fun v2 U3 G4 hq => ?_)
  clear h
  · obtain ⟨rfl, rfl, rfl, h⟩ := hq
    refine zr_aload_n C 0 dJxc12de_init_da8c8_4 rfl rfl ?_
    refine zr_iconst C 0 dJxc12de_init_da8c8_5 (by decide) ?_
    obtain ⟨hT1, h⟩ := h
    refine zr_put C fl_Jxc12de_7 hT1 rfl rfl dJxc12de_init_da8c8_6 ?_
    exact zr_vret C rfl ⟨rfl, rfl, h⟩ (Nat.le_of_ble_eq_true rfl) (Nat.le_of_ble_eq_true rfl) dJxc12de_init_da8c8_9
theorem dJx4a65c_init_da8c8_0 : decode cJx4a65c_init_da8c8 0 = .ok (.aload_n 0, 1) := by decide +kernel
theorem dJx4a65c_init_da8c8_4 : decode cJx4a65c_init_da8c8 4 = .ok (.aload_n 0, 1) := by decide +kernel
theorem dJx4a65c_init_da8c8_5 : decode cJx4a65c_init_da8c8 5 = .ok (.getstatic 39, 3) := by decide +kernel
theorem dJx4a65c_init_da8c8_8 : decode cJx4a65c_init_da8c8 8 = .ok (.putfield 9, 3) := by decide +kernel
theorem dJx4a65c_init_da8c8_11 : decode cJx4a65c_init_da8c8 11 = .ok (.return_, 1) := by decide +kernel
theorem dJx4a65c_init_da8c8_1 : decode cJx4a65c_init_da8c8 1 = .ok (.invokespecial 1, 3) := by decide +kernel
def v_Jx4a65c_init_da8c8 (zE : Nat) (a0 : Nat) (T : zT) (F : zF) (Post : zF → Prop) : Prop :=
  (v_Jxc12de_init_da8c8 a0 T F (fun (F1 : zF) => (T a0 = some (0, 3) ∧ Post (zu F1 a0 1 (.ref zE)))))
set_option maxRecDepth 100000 in
set_option maxHeartbeats 4000000 in
theorem k_Jx4a65c_init_da8c8 {l : Launch} {D : va_G} {cA : Nat → ClassId} {N0 zE : Nat} {a0 : Nat} {T : zT} {F : zF} {Post : zF → Prop} (h : v_Jx4a65c_init_da8c8 zE a0 T F Post) : z_Mt l D cA N0 zE yJx4a65c_init_da8c8 cJx4a65c_init_da8c8 1 none ({ frames := 3, cells := 0, slots := 0, locals := 60 } : Room) [.ref a0] T F (fun v T' F' => v = none ∧ T = T' ∧ Post F') := by
  unfold v_Jx4a65c_init_da8c8 at h
  refine z_bodyT (by decide) (Nat.le_of_ble_eq_true rfl) ?_
  intro p e s m args below meth c C hnm
  have C : z_C p l s m args meth c RJx4a65c cJx4a65c_init_da8c8 1 none D cA N0 zE := C
  show z_w p l e ({ frames := 3, cells := 0, slots := 0, locals := 60 } : Room) s m args below meth c D cA N0 1 0 0 (MQ below (z_Qc D cA N0 (fun v T' F' => v = none ∧ T = T' ∧ Post F')) args s 0 0 (fun q => N0 ≤ q)) 0 [(0, .ref a0)] [] T F
  refine zr_aload_n C 0 dJx4a65c_init_da8c8_0 rfl rfl ?_
  refine zr_callI (As := []) C (k_Jxc12de_init_da8c8 h) ok_Jx4a65c_1 zq_52 rfl rfl ⟨by decide, (Nat.le_of_ble_eq_true rfl)⟩ ⟨(Nat.le_of_ble_eq_true rfl), (Nat.le_of_ble_eq_true rfl)⟩ (Nat.le_of_ble_eq_true rfl) dJx4a65c_init_da8c8_1 (fun v3 U4 G5 hq => ?_)
  clear h
  · obtain ⟨rfl, rfl, h⟩ := hq
    refine zr_aload_n C 0 dJx4a65c_init_da8c8_4 rfl rfl ?_
    refine zr_getsE C zq_58 dJx4a65c_init_da8c8_5 ?_
    obtain ⟨hT2, h⟩ := h
    refine zr_put C fl_Jx4a65c_9 hT2 rfl rfl dJx4a65c_init_da8c8_8 ?_
    exact zr_vret C rfl ⟨rfl, rfl, h⟩ (Nat.le_of_ble_eq_true rfl) (Nat.le_of_ble_eq_true rfl) dJx4a65c_init_da8c8_11
theorem dJx4a65c_size_8abf5_0 : decode cJx4a65c_size_8abf5 0 = .ok (.aload_n 0, 1) := by decide +kernel
theorem dJx4a65c_size_8abf5_1 : decode cJx4a65c_size_8abf5 1 = .ok (.getfield 48, 3) := by decide +kernel
theorem dJx4a65c_size_8abf5_4 : decode cJx4a65c_size_8abf5 4 = .ok (.ireturn, 1) := by decide +kernel
def v_Jx4a65c_size_8abf5 (a0 : Nat) (T : zT) (F : zF) (Post : Int32 → Prop) : Prop :=
  (T a0 = some (0, 3) ∧ ∃ x3 : Int32, F a0 2 = .int x3 ∧ Post x3)
set_option maxRecDepth 100000 in
set_option maxHeartbeats 4000000 in
theorem k_Jx4a65c_size_8abf5 {l : Launch} {D : va_G} {cA : Nat → ClassId} {N0 zE : Nat} {a0 : Nat} {T : zT} {F : zF} {Post : Int32 → Prop} (h : v_Jx4a65c_size_8abf5 a0 T F Post) : z_Mt l D cA N0 zE yJx4a65c_size_8abf5 cJx4a65c_size_8abf5 1 (some .int) ({ frames := 0, cells := 0, slots := 0, locals := 0 } : Room) [.ref a0] T F (fun v T' F' => ∃ r : Int32, v = some (.int r) ∧ T = T' ∧ F = F' ∧ Post r) := by
  unfold v_Jx4a65c_size_8abf5 at h
  refine z_bodyT (by decide) (Nat.le_of_ble_eq_true rfl) ?_
  intro p e s m args below meth c C hnm
  have C : z_C p l s m args meth c RJx4a65c cJx4a65c_size_8abf5 1 (some .int) D cA N0 zE := C
  show z_w p l e ({ frames := 0, cells := 0, slots := 0, locals := 0 } : Room) s m args below meth c D cA N0 1 0 0 (MQ below (z_Qc D cA N0 (fun v T' F' => ∃ r : Int32, v = some (.int r) ∧ T = T' ∧ F = F' ∧ Post r)) args s 0 0 (fun q => N0 ≤ q)) 0 [(0, .ref a0)] [] T F
  refine zr_aload_n C 0 dJx4a65c_size_8abf5_0 rfl rfl ?_
  obtain ⟨hT1, x3, hv2, h⟩ := h
  refine zr_get C fl_Jx4a65c_48 hT1 hv2 dJx4a65c_size_8abf5_1 ?_
  exact zr_iret C rfl ⟨_, rfl, rfl, rfl, h⟩ (Nat.le_of_ble_eq_true rfl) (Nat.le_of_ble_eq_true rfl) dJx4a65c_size_8abf5_4
theorem dJ7_fill_53178_0 : decode cJ7_fill_53178 0 = .ok (.iconst 0, 1) := by decide +kernel
theorem dJ7_fill_53178_1 : decode cJ7_fill_53178 1 = .ok (.istore_n 2, 1) := by decide +kernel
theorem dJ7_fill_53178_2 : decode cJ7_fill_53178 2 = .ok (.aload_n 0, 1) := by decide +kernel
theorem dJ7_fill_53178_3 : decode cJ7_fill_53178 3 = .ok (.arraylength, 1) := by decide +kernel
theorem dJ7_fill_53178_4 : decode cJ7_fill_53178 4 = .ok (.istore_n 3, 1) := by decide +kernel
theorem dJ7_fill_53178_5 : decode cJ7_fill_53178 5 = .ok (.iload_n 2, 1) := by decide +kernel
theorem dJ7_fill_53178_6 : decode cJ7_fill_53178 6 = .ok (.iload_n 3, 1) := by decide +kernel
theorem dJ7_fill_53178_7 : decode cJ7_fill_53178 7 = .ok (.if_icmp .ge 13, 3) := by decide +kernel
theorem dJ7_fill_53178_20 : decode cJ7_fill_53178 20 = .ok (.return_, 1) := by decide +kernel
theorem dJ7_fill_53178_10 : decode cJ7_fill_53178 10 = .ok (.aload_n 0, 1) := by decide +kernel
theorem dJ7_fill_53178_11 : decode cJ7_fill_53178 11 = .ok (.iload_n 2, 1) := by decide +kernel
theorem dJ7_fill_53178_12 : decode cJ7_fill_53178 12 = .ok (.iload_n 1, 1) := by decide +kernel
theorem dJ7_fill_53178_13 : decode cJ7_fill_53178 13 = .ok (.iastore, 1) := by decide +kernel
theorem dJ7_fill_53178_14 : decode cJ7_fill_53178 14 = .ok (.iinc 2 1, 3) := by decide +kernel
theorem dJ7_fill_53178_17 : decode cJ7_fill_53178 17 = .ok (.goto (-12), 3) := by decide +kernel
def v_J7_fill_53178 (a0 : Nat) (p1 : Int32) (T : zT) (F : zF) (Post : zF → Prop) : Prop :=
  (∃ n1 : Nat, T a0 = some (100, n1) ∧ (∃ I3 : Nat → Int32 → zF → Prop, (∃ n5 : Nat, I3 n5 0 F) ∧ (∀ (n4 : Nat) (y6 : Int32) (F7 : zF), I3 n4 y6 F7 → (((nI n1) ≤ y6 → Post F7) ∧ (¬ (nI n1) ≤ y6 → (vp_in y6 n1 ∧ (∃ n11 : Nat, n11 < n4 ∧ I3 n11 (y6 + 1) (zu F7 a0 (y6).toNatClampNeg (.int p1)))))))))
set_option maxRecDepth 100000 in
set_option maxHeartbeats 4000000 in
theorem k_J7_fill_53178 {l : Launch} {D : va_G} {cA : Nat → ClassId} {N0 zE : Nat} {a0 : Nat} {p1 : Int32} {T : zT} {F : zF} {Post : zF → Prop} (h : v_J7_fill_53178 a0 p1 T F Post) : z_Mt l D cA N0 zE yJ7_fill_53178 cJ7_fill_53178 4 none ({ frames := 0, cells := 0, slots := 0, locals := 0 } : Room) [.ref a0, .int p1] T F (fun v T' F' => v = none ∧ T = T' ∧ Post F') := by
  unfold v_J7_fill_53178 at h
  refine z_bodyT (by decide) (Nat.le_of_ble_eq_true rfl) ?_
  intro p e s m args below meth c C hnm
  have C : z_C p l s m args meth c RJ7 cJ7_fill_53178 4 none D cA N0 zE := C
  show z_w p l e ({ frames := 0, cells := 0, slots := 0, locals := 0 } : Room) s m args below meth c D cA N0 4 0 0 (MQ below (z_Qc D cA N0 (fun v T' F' => v = none ∧ T = T' ∧ Post F')) args s 0 0 (fun q => N0 ≤ q)) 0 [(0, .ref a0), (1, .int p1)] [] T F
  refine zr_iconst C 0 dJ7_fill_53178_0 (by decide) ?_
  refine zr_istore_n C [(2, .int 0), (0, .ref a0), (1, .int p1)] dJ7_fill_53178_1 rfl (by decide) rfl ?_
  refine zr_aload_n C 1 dJ7_fill_53178_2 rfl rfl ?_
  obtain ⟨n1, hT2, h⟩ := h
  refine zr_alen C hT2 (by decide) rfl dJ7_fill_53178_3 ?_
  refine zr_istore_n C [(3, .int (nI n1)), (2, .int 0), (0, .ref a0), (1, .int p1)] dJ7_fill_53178_4 rfl (by decide) rfl ?_
  obtain ⟨I3, ⟨n5, h013⟩, hI12⟩ := h
  have ky14 : ∀ (n4 : Nat) (y6 : Int32) (F7 : zF), I3 n4 y6 F7 → z_w p l e ({ frames := 0, cells := 0, slots := 0, locals := 0 } : Room) s m args below meth c D cA N0 4 0 0 (MQ below (z_Qc D cA N0 (fun v T' F' => v = none ∧ T = T' ∧ Post F')) args s 0 0 (fun q => N0 ≤ q)) 5 [(0, .ref a0), (1, .int p1), (2, .int y6), (3, .int (nI n1))] [] T F7 := by
    intro n4
    induction n4 using Nat.strongRecOn with
    | _ n4 ih8 =>
      intro y6 F7 hin
      have h := hI12 n4 y6 F7 hin
      refine zr_iload_n C 2 dJ7_fill_53178_5 rfl rfl ?_
      refine zr_iload_n C 3 dJ7_fill_53178_6 rfl rfl ?_
      obtain ⟨h1, h2⟩ := h
      refine zr_icmp_ge C 20 dJ7_fill_53178_7 (by decide) (fun hc => ?_) (fun hc => ?_)
      · have h := h1 hc
        clear h1 h2
        exact zr_vret C rfl ⟨rfl, rfl, h⟩ (Nat.le_of_ble_eq_true rfl) (Nat.le_of_ble_eq_true rfl) dJ7_fill_53178_20
      · have h := h2 hc
        clear h1 h2
        refine zr_aload_n C 0 dJ7_fill_53178_10 rfl rfl ?_
        refine zr_iload_n C 2 dJ7_fill_53178_11 rfl rfl ?_
        refine zr_iload_n C 1 dJ7_fill_53178_12 rfl rfl ?_
        obtain ⟨hi10, h⟩ := h
        refine zr_iast C rfl hT2 hi10 dJ7_fill_53178_13 ?_
        refine zr_iinc C [(2, .int (y6 + 1)), (0, .ref a0), (1, .int p1), (3, .int (nI n1))] 2 dJ7_fill_53178_14 rfl rfl (by decide) rfl ?_
        refine zr_goto C 5 dJ7_fill_53178_17 (by decide) ?_
        obtain ⟨n11, hlt, h⟩ := h
        exact zr_sub [1, 2, 0, 3] rfl (ih8 n11 hlt (y6 + 1) (zu F7 a0 (y6).toNatClampNeg (.int p1)) h)
  exact zr_sub [2, 3, 1, 0] rfl (ky14 n5 0 F h013)
theorem dJ8_newLength_cabcc_0 : decode cJ8_newLength_cabcc 0 = .ok (.iload_n 0, 1) := by decide +kernel
theorem dJ8_newLength_cabcc_1 : decode cJ8_newLength_cabcc 1 = .ok (.iload_n 1, 1) := by decide +kernel
theorem dJ8_newLength_cabcc_2 : decode cJ8_newLength_cabcc 2 = .ok (.iload_n 2, 1) := by decide +kernel
theorem dJ8_newLength_cabcc_3 : decode cJ8_newLength_cabcc 3 = .ok (.invokestatic 194, 3) := by decide +kernel
theorem dJ8_newLength_cabcc_6 : decode cJ8_newLength_cabcc 6 = .ok (.iadd, 1) := by decide +kernel
theorem dJ8_newLength_cabcc_7 : decode cJ8_newLength_cabcc 7 = .ok (.istore_n 3, 1) := by decide +kernel
theorem dJ8_newLength_cabcc_8 : decode cJ8_newLength_cabcc 8 = .ok (.iconst 0, 1) := by decide +kernel
theorem dJ8_newLength_cabcc_9 : decode cJ8_newLength_cabcc 9 = .ok (.iload_n 3, 1) := by decide +kernel
theorem dJ8_newLength_cabcc_10 : decode cJ8_newLength_cabcc 10 = .ok (.if_icmp .ge 11, 3) := by decide +kernel
theorem dJ8_newLength_cabcc_13 : decode cJ8_newLength_cabcc 13 = .ok (.iload_n 3, 1) := by decide +kernel
theorem dJ8_newLength_cabcc_14 : decode cJ8_newLength_cabcc 14 = .ok (.ldc 200, 2) := by decide +kernel
theorem dJ8_newLength_cabcc_16 : decode cJ8_newLength_cabcc 16 = .ok (.if_icmp .gt 5, 3) := by decide +kernel
theorem dJ8_newLength_cabcc_19 : decode cJ8_newLength_cabcc 19 = .ok (.iload_n 3, 1) := by decide +kernel
theorem dJ8_newLength_cabcc_20 : decode cJ8_newLength_cabcc 20 = .ok (.ireturn, 1) := by decide +kernel
def v_J8_newLength_cabcc (p0 : Int32) (p1 : Int32) (p2 : Int32) (T : zT) (F : zF) (Post : Int32 → Prop) : Prop :=
  (((p0 + (if p1 < p2 then p2 else p1)) ≤ (0 : Int32) → False) ∧ (¬ (p0 + (if p1 < p2 then p2 else p1)) ≤ (0 : Int32) → ((2147483639 < (p0 + (if p1 < p2 then p2 else p1)) → False) ∧ (¬ 2147483639 < (p0 + (if p1 < p2 then p2 else p1)) → Post (p0 + (if p1 < p2 then p2 else p1))))))
set_option maxRecDepth 100000 in
set_option maxHeartbeats 4000000 in
theorem k_J8_newLength_cabcc {l : Launch} {D : va_G} {cA : Nat → ClassId} {N0 zE : Nat} {p0 : Int32} {p1 : Int32} {p2 : Int32} {T : zT} {F : zF} {Post : Int32 → Prop} (h : v_J8_newLength_cabcc p0 p1 p2 T F Post) : z_Mt l D cA N0 zE yJ8_newLength_cabcc cJ8_newLength_cabcc 4 (some .int) ({ frames := 1, cells := 0, slots := 0, locals := 21 } : Room) [.int p0, .int p1, .int p2] T F (fun v T' F' => ∃ r : Int32, v = some (.int r) ∧ T = T' ∧ F = F' ∧ Post r) := by
  unfold v_J8_newLength_cabcc at h
  refine z_bodyT (by decide) (Nat.le_of_ble_eq_true rfl) ?_
  intro p e s m args below meth c C hnm
  have C : z_C p l s m args meth c RJ8 cJ8_newLength_cabcc 4 (some .int) D cA N0 zE := C
  show z_w p l e ({ frames := 1, cells := 0, slots := 0, locals := 21 } : Room) s m args below meth c D cA N0 4 0 0 (MQ below (z_Qc D cA N0 (fun v T' F' => ∃ r : Int32, v = some (.int r) ∧ T = T' ∧ F = F' ∧ Post r)) args s 0 0 (fun q => N0 ≤ q)) 0 [(0, .int p0), (1, .int p1), (2, .int p2)] [] T F
  refine zr_iload_n C 0 dJ8_newLength_cabcc_0 rfl rfl ?_
  refine zr_iload_n C 1 dJ8_newLength_cabcc_1 rfl rfl ?_
  refine zr_iload_n C 2 dJ8_newLength_cabcc_2 rfl rfl ?_
  refine zr_max C zq_228 zq_229 zq_29 zq_230 (by decide) (Nat.le_of_ble_eq_true rfl) (Nat.le_of_ble_eq_true rfl) (Nat.le_of_ble_eq_true rfl) dJ8_newLength_cabcc_3 ?_
  refine zr_iadd C dJ8_newLength_cabcc_6 ?_
  refine zr_istore_n C [(3, .int (p0 + (if p1 < p2 then p2 else p1))), (0, .int p0), (1, .int p1), (2, .int p2)] dJ8_newLength_cabcc_7 rfl (by decide) rfl ?_
  refine zr_iconst C 0 dJ8_newLength_cabcc_8 (by decide) ?_
  refine zr_iload_n C 0 dJ8_newLength_cabcc_9 rfl rfl ?_
  obtain ⟨h1, h2⟩ := h
  refine zr_icmp_ge C 21 dJ8_newLength_cabcc_10 (by decide) (fun hc => ?_) (fun hc => ?_)
  · have h := h1 hc
    clear h1 h2
    exact h.elim
  · have h := h2 hc
    clear h1 h2
    refine zr_iload_n C 0 dJ8_newLength_cabcc_13 rfl rfl ?_
    refine zr_ldc C 2147483639 dJ8_newLength_cabcc_14 zq_231 ?_
    obtain ⟨h1, h2⟩ := h
    refine zr_icmp_gt C 21 dJ8_newLength_cabcc_16 (by decide) (fun hc => ?_) (fun hc => ?_)
    · have h := h1 hc
      clear h1 h2
      exact h.elim
    · have h := h2 hc
      clear h1 h2
      refine zr_iload_n C 0 dJ8_newLength_cabcc_19 rfl rfl ?_
      exact zr_iret C rfl ⟨_, rfl, rfl, rfl, h⟩ (Nat.le_of_ble_eq_true rfl) (Nat.le_of_ble_eq_true rfl) dJ8_newLength_cabcc_20
theorem dJ7_copyOf_6403c_0 : decode cJ7_copyOf_6403c 0 = .ok (.aload_n 2, 1) := by decide +kernel
theorem dJ7_copyOf_6403c_1 : decode cJ7_copyOf_6403c 1 = .ok (.ldc 110, 2) := by decide +kernel
theorem dJ7_copyOf_6403c_3 : decode cJ7_copyOf_6403c 3 = .ok (.if_acmp .ne 10, 3) := by decide +kernel
theorem dJ7_copyOf_6403c_6 : decode cJ7_copyOf_6403c 6 = .ok (.iload_n 1, 1) := by decide +kernel
theorem dJ7_copyOf_6403c_7 : decode cJ7_copyOf_6403c 7 = .ok (.anewarray 2, 3) := by decide +kernel
theorem dJ7_copyOf_6403c_10 : decode cJ7_copyOf_6403c 10 = .ok (.goto 14, 3) := by decide +kernel
theorem dJ7_copyOf_6403c_24 : decode cJ7_copyOf_6403c 24 = .ok (.astore_n 3, 1) := by decide +kernel
theorem dJ7_copyOf_6403c_25 : decode cJ7_copyOf_6403c 25 = .ok (.aload_n 0, 1) := by decide +kernel
theorem dJ7_copyOf_6403c_26 : decode cJ7_copyOf_6403c 26 = .ok (.iconst 0, 1) := by decide +kernel
theorem dJ7_copyOf_6403c_27 : decode cJ7_copyOf_6403c 27 = .ok (.aload_n 3, 1) := by decide +kernel
theorem dJ7_copyOf_6403c_28 : decode cJ7_copyOf_6403c 28 = .ok (.iconst 0, 1) := by decide +kernel
theorem dJ7_copyOf_6403c_29 : decode cJ7_copyOf_6403c 29 = .ok (.aload_n 0, 1) := by decide +kernel
theorem dJ7_copyOf_6403c_30 : decode cJ7_copyOf_6403c 30 = .ok (.arraylength, 1) := by decide +kernel
theorem dJ7_copyOf_6403c_31 : decode cJ7_copyOf_6403c 31 = .ok (.iload_n 1, 1) := by decide +kernel
theorem dJ7_copyOf_6403c_32 : decode cJ7_copyOf_6403c 32 = .ok (.invokestatic 304, 3) := by decide +kernel
theorem dJ7_copyOf_6403c_35 : decode cJ7_copyOf_6403c 35 = .ok (.invokestatic 150, 3) := by decide +kernel
theorem dJ7_copyOf_6403c_38 : decode cJ7_copyOf_6403c 38 = .ok (.aload_n 3, 1) := by decide +kernel
theorem dJ7_copyOf_6403c_39 : decode cJ7_copyOf_6403c 39 = .ok (.areturn, 1) := by decide +kernel
def v_J7_copyOf_6403c (a0 : Nat) (p1 : Int32) (T : zT) (F : zF) (Post : Nat → zT → zF → Prop) : Prop :=
  (¬ p1 < 0 ∧ p1.toNatClampNeg ≤ 40 ∧ (∀ q3 : Nat, (∀ b, q3 ≤ b → T b = none) → (∃ n5 : Nat, zn T q3 (101, p1.toNatClampNeg) a0 = some (101, n5) ∧ 0 < n5 ∧ 0 < p1.toNatClampNeg ∧ ¬ (if p1 < (nI n5) then p1 else (nI n5)) < 0 ∧ (if p1 < (nI n5) then p1 else (nI n5)).toNatClampNeg ≤ n5 ∧ (if p1 < (nI n5) then p1 else (nI n5)).toNatClampNeg ≤ p1.toNatClampNeg ∧ ¬ a0 = q3 ∧ (∀ i9 : Nat, i9 < (if p1 < (nI n5) then p1 else (nI n5)).toNatClampNeg → (zm F q3 (fun _ => .null)) a0 i9 = .null ∨ ∃ y9 : Nat, (zm F q3 (fun _ => .null)) a0 i9 = .ref y9 ∧ z_ob (zn T q3 (101, p1.toNatClampNeg)) y9) ∧ Post q3 (zn T q3 (101, p1.toNatClampNeg)) (zcp (zm F q3 (fun _ => .null)) a0 q3 ((if p1 < (nI n5) then p1 else (nI n5)).toNatClampNeg)))))
set_option maxRecDepth 100000 in
set_option maxHeartbeats 4000000 in
theorem k_J7_copyOf_6403c {l : Launch} {D : va_G} {cA : Nat → ClassId} {N0 zE : Nat} {a0 : Nat} {p1 : Int32} {T : zT} {F : zF} {Post : Nat → zT → zF → Prop} (h : v_J7_copyOf_6403c a0 p1 T F Post) : z_Mt l D cA N0 zE yJ7_copyOf_6403c cJ7_copyOf_6403c 4 (some (.array (.object "java/lang/Object"))) ({ frames := 1, cells := 1, slots := 40, locals := 32 } : Room) [.ref a0, .int p1, .ref (cA 5)] T F (fun v T' F' => ∃ r : Nat, v = some (.ref r) ∧ Post r T' F') := by
  unfold v_J7_copyOf_6403c at h
  refine z_bodyT (by decide) (Nat.le_of_ble_eq_true rfl) ?_
  intro p e s m args below meth c C hnm
  have C : z_C p l s m args meth c RJ7 cJ7_copyOf_6403c 4 (some (.array (.object "java/lang/Object"))) D cA N0 zE := C
  show z_w p l e ({ frames := 1, cells := 1, slots := 40, locals := 32 } : Room) s m args below meth c D cA N0 4 0 0 (MQ below (z_Qc D cA N0 (fun v T' F' => ∃ r : Nat, v = some (.ref r) ∧ Post r T' F')) args s 1 40 (fun q => N0 ≤ q)) 0 [(0, .ref a0), (1, .int p1), (2, .ref (cA 5))] [] T F
  refine zr_aload_n C 2 dJ7_copyOf_6403c_0 rfl rfl ?_
  refine zr_ldcM C zq_254 dJ7_copyOf_6403c_1 ?_
  refine zr_acmp_ne (rx := some (cA 5)) (ry := some (cA 5)) C 13 dJ7_copyOf_6403c_3 (by decide) (fun hc => absurd rfl hc) (fun _ => ?_)
  refine zr_iload_n C 1 dJ7_copyOf_6403c_6 rfl rfl ?_
  obtain ⟨hz1, hB2, h⟩ := h
  refine zr_anewB C 40 hB2 1 rfl zq_256 zq_255 hz1 (by decide) (Nat.le_of_ble_eq_true rfl) (Nat.le_of_ble_eq_true rfl) dJ7_copyOf_6403c_7 (fun q3 hq4 => ?_)
  have h := h q3 hq4
  refine zr_goto C 24 dJ7_copyOf_6403c_10 (by decide) ?_
  refine zr_astore_n C [(3, .ref q3), (0, .ref a0), (1, .int p1), (2, .ref (cA 5))] dJ7_copyOf_6403c_24 rfl (by decide) rfl ?_
  refine zr_aload_n C 1 dJ7_copyOf_6403c_25 rfl rfl ?_
  refine zr_iconst C 0 dJ7_copyOf_6403c_26 (by decide) ?_
  refine zr_aload_n C 0 dJ7_copyOf_6403c_27 rfl rfl ?_
  refine zr_iconst C 0 dJ7_copyOf_6403c_28 (by decide) ?_
  refine zr_aload_n C 1 dJ7_copyOf_6403c_29 rfl rfl ?_
  obtain ⟨n5, hT6, h⟩ := h
  refine zr_alen C hT6 (by decide) rfl dJ7_copyOf_6403c_30 ?_
  refine zr_iload_n C 2 dJ7_copyOf_6403c_31 rfl rfl ?_
  refine zr_min C zq_257 zq_258 zq_29 zq_259 (by decide) (Nat.le_of_ble_eq_true rfl) (Nat.le_of_ble_eq_true rfl) (Nat.le_of_ble_eq_true rfl) dJ7_copyOf_6403c_32 ?_
  obtain ⟨hc7, hc8, hc9, hc10, hc11, hc12, hc13, h⟩ := h
  refine zr_acopy C rfl hT6 z_nq hc7 hc8 hc9 hc10 hc11 hc12 hc13 zq_260 zq_262 zq_261 zq_30 (by decide) (Nat.le_of_ble_eq_true rfl) dJ7_copyOf_6403c_35 ?_
  refine zr_aload_n C 0 dJ7_copyOf_6403c_38 rfl rfl ?_
  exact zr_aret C rfl (Or.inr ⟨_, rfl⟩) (Or.inr ⟨_, rfl⟩) ⟨_, rfl, h⟩ (Nat.le_of_ble_eq_true rfl) (Nat.le_of_ble_eq_true rfl) dJ7_copyOf_6403c_39
theorem dJ7_copyOf_1904c_0 : decode cJ7_copyOf_1904c 0 = .ok (.aload_n 0, 1) := by decide +kernel
theorem dJ7_copyOf_1904c_1 : decode cJ7_copyOf_1904c 1 = .ok (.iload_n 1, 1) := by decide +kernel
theorem dJ7_copyOf_1904c_2 : decode cJ7_copyOf_1904c 2 = .ok (.aload_n 0, 1) := by decide +kernel
theorem dJ7_copyOf_1904c_3 : decode cJ7_copyOf_1904c 3 = .ok (.invokevirtual 86, 3) := by decide +kernel
theorem dJ7_copyOf_1904c_9 : decode cJ7_copyOf_1904c 9 = .ok (.areturn, 1) := by decide +kernel
theorem dJ7_copyOf_1904c_6 : decode cJ7_copyOf_1904c 6 = .ok (.invokestatic 300, 3) := by decide +kernel
def v_J7_copyOf_1904c (a0 : Nat) (p1 : Int32) (T : zT) (F : zF) (Post : Nat → zT → zF → Prop) : Prop :=
  (∃ n1 : Nat, T a0 = some (101, n1) ∧ (v_J7_copyOf_6403c a0 p1 T F (fun (r3 : Nat) (T4 : zT) (F5 : zF) => Post r3 T4 F5)))
set_option maxRecDepth 100000 in
set_option maxHeartbeats 4000000 in
theorem k_J7_copyOf_1904c {l : Launch} {D : va_G} {cA : Nat → ClassId} {N0 zE : Nat} {a0 : Nat} {p1 : Int32} {T : zT} {F : zF} {Post : Nat → zT → zF → Prop} (h : v_J7_copyOf_1904c a0 p1 T F Post) : z_Mt l D cA N0 zE yJ7_copyOf_1904c cJ7_copyOf_1904c 2 (some (.array (.object "java/lang/Object"))) ({ frames := 2, cells := 1, slots := 40, locals := 55 } : Room) [.ref a0, .int p1] T F (fun v T' F' => ∃ r : Nat, v = some (.ref r) ∧ Post r T' F') := by
  unfold v_J7_copyOf_1904c at h
  refine z_bodyT (by decide) (Nat.le_of_ble_eq_true rfl) ?_
  intro p e s m args below meth c C hnm
  have C : z_C p l s m args meth c RJ7 cJ7_copyOf_1904c 2 (some (.array (.object "java/lang/Object"))) D cA N0 zE := C
  show z_w p l e ({ frames := 2, cells := 1, slots := 40, locals := 55 } : Room) s m args below meth c D cA N0 2 0 0 (MQ below (z_Qc D cA N0 (fun v T' F' => ∃ r : Nat, v = some (.ref r) ∧ Post r T' F')) args s 1 40 (fun q => N0 ≤ q)) 0 [(0, .ref a0), (1, .int p1)] [] T F
  refine zr_aload_n C 0 dJ7_copyOf_1904c_0 rfl rfl ?_
  refine zr_iload_n C 1 dJ7_copyOf_1904c_1 rfl rfl ?_
  refine zr_aload_n C 0 dJ7_copyOf_1904c_2 rfl rfl ?_
  obtain ⟨n1, hT2, h⟩ := h
  refine zr_getC C rfl hT2 zq_238 zq_831 zq_239 zq_250 (by decide) (Nat.le_of_ble_eq_true rfl) dJ7_copyOf_1904c_3 ?_
  refine zr_callS (As := [.ref a0, .int p1, .ref (cA 5)]) C (k_J7_copyOf_6403c h) ok_J7_300 zq_252 rfl ⟨by decide, (Nat.le_of_ble_eq_true rfl)⟩ ⟨(Nat.le_of_ble_eq_true rfl), (Nat.le_of_ble_eq_true rfl)⟩ (Nat.le_of_ble_eq_true rfl) dJ7_copyOf_1904c_6 (fun v6 U7 G8 hq => ?_)
  clear h
  · obtain ⟨r3, rfl, h⟩ := hq
    skip
    exact zr_aret C rfl (Or.inr ⟨_, rfl⟩) (Or.inr ⟨_, rfl⟩) ⟨_, rfl, h⟩ (Nat.le_of_ble_eq_true rfl) (Nat.le_of_ble_eq_true rfl) dJ7_copyOf_1904c_9
theorem dJx4a65c_grow_92f84_0 : decode cJx4a65c_grow_92f84 0 = .ok (.aload_n 0, 1) := by decide +kernel
theorem dJx4a65c_grow_92f84_1 : decode cJx4a65c_grow_92f84 1 = .ok (.getfield 9, 3) := by decide +kernel
theorem dJx4a65c_grow_92f84_4 : decode cJx4a65c_grow_92f84 4 = .ok (.arraylength, 1) := by decide +kernel
theorem dJx4a65c_grow_92f84_5 : decode cJx4a65c_grow_92f84 5 = .ok (.istore_n 2, 1) := by decide +kernel
theorem dJx4a65c_grow_92f84_6 : decode cJx4a65c_grow_92f84 6 = .ok (.iload_n 2, 1) := by decide +kernel
theorem dJx4a65c_grow_92f84_7 : decode cJx4a65c_grow_92f84 7 = .ok (.ifCond .gt 13, 3) := by decide +kernel
theorem dJx4a65c_grow_92f84_20 : decode cJx4a65c_grow_92f84 20 = .ok (.iload_n 2, 1) := by decide +kernel
theorem dJx4a65c_grow_92f84_21 : decode cJx4a65c_grow_92f84 21 = .ok (.iload_n 1, 1) := by decide +kernel
theorem dJx4a65c_grow_92f84_22 : decode cJx4a65c_grow_92f84 22 = .ok (.iload_n 2, 1) := by decide +kernel
theorem dJx4a65c_grow_92f84_23 : decode cJx4a65c_grow_92f84 23 = .ok (.isub, 1) := by decide +kernel
theorem dJx4a65c_grow_92f84_24 : decode cJx4a65c_grow_92f84 24 = .ok (.iload_n 2, 1) := by decide +kernel
theorem dJx4a65c_grow_92f84_25 : decode cJx4a65c_grow_92f84 25 = .ok (.iconst 1, 1) := by decide +kernel
theorem dJx4a65c_grow_92f84_26 : decode cJx4a65c_grow_92f84 26 = .ok (.ishr, 1) := by decide +kernel
theorem dJx4a65c_grow_92f84_30 : decode cJx4a65c_grow_92f84 30 = .ok (.istore_n 3, 1) := by decide +kernel
theorem dJx4a65c_grow_92f84_31 : decode cJx4a65c_grow_92f84 31 = .ok (.aload_n 0, 1) := by decide +kernel
theorem dJx4a65c_grow_92f84_32 : decode cJx4a65c_grow_92f84 32 = .ok (.aload_n 0, 1) := by decide +kernel
theorem dJx4a65c_grow_92f84_33 : decode cJx4a65c_grow_92f84 33 = .ok (.getfield 9, 3) := by decide +kernel
theorem dJx4a65c_grow_92f84_36 : decode cJx4a65c_grow_92f84 36 = .ok (.iload_n 3, 1) := by decide +kernel
theorem dJx4a65c_grow_92f84_40 : decode cJx4a65c_grow_92f84 40 = .ok (.dup_x1, 1) := by decide +kernel
theorem dJx4a65c_grow_92f84_41 : decode cJx4a65c_grow_92f84 41 = .ok (.putfield 9, 3) := by decide +kernel
theorem dJx4a65c_grow_92f84_44 : decode cJx4a65c_grow_92f84 44 = .ok (.areturn, 1) := by decide +kernel
theorem dJx4a65c_grow_92f84_37 : decode cJx4a65c_grow_92f84 37 = .ok (.invokestatic 66, 3) := by decide +kernel
theorem dJx4a65c_grow_92f84_27 : decode cJx4a65c_grow_92f84 27 = .ok (.invokestatic 73, 3) := by decide +kernel
theorem dJx4a65c_grow_92f84_10 : decode cJx4a65c_grow_92f84 10 = .ok (.aload_n 0, 1) := by decide +kernel
theorem dJx4a65c_grow_92f84_11 : decode cJx4a65c_grow_92f84 11 = .ok (.getfield 9, 3) := by decide +kernel
theorem dJx4a65c_grow_92f84_14 : decode cJx4a65c_grow_92f84 14 = .ok (.getstatic 39, 3) := by decide +kernel
theorem dJx4a65c_grow_92f84_17 : decode cJx4a65c_grow_92f84 17 = .ok (.if_acmp .eq 28, 3) := by decide +kernel
theorem dJx4a65c_grow_92f84_45 : decode cJx4a65c_grow_92f84 45 = .ok (.aload_n 0, 1) := by decide +kernel
theorem dJx4a65c_grow_92f84_46 : decode cJx4a65c_grow_92f84 46 = .ok (.bipush 10, 2) := by decide +kernel
theorem dJx4a65c_grow_92f84_48 : decode cJx4a65c_grow_92f84 48 = .ok (.iload_n 1, 1) := by decide +kernel
theorem dJx4a65c_grow_92f84_49 : decode cJx4a65c_grow_92f84 49 = .ok (.invokestatic 79, 3) := by decide +kernel
theorem dJx4a65c_grow_92f84_52 : decode cJx4a65c_grow_92f84 52 = .ok (.anewarray 7, 3) := by decide +kernel
theorem dJx4a65c_grow_92f84_55 : decode cJx4a65c_grow_92f84 55 = .ok (.dup_x1, 1) := by decide +kernel
theorem dJx4a65c_grow_92f84_56 : decode cJx4a65c_grow_92f84 56 = .ok (.putfield 9, 3) := by decide +kernel
theorem dJx4a65c_grow_92f84_59 : decode cJx4a65c_grow_92f84 59 = .ok (.areturn, 1) := by decide +kernel
def v_Jx4a65c_grow_92f84 (zE : Nat) (a0 : Nat) (p1 : Int32) (T : zT) (F : zF) (Post : Nat → zT → zF → Prop) : Prop :=
  (T a0 = some (0, 3) ∧ ∃ x3 : Nat, F a0 1 = .ref x3 ∧ ∃ n4 : Nat, T x3 = some (101, n4) ∧ ((0 < (nI n4) → (v_J8_newLength_cabcc (nI n4) (p1 - (nI n4)) ((nI n4) >>> (1 &&& 31)) T F (fun (r6 : Int32) => (v_J7_copyOf_1904c x3 r6 T F (fun (r7 : Nat) (T8 : zT) (F9 : zF) => (T8 a0 = some (0, 3) ∧ Post r7 T8 (zu F9 a0 1 (.ref r7)))))))) ∧ (¬ 0 < (nI n4) → (((some x3 : Option Nat) = some zE → ((if (10 : Int32) < p1 then p1 else (10 : Int32)) = 10 ∧ (∀ q18 : Nat, (∀ b, q18 ≤ b → T b = none) → (zn T q18 (101, 10) a0 = some (0, 3) ∧ Post q18 (zn T q18 (101, 10)) (zu (zm F q18 (fun _ => .null)) a0 1 (.ref q18)))))) ∧ (¬ (some x3 : Option Nat) = some zE → (v_J8_newLength_cabcc (nI n4) (p1 - (nI n4)) ((nI n4) >>> (1 &&& 31)) T F (fun (r21 : Int32) => (v_J7_copyOf_1904c x3 r21 T F (fun (r22 : Nat) (T23 : zT) (F24 : zF) => (T23 a0 = some (0, 3) ∧ Post r22 T23 (zu F24 a0 1 (.ref r22))))))))))))
set_option maxRecDepth 100000 in
set_option maxHeartbeats 4000000 in
theorem k_Jx4a65c_grow_92f84 {l : Launch} {D : va_G} {cA : Nat → ClassId} {N0 zE : Nat} {a0 : Nat} {p1 : Int32} {T : zT} {F : zF} {Post : Nat → zT → zF → Prop} (h : v_Jx4a65c_grow_92f84 zE a0 p1 T F Post) : z_Mt l D cA N0 zE yJx4a65c_grow_92f84 cJx4a65c_grow_92f84 4 (some (.array (.object "java/lang/Object"))) ({ frames := 3, cells := 2, slots := 50, locals := 76 } : Room) [.ref a0, .int p1] T F (fun v T' F' => ∃ r : Nat, v = some (.ref r) ∧ Post r T' F') := by
  unfold v_Jx4a65c_grow_92f84 at h
  refine z_bodyT (by decide) (Nat.le_of_ble_eq_true rfl) ?_
  intro p e s m args below meth c C hnm
  have C : z_C p l s m args meth c RJx4a65c cJx4a65c_grow_92f84 4 (some (.array (.object "java/lang/Object"))) D cA N0 zE := C
  show z_w p l e ({ frames := 3, cells := 2, slots := 50, locals := 76 } : Room) s m args below meth c D cA N0 4 0 0 (MQ below (z_Qc D cA N0 (fun v T' F' => ∃ r : Nat, v = some (.ref r) ∧ Post r T' F')) args s 2 50 (fun q => N0 ≤ q)) 0 [(0, .ref a0), (1, .int p1)] [] T F
  refine zr_aload_n C 0 dJx4a65c_grow_92f84_0 rfl rfl ?_
  obtain ⟨hT1, x3, hv2, h⟩ := h
  refine zr_get C fl_Jx4a65c_9 hT1 hv2 dJx4a65c_grow_92f84_1 ?_
  obtain ⟨n4, hT5, h⟩ := h
  refine zr_alen C hT5 (by decide) rfl dJx4a65c_grow_92f84_4 ?_
  refine zr_istore_n C [(2, .int (nI n4)), (0, .ref a0), (1, .int p1)] dJx4a65c_grow_92f84_5 rfl (by decide) rfl ?_
  refine zr_iload_n C 0 dJx4a65c_grow_92f84_6 rfl rfl ?_
  obtain ⟨h1, h2⟩ := h
  refine zr_if_gt C 20 dJx4a65c_grow_92f84_7 (by decide) (fun hc => ?_) (fun hc => ?_)
  · have h := h1 hc
    clear h1 h2
    refine zr_iload_n C 0 dJx4a65c_grow_92f84_20 rfl rfl ?_
    refine zr_iload_n C 2 dJx4a65c_grow_92f84_21 rfl rfl ?_
    refine zr_iload_n C 0 dJx4a65c_grow_92f84_22 rfl rfl ?_
    refine zr_isub C dJx4a65c_grow_92f84_23 ?_
    refine zr_iload_n C 0 dJx4a65c_grow_92f84_24 rfl rfl ?_
    refine zr_iconst C 1 dJx4a65c_grow_92f84_25 (by decide) ?_
    refine zr_ishr C dJx4a65c_grow_92f84_26 ?_
    refine zr_callS (As := [.int (nI n4), .int (p1 - (nI n4)), .int ((nI n4) >>> (1 &&& 31))]) C (k_J8_newLength_cabcc h) ok_Jx4a65c_73 zq_226 rfl ⟨by decide, (Nat.le_of_ble_eq_true rfl)⟩ ⟨(Nat.le_of_ble_eq_true rfl), (Nat.le_of_ble_eq_true rfl)⟩ (Nat.le_of_ble_eq_true rfl) dJx4a65c_grow_92f84_27 (fun v14 U15 G16 hq => ?_)
    clear h
    · obtain ⟨r6, rfl, rfl, rfl, h⟩ := hq
      refine zr_istore_n C [(3, .int r6), (2, .int (nI n4)), (0, .ref a0), (1, .int p1)] dJx4a65c_grow_92f84_30 rfl (by decide) rfl ?_
      refine zr_aload_n C 2 dJx4a65c_grow_92f84_31 rfl rfl ?_
      refine zr_aload_n C 2 dJx4a65c_grow_92f84_32 rfl rfl ?_
      refine zr_get C fl_Jx4a65c_9 hT1 hv2 dJx4a65c_grow_92f84_33 ?_
      refine zr_iload_n C 0 dJx4a65c_grow_92f84_36 rfl rfl ?_
      refine zr_callS (As := [.ref x3, .int r6]) C (k_J7_copyOf_1904c h) ok_Jx4a65c_66 zq_236 rfl ⟨by decide, (Nat.le_of_ble_eq_true rfl)⟩ ⟨(Nat.le_of_ble_eq_true rfl), (Nat.le_of_ble_eq_true rfl)⟩ (Nat.le_of_ble_eq_true rfl) dJx4a65c_grow_92f84_37 (fun v11 U12 G13 hq => ?_)
      clear h
      · obtain ⟨r7, rfl, h⟩ := hq
        skip
        refine zr_dup_x1 C dJx4a65c_grow_92f84_40 rfl rfl ?_
        obtain ⟨hT10, h⟩ := h
        refine zr_put C fl_Jx4a65c_9 hT10 rfl rfl dJx4a65c_grow_92f84_41 ?_
        exact zr_aret C rfl (Or.inr ⟨_, rfl⟩) (Or.inr ⟨_, rfl⟩) ⟨_, rfl, h⟩ (Nat.le_of_ble_eq_true rfl) (Nat.le_of_ble_eq_true rfl) dJx4a65c_grow_92f84_44
  · have h := h2 hc
    clear h1 h2
    refine zr_aload_n C 1 dJx4a65c_grow_92f84_10 rfl rfl ?_
    refine zr_get C fl_Jx4a65c_9 hT1 hv2 dJx4a65c_grow_92f84_11 ?_
    refine zr_getsE C zq_58 dJx4a65c_grow_92f84_14 ?_
    obtain ⟨h1, h2⟩ := h
    refine zr_acmp_eq (rx := some x3) (ry := some zE) C 45 dJx4a65c_grow_92f84_17 (by decide) (fun hc => ?_) (fun hc => ?_)
    · have h := h1 hc
      clear h1 h2
      refine zr_aload_n C 1 dJx4a65c_grow_92f84_45 rfl rfl ?_
      refine zr_bipush C 10 dJx4a65c_grow_92f84_46 (by decide) ?_
      refine zr_iload_n C 2 dJx4a65c_grow_92f84_48 rfl rfl ?_
      refine zr_max C zq_263 zq_229 zq_29 zq_230 (by decide) (Nat.le_of_ble_eq_true rfl) (Nat.le_of_ble_eq_true rfl) (Nat.le_of_ble_eq_true rfl) dJx4a65c_grow_92f84_49 ?_
      obtain ⟨hz17, h⟩ := h
      refine zr_eqi hz17 ?_
      refine zr_anew (n := 10) C 1 rfl zq_264 zq_255 (by decide) (by decide) (Nat.le_of_ble_eq_true rfl) (Nat.le_of_ble_eq_true rfl) dJx4a65c_grow_92f84_52 (fun q18 hq19 => ?_)
      have h := h q18 hq19
      refine zr_dup_x1 C dJx4a65c_grow_92f84_55 rfl rfl ?_
      obtain ⟨hT20, h⟩ := h
      refine zr_put C fl_Jx4a65c_9 hT20 rfl rfl dJx4a65c_grow_92f84_56 ?_
      exact zr_aret C rfl (Or.inr ⟨_, rfl⟩) (Or.inr ⟨_, rfl⟩) ⟨_, rfl, h⟩ (Nat.le_of_ble_eq_true rfl) (Nat.le_of_ble_eq_true rfl) dJx4a65c_grow_92f84_59
    · have h := h2 hc
      clear h1 h2
      refine zr_iload_n C 0 dJx4a65c_grow_92f84_20 rfl rfl ?_
      refine zr_iload_n C 2 dJx4a65c_grow_92f84_21 rfl rfl ?_
      refine zr_iload_n C 0 dJx4a65c_grow_92f84_22 rfl rfl ?_
      refine zr_isub C dJx4a65c_grow_92f84_23 ?_
      refine zr_iload_n C 0 dJx4a65c_grow_92f84_24 rfl rfl ?_
      refine zr_iconst C 1 dJx4a65c_grow_92f84_25 (by decide) ?_
      refine zr_ishr C dJx4a65c_grow_92f84_26 ?_
      refine zr_callS (As := [.int (nI n4), .int (p1 - (nI n4)), .int ((nI n4) >>> (1 &&& 31))]) C (k_J8_newLength_cabcc h) ok_Jx4a65c_73 zq_226 rfl ⟨by decide, (Nat.le_of_ble_eq_true rfl)⟩ ⟨(Nat.le_of_ble_eq_true rfl), (Nat.le_of_ble_eq_true rfl)⟩ (Nat.le_of_ble_eq_true rfl) dJx4a65c_grow_92f84_27 (fun v29 U30 G31 hq => ?_)
      clear h
      · obtain ⟨r21, rfl, rfl, rfl, h⟩ := hq
        refine zr_istore_n C [(3, .int r21), (2, .int (nI n4)), (0, .ref a0), (1, .int p1)] dJx4a65c_grow_92f84_30 rfl (by decide) rfl ?_
        refine zr_aload_n C 2 dJx4a65c_grow_92f84_31 rfl rfl ?_
        refine zr_aload_n C 2 dJx4a65c_grow_92f84_32 rfl rfl ?_
        refine zr_get C fl_Jx4a65c_9 hT1 hv2 dJx4a65c_grow_92f84_33 ?_
        refine zr_iload_n C 0 dJx4a65c_grow_92f84_36 rfl rfl ?_
        refine zr_callS (As := [.ref x3, .int r21]) C (k_J7_copyOf_1904c h) ok_Jx4a65c_66 zq_236 rfl ⟨by decide, (Nat.le_of_ble_eq_true rfl)⟩ ⟨(Nat.le_of_ble_eq_true rfl), (Nat.le_of_ble_eq_true rfl)⟩ (Nat.le_of_ble_eq_true rfl) dJx4a65c_grow_92f84_37 (fun v26 U27 G28 hq => ?_)
        clear h
        · obtain ⟨r22, rfl, h⟩ := hq
          skip
          refine zr_dup_x1 C dJx4a65c_grow_92f84_40 rfl rfl ?_
          obtain ⟨hT25, h⟩ := h
          refine zr_put C fl_Jx4a65c_9 hT25 rfl rfl dJx4a65c_grow_92f84_41 ?_
          exact zr_aret C rfl (Or.inr ⟨_, rfl⟩) (Or.inr ⟨_, rfl⟩) ⟨_, rfl, h⟩ (Nat.le_of_ble_eq_true rfl) (Nat.le_of_ble_eq_true rfl) dJx4a65c_grow_92f84_44
theorem dJx4a65c_grow_d5877_0 : decode cJx4a65c_grow_d5877 0 = .ok (.aload_n 0, 1) := by decide +kernel
theorem dJx4a65c_grow_d5877_1 : decode cJx4a65c_grow_d5877 1 = .ok (.aload_n 0, 1) := by decide +kernel
theorem dJx4a65c_grow_d5877_2 : decode cJx4a65c_grow_d5877 2 = .ok (.getfield 48, 3) := by decide +kernel
theorem dJx4a65c_grow_d5877_5 : decode cJx4a65c_grow_d5877 5 = .ok (.iconst 1, 1) := by decide +kernel
theorem dJx4a65c_grow_d5877_6 : decode cJx4a65c_grow_d5877 6 = .ok (.iadd, 1) := by decide +kernel
theorem dJx4a65c_grow_d5877_10 : decode cJx4a65c_grow_d5877 10 = .ok (.areturn, 1) := by decide +kernel
theorem dJx4a65c_grow_d5877_7 : decode cJx4a65c_grow_d5877 7 = .ok (.invokevirtual 69, 3) := by decide +kernel
def v_Jx4a65c_grow_d5877 (zE : Nat) (a0 : Nat) (T : zT) (F : zF) (Post : Nat → zT → zF → Prop) : Prop :=
  (T a0 = some (0, 3) ∧ ∃ x3 : Int32, F a0 2 = .int x3 ∧ (v_Jx4a65c_grow_92f84 zE a0 (x3 + 1) T F (fun (r4 : Nat) (T5 : zT) (F6 : zF) => Post r4 T5 F6)))
set_option maxRecDepth 100000 in
set_option maxHeartbeats 4000000 in
theorem k_Jx4a65c_grow_d5877 {l : Launch} {D : va_G} {cA : Nat → ClassId} {N0 zE : Nat} {a0 : Nat} {T : zT} {F : zF} {Post : Nat → zT → zF → Prop} (h : v_Jx4a65c_grow_d5877 zE a0 T F Post) : z_Mt l D cA N0 zE yJx4a65c_grow_d5877 cJx4a65c_grow_d5877 1 (some (.array (.object "java/lang/Object"))) ({ frames := 4, cells := 2, slots := 50, locals := 99 } : Room) [.ref a0] T F (fun v T' F' => ∃ r : Nat, v = some (.ref r) ∧ Post r T' F') := by
  unfold v_Jx4a65c_grow_d5877 at h
  refine z_bodyT (by decide) (Nat.le_of_ble_eq_true rfl) ?_
  intro p e s m args below meth c C hnm
  have C : z_C p l s m args meth c RJx4a65c cJx4a65c_grow_d5877 1 (some (.array (.object "java/lang/Object"))) D cA N0 zE := C
  show z_w p l e ({ frames := 4, cells := 2, slots := 50, locals := 99 } : Room) s m args below meth c D cA N0 1 0 0 (MQ below (z_Qc D cA N0 (fun v T' F' => ∃ r : Nat, v = some (.ref r) ∧ Post r T' F')) args s 2 50 (fun q => N0 ≤ q)) 0 [(0, .ref a0)] [] T F
  refine zr_aload_n C 0 dJx4a65c_grow_d5877_0 rfl rfl ?_
  refine zr_aload_n C 0 dJx4a65c_grow_d5877_1 rfl rfl ?_
  obtain ⟨hT1, x3, hv2, h⟩ := h
  refine zr_get C fl_Jx4a65c_48 hT1 hv2 dJx4a65c_grow_d5877_2 ?_
  refine zr_iconst C 1 dJx4a65c_grow_d5877_5 (by decide) ?_
  refine zr_iadd C dJx4a65c_grow_d5877_6 ?_
  refine zr_callV (As := [.int (x3 + 1)]) (r := (RJx4a65c, TJx4a65c, 3)) C (k_Jx4a65c_grow_92f84 h) ok_Jx4a65c_69 zq_223 zq_3 hT1 (by decide) rfl rfl ⟨by decide, (Nat.le_of_ble_eq_true rfl)⟩ ⟨(Nat.le_of_ble_eq_true rfl), (Nat.le_of_ble_eq_true rfl)⟩ (Nat.le_of_ble_eq_true rfl) dJx4a65c_grow_d5877_7 (fun v7 U8 G9 hq => ?_)
  clear h
  · obtain ⟨r4, rfl, h⟩ := hq
    skip
    exact zr_aret C rfl (Or.inr ⟨_, rfl⟩) (Or.inr ⟨_, rfl⟩) ⟨_, rfl, h⟩ (Nat.le_of_ble_eq_true rfl) (Nat.le_of_ble_eq_true rfl) dJx4a65c_grow_d5877_10
theorem dJx4a65c_add_72be8_0 : decode cJx4a65c_add_72be8 0 = .ok (.iload_n 3, 1) := by decide +kernel
theorem dJx4a65c_add_72be8_1 : decode cJx4a65c_add_72be8 1 = .ok (.aload_n 2, 1) := by decide +kernel
theorem dJx4a65c_add_72be8_2 : decode cJx4a65c_add_72be8 2 = .ok (.arraylength, 1) := by decide +kernel
theorem dJx4a65c_add_72be8_3 : decode cJx4a65c_add_72be8 3 = .ok (.if_icmp .ne 8, 3) := by decide +kernel
theorem dJx4a65c_add_72be8_11 : decode cJx4a65c_add_72be8 11 = .ok (.aload_n 2, 1) := by decide +kernel
theorem dJx4a65c_add_72be8_12 : decode cJx4a65c_add_72be8 12 = .ok (.iload_n 3, 1) := by decide +kernel
theorem dJx4a65c_add_72be8_13 : decode cJx4a65c_add_72be8 13 = .ok (.aload_n 1, 1) := by decide +kernel
theorem dJx4a65c_add_72be8_14 : decode cJx4a65c_add_72be8 14 = .ok (.aastore, 1) := by decide +kernel
theorem dJx4a65c_add_72be8_15 : decode cJx4a65c_add_72be8 15 = .ok (.aload_n 0, 1) := by decide +kernel
theorem dJx4a65c_add_72be8_16 : decode cJx4a65c_add_72be8 16 = .ok (.iload_n 3, 1) := by decide +kernel
theorem dJx4a65c_add_72be8_17 : decode cJx4a65c_add_72be8 17 = .ok (.iconst 1, 1) := by decide +kernel
theorem dJx4a65c_add_72be8_18 : decode cJx4a65c_add_72be8 18 = .ok (.iadd, 1) := by decide +kernel
theorem dJx4a65c_add_72be8_19 : decode cJx4a65c_add_72be8 19 = .ok (.putfield 48, 3) := by decide +kernel
theorem dJx4a65c_add_72be8_22 : decode cJx4a65c_add_72be8 22 = .ok (.return_, 1) := by decide +kernel
theorem dJx4a65c_add_72be8_6 : decode cJx4a65c_add_72be8 6 = .ok (.aload_n 0, 1) := by decide +kernel
theorem dJx4a65c_add_72be8_10 : decode cJx4a65c_add_72be8 10 = .ok (.astore_n 2, 1) := by decide +kernel
theorem dJx4a65c_add_72be8_7 : decode cJx4a65c_add_72be8 7 = .ok (.invokevirtual 129, 3) := by decide +kernel
def v_Jx4a65c_add_72be8 (zE : Nat) (a0 : Nat) (a1 : Nat) (a2 : Nat) (p3 : Int32) (T : zT) (F : zF) (Post : zT → zF → Prop) : Prop :=
  (∃ n1 : Nat, T a2 = some (101, n1) ∧ ((¬ p3 = (nI n1) → (vp_in p3 n1 ∧ z_ob T a1 ∧ T a0 = some (0, 3) ∧ Post T (zu (zu F a2 (p3).toNatClampNeg (.ref a1)) a0 2 (.int (p3 + 1))))) ∧ (p3 = (nI n1) → (T a0 = some (0, 3) ∧ (v_Jx4a65c_grow_d5877 zE a0 T F (fun (r9 : Nat) (T10 : zT) (F11 : zF) => (∃ n12 : Nat, T10 r9 = some (101, n12) ∧ vp_in p3 n12 ∧ z_ob T10 a1 ∧ T10 a0 = some (0, 3) ∧ Post T10 (zu (zu F11 r9 (p3).toNatClampNeg (.ref a1)) a0 2 (.int (p3 + 1))))))))))
set_option maxRecDepth 100000 in
set_option maxHeartbeats 4000000 in
theorem k_Jx4a65c_add_72be8 {l : Launch} {D : va_G} {cA : Nat → ClassId} {N0 zE : Nat} {a0 : Nat} {a1 : Nat} {a2 : Nat} {p3 : Int32} {T : zT} {F : zF} {Post : zT → zF → Prop} (h : v_Jx4a65c_add_72be8 zE a0 a1 a2 p3 T F Post) : z_Mt l D cA N0 zE yJx4a65c_add_72be8 cJx4a65c_add_72be8 4 none ({ frames := 5, cells := 2, slots := 50, locals := 119 } : Room) [.ref a0, .ref a1, .ref a2, .int p3] T F (fun v T' F' => v = none ∧ Post T' F') := by
  unfold v_Jx4a65c_add_72be8 at h
  refine z_bodyT (by decide) (Nat.le_of_ble_eq_true rfl) ?_
  intro p e s m args below meth c C hnm
  have C : z_C p l s m args meth c RJx4a65c cJx4a65c_add_72be8 4 none D cA N0 zE := C
  show z_w p l e ({ frames := 5, cells := 2, slots := 50, locals := 119 } : Room) s m args below meth c D cA N0 4 0 0 (MQ below (z_Qc D cA N0 (fun v T' F' => v = none ∧ Post T' F')) args s 2 50 (fun q => N0 ≤ q)) 0 [(0, .ref a0), (1, .ref a1), (2, .ref a2), (3, .int p3)] [] T F
  refine zr_iload_n C 3 dJx4a65c_add_72be8_0 rfl rfl ?_
  refine zr_aload_n C 2 dJx4a65c_add_72be8_1 rfl rfl ?_
  obtain ⟨n1, hT2, h⟩ := h
  refine zr_alen C hT2 (by decide) rfl dJx4a65c_add_72be8_2 ?_
  obtain ⟨h1, h2⟩ := h
  refine zr_icmp_ne C 11 dJx4a65c_add_72be8_3 (by decide) (fun hc => ?_) (fun hc => ?_)
  · have h := h1 hc
    clear h1 h2
    refine zr_aload_n C 2 dJx4a65c_add_72be8_11 rfl rfl ?_
    refine zr_iload_n C 3 dJx4a65c_add_72be8_12 rfl rfl ?_
    refine zr_aload_n C 1 dJx4a65c_add_72be8_13 rfl rfl ?_
    obtain ⟨hi3, h⟩ := h
    obtain ⟨ho6, h⟩ := h
    obtain ⟨ci9, n9, r9, ho1, ho2, ho3, ho4⟩ := ho6
    refine zr_aastO C rfl hT2 hi3 ho1 ho2 ho3 ho4 dJx4a65c_add_72be8_14 ?_
    refine zr_aload_n C 0 dJx4a65c_add_72be8_15 rfl rfl ?_
    refine zr_iload_n C 3 dJx4a65c_add_72be8_16 rfl rfl ?_
    refine zr_iconst C 1 dJx4a65c_add_72be8_17 (by decide) ?_
    refine zr_iadd C dJx4a65c_add_72be8_18 ?_
    obtain ⟨hT7, h⟩ := h
    refine zr_put C fl_Jx4a65c_48 hT7 rfl rfl dJx4a65c_add_72be8_19 ?_
    exact zr_vret C rfl ⟨rfl, h⟩ (Nat.le_of_ble_eq_true rfl) (Nat.le_of_ble_eq_true rfl) dJx4a65c_add_72be8_22
  · have h := h2 hc
    clear h1 h2
    refine zr_aload_n C 0 dJx4a65c_add_72be8_6 rfl rfl ?_
    obtain ⟨hT8, h⟩ := h
    refine zr_callV (As := []) (r := (RJx4a65c, TJx4a65c, 3)) C (k_Jx4a65c_grow_d5877 h) ok_Jx4a65c_129 zq_219 zq_2 hT8 (by decide) rfl rfl ⟨by decide, (Nat.le_of_ble_eq_true rfl)⟩ ⟨(Nat.le_of_ble_eq_true rfl), (Nat.le_of_ble_eq_true rfl)⟩ (Nat.le_of_ble_eq_true rfl) dJx4a65c_add_72be8_7 (fun v19 U20 G21 hq => ?_)
    clear h
    · obtain ⟨r9, rfl, h⟩ := hq
      skip
      refine zr_astore_n C [(2, .ref r9), (0, .ref a0), (1, .ref a1), (3, .int p3)] dJx4a65c_add_72be8_10 rfl (by decide) rfl ?_
      refine zr_aload_n C 0 dJx4a65c_add_72be8_11 rfl rfl ?_
      refine zr_iload_n C 3 dJx4a65c_add_72be8_12 rfl rfl ?_
      refine zr_aload_n C 2 dJx4a65c_add_72be8_13 rfl rfl ?_
      obtain ⟨n12, hT13, hi14, h⟩ := h
      obtain ⟨ho17, h⟩ := h
      obtain ⟨ci9, n9, r9, ho1, ho2, ho3, ho4⟩ := ho17
      refine zr_aastO C rfl hT13 hi14 ho1 ho2 ho3 ho4 dJx4a65c_add_72be8_14 ?_
      refine zr_aload_n C 1 dJx4a65c_add_72be8_15 rfl rfl ?_
      refine zr_iload_n C 3 dJx4a65c_add_72be8_16 rfl rfl ?_
      refine zr_iconst C 1 dJx4a65c_add_72be8_17 (by decide) ?_
      refine zr_iadd C dJx4a65c_add_72be8_18 ?_
      obtain ⟨hT18, h⟩ := h
      refine zr_put C fl_Jx4a65c_48 hT18 rfl rfl dJx4a65c_add_72be8_19 ?_
      exact zr_vret C rfl ⟨rfl, h⟩ (Nat.le_of_ble_eq_true rfl) (Nat.le_of_ble_eq_true rfl) dJx4a65c_add_72be8_22
theorem dJx4a65c_add_9ea2d_0 : decode cJx4a65c_add_9ea2d 0 = .ok (.aload_n 0, 1) := by decide +kernel
theorem dJx4a65c_add_9ea2d_1 : decode cJx4a65c_add_9ea2d 1 = .ok (.dup, 1) := by decide +kernel
theorem dJx4a65c_add_9ea2d_2 : decode cJx4a65c_add_9ea2d 2 = .ok (.getfield 63, 3) := by decide +kernel
theorem dJx4a65c_add_9ea2d_5 : decode cJx4a65c_add_9ea2d 5 = .ok (.iconst 1, 1) := by decide +kernel
theorem dJx4a65c_add_9ea2d_6 : decode cJx4a65c_add_9ea2d 6 = .ok (.iadd, 1) := by decide +kernel
theorem dJx4a65c_add_9ea2d_7 : decode cJx4a65c_add_9ea2d 7 = .ok (.putfield 63, 3) := by decide +kernel
theorem dJx4a65c_add_9ea2d_10 : decode cJx4a65c_add_9ea2d 10 = .ok (.aload_n 0, 1) := by decide +kernel
theorem dJx4a65c_add_9ea2d_11 : decode cJx4a65c_add_9ea2d 11 = .ok (.aload_n 1, 1) := by decide +kernel
theorem dJx4a65c_add_9ea2d_12 : decode cJx4a65c_add_9ea2d 12 = .ok (.aload_n 0, 1) := by decide +kernel
theorem dJx4a65c_add_9ea2d_13 : decode cJx4a65c_add_9ea2d 13 = .ok (.getfield 9, 3) := by decide +kernel
theorem dJx4a65c_add_9ea2d_16 : decode cJx4a65c_add_9ea2d 16 = .ok (.aload_n 0, 1) := by decide +kernel
theorem dJx4a65c_add_9ea2d_17 : decode cJx4a65c_add_9ea2d 17 = .ok (.getfield 48, 3) := by decide +kernel
theorem dJx4a65c_add_9ea2d_23 : decode cJx4a65c_add_9ea2d 23 = .ok (.iconst 1, 1) := by decide +kernel
theorem dJx4a65c_add_9ea2d_24 : decode cJx4a65c_add_9ea2d 24 = .ok (.ireturn, 1) := by decide +kernel
theorem dJx4a65c_add_9ea2d_20 : decode cJx4a65c_add_9ea2d 20 = .ok (.invokevirtual 131, 3) := by decide +kernel
def v_Jx4a65c_add_9ea2d (zE : Nat) (a0 : Nat) (a1 : Nat) (T : zT) (F : zF) (Post : Int32 → zT → zF → Prop) : Prop :=
  (T a0 = some (0, 3) ∧ ∃ x3 : Int32, F a0 0 = .int x3 ∧ ∃ x5 : Nat, (zu F a0 0 (.int (x3 + 1))) a0 1 = .ref x5 ∧ ∃ x7 : Int32, (zu F a0 0 (.int (x3 + 1))) a0 2 = .int x7 ∧ (v_Jx4a65c_add_72be8 zE a0 a1 x5 x7 T (zu F a0 0 (.int (x3 + 1))) (fun (T8 : zT) (F9 : zF) => Post 1 T8 F9)))
set_option maxRecDepth 100000 in
set_option maxHeartbeats 4000000 in
theorem k_Jx4a65c_add_9ea2d {l : Launch} {D : va_G} {cA : Nat → ClassId} {N0 zE : Nat} {a0 : Nat} {a1 : Nat} {T : zT} {F : zF} {Post : Int32 → zT → zF → Prop} (h : v_Jx4a65c_add_9ea2d zE a0 a1 T F Post) : z_Mt l D cA N0 zE yJx4a65c_add_9ea2d cJx4a65c_add_9ea2d 2 (some .boolean) ({ frames := 6, cells := 2, slots := 50, locals := 142 } : Room) [.ref a0, .ref a1] T F (fun v T' F' => ∃ r : Int32, v = some (.int r) ∧ Post r T' F') := by
  unfold v_Jx4a65c_add_9ea2d at h
  refine z_bodyT (by decide) (Nat.le_of_ble_eq_true rfl) ?_
  intro p e s m args below meth c C hnm
  have C : z_C p l s m args meth c RJx4a65c cJx4a65c_add_9ea2d 2 (some .boolean) D cA N0 zE := C
  show z_w p l e ({ frames := 6, cells := 2, slots := 50, locals := 142 } : Room) s m args below meth c D cA N0 2 0 0 (MQ below (z_Qc D cA N0 (fun v T' F' => ∃ r : Int32, v = some (.int r) ∧ Post r T' F')) args s 2 50 (fun q => N0 ≤ q)) 0 [(0, .ref a0), (1, .ref a1)] [] T F
  refine zr_aload_n C 0 dJx4a65c_add_9ea2d_0 rfl rfl ?_
  refine zr_dup C dJx4a65c_add_9ea2d_1 rfl ?_
  obtain ⟨hT1, x3, hv2, h⟩ := h
  refine zr_get C fl_Jx4a65c_63 hT1 hv2 dJx4a65c_add_9ea2d_2 ?_
  refine zr_iconst C 1 dJx4a65c_add_9ea2d_5 (by decide) ?_
  refine zr_iadd C dJx4a65c_add_9ea2d_6 ?_
  refine zr_put C fl_Jx4a65c_63 hT1 rfl rfl dJx4a65c_add_9ea2d_7 ?_
  refine zr_aload_n C 0 dJx4a65c_add_9ea2d_10 rfl rfl ?_
  refine zr_aload_n C 1 dJx4a65c_add_9ea2d_11 rfl rfl ?_
  refine zr_aload_n C 0 dJx4a65c_add_9ea2d_12 rfl rfl ?_
  obtain ⟨x5, hv4, h⟩ := h
  refine zr_get C fl_Jx4a65c_9 hT1 hv4 dJx4a65c_add_9ea2d_13 ?_
  refine zr_aload_n C 0 dJx4a65c_add_9ea2d_16 rfl rfl ?_
  obtain ⟨x7, hv6, h⟩ := h
  refine zr_get C fl_Jx4a65c_48 hT1 hv6 dJx4a65c_add_9ea2d_17 ?_
  refine zr_callV (As := [.ref a1, .ref x5, .int x7]) (r := (RJx4a65c, TJx4a65c, 3)) C (k_Jx4a65c_add_72be8 h) ok_Jx4a65c_131 zq_215 zq_1 hT1 (by decide) rfl rfl ⟨by decide, (Nat.le_of_ble_eq_true rfl)⟩ ⟨(Nat.le_of_ble_eq_true rfl), (Nat.le_of_ble_eq_true rfl)⟩ (Nat.le_of_ble_eq_true rfl) dJx4a65c_add_9ea2d_20 (fun v10 U11 G12 hq => ?_)
  clear h
  · obtain ⟨rfl, h⟩ := hq
    skip
    refine zr_iconst C 1 dJx4a65c_add_9ea2d_23 (by decide) ?_
    exact zr_zret C rfl (Or.inr rfl) ⟨_, rfl, h⟩ (Nat.le_of_ble_eq_true rfl) (Nat.le_of_ble_eq_true rfl) dJx4a65c_add_9ea2d_24
theorem dJ3_checkIndex_8e157_0 : decode cJ3_checkIndex_8e157 0 = .ok (.iload_n 0, 1) := by decide +kernel
theorem dJ3_checkIndex_8e157_1 : decode cJ3_checkIndex_8e157 1 = .ok (.ifCond .lt 8, 3) := by decide +kernel
theorem dJ3_checkIndex_8e157_4 : decode cJ3_checkIndex_8e157 4 = .ok (.iload_n 0, 1) := by decide +kernel
theorem dJ3_checkIndex_8e157_5 : decode cJ3_checkIndex_8e157 5 = .ok (.iload_n 1, 1) := by decide +kernel
theorem dJ3_checkIndex_8e157_6 : decode cJ3_checkIndex_8e157 6 = .ok (.if_icmp .lt 10, 3) := by decide +kernel
theorem dJ3_checkIndex_8e157_16 : decode cJ3_checkIndex_8e157 16 = .ok (.iload_n 0, 1) := by decide +kernel
theorem dJ3_checkIndex_8e157_17 : decode cJ3_checkIndex_8e157 17 = .ok (.ireturn, 1) := by decide +kernel
def v_J3_checkIndex_8e157 (p0 : Int32) (p1 : Int32) (T : zT) (F : zF) (Post : Int32 → Prop) : Prop :=
  ((p0 < 0 → False) ∧ (¬ p0 < 0 → ((p0 < p1 → Post p0) ∧ (¬ p0 < p1 → False))))
set_option maxRecDepth 100000 in
set_option maxHeartbeats 4000000 in
theorem k_J3_checkIndex_8e157 {l : Launch} {D : va_G} {cA : Nat → ClassId} {N0 zE : Nat} {p0 : Int32} {p1 : Int32} {T : zT} {F : zF} {Post : Int32 → Prop} (h : v_J3_checkIndex_8e157 p0 p1 T F Post) : z_Mt l D cA N0 zE yJ3_checkIndex_8e157 cJ3_checkIndex_8e157 3 (some .int) ({ frames := 0, cells := 0, slots := 0, locals := 0 } : Room) [.int p0, .int p1, .null] T F (fun v T' F' => ∃ r : Int32, v = some (.int r) ∧ T = T' ∧ F = F' ∧ Post r) := by
  unfold v_J3_checkIndex_8e157 at h
  refine z_bodyT (by decide) (Nat.le_of_ble_eq_true rfl) ?_
  intro p e s m args below meth c C hnm
  have C : z_C p l s m args meth c RJ3 cJ3_checkIndex_8e157 3 (some .int) D cA N0 zE := C
  show z_w p l e ({ frames := 0, cells := 0, slots := 0, locals := 0 } : Room) s m args below meth c D cA N0 3 0 0 (MQ below (z_Qc D cA N0 (fun v T' F' => ∃ r : Int32, v = some (.int r) ∧ T = T' ∧ F = F' ∧ Post r)) args s 0 0 (fun q => N0 ≤ q)) 0 [(0, .int p0), (1, .int p1), (2, .null)] [] T F
  refine zr_iload_n C 0 dJ3_checkIndex_8e157_0 rfl rfl ?_
  obtain ⟨h1, h2⟩ := h
  refine zr_if_lt C 9 dJ3_checkIndex_8e157_1 (by decide) (fun hc => ?_) (fun hc => ?_)
  · have h := h1 hc
    clear h1 h2
    exact h.elim
  · have h := h2 hc
    clear h1 h2
    refine zr_iload_n C 0 dJ3_checkIndex_8e157_4 rfl rfl ?_
    refine zr_iload_n C 1 dJ3_checkIndex_8e157_5 rfl rfl ?_
    obtain ⟨h1, h2⟩ := h
    refine zr_icmp_lt C 16 dJ3_checkIndex_8e157_6 (by decide) (fun hc => ?_) (fun hc => ?_)
    · have h := h1 hc
      clear h1 h2
      refine zr_iload_n C 0 dJ3_checkIndex_8e157_16 rfl rfl ?_
      exact zr_iret C rfl ⟨_, rfl, rfl, rfl, h⟩ (Nat.le_of_ble_eq_true rfl) (Nat.le_of_ble_eq_true rfl) dJ3_checkIndex_8e157_17
    · have h := h2 hc
      clear h1 h2
      exact h.elim
theorem dJ15_checkIndex_7cf53_0 : decode cJ15_checkIndex_7cf53 0 = .ok (.iload_n 0, 1) := by decide +kernel
theorem dJ15_checkIndex_7cf53_1 : decode cJ15_checkIndex_7cf53 1 = .ok (.iload_n 1, 1) := by decide +kernel
theorem dJ15_checkIndex_7cf53_2 : decode cJ15_checkIndex_7cf53 2 = .ok (.aconst_null, 1) := by decide +kernel
theorem dJ15_checkIndex_7cf53_6 : decode cJ15_checkIndex_7cf53 6 = .ok (.ireturn, 1) := by decide +kernel
theorem dJ15_checkIndex_7cf53_3 : decode cJ15_checkIndex_7cf53 3 = .ok (.invokestatic 105, 3) := by decide +kernel
def v_J15_checkIndex_7cf53 (p0 : Int32) (p1 : Int32) (T : zT) (F : zF) (Post : Int32 → Prop) : Prop :=
  (v_J3_checkIndex_8e157 p0 p1 T F (fun (r1 : Int32) => Post r1))
set_option maxRecDepth 100000 in
set_option maxHeartbeats 4000000 in
theorem k_J15_checkIndex_7cf53 {l : Launch} {D : va_G} {cA : Nat → ClassId} {N0 zE : Nat} {p0 : Int32} {p1 : Int32} {T : zT} {F : zF} {Post : Int32 → Prop} (h : v_J15_checkIndex_7cf53 p0 p1 T F Post) : z_Mt l D cA N0 zE yJ15_checkIndex_7cf53 cJ15_checkIndex_7cf53 2 (some .int) ({ frames := 1, cells := 0, slots := 0, locals := 22 } : Room) [.int p0, .int p1] T F (fun v T' F' => ∃ r : Int32, v = some (.int r) ∧ T = T' ∧ F = F' ∧ Post r) := by
  unfold v_J15_checkIndex_7cf53 at h
  refine z_bodyT (by decide) (Nat.le_of_ble_eq_true rfl) ?_
  intro p e s m args below meth c C hnm
  have C : z_C p l s m args meth c RJ15 cJ15_checkIndex_7cf53 2 (some .int) D cA N0 zE := C
  show z_w p l e ({ frames := 1, cells := 0, slots := 0, locals := 22 } : Room) s m args below meth c D cA N0 2 0 0 (MQ below (z_Qc D cA N0 (fun v T' F' => ∃ r : Int32, v = some (.int r) ∧ T = T' ∧ F = F' ∧ Post r)) args s 0 0 (fun q => N0 ≤ q)) 0 [(0, .int p0), (1, .int p1)] [] T F
  refine zr_iload_n C 0 dJ15_checkIndex_7cf53_0 rfl rfl ?_
  refine zr_iload_n C 1 dJ15_checkIndex_7cf53_1 rfl rfl ?_
  refine zr_null C dJ15_checkIndex_7cf53_2 ?_
  refine zr_callS (As := [.int p0, .int p1, .null]) C (k_J3_checkIndex_8e157 h) ok_J15_105 zq_297 rfl ⟨by decide, (Nat.le_of_ble_eq_true rfl)⟩ ⟨(Nat.le_of_ble_eq_true rfl), (Nat.le_of_ble_eq_true rfl)⟩ (Nat.le_of_ble_eq_true rfl) dJ15_checkIndex_7cf53_3 (fun v2 U3 G4 hq => ?_)
  clear h
  · obtain ⟨r1, rfl, rfl, rfl, h⟩ := hq
    exact zr_iret C rfl ⟨_, rfl, rfl, rfl, h⟩ (Nat.le_of_ble_eq_true rfl) (Nat.le_of_ble_eq_true rfl) dJ15_checkIndex_7cf53_6
theorem dJx4a65c_elementData_915e3_0 : decode cJx4a65c_elementData_915e3 0 = .ok (.aload_n 0, 1) := by decide +kernel
theorem dJx4a65c_elementData_915e3_1 : decode cJx4a65c_elementData_915e3 1 = .ok (.getfield 9, 3) := by decide +kernel
theorem dJx4a65c_elementData_915e3_4 : decode cJx4a65c_elementData_915e3 4 = .ok (.iload_n 1, 1) := by decide +kernel
theorem dJx4a65c_elementData_915e3_5 : decode cJx4a65c_elementData_915e3 5 = .ok (.aaload, 1) := by decide +kernel
theorem dJx4a65c_elementData_915e3_6 : decode cJx4a65c_elementData_915e3 6 = .ok (.areturn, 1) := by decide +kernel
def v_Jx4a65c_elementData_915e3 (a0 : Nat) (p1 : Int32) (T : zT) (F : zF) (Post : Nat → Prop) : Prop :=
  (T a0 = some (0, 3) ∧ ∃ x3 : Nat, F a0 1 = .ref x3 ∧ ∃ n4 : Nat, T x3 = some (101, n4) ∧ vp_in p1 n4 ∧ ∃ x7 : Nat, F x3 (p1).toNatClampNeg = .ref x7 ∧ Post x7)
set_option maxRecDepth 100000 in
set_option maxHeartbeats 4000000 in
theorem k_Jx4a65c_elementData_915e3 {l : Launch} {D : va_G} {cA : Nat → ClassId} {N0 zE : Nat} {a0 : Nat} {p1 : Int32} {T : zT} {F : zF} {Post : Nat → Prop} (h : v_Jx4a65c_elementData_915e3 a0 p1 T F Post) : z_Mt l D cA N0 zE yJx4a65c_elementData_915e3 cJx4a65c_elementData_915e3 2 (some (.object "java/lang/Object")) ({ frames := 0, cells := 0, slots := 0, locals := 0 } : Room) [.ref a0, .int p1] T F (fun v T' F' => ∃ r : Nat, v = some (.ref r) ∧ T = T' ∧ F = F' ∧ Post r) := by
  unfold v_Jx4a65c_elementData_915e3 at h
  refine z_bodyT (by decide) (Nat.le_of_ble_eq_true rfl) ?_
  intro p e s m args below meth c C hnm
  have C : z_C p l s m args meth c RJx4a65c cJx4a65c_elementData_915e3 2 (some (.object "java/lang/Object")) D cA N0 zE := C
  show z_w p l e ({ frames := 0, cells := 0, slots := 0, locals := 0 } : Room) s m args below meth c D cA N0 2 0 0 (MQ below (z_Qc D cA N0 (fun v T' F' => ∃ r : Nat, v = some (.ref r) ∧ T = T' ∧ F = F' ∧ Post r)) args s 0 0 (fun q => N0 ≤ q)) 0 [(0, .ref a0), (1, .int p1)] [] T F
  refine zr_aload_n C 0 dJx4a65c_elementData_915e3_0 rfl rfl ?_
  obtain ⟨hT1, x3, hv2, h⟩ := h
  refine zr_get C fl_Jx4a65c_9 hT1 hv2 dJx4a65c_elementData_915e3_1 ?_
  refine zr_iload_n C 1 dJx4a65c_elementData_915e3_4 rfl rfl ?_
  obtain ⟨n4, hT5, hi6, x7, hv8, h⟩ := h
  refine zr_aald C hT5 (by decide) rfl rfl hi6 hv8 dJx4a65c_elementData_915e3_5 ?_
  exact zr_aret C rfl (Or.inl ⟨_, rfl⟩) (Or.inr ⟨_, rfl⟩) ⟨_, rfl, rfl, rfl, h⟩ (Nat.le_of_ble_eq_true rfl) (Nat.le_of_ble_eq_true rfl) dJx4a65c_elementData_915e3_6
theorem dJx4a65c_get_915e3_0 : decode cJx4a65c_get_915e3 0 = .ok (.iload_n 1, 1) := by decide +kernel
theorem dJx4a65c_get_915e3_1 : decode cJx4a65c_get_915e3 1 = .ok (.aload_n 0, 1) := by decide +kernel
theorem dJx4a65c_get_915e3_2 : decode cJx4a65c_get_915e3 2 = .ok (.getfield 48, 3) := by decide +kernel
theorem dJx4a65c_get_915e3_8 : decode cJx4a65c_get_915e3 8 = .ok (.pop, 1) := by decide +kernel
theorem dJx4a65c_get_915e3_9 : decode cJx4a65c_get_915e3 9 = .ok (.aload_n 0, 1) := by decide +kernel
theorem dJx4a65c_get_915e3_10 : decode cJx4a65c_get_915e3 10 = .ok (.iload_n 1, 1) := by decide +kernel
theorem dJx4a65c_get_915e3_14 : decode cJx4a65c_get_915e3 14 = .ok (.areturn, 1) := by decide +kernel
theorem dJx4a65c_get_915e3_11 : decode cJx4a65c_get_915e3 11 = .ok (.invokevirtual 123, 3) := by decide +kernel
theorem dJx4a65c_get_915e3_5 : decode cJx4a65c_get_915e3 5 = .ok (.invokestatic 118, 3) := by decide +kernel
def v_Jx4a65c_get_915e3 (a0 : Nat) (p1 : Int32) (T : zT) (F : zF) (Post : Nat → Prop) : Prop :=
  (T a0 = some (0, 3) ∧ ∃ x3 : Int32, F a0 2 = .int x3 ∧ (v_J15_checkIndex_7cf53 p1 x3 T F (fun (r4 : Int32) => (v_Jx4a65c_elementData_915e3 a0 p1 T F (fun (r5 : Nat) => Post r5)))))
set_option maxRecDepth 100000 in
set_option maxHeartbeats 4000000 in
theorem k_Jx4a65c_get_915e3 {l : Launch} {D : va_G} {cA : Nat → ClassId} {N0 zE : Nat} {a0 : Nat} {p1 : Int32} {T : zT} {F : zF} {Post : Nat → Prop} (h : v_Jx4a65c_get_915e3 a0 p1 T F Post) : z_Mt l D cA N0 zE yJx4a65c_get_915e3 cJx4a65c_get_915e3 2 (some (.object "java/lang/Object")) ({ frames := 2, cells := 0, slots := 0, locals := 43 } : Room) [.ref a0, .int p1] T F (fun v T' F' => ∃ r : Nat, v = some (.ref r) ∧ T = T' ∧ F = F' ∧ Post r) := by
  unfold v_Jx4a65c_get_915e3 at h
  refine z_bodyT (by decide) (Nat.le_of_ble_eq_true rfl) ?_
  intro p e s m args below meth c C hnm
  have C : z_C p l s m args meth c RJx4a65c cJx4a65c_get_915e3 2 (some (.object "java/lang/Object")) D cA N0 zE := C
  show z_w p l e ({ frames := 2, cells := 0, slots := 0, locals := 43 } : Room) s m args below meth c D cA N0 2 0 0 (MQ below (z_Qc D cA N0 (fun v T' F' => ∃ r : Nat, v = some (.ref r) ∧ T = T' ∧ F = F' ∧ Post r)) args s 0 0 (fun q => N0 ≤ q)) 0 [(0, .ref a0), (1, .int p1)] [] T F
  refine zr_iload_n C 1 dJx4a65c_get_915e3_0 rfl rfl ?_
  refine zr_aload_n C 0 dJx4a65c_get_915e3_1 rfl rfl ?_
  obtain ⟨hT1, x3, hv2, h⟩ := h
  refine zr_get C fl_Jx4a65c_48 hT1 hv2 dJx4a65c_get_915e3_2 ?_
  refine zr_callS (As := [.int p1, .int x3]) C (k_J15_checkIndex_7cf53 h) ok_Jx4a65c_118 zq_294 rfl ⟨by decide, (Nat.le_of_ble_eq_true rfl)⟩ ⟨(Nat.le_of_ble_eq_true rfl), (Nat.le_of_ble_eq_true rfl)⟩ (Nat.le_of_ble_eq_true rfl) dJx4a65c_get_915e3_5 (fun v9 U10 G11 hq => ?_)
  clear h
  · obtain ⟨r4, rfl, rfl, rfl, h⟩ := hq
    refine zr_pop C dJx4a65c_get_915e3_8 rfl ?_
    refine zr_aload_n C 0 dJx4a65c_get_915e3_9 rfl rfl ?_
    refine zr_iload_n C 1 dJx4a65c_get_915e3_10 rfl rfl ?_
    refine zr_callV (As := [.int p1]) (r := (RJx4a65c, TJx4a65c, 3)) C (k_Jx4a65c_elementData_915e3 h) ok_Jx4a65c_123 zq_300 zq_301 hT1 (by decide) rfl rfl ⟨by decide, (Nat.le_of_ble_eq_true rfl)⟩ ⟨(Nat.le_of_ble_eq_true rfl), (Nat.le_of_ble_eq_true rfl)⟩ (Nat.le_of_ble_eq_true rfl) dJx4a65c_get_915e3_11 (fun v6 U7 G8 hq => ?_)
    clear h
    · obtain ⟨r5, rfl, rfl, rfl, h⟩ := hq
      exact zr_aret C rfl (Or.inl ⟨_, rfl⟩) (Or.inr ⟨_, rfl⟩) ⟨_, rfl, rfl, rfl, h⟩ (Nat.le_of_ble_eq_true rfl) (Nat.le_of_ble_eq_true rfl) dJx4a65c_get_915e3_14
theorem dJ6_bitCount_0f7a4_0 : decode cJ6_bitCount_0f7a4 0 = .ok (.iload_n 0, 1) := by decide +kernel
theorem dJ6_bitCount_0f7a4_1 : decode cJ6_bitCount_0f7a4 1 = .ok (.iload_n 0, 1) := by decide +kernel
theorem dJ6_bitCount_0f7a4_2 : decode cJ6_bitCount_0f7a4 2 = .ok (.iconst 1, 1) := by decide +kernel
theorem dJ6_bitCount_0f7a4_3 : decode cJ6_bitCount_0f7a4 3 = .ok (.iushr, 1) := by decide +kernel
theorem dJ6_bitCount_0f7a4_4 : decode cJ6_bitCount_0f7a4 4 = .ok (.ldc_w 265, 3) := by decide +kernel
theorem dJ6_bitCount_0f7a4_7 : decode cJ6_bitCount_0f7a4 7 = .ok (.iand, 1) := by decide +kernel
theorem dJ6_bitCount_0f7a4_8 : decode cJ6_bitCount_0f7a4 8 = .ok (.isub, 1) := by decide +kernel
theorem dJ6_bitCount_0f7a4_9 : decode cJ6_bitCount_0f7a4 9 = .ok (.istore_n 0, 1) := by decide +kernel
theorem dJ6_bitCount_0f7a4_10 : decode cJ6_bitCount_0f7a4 10 = .ok (.iload_n 0, 1) := by decide +kernel
theorem dJ6_bitCount_0f7a4_11 : decode cJ6_bitCount_0f7a4 11 = .ok (.ldc_w 266, 3) := by decide +kernel
theorem dJ6_bitCount_0f7a4_14 : decode cJ6_bitCount_0f7a4 14 = .ok (.iand, 1) := by decide +kernel
theorem dJ6_bitCount_0f7a4_15 : decode cJ6_bitCount_0f7a4 15 = .ok (.iload_n 0, 1) := by decide +kernel
theorem dJ6_bitCount_0f7a4_16 : decode cJ6_bitCount_0f7a4 16 = .ok (.iconst 2, 1) := by decide +kernel
theorem dJ6_bitCount_0f7a4_17 : decode cJ6_bitCount_0f7a4 17 = .ok (.iushr, 1) := by decide +kernel
theorem dJ6_bitCount_0f7a4_18 : decode cJ6_bitCount_0f7a4 18 = .ok (.ldc_w 266, 3) := by decide +kernel
theorem dJ6_bitCount_0f7a4_21 : decode cJ6_bitCount_0f7a4 21 = .ok (.iand, 1) := by decide +kernel
theorem dJ6_bitCount_0f7a4_22 : decode cJ6_bitCount_0f7a4 22 = .ok (.iadd, 1) := by decide +kernel
theorem dJ6_bitCount_0f7a4_23 : decode cJ6_bitCount_0f7a4 23 = .ok (.istore_n 0, 1) := by decide +kernel
theorem dJ6_bitCount_0f7a4_24 : decode cJ6_bitCount_0f7a4 24 = .ok (.iload_n 0, 1) := by decide +kernel
theorem dJ6_bitCount_0f7a4_25 : decode cJ6_bitCount_0f7a4 25 = .ok (.iload_n 0, 1) := by decide +kernel
theorem dJ6_bitCount_0f7a4_26 : decode cJ6_bitCount_0f7a4 26 = .ok (.iconst 4, 1) := by decide +kernel
theorem dJ6_bitCount_0f7a4_27 : decode cJ6_bitCount_0f7a4 27 = .ok (.iushr, 1) := by decide +kernel
theorem dJ6_bitCount_0f7a4_28 : decode cJ6_bitCount_0f7a4 28 = .ok (.iadd, 1) := by decide +kernel
theorem dJ6_bitCount_0f7a4_29 : decode cJ6_bitCount_0f7a4 29 = .ok (.ldc_w 267, 3) := by decide +kernel
theorem dJ6_bitCount_0f7a4_32 : decode cJ6_bitCount_0f7a4 32 = .ok (.iand, 1) := by decide +kernel
theorem dJ6_bitCount_0f7a4_33 : decode cJ6_bitCount_0f7a4 33 = .ok (.istore_n 0, 1) := by decide +kernel
theorem dJ6_bitCount_0f7a4_34 : decode cJ6_bitCount_0f7a4 34 = .ok (.iload_n 0, 1) := by decide +kernel
theorem dJ6_bitCount_0f7a4_35 : decode cJ6_bitCount_0f7a4 35 = .ok (.iload_n 0, 1) := by decide +kernel
theorem dJ6_bitCount_0f7a4_36 : decode cJ6_bitCount_0f7a4 36 = .ok (.bipush 8, 2) := by decide +kernel
theorem dJ6_bitCount_0f7a4_38 : decode cJ6_bitCount_0f7a4 38 = .ok (.iushr, 1) := by decide +kernel
theorem dJ6_bitCount_0f7a4_39 : decode cJ6_bitCount_0f7a4 39 = .ok (.iadd, 1) := by decide +kernel
theorem dJ6_bitCount_0f7a4_40 : decode cJ6_bitCount_0f7a4 40 = .ok (.istore_n 0, 1) := by decide +kernel
theorem dJ6_bitCount_0f7a4_41 : decode cJ6_bitCount_0f7a4 41 = .ok (.iload_n 0, 1) := by decide +kernel
theorem dJ6_bitCount_0f7a4_42 : decode cJ6_bitCount_0f7a4 42 = .ok (.iload_n 0, 1) := by decide +kernel
theorem dJ6_bitCount_0f7a4_43 : decode cJ6_bitCount_0f7a4 43 = .ok (.bipush 16, 2) := by decide +kernel
theorem dJ6_bitCount_0f7a4_45 : decode cJ6_bitCount_0f7a4 45 = .ok (.iushr, 1) := by decide +kernel
theorem dJ6_bitCount_0f7a4_46 : decode cJ6_bitCount_0f7a4 46 = .ok (.iadd, 1) := by decide +kernel
theorem dJ6_bitCount_0f7a4_47 : decode cJ6_bitCount_0f7a4 47 = .ok (.istore_n 0, 1) := by decide +kernel
theorem dJ6_bitCount_0f7a4_48 : decode cJ6_bitCount_0f7a4 48 = .ok (.iload_n 0, 1) := by decide +kernel
theorem dJ6_bitCount_0f7a4_49 : decode cJ6_bitCount_0f7a4 49 = .ok (.bipush 63, 2) := by decide +kernel
theorem dJ6_bitCount_0f7a4_51 : decode cJ6_bitCount_0f7a4 51 = .ok (.iand, 1) := by decide +kernel
theorem dJ6_bitCount_0f7a4_52 : decode cJ6_bitCount_0f7a4 52 = .ok (.ireturn, 1) := by decide +kernel
def v_J6_bitCount_0f7a4 (p0 : Int32) (T : zT) (F : zF) (Post : Int32 → Prop) : Prop :=
  ((∀ (y1 : Int32), y1 = (p0 - (((p0.toUInt32 >>> ((1 : Int32).toUInt32 &&& Int32.toUInt32 31)).toInt32) &&& 1431655765)) → (∀ (y3 : Int32), y3 = ((y1 &&& 858993459) + (((y1.toUInt32 >>> ((2 : Int32).toUInt32 &&& Int32.toUInt32 31)).toInt32) &&& 858993459)) → (∀ (y5 : Int32), y5 = ((y3 + ((y3.toUInt32 >>> ((4 : Int32).toUInt32 &&& Int32.toUInt32 31)).toInt32)) &&& 252645135) → (∀ (y7 : Int32), y7 = (y5 + ((y5.toUInt32 >>> ((8 : Int32).toUInt32 &&& Int32.toUInt32 31)).toInt32)) → (∀ (y9 : Int32), y9 = (y7 + ((y7.toUInt32 >>> ((16 : Int32).toUInt32 &&& Int32.toUInt32 31)).toInt32)) → Post (y9 &&& 63)))))))
set_option maxRecDepth 100000 in
set_option maxHeartbeats 4000000 in
theorem k_J6_bitCount_0f7a4 {l : Launch} {D : va_G} {cA : Nat → ClassId} {N0 zE : Nat} {p0 : Int32} {T : zT} {F : zF} {Post : Int32 → Prop} (h : v_J6_bitCount_0f7a4 p0 T F Post) : z_Mt l D cA N0 zE yJ6_bitCount_0f7a4 cJ6_bitCount_0f7a4 1 (some .int) ({ frames := 0, cells := 0, slots := 0, locals := 0 } : Room) [.int p0] T F (fun v T' F' => ∃ r : Int32, v = some (.int r) ∧ T = T' ∧ F = F' ∧ Post r) := by
  unfold v_J6_bitCount_0f7a4 at h
  refine z_bodyT (by decide) (Nat.le_of_ble_eq_true rfl) ?_
  intro p e s m args below meth c C hnm
  have C : z_C p l s m args meth c RJ6 cJ6_bitCount_0f7a4 1 (some .int) D cA N0 zE := C
  show z_w p l e ({ frames := 0, cells := 0, slots := 0, locals := 0 } : Room) s m args below meth c D cA N0 1 0 0 (MQ below (z_Qc D cA N0 (fun v T' F' => ∃ r : Int32, v = some (.int r) ∧ T = T' ∧ F = F' ∧ Post r)) args s 0 0 (fun q => N0 ≤ q)) 0 [(0, .int p0)] [] T F
  refine zr_iload_n C 0 dJ6_bitCount_0f7a4_0 rfl rfl ?_
  refine zr_iload_n C 0 dJ6_bitCount_0f7a4_1 rfl rfl ?_
  refine zr_iconst C 1 dJ6_bitCount_0f7a4_2 (by decide) ?_
  refine zr_iushr C dJ6_bitCount_0f7a4_3 ?_
  refine zr_ldcw C 1431655765 dJ6_bitCount_0f7a4_4 zq_546 ?_
  refine zr_iand C dJ6_bitCount_0f7a4_7 ?_
  refine zr_isub C dJ6_bitCount_0f7a4_8 ?_
  refine zr_topi (fun y1 hy2 => ?_)
  have h := h y1 hy2
  refine zr_istore_n C [(0, .int y1)] dJ6_bitCount_0f7a4_9 rfl (by decide) rfl ?_
  refine zr_iload_n C 0 dJ6_bitCount_0f7a4_10 rfl rfl ?_
  refine zr_ldcw C 858993459 dJ6_bitCount_0f7a4_11 zq_547 ?_
  refine zr_iand C dJ6_bitCount_0f7a4_14 ?_
  refine zr_iload_n C 0 dJ6_bitCount_0f7a4_15 rfl rfl ?_
  refine zr_iconst C 2 dJ6_bitCount_0f7a4_16 (by decide) ?_
  refine zr_iushr C dJ6_bitCount_0f7a4_17 ?_
  refine zr_ldcw C 858993459 dJ6_bitCount_0f7a4_18 zq_547 ?_
  refine zr_iand C dJ6_bitCount_0f7a4_21 ?_
  refine zr_iadd C dJ6_bitCount_0f7a4_22 ?_
  refine zr_topi (fun y3 hy4 => ?_)
  have h := h y3 hy4
  refine zr_istore_n C [(0, .int y3)] dJ6_bitCount_0f7a4_23 rfl (by decide) rfl ?_
  refine zr_iload_n C 0 dJ6_bitCount_0f7a4_24 rfl rfl ?_
  refine zr_iload_n C 0 dJ6_bitCount_0f7a4_25 rfl rfl ?_
  refine zr_iconst C 4 dJ6_bitCount_0f7a4_26 (by decide) ?_
  refine zr_iushr C dJ6_bitCount_0f7a4_27 ?_
  refine zr_iadd C dJ6_bitCount_0f7a4_28 ?_
  refine zr_ldcw C 252645135 dJ6_bitCount_0f7a4_29 zq_548 ?_
  refine zr_iand C dJ6_bitCount_0f7a4_32 ?_
  refine zr_topi (fun y5 hy6 => ?_)
  have h := h y5 hy6
  refine zr_istore_n C [(0, .int y5)] dJ6_bitCount_0f7a4_33 rfl (by decide) rfl ?_
  refine zr_iload_n C 0 dJ6_bitCount_0f7a4_34 rfl rfl ?_
  refine zr_iload_n C 0 dJ6_bitCount_0f7a4_35 rfl rfl ?_
  refine zr_bipush C 8 dJ6_bitCount_0f7a4_36 (by decide) ?_
  refine zr_iushr C dJ6_bitCount_0f7a4_38 ?_
  refine zr_iadd C dJ6_bitCount_0f7a4_39 ?_
  refine zr_topi (fun y7 hy8 => ?_)
  have h := h y7 hy8
  refine zr_istore_n C [(0, .int y7)] dJ6_bitCount_0f7a4_40 rfl (by decide) rfl ?_
  refine zr_iload_n C 0 dJ6_bitCount_0f7a4_41 rfl rfl ?_
  refine zr_iload_n C 0 dJ6_bitCount_0f7a4_42 rfl rfl ?_
  refine zr_bipush C 16 dJ6_bitCount_0f7a4_43 (by decide) ?_
  refine zr_iushr C dJ6_bitCount_0f7a4_45 ?_
  refine zr_iadd C dJ6_bitCount_0f7a4_46 ?_
  refine zr_topi (fun y9 hy10 => ?_)
  have h := h y9 hy10
  refine zr_istore_n C [(0, .int y9)] dJ6_bitCount_0f7a4_47 rfl (by decide) rfl ?_
  refine zr_iload_n C 0 dJ6_bitCount_0f7a4_48 rfl rfl ?_
  refine zr_bipush C 63 dJ6_bitCount_0f7a4_49 (by decide) ?_
  refine zr_iand C dJ6_bitCount_0f7a4_51 ?_
  exact zr_iret C rfl ⟨_, rfl, rfl, rfl, h⟩ (Nat.le_of_ble_eq_true rfl) (Nat.le_of_ble_eq_true rfl) dJ6_bitCount_0f7a4_52
end
section
theorem dX0_init_0 : decode cX0_init 0 = .ok (.aload_n 0, 1) := by decide +kernel
theorem dX0_init_1 : decode cX0_init 1 = .ok (.invokespecial 3, 3) := by decide +kernel
theorem dX0_init_4 : decode cX0_init 4 = .ok (.aload_n 0, 1) := by decide +kernel
theorem dX0_init_5 : decode cX0_init 5 = .ok (.iconst 5, 1) := by decide +kernel
theorem dX0_init_6 : decode cX0_init 6 = .ok (.newarray .int, 2) := by decide +kernel
theorem dX0_init_8 : decode cX0_init 8 = .ok (.putfield 9, 3) := by decide +kernel
theorem dX0_init_11 : decode cX0_init 11 = .ok (.aload_n 0, 1) := by decide +kernel
theorem dX0_init_12 : decode cX0_init 12 = .ok (.iconst 0, 1) := by decide +kernel
theorem dX0_init_13 : decode cX0_init 13 = .ok (.putfield 15, 3) := by decide +kernel
theorem dX0_init_16 : decode cX0_init 16 = .ok (.aload_n 0, 1) := by decide +kernel
theorem dX0_init_17 : decode cX0_init 17 = .ok (.iconst 0, 1) := by decide +kernel
theorem dX0_init_18 : decode cX0_init 18 = .ok (.putfield 19, 3) := by decide +kernel
theorem dX0_init_21 : decode cX0_init 21 = .ok (.aload_n 0, 1) := by decide +kernel
theorem dX0_init_22 : decode cX0_init 22 = .ok (.iconst 0, 1) := by decide +kernel
theorem dX0_init_23 : decode cX0_init 23 = .ok (.putfield 22, 3) := by decide +kernel
theorem dX0_init_26 : decode cX0_init 26 = .ok (.aload_n 0, 1) := by decide +kernel
theorem dX0_init_27 : decode cX0_init 27 = .ok (.iconst 0, 1) := by decide +kernel
theorem dX0_init_28 : decode cX0_init 28 = .ok (.putfield 25, 3) := by decide +kernel
theorem dX0_init_31 : decode cX0_init 31 = .ok (.aload_n 0, 1) := by decide +kernel
theorem dX0_init_32 : decode cX0_init 32 = .ok (.getfield 9, 3) := by decide +kernel
theorem dX0_init_35 : decode cX0_init 35 = .ok (.bipush 100, 2) := by decide +kernel
theorem dX0_init_40 : decode cX0_init 40 = .ok (.return_, 1) := by decide +kernel
theorem dX0_init_37 : decode cX0_init 37 = .ok (.invokestatic 28, 3) := by decide +kernel
def v_X0_init (a0 : Nat) (T : zT) (F : zF) (Post : zT → zF → Prop) : Prop :=
  (∀ q1 : Nat, (∀ b, q1 ≤ b → T b = none) → (zn T q1 (100, 5) a0 = some (1, 5) ∧ (v_J7_fill_53178 q1 100 (zn T q1 (100, 5)) (zu (zu (zu (zu (zu (zm F q1 (fun _ => .int 0)) a0 0 (.ref q1)) a0 1 (.int 0)) a0 2 (.int 0)) a0 3 (.int 0)) a0 4 (.int 0)) (fun (F14 : zF) => Post (zn T q1 (100, 5)) F14))))
set_option maxRecDepth 100000 in
set_option maxHeartbeats 4000000 in
theorem k_X0_init {l : Launch} {D : va_G} {cA : Nat → ClassId} {N0 zE : Nat} {a0 : Nat} {T : zT} {F : zF} {Post : zT → zF → Prop} (h : v_X0_init a0 T F Post) : z_Mt l D cA N0 zE yX0_init cX0_init 1 none ({ frames := 1, cells := 1, slots := 5, locals := 23 } : Room) [.ref a0] T F (fun v T' F' => v = none ∧ Post T' F') := by
  unfold v_X0_init at h
  refine z_bodyT (by decide) (Nat.le_of_ble_eq_true rfl) ?_
  intro p e s m args below meth c C hnm
  have C : z_C p l s m args meth c RX0 cX0_init 1 none D cA N0 zE := C
  show z_w p l e ({ frames := 1, cells := 1, slots := 5, locals := 23 } : Room) s m args below meth c D cA N0 1 0 0 (MQ below (z_Qc D cA N0 (fun v T' F' => v = none ∧ Post T' F')) args s 1 5 (fun q => N0 ≤ q)) 0 [(0, .ref a0)] [] T F
  refine zr_aload_n C 0 dX0_init_0 rfl rfl ?_
  refine zr_objInit C zq_188 zq_44 zq_45 (by decide) (Nat.le_of_ble_eq_true rfl) dX0_init_1 ?_
  refine zr_aload_n C 0 dX0_init_4 rfl rfl ?_
  refine zr_iconst C 5 dX0_init_5 (by decide) ?_
  refine zr_newarr (n := 5) (atype := .int) C 0 rfl zq_93 (by decide) (by decide) (Nat.le_of_ble_eq_true rfl) (Nat.le_of_ble_eq_true rfl) dX0_init_6 (fun q1 hq2 => ?_)
  have h := h q1 hq2
  obtain ⟨hT3, h⟩ := h
  refine zr_putF C fl_X0_9 fd_X0_9 hT3 rfl rfl hnm dX0_init_8 ?_
  refine zr_aload_n C 0 dX0_init_11 rfl rfl ?_
  refine zr_iconst C 0 dX0_init_12 (by decide) ?_
  refine zr_put C fl_X0_15 hT3 rfl rfl dX0_init_13 ?_
  refine zr_aload_n C 0 dX0_init_16 rfl rfl ?_
  refine zr_iconst C 0 dX0_init_17 (by decide) ?_
  refine zr_put C fl_X0_19 hT3 rfl rfl dX0_init_18 ?_
  refine zr_aload_n C 0 dX0_init_21 rfl rfl ?_
  refine zr_iconst C 0 dX0_init_22 (by decide) ?_
  refine zr_put C fl_X0_22 hT3 rfl rfl dX0_init_23 ?_
  refine zr_aload_n C 0 dX0_init_26 rfl rfl ?_
  refine zr_iconst C 0 dX0_init_27 (by decide) ?_
  refine zr_put C fl_X0_25 hT3 rfl rfl dX0_init_28 ?_
  refine zr_aload_n C 0 dX0_init_31 rfl rfl ?_
  refine zr_get C fl_X0_9 hT3 (z_une (z_une (z_une (z_une z_ueq (by decide)) (by decide)) (by decide)) (by decide)) dX0_init_32 ?_
  refine zr_bipush C 100 dX0_init_35 (by decide) ?_
  refine zr_callS (As := [.ref q1, .int 100]) C (k_J7_fill_53178 h) ok_X0_28 zq_190 rfl ⟨by decide, (Nat.le_of_ble_eq_true rfl)⟩ ⟨(Nat.le_of_ble_eq_true rfl), (Nat.le_of_ble_eq_true rfl)⟩ (Nat.le_of_ble_eq_true rfl) dX0_init_37 (fun v15 U16 G17 hq => ?_)
  clear h
  · obtain ⟨rfl, rfl, h⟩ := hq
    exact zr_vret C rfl ⟨rfl, h⟩ (Nat.le_of_ble_eq_true rfl) (Nat.le_of_ble_eq_true rfl) dX0_init_40
theorem dX0_addVersion_0 : decode cX0_addVersion 0 = .ok (.aload_n 0, 1) := by decide +kernel
theorem dX0_addVersion_1 : decode cX0_addVersion 1 = .ok (.getfield 15, 3) := by decide +kernel
theorem dX0_addVersion_4 : decode cX0_addVersion 4 = .ok (.ifCond .lt 15, 3) := by decide +kernel
theorem dX0_addVersion_19 : decode cX0_addVersion 19 = .ok (.iconst (-1), 1) := by decide +kernel
theorem dX0_addVersion_20 : decode cX0_addVersion 20 = .ok (.ireturn, 1) := by decide +kernel
theorem dX0_addVersion_7 : decode cX0_addVersion 7 = .ok (.aload_n 0, 1) := by decide +kernel
theorem dX0_addVersion_8 : decode cX0_addVersion 8 = .ok (.getfield 15, 3) := by decide +kernel
theorem dX0_addVersion_11 : decode cX0_addVersion 11 = .ok (.aload_n 0, 1) := by decide +kernel
theorem dX0_addVersion_12 : decode cX0_addVersion 12 = .ok (.getfield 9, 3) := by decide +kernel
theorem dX0_addVersion_15 : decode cX0_addVersion 15 = .ok (.arraylength, 1) := by decide +kernel
theorem dX0_addVersion_16 : decode cX0_addVersion 16 = .ok (.if_icmp .lt 5, 3) := by decide +kernel
theorem dX0_addVersion_21 : decode cX0_addVersion 21 = .ok (.aload_n 0, 1) := by decide +kernel
theorem dX0_addVersion_22 : decode cX0_addVersion 22 = .ok (.getfield 9, 3) := by decide +kernel
theorem dX0_addVersion_25 : decode cX0_addVersion 25 = .ok (.aload_n 0, 1) := by decide +kernel
theorem dX0_addVersion_26 : decode cX0_addVersion 26 = .ok (.getfield 15, 3) := by decide +kernel
theorem dX0_addVersion_29 : decode cX0_addVersion 29 = .ok (.iload_n 1, 1) := by decide +kernel
theorem dX0_addVersion_30 : decode cX0_addVersion 30 = .ok (.iastore, 1) := by decide +kernel
theorem dX0_addVersion_31 : decode cX0_addVersion 31 = .ok (.aload_n 0, 1) := by decide +kernel
theorem dX0_addVersion_32 : decode cX0_addVersion 32 = .ok (.dup, 1) := by decide +kernel
theorem dX0_addVersion_33 : decode cX0_addVersion 33 = .ok (.getfield 15, 3) := by decide +kernel
theorem dX0_addVersion_36 : decode cX0_addVersion 36 = .ok (.iconst 1, 1) := by decide +kernel
theorem dX0_addVersion_37 : decode cX0_addVersion 37 = .ok (.iadd, 1) := by decide +kernel
theorem dX0_addVersion_38 : decode cX0_addVersion 38 = .ok (.putfield 15, 3) := by decide +kernel
theorem dX0_addVersion_41 : decode cX0_addVersion 41 = .ok (.aload_n 0, 1) := by decide +kernel
theorem dX0_addVersion_42 : decode cX0_addVersion 42 = .ok (.getfield 15, 3) := by decide +kernel
theorem dX0_addVersion_45 : decode cX0_addVersion 45 = .ok (.iconst 1, 1) := by decide +kernel
theorem dX0_addVersion_46 : decode cX0_addVersion 46 = .ok (.isub, 1) := by decide +kernel
theorem dX0_addVersion_47 : decode cX0_addVersion 47 = .ok (.ireturn, 1) := by decide +kernel
def v_X0_addVersion (a0 : Nat) (p1 : Int32) (T : zT) (F : zF) (Post : Int32 → zF → Prop) : Prop :=
  (T a0 = some (1, 5) ∧ ∃ x3 : Int32, F a0 1 = .int x3 ∧ ((x3 < 0 → Post ((-1)) F) ∧ (¬ x3 < 0 → (∃ x5 : Nat, F a0 0 = .ref x5 ∧ ∃ n6 : Nat, T x5 = some (100, n6) ∧ ((x3 < (nI n6) → (vp_in x3 n6 ∧ ∃ x10 : Int32, (zu F x5 (x3).toNatClampNeg (.int p1)) a0 1 = .int x10 ∧ Post ((x10 + 1) - 1) (zu (zu F x5 (x3).toNatClampNeg (.int p1)) a0 1 (.int (x10 + 1))))) ∧ (¬ x3 < (nI n6) → Post ((-1)) F))))))
set_option maxRecDepth 100000 in
set_option maxHeartbeats 4000000 in
theorem k_X0_addVersion {l : Launch} {D : va_G} {cA : Nat → ClassId} {N0 zE : Nat} {a0 : Nat} {p1 : Int32} {T : zT} {F : zF} {Post : Int32 → zF → Prop} (h : v_X0_addVersion a0 p1 T F Post) : z_Mt l D cA N0 zE yX0_addVersion cX0_addVersion 2 (some .int) ({ frames := 0, cells := 0, slots := 0, locals := 0 } : Room) [.ref a0, .int p1] T F (fun v T' F' => ∃ r : Int32, v = some (.int r) ∧ T = T' ∧ Post r F') := by
  unfold v_X0_addVersion at h
  refine z_bodyT (by decide) (Nat.le_of_ble_eq_true rfl) ?_
  intro p e s m args below meth c C hnm
  have C : z_C p l s m args meth c RX0 cX0_addVersion 2 (some .int) D cA N0 zE := C
  show z_w p l e ({ frames := 0, cells := 0, slots := 0, locals := 0 } : Room) s m args below meth c D cA N0 2 0 0 (MQ below (z_Qc D cA N0 (fun v T' F' => ∃ r : Int32, v = some (.int r) ∧ T = T' ∧ Post r F')) args s 0 0 (fun q => N0 ≤ q)) 0 [(0, .ref a0), (1, .int p1)] [] T F
  refine zr_aload_n C 0 dX0_addVersion_0 rfl rfl ?_
  obtain ⟨hT1, x3, hv2, h⟩ := h
  refine zr_get C fl_X0_15 hT1 hv2 dX0_addVersion_1 ?_
  obtain ⟨h1, h2⟩ := h
  refine zr_if_lt C 19 dX0_addVersion_4 (by decide) (fun hc => ?_) (fun hc => ?_)
  · have h := h1 hc
    clear h1 h2
    refine zr_iconst C (-1) dX0_addVersion_19 (by decide) ?_
    exact zr_iret C rfl ⟨_, rfl, rfl, h⟩ (Nat.le_of_ble_eq_true rfl) (Nat.le_of_ble_eq_true rfl) dX0_addVersion_20
  · have h := h2 hc
    clear h1 h2
    refine zr_aload_n C 0 dX0_addVersion_7 rfl rfl ?_
    refine zr_get C fl_X0_15 hT1 hv2 dX0_addVersion_8 ?_
    refine zr_aload_n C 0 dX0_addVersion_11 rfl rfl ?_
    obtain ⟨x5, hv4, h⟩ := h
    refine zr_get C fl_X0_9 hT1 hv4 dX0_addVersion_12 ?_
    obtain ⟨n6, hT7, h⟩ := h
    refine zr_alen C hT7 (by decide) rfl dX0_addVersion_15 ?_
    obtain ⟨h1, h2⟩ := h
    refine zr_icmp_lt C 21 dX0_addVersion_16 (by decide) (fun hc => ?_) (fun hc => ?_)
    · have h := h1 hc
      clear h1 h2
      refine zr_aload_n C 0 dX0_addVersion_21 rfl rfl ?_
      refine zr_get C fl_X0_9 hT1 hv4 dX0_addVersion_22 ?_
      refine zr_aload_n C 0 dX0_addVersion_25 rfl rfl ?_
      refine zr_get C fl_X0_15 hT1 hv2 dX0_addVersion_26 ?_
      refine zr_iload_n C 1 dX0_addVersion_29 rfl rfl ?_
      obtain ⟨hi8, h⟩ := h
      refine zr_iast C rfl hT7 hi8 dX0_addVersion_30 ?_
      refine zr_aload_n C 0 dX0_addVersion_31 rfl rfl ?_
      refine zr_dup C dX0_addVersion_32 rfl ?_
      obtain ⟨x10, hv9, h⟩ := h
      refine zr_get C fl_X0_15 hT1 hv9 dX0_addVersion_33 ?_
      refine zr_iconst C 1 dX0_addVersion_36 (by decide) ?_
      refine zr_iadd C dX0_addVersion_37 ?_
      refine zr_put C fl_X0_15 hT1 rfl rfl dX0_addVersion_38 ?_
      refine zr_aload_n C 0 dX0_addVersion_41 rfl rfl ?_
      refine zr_get C fl_X0_15 hT1 z_ueq dX0_addVersion_42 ?_
      refine zr_iconst C 1 dX0_addVersion_45 (by decide) ?_
      refine zr_isub C dX0_addVersion_46 ?_
      exact zr_iret C rfl ⟨_, rfl, rfl, h⟩ (Nat.le_of_ble_eq_true rfl) (Nat.le_of_ble_eq_true rfl) dX0_addVersion_47
    · have h := h2 hc
      clear h1 h2
      refine zr_iconst C (-1) dX0_addVersion_19 (by decide) ?_
      exact zr_iret C rfl ⟨_, rfl, rfl, h⟩ (Nat.le_of_ble_eq_true rfl) (Nat.le_of_ble_eq_true rfl) dX0_addVersion_20
theorem dX0_hasLast_0 : decode cX0_hasLast 0 = .ok (.aload_n 0, 1) := by decide +kernel
theorem dX0_hasLast_1 : decode cX0_hasLast 1 = .ok (.getfield 15, 3) := by decide +kernel
theorem dX0_hasLast_4 : decode cX0_hasLast 4 = .ok (.iconst 1, 1) := by decide +kernel
theorem dX0_hasLast_5 : decode cX0_hasLast 5 = .ok (.if_icmp .lt 19, 3) := by decide +kernel
theorem dX0_hasLast_24 : decode cX0_hasLast 24 = .ok (.iconst 0, 1) := by decide +kernel
theorem dX0_hasLast_25 : decode cX0_hasLast 25 = .ok (.ireturn, 1) := by decide +kernel
theorem dX0_hasLast_8 : decode cX0_hasLast 8 = .ok (.aload_n 0, 1) := by decide +kernel
theorem dX0_hasLast_9 : decode cX0_hasLast 9 = .ok (.getfield 15, 3) := by decide +kernel
theorem dX0_hasLast_12 : decode cX0_hasLast 12 = .ok (.aload_n 0, 1) := by decide +kernel
theorem dX0_hasLast_13 : decode cX0_hasLast 13 = .ok (.getfield 9, 3) := by decide +kernel
theorem dX0_hasLast_16 : decode cX0_hasLast 16 = .ok (.arraylength, 1) := by decide +kernel
theorem dX0_hasLast_17 : decode cX0_hasLast 17 = .ok (.if_icmp .gt 7, 3) := by decide +kernel
theorem dX0_hasLast_20 : decode cX0_hasLast 20 = .ok (.iconst 1, 1) := by decide +kernel
theorem dX0_hasLast_21 : decode cX0_hasLast 21 = .ok (.goto 4, 3) := by decide +kernel
def v_X0_hasLast (a0 : Nat) (T : zT) (F : zF) (Post : Int32 → Prop) : Prop :=
  (T a0 = some (1, 5) ∧ ∃ x3 : Int32, F a0 1 = .int x3 ∧ ((x3 < 1 → Post 0) ∧ (¬ x3 < 1 → (∃ x5 : Nat, F a0 0 = .ref x5 ∧ ∃ n6 : Nat, T x5 = some (100, n6) ∧ (((nI n6) < x3 → Post 0) ∧ (¬ (nI n6) < x3 → Post 1))))))
set_option maxRecDepth 100000 in
set_option maxHeartbeats 4000000 in
theorem k_X0_hasLast {l : Launch} {D : va_G} {cA : Nat → ClassId} {N0 zE : Nat} {a0 : Nat} {T : zT} {F : zF} {Post : Int32 → Prop} (h : v_X0_hasLast a0 T F Post) : z_Mt l D cA N0 zE yX0_hasLast cX0_hasLast 1 (some .boolean) ({ frames := 0, cells := 0, slots := 0, locals := 0 } : Room) [.ref a0] T F (fun v T' F' => ∃ r : Int32, v = some (.int r) ∧ T = T' ∧ F = F' ∧ Post r) := by
  unfold v_X0_hasLast at h
  refine z_bodyT (by decide) (Nat.le_of_ble_eq_true rfl) ?_
  intro p e s m args below meth c C hnm
  have C : z_C p l s m args meth c RX0 cX0_hasLast 1 (some .boolean) D cA N0 zE := C
  show z_w p l e ({ frames := 0, cells := 0, slots := 0, locals := 0 } : Room) s m args below meth c D cA N0 1 0 0 (MQ below (z_Qc D cA N0 (fun v T' F' => ∃ r : Int32, v = some (.int r) ∧ T = T' ∧ F = F' ∧ Post r)) args s 0 0 (fun q => N0 ≤ q)) 0 [(0, .ref a0)] [] T F
  refine zr_aload_n C 0 dX0_hasLast_0 rfl rfl ?_
  obtain ⟨hT1, x3, hv2, h⟩ := h
  refine zr_get C fl_X0_15 hT1 hv2 dX0_hasLast_1 ?_
  refine zr_iconst C 1 dX0_hasLast_4 (by decide) ?_
  obtain ⟨h1, h2⟩ := h
  refine zr_icmp_lt C 24 dX0_hasLast_5 (by decide) (fun hc => ?_) (fun hc => ?_)
  · have h := h1 hc
    clear h1 h2
    refine zr_iconst C 0 dX0_hasLast_24 (by decide) ?_
    exact zr_zret C rfl (Or.inl rfl) ⟨_, rfl, rfl, rfl, h⟩ (Nat.le_of_ble_eq_true rfl) (Nat.le_of_ble_eq_true rfl) dX0_hasLast_25
  · have h := h2 hc
    clear h1 h2
    refine zr_aload_n C 0 dX0_hasLast_8 rfl rfl ?_
    refine zr_get C fl_X0_15 hT1 hv2 dX0_hasLast_9 ?_
    refine zr_aload_n C 0 dX0_hasLast_12 rfl rfl ?_
    obtain ⟨x5, hv4, h⟩ := h
    refine zr_get C fl_X0_9 hT1 hv4 dX0_hasLast_13 ?_
    obtain ⟨n6, hT7, h⟩ := h
    refine zr_alen C hT7 (by decide) rfl dX0_hasLast_16 ?_
    obtain ⟨h1, h2⟩ := h
    refine zr_icmp_gt C 24 dX0_hasLast_17 (by decide) (fun hc => ?_) (fun hc => ?_)
    · have h := h1 hc
      clear h1 h2
      refine zr_iconst C 0 dX0_hasLast_24 (by decide) ?_
      exact zr_zret C rfl (Or.inl rfl) ⟨_, rfl, rfl, rfl, h⟩ (Nat.le_of_ble_eq_true rfl) (Nat.le_of_ble_eq_true rfl) dX0_hasLast_25
    · have h := h2 hc
      clear h1 h2
      refine zr_iconst C 1 dX0_hasLast_20 (by decide) ?_
      refine zr_goto C 25 dX0_hasLast_21 (by decide) ?_
      exact zr_zret C rfl (Or.inr rfl) ⟨_, rfl, rfl, rfl, h⟩ (Nat.le_of_ble_eq_true rfl) (Nat.le_of_ble_eq_true rfl) dX0_hasLast_25
theorem dX0_lastComes_0 : decode cX0_lastComes 0 = .ok (.aload_n 0, 1) := by decide +kernel
theorem dX0_lastComes_4 : decode cX0_lastComes 4 = .ok (.ifCond .eq 17, 3) := by decide +kernel
theorem dX0_lastComes_21 : decode cX0_lastComes 21 = .ok (.iconst (-1), 1) := by decide +kernel
theorem dX0_lastComes_22 : decode cX0_lastComes 22 = .ok (.ireturn, 1) := by decide +kernel
theorem dX0_lastComes_7 : decode cX0_lastComes 7 = .ok (.aload_n 0, 1) := by decide +kernel
theorem dX0_lastComes_8 : decode cX0_lastComes 8 = .ok (.getfield 9, 3) := by decide +kernel
theorem dX0_lastComes_11 : decode cX0_lastComes 11 = .ok (.aload_n 0, 1) := by decide +kernel
theorem dX0_lastComes_12 : decode cX0_lastComes 12 = .ok (.getfield 15, 3) := by decide +kernel
theorem dX0_lastComes_15 : decode cX0_lastComes 15 = .ok (.iconst 1, 1) := by decide +kernel
theorem dX0_lastComes_16 : decode cX0_lastComes 16 = .ok (.isub, 1) := by decide +kernel
theorem dX0_lastComes_17 : decode cX0_lastComes 17 = .ok (.iaload, 1) := by decide +kernel
theorem dX0_lastComes_18 : decode cX0_lastComes 18 = .ok (.goto 4, 3) := by decide +kernel
theorem dX0_lastComes_1 : decode cX0_lastComes 1 = .ok (.invokevirtual 34, 3) := by decide +kernel
def v_X0_lastComes (a0 : Nat) (T : zT) (F : zF) (Post : Int32 → Prop) : Prop :=
  (T a0 = some (1, 5) ∧ (v_X0_hasLast a0 T F (fun (r2 : Int32) => ((r2 = 0 → Post ((-1))) ∧ (¬ r2 = 0 → (∃ x4 : Nat, F a0 0 = .ref x4 ∧ ∃ x6 : Int32, F a0 1 = .int x6 ∧ ∃ n7 : Nat, T x4 = some (100, n7) ∧ vp_in (x6 - 1) n7 ∧ ∃ x10 : Int32, F x4 ((x6 - 1)).toNatClampNeg = .int x10 ∧ Post x10))))))
set_option maxRecDepth 100000 in
set_option maxHeartbeats 4000000 in
theorem k_X0_lastComes {l : Launch} {D : va_G} {cA : Nat → ClassId} {N0 zE : Nat} {a0 : Nat} {T : zT} {F : zF} {Post : Int32 → Prop} (h : v_X0_lastComes a0 T F Post) : z_Mt l D cA N0 zE yX0_lastComes cX0_lastComes 1 (some .int) ({ frames := 1, cells := 0, slots := 0, locals := 20 } : Room) [.ref a0] T F (fun v T' F' => ∃ r : Int32, v = some (.int r) ∧ T = T' ∧ F = F' ∧ Post r) := by
  unfold v_X0_lastComes at h
  refine z_bodyT (by decide) (Nat.le_of_ble_eq_true rfl) ?_
  intro p e s m args below meth c C hnm
  have C : z_C p l s m args meth c RX0 cX0_lastComes 1 (some .int) D cA N0 zE := C
  show z_w p l e ({ frames := 1, cells := 0, slots := 0, locals := 20 } : Room) s m args below meth c D cA N0 1 0 0 (MQ below (z_Qc D cA N0 (fun v T' F' => ∃ r : Int32, v = some (.int r) ∧ T = T' ∧ F = F' ∧ Post r)) args s 0 0 (fun q => N0 ≤ q)) 0 [(0, .ref a0)] [] T F
  refine zr_aload_n C 0 dX0_lastComes_0 rfl rfl ?_
  obtain ⟨hT1, h⟩ := h
  refine zr_callV (As := []) (r := (RX0, TX0, 5)) C (k_X0_hasLast h) ok_X0_34 zq_773 zq_15 hT1 (by decide) rfl rfl ⟨by decide, (Nat.le_of_ble_eq_true rfl)⟩ ⟨(Nat.le_of_ble_eq_true rfl), (Nat.le_of_ble_eq_true rfl)⟩ (Nat.le_of_ble_eq_true rfl) dX0_lastComes_1 (fun v12 U13 G14 hq => ?_)
  clear h
  · obtain ⟨r2, rfl, rfl, rfl, h⟩ := hq
    obtain ⟨h1, h2⟩ := h
    refine zr_if_eq C 21 dX0_lastComes_4 (by decide) (fun hc => ?_) (fun hc => ?_)
    · have h := h1 hc
      clear h1 h2
      refine zr_iconst C (-1) dX0_lastComes_21 (by decide) ?_
      exact zr_iret C rfl ⟨_, rfl, rfl, rfl, h⟩ (Nat.le_of_ble_eq_true rfl) (Nat.le_of_ble_eq_true rfl) dX0_lastComes_22
    · have h := h2 hc
      clear h1 h2
      refine zr_aload_n C 0 dX0_lastComes_7 rfl rfl ?_
      obtain ⟨x4, hv3, h⟩ := h
      refine zr_get C fl_X0_9 hT1 hv3 dX0_lastComes_8 ?_
      refine zr_aload_n C 0 dX0_lastComes_11 rfl rfl ?_
      obtain ⟨x6, hv5, h⟩ := h
      refine zr_get C fl_X0_15 hT1 hv5 dX0_lastComes_12 ?_
      refine zr_iconst C 1 dX0_lastComes_15 (by decide) ?_
      refine zr_isub C dX0_lastComes_16 ?_
      obtain ⟨n7, hT8, hi9, x10, hv11, h⟩ := h
      refine zr_iald C rfl hT8 hi9 hv11 dX0_lastComes_17 ?_
      refine zr_goto C 22 dX0_lastComes_18 (by decide) ?_
      exact zr_iret C rfl ⟨_, rfl, rfl, rfl, h⟩ (Nat.le_of_ble_eq_true rfl) (Nat.le_of_ble_eq_true rfl) dX0_lastComes_22
theorem dX0_putLast_0 : decode cX0_putLast 0 = .ok (.aload_n 0, 1) := by decide +kernel
theorem dX0_putLast_4 : decode cX0_putLast 4 = .ok (.ifCond .eq 15, 3) := by decide +kernel
theorem dX0_putLast_19 : decode cX0_putLast 19 = .ok (.return_, 1) := by decide +kernel
theorem dX0_putLast_7 : decode cX0_putLast 7 = .ok (.aload_n 0, 1) := by decide +kernel
theorem dX0_putLast_8 : decode cX0_putLast 8 = .ok (.getfield 9, 3) := by decide +kernel
theorem dX0_putLast_11 : decode cX0_putLast 11 = .ok (.aload_n 0, 1) := by decide +kernel
theorem dX0_putLast_12 : decode cX0_putLast 12 = .ok (.getfield 15, 3) := by decide +kernel
theorem dX0_putLast_15 : decode cX0_putLast 15 = .ok (.iconst 1, 1) := by decide +kernel
theorem dX0_putLast_16 : decode cX0_putLast 16 = .ok (.isub, 1) := by decide +kernel
theorem dX0_putLast_17 : decode cX0_putLast 17 = .ok (.iload_n 1, 1) := by decide +kernel
theorem dX0_putLast_18 : decode cX0_putLast 18 = .ok (.iastore, 1) := by decide +kernel
theorem dX0_putLast_1 : decode cX0_putLast 1 = .ok (.invokevirtual 34, 3) := by decide +kernel
def v_X0_putLast (a0 : Nat) (p1 : Int32) (T : zT) (F : zF) (Post : zF → Prop) : Prop :=
  (T a0 = some (1, 5) ∧ (v_X0_hasLast a0 T F (fun (r2 : Int32) => ((r2 = 0 → Post F) ∧ (¬ r2 = 0 → (∃ x4 : Nat, F a0 0 = .ref x4 ∧ ∃ x6 : Int32, F a0 1 = .int x6 ∧ ∃ n7 : Nat, T x4 = some (100, n7) ∧ vp_in (x6 - 1) n7 ∧ Post (zu F x4 ((x6 - 1)).toNatClampNeg (.int p1))))))))
set_option maxRecDepth 100000 in
set_option maxHeartbeats 4000000 in
theorem k_X0_putLast {l : Launch} {D : va_G} {cA : Nat → ClassId} {N0 zE : Nat} {a0 : Nat} {p1 : Int32} {T : zT} {F : zF} {Post : zF → Prop} (h : v_X0_putLast a0 p1 T F Post) : z_Mt l D cA N0 zE yX0_putLast cX0_putLast 2 none ({ frames := 1, cells := 0, slots := 0, locals := 20 } : Room) [.ref a0, .int p1] T F (fun v T' F' => v = none ∧ T = T' ∧ Post F') := by
  unfold v_X0_putLast at h
  refine z_bodyT (by decide) (Nat.le_of_ble_eq_true rfl) ?_
  intro p e s m args below meth c C hnm
  have C : z_C p l s m args meth c RX0 cX0_putLast 2 none D cA N0 zE := C
  show z_w p l e ({ frames := 1, cells := 0, slots := 0, locals := 20 } : Room) s m args below meth c D cA N0 2 0 0 (MQ below (z_Qc D cA N0 (fun v T' F' => v = none ∧ T = T' ∧ Post F')) args s 0 0 (fun q => N0 ≤ q)) 0 [(0, .ref a0), (1, .int p1)] [] T F
  refine zr_aload_n C 0 dX0_putLast_0 rfl rfl ?_
  obtain ⟨hT1, h⟩ := h
  refine zr_callV (As := []) (r := (RX0, TX0, 5)) C (k_X0_hasLast h) ok_X0_34 zq_773 zq_15 hT1 (by decide) rfl rfl ⟨by decide, (Nat.le_of_ble_eq_true rfl)⟩ ⟨(Nat.le_of_ble_eq_true rfl), (Nat.le_of_ble_eq_true rfl)⟩ (Nat.le_of_ble_eq_true rfl) dX0_putLast_1 (fun v10 U11 G12 hq => ?_)
  clear h
  · obtain ⟨r2, rfl, rfl, rfl, h⟩ := hq
    obtain ⟨h1, h2⟩ := h
    refine zr_if_eq C 19 dX0_putLast_4 (by decide) (fun hc => ?_) (fun hc => ?_)
    · have h := h1 hc
      clear h1 h2
      exact zr_vret C rfl ⟨rfl, rfl, h⟩ (Nat.le_of_ble_eq_true rfl) (Nat.le_of_ble_eq_true rfl) dX0_putLast_19
    · have h := h2 hc
      clear h1 h2
      refine zr_aload_n C 0 dX0_putLast_7 rfl rfl ?_
      obtain ⟨x4, hv3, h⟩ := h
      refine zr_get C fl_X0_9 hT1 hv3 dX0_putLast_8 ?_
      refine zr_aload_n C 0 dX0_putLast_11 rfl rfl ?_
      obtain ⟨x6, hv5, h⟩ := h
      refine zr_get C fl_X0_15 hT1 hv5 dX0_putLast_12 ?_
      refine zr_iconst C 1 dX0_putLast_15 (by decide) ?_
      refine zr_isub C dX0_putLast_16 ?_
      refine zr_iload_n C 1 dX0_putLast_17 rfl rfl ?_
      obtain ⟨n7, hT8, hi9, h⟩ := h
      refine zr_iast C rfl hT8 hi9 dX0_putLast_18 ?_
      exact zr_vret C rfl ⟨rfl, rfl, h⟩ (Nat.le_of_ble_eq_true rfl) (Nat.le_of_ble_eq_true rfl) dX0_putLast_19
theorem dX0_grant_0 : decode cX0_grant 0 = .ok (.aload_n 0, 1) := by decide +kernel
theorem dX0_grant_1 : decode cX0_grant 1 = .ok (.iload_n 1, 1) := by decide +kernel
theorem dX0_grant_2 : decode cX0_grant 2 = .ok (.putfield 19, 3) := by decide +kernel
theorem dX0_grant_5 : decode cX0_grant 5 = .ok (.aload_n 0, 1) := by decide +kernel
theorem dX0_grant_6 : decode cX0_grant 6 = .ok (.iload_n 2, 1) := by decide +kernel
theorem dX0_grant_7 : decode cX0_grant 7 = .ok (.putfield 22, 3) := by decide +kernel
theorem dX0_grant_10 : decode cX0_grant 10 = .ok (.aload_n 0, 1) := by decide +kernel
theorem dX0_grant_11 : decode cX0_grant 11 = .ok (.iload_n 3, 1) := by decide +kernel
theorem dX0_grant_12 : decode cX0_grant 12 = .ok (.putfield 25, 3) := by decide +kernel
theorem dX0_grant_15 : decode cX0_grant 15 = .ok (.return_, 1) := by decide +kernel
def v_X0_grant (a0 : Nat) (p1 : Int32) (p2 : Int32) (p3 : Int32) (T : zT) (F : zF) (Post : zF → Prop) : Prop :=
  (T a0 = some (1, 5) ∧ Post (zu (zu (zu F a0 2 (.int p1)) a0 3 (.int p2)) a0 4 (.int p3)))
set_option maxRecDepth 100000 in
set_option maxHeartbeats 4000000 in
theorem k_X0_grant {l : Launch} {D : va_G} {cA : Nat → ClassId} {N0 zE : Nat} {a0 : Nat} {p1 : Int32} {p2 : Int32} {p3 : Int32} {T : zT} {F : zF} {Post : zF → Prop} (h : v_X0_grant a0 p1 p2 p3 T F Post) : z_Mt l D cA N0 zE yX0_grant cX0_grant 4 none ({ frames := 0, cells := 0, slots := 0, locals := 0 } : Room) [.ref a0, .int p1, .int p2, .int p3] T F (fun v T' F' => v = none ∧ T = T' ∧ Post F') := by
  unfold v_X0_grant at h
  refine z_bodyT (by decide) (Nat.le_of_ble_eq_true rfl) ?_
  intro p e s m args below meth c C hnm
  have C : z_C p l s m args meth c RX0 cX0_grant 4 none D cA N0 zE := C
  show z_w p l e ({ frames := 0, cells := 0, slots := 0, locals := 0 } : Room) s m args below meth c D cA N0 4 0 0 (MQ below (z_Qc D cA N0 (fun v T' F' => v = none ∧ T = T' ∧ Post F')) args s 0 0 (fun q => N0 ≤ q)) 0 [(0, .ref a0), (1, .int p1), (2, .int p2), (3, .int p3)] [] T F
  refine zr_aload_n C 0 dX0_grant_0 rfl rfl ?_
  refine zr_iload_n C 1 dX0_grant_1 rfl rfl ?_
  obtain ⟨hT1, h⟩ := h
  refine zr_put C fl_X0_19 hT1 rfl rfl dX0_grant_2 ?_
  refine zr_aload_n C 0 dX0_grant_5 rfl rfl ?_
  refine zr_iload_n C 2 dX0_grant_6 rfl rfl ?_
  refine zr_put C fl_X0_22 hT1 rfl rfl dX0_grant_7 ?_
  refine zr_aload_n C 0 dX0_grant_10 rfl rfl ?_
  refine zr_iload_n C 3 dX0_grant_11 rfl rfl ?_
  refine zr_put C fl_X0_25 hT1 rfl rfl dX0_grant_12 ?_
  exact zr_vret C rfl ⟨rfl, rfl, h⟩ (Nat.le_of_ble_eq_true rfl) (Nat.le_of_ble_eq_true rfl) dX0_grant_15
theorem dX0_versionAt_0 : decode cX0_versionAt 0 = .ok (.aload_n 0, 1) := by decide +kernel
theorem dX0_versionAt_1 : decode cX0_versionAt 1 = .ok (.getfield 9, 3) := by decide +kernel
theorem dX0_versionAt_4 : decode cX0_versionAt 4 = .ok (.arraylength, 1) := by decide +kernel
theorem dX0_versionAt_5 : decode cX0_versionAt 5 = .ok (.iconst 1, 1) := by decide +kernel
theorem dX0_versionAt_6 : decode cX0_versionAt 6 = .ok (.isub, 1) := by decide +kernel
theorem dX0_versionAt_7 : decode cX0_versionAt 7 = .ok (.istore_n 2, 1) := by decide +kernel
theorem dX0_versionAt_8 : decode cX0_versionAt 8 = .ok (.iload_n 2, 1) := by decide +kernel
theorem dX0_versionAt_9 : decode cX0_versionAt 9 = .ok (.ifCond .lt 21, 3) := by decide +kernel
theorem dX0_versionAt_30 : decode cX0_versionAt 30 = .ok (.iconst (-1), 1) := by decide +kernel
theorem dX0_versionAt_31 : decode cX0_versionAt 31 = .ok (.ireturn, 1) := by decide +kernel
theorem dX0_versionAt_12 : decode cX0_versionAt 12 = .ok (.aload_n 0, 1) := by decide +kernel
theorem dX0_versionAt_13 : decode cX0_versionAt 13 = .ok (.getfield 9, 3) := by decide +kernel
theorem dX0_versionAt_16 : decode cX0_versionAt 16 = .ok (.iload_n 2, 1) := by decide +kernel
theorem dX0_versionAt_17 : decode cX0_versionAt 17 = .ok (.iaload, 1) := by decide +kernel
theorem dX0_versionAt_18 : decode cX0_versionAt 18 = .ok (.iload_n 1, 1) := by decide +kernel
theorem dX0_versionAt_19 : decode cX0_versionAt 19 = .ok (.if_icmp .gt 5, 3) := by decide +kernel
theorem dX0_versionAt_24 : decode cX0_versionAt 24 = .ok (.iinc 2 (-1), 3) := by decide +kernel
theorem dX0_versionAt_27 : decode cX0_versionAt 27 = .ok (.goto (-19), 3) := by decide +kernel
theorem dX0_versionAt_22 : decode cX0_versionAt 22 = .ok (.iload_n 2, 1) := by decide +kernel
theorem dX0_versionAt_23 : decode cX0_versionAt 23 = .ok (.ireturn, 1) := by decide +kernel
def v_X0_versionAt (a0 : Nat) (p1 : Int32) (T : zT) (F : zF) (Post : Int32 → Prop) : Prop :=
  (T a0 = some (1, 5) ∧ ∃ x3 : Nat, F a0 0 = .ref x3 ∧ ∃ n4 : Nat, T x3 = some (100, n4) ∧ (∃ I6 : Nat → Int32 → Prop, (∃ n8 : Nat, I6 n8 ((nI n4) - 1)) ∧ (∀ (n7 : Nat) (y9 : Int32), I6 n7 y9 → ((y9 < 0 → Post ((-1))) ∧ (¬ y9 < 0 → (vp_in y9 n4 ∧ ∃ x13 : Int32, F x3 (y9).toNatClampNeg = .int x13 ∧ ((p1 < x13 → (∃ n15 : Nat, n15 < n7 ∧ I6 n15 (y9 + (-1)))) ∧ (¬ p1 < x13 → Post y9))))))))
set_option maxRecDepth 100000 in
set_option maxHeartbeats 4000000 in
theorem k_X0_versionAt {l : Launch} {D : va_G} {cA : Nat → ClassId} {N0 zE : Nat} {a0 : Nat} {p1 : Int32} {T : zT} {F : zF} {Post : Int32 → Prop} (h : v_X0_versionAt a0 p1 T F Post) : z_Mt l D cA N0 zE yX0_versionAt cX0_versionAt 3 (some .int) ({ frames := 0, cells := 0, slots := 0, locals := 0 } : Room) [.ref a0, .int p1] T F (fun v T' F' => ∃ r : Int32, v = some (.int r) ∧ T = T' ∧ F = F' ∧ Post r) := by
  unfold v_X0_versionAt at h
  refine z_bodyT (by decide) (Nat.le_of_ble_eq_true rfl) ?_
  intro p e s m args below meth c C hnm
  have C : z_C p l s m args meth c RX0 cX0_versionAt 3 (some .int) D cA N0 zE := C
  show z_w p l e ({ frames := 0, cells := 0, slots := 0, locals := 0 } : Room) s m args below meth c D cA N0 3 0 0 (MQ below (z_Qc D cA N0 (fun v T' F' => ∃ r : Int32, v = some (.int r) ∧ T = T' ∧ F = F' ∧ Post r)) args s 0 0 (fun q => N0 ≤ q)) 0 [(0, .ref a0), (1, .int p1)] [] T F
  refine zr_aload_n C 0 dX0_versionAt_0 rfl rfl ?_
  obtain ⟨hT1, x3, hv2, h⟩ := h
  refine zr_get C fl_X0_9 hT1 hv2 dX0_versionAt_1 ?_
  obtain ⟨n4, hT5, h⟩ := h
  refine zr_alen C hT5 (by decide) rfl dX0_versionAt_4 ?_
  refine zr_iconst C 1 dX0_versionAt_5 (by decide) ?_
  refine zr_isub C dX0_versionAt_6 ?_
  refine zr_istore_n C [(2, .int ((nI n4) - 1)), (0, .ref a0), (1, .int p1)] dX0_versionAt_7 rfl (by decide) rfl ?_
  obtain ⟨I6, ⟨n8, h017⟩, hI16⟩ := h
  have ky18 : ∀ (n7 : Nat) (y9 : Int32), I6 n7 y9 → z_w p l e ({ frames := 0, cells := 0, slots := 0, locals := 0 } : Room) s m args below meth c D cA N0 3 0 0 (MQ below (z_Qc D cA N0 (fun v T' F' => ∃ r : Int32, v = some (.int r) ∧ T = T' ∧ F = F' ∧ Post r)) args s 0 0 (fun q => N0 ≤ q)) 8 [(0, .ref a0), (1, .int p1), (2, .int y9)] [] T F := by
    intro n7
    induction n7 using Nat.strongRecOn with
    | _ n7 ih10 =>
      intro y9 hin
      have h := hI16 n7 y9 hin
      refine zr_iload_n C 2 dX0_versionAt_8 rfl rfl ?_
      obtain ⟨h1, h2⟩ := h
      refine zr_if_lt C 30 dX0_versionAt_9 (by decide) (fun hc => ?_) (fun hc => ?_)
      · have h := h1 hc
        clear h1 h2
        refine zr_iconst C (-1) dX0_versionAt_30 (by decide) ?_
        exact zr_iret C rfl ⟨_, rfl, rfl, rfl, h⟩ (Nat.le_of_ble_eq_true rfl) (Nat.le_of_ble_eq_true rfl) dX0_versionAt_31
      · have h := h2 hc
        clear h1 h2
        refine zr_aload_n C 0 dX0_versionAt_12 rfl rfl ?_
        refine zr_get C fl_X0_9 hT1 hv2 dX0_versionAt_13 ?_
        refine zr_iload_n C 2 dX0_versionAt_16 rfl rfl ?_
        obtain ⟨hi12, x13, hv14, h⟩ := h
        refine zr_iald C rfl hT5 hi12 hv14 dX0_versionAt_17 ?_
        refine zr_iload_n C 1 dX0_versionAt_18 rfl rfl ?_
        obtain ⟨h1, h2⟩ := h
        refine zr_icmp_gt C 24 dX0_versionAt_19 (by decide) (fun hc => ?_) (fun hc => ?_)
        · have h := h1 hc
          clear h1 h2
          refine zr_iinc C [(2, .int (y9 + (-1))), (0, .ref a0), (1, .int p1)] 2 dX0_versionAt_24 rfl rfl (by decide) rfl ?_
          refine zr_goto C 8 dX0_versionAt_27 (by decide) ?_
          obtain ⟨n15, hlt, h⟩ := h
          exact zr_sub [1, 2, 0] rfl (ih10 n15 hlt (y9 + (-1)) h)
        · have h := h2 hc
          clear h1 h2
          refine zr_iload_n C 2 dX0_versionAt_22 rfl rfl ?_
          exact zr_iret C rfl ⟨_, rfl, rfl, rfl, h⟩ (Nat.le_of_ble_eq_true rfl) (Nat.le_of_ble_eq_true rfl) dX0_versionAt_23
  exact zr_sub [1, 2, 0] rfl (ky18 n8 ((nI n4) - 1) h017)
theorem dX0_isGranted_0 : decode cX0_isGranted 0 = .ok (.aload_n 0, 1) := by decide +kernel
theorem dX0_isGranted_1 : decode cX0_isGranted 1 = .ok (.getfield 19, 3) := by decide +kernel
theorem dX0_isGranted_4 : decode cX0_isGranted 4 = .ok (.iload_n 1, 1) := by decide +kernel
theorem dX0_isGranted_5 : decode cX0_isGranted 5 = .ok (.ishr, 1) := by decide +kernel
theorem dX0_isGranted_6 : decode cX0_isGranted 6 = .ok (.iconst 1, 1) := by decide +kernel
theorem dX0_isGranted_7 : decode cX0_isGranted 7 = .ok (.iand, 1) := by decide +kernel
theorem dX0_isGranted_8 : decode cX0_isGranted 8 = .ok (.ifCond .eq 23, 3) := by decide +kernel
theorem dX0_isGranted_31 : decode cX0_isGranted 31 = .ok (.iconst 0, 1) := by decide +kernel
theorem dX0_isGranted_32 : decode cX0_isGranted 32 = .ok (.ireturn, 1) := by decide +kernel
theorem dX0_isGranted_11 : decode cX0_isGranted 11 = .ok (.aload_n 0, 1) := by decide +kernel
theorem dX0_isGranted_12 : decode cX0_isGranted 12 = .ok (.getfield 22, 3) := by decide +kernel
theorem dX0_isGranted_15 : decode cX0_isGranted 15 = .ok (.iload_n 2, 1) := by decide +kernel
theorem dX0_isGranted_16 : decode cX0_isGranted 16 = .ok (.if_icmp .gt 15, 3) := by decide +kernel
theorem dX0_isGranted_19 : decode cX0_isGranted 19 = .ok (.iload_n 3, 1) := by decide +kernel
theorem dX0_isGranted_20 : decode cX0_isGranted 20 = .ok (.aload_n 0, 1) := by decide +kernel
theorem dX0_isGranted_21 : decode cX0_isGranted 21 = .ok (.getfield 25, 3) := by decide +kernel
theorem dX0_isGranted_24 : decode cX0_isGranted 24 = .ok (.if_icmp .gt 7, 3) := by decide +kernel
theorem dX0_isGranted_27 : decode cX0_isGranted 27 = .ok (.iconst 1, 1) := by decide +kernel
theorem dX0_isGranted_28 : decode cX0_isGranted 28 = .ok (.goto 4, 3) := by decide +kernel
def v_X0_isGranted (a0 : Nat) (p1 : Int32) (p2 : Int32) (p3 : Int32) (T : zT) (F : zF) (Post : Int32 → Prop) : Prop :=
  (T a0 = some (1, 5) ∧ ∃ x3 : Int32, F a0 2 = .int x3 ∧ ((((x3 >>> (p1 &&& 31)) &&& 1) = 0 → Post 0) ∧ (¬ ((x3 >>> (p1 &&& 31)) &&& 1) = 0 → (∃ x5 : Int32, F a0 3 = .int x5 ∧ ((p2 < x5 → Post 0) ∧ (¬ p2 < x5 → (∃ x7 : Int32, F a0 4 = .int x7 ∧ ((x7 < p3 → Post 0) ∧ (¬ x7 < p3 → Post 1)))))))))
set_option maxRecDepth 100000 in
set_option maxHeartbeats 4000000 in
theorem k_X0_isGranted {l : Launch} {D : va_G} {cA : Nat → ClassId} {N0 zE : Nat} {a0 : Nat} {p1 : Int32} {p2 : Int32} {p3 : Int32} {T : zT} {F : zF} {Post : Int32 → Prop} (h : v_X0_isGranted a0 p1 p2 p3 T F Post) : z_Mt l D cA N0 zE yX0_isGranted cX0_isGranted 4 (some .boolean) ({ frames := 0, cells := 0, slots := 0, locals := 0 } : Room) [.ref a0, .int p1, .int p2, .int p3] T F (fun v T' F' => ∃ r : Int32, v = some (.int r) ∧ T = T' ∧ F = F' ∧ Post r) := by
  unfold v_X0_isGranted at h
  refine z_bodyT (by decide) (Nat.le_of_ble_eq_true rfl) ?_
  intro p e s m args below meth c C hnm
  have C : z_C p l s m args meth c RX0 cX0_isGranted 4 (some .boolean) D cA N0 zE := C
  show z_w p l e ({ frames := 0, cells := 0, slots := 0, locals := 0 } : Room) s m args below meth c D cA N0 4 0 0 (MQ below (z_Qc D cA N0 (fun v T' F' => ∃ r : Int32, v = some (.int r) ∧ T = T' ∧ F = F' ∧ Post r)) args s 0 0 (fun q => N0 ≤ q)) 0 [(0, .ref a0), (1, .int p1), (2, .int p2), (3, .int p3)] [] T F
  refine zr_aload_n C 0 dX0_isGranted_0 rfl rfl ?_
  obtain ⟨hT1, x3, hv2, h⟩ := h
  refine zr_get C fl_X0_19 hT1 hv2 dX0_isGranted_1 ?_
  refine zr_iload_n C 1 dX0_isGranted_4 rfl rfl ?_
  refine zr_ishr C dX0_isGranted_5 ?_
  refine zr_iconst C 1 dX0_isGranted_6 (by decide) ?_
  refine zr_iand C dX0_isGranted_7 ?_
  obtain ⟨h1, h2⟩ := h
  refine zr_if_eq C 31 dX0_isGranted_8 (by decide) (fun hc => ?_) (fun hc => ?_)
  · have h := h1 hc
    clear h1 h2
    refine zr_iconst C 0 dX0_isGranted_31 (by decide) ?_
    exact zr_zret C rfl (Or.inl rfl) ⟨_, rfl, rfl, rfl, h⟩ (Nat.le_of_ble_eq_true rfl) (Nat.le_of_ble_eq_true rfl) dX0_isGranted_32
  · have h := h2 hc
    clear h1 h2
    refine zr_aload_n C 0 dX0_isGranted_11 rfl rfl ?_
    obtain ⟨x5, hv4, h⟩ := h
    refine zr_get C fl_X0_22 hT1 hv4 dX0_isGranted_12 ?_
    refine zr_iload_n C 2 dX0_isGranted_15 rfl rfl ?_
    obtain ⟨h1, h2⟩ := h
    refine zr_icmp_gt C 31 dX0_isGranted_16 (by decide) (fun hc => ?_) (fun hc => ?_)
    · have h := h1 hc
      clear h1 h2
      refine zr_iconst C 0 dX0_isGranted_31 (by decide) ?_
      exact zr_zret C rfl (Or.inl rfl) ⟨_, rfl, rfl, rfl, h⟩ (Nat.le_of_ble_eq_true rfl) (Nat.le_of_ble_eq_true rfl) dX0_isGranted_32
    · have h := h2 hc
      clear h1 h2
      refine zr_iload_n C 3 dX0_isGranted_19 rfl rfl ?_
      refine zr_aload_n C 0 dX0_isGranted_20 rfl rfl ?_
      obtain ⟨x7, hv6, h⟩ := h
      refine zr_get C fl_X0_25 hT1 hv6 dX0_isGranted_21 ?_
      obtain ⟨h1, h2⟩ := h
      refine zr_icmp_gt C 31 dX0_isGranted_24 (by decide) (fun hc => ?_) (fun hc => ?_)
      · have h := h1 hc
        clear h1 h2
        refine zr_iconst C 0 dX0_isGranted_31 (by decide) ?_
        exact zr_zret C rfl (Or.inl rfl) ⟨_, rfl, rfl, rfl, h⟩ (Nat.le_of_ble_eq_true rfl) (Nat.le_of_ble_eq_true rfl) dX0_isGranted_32
      · have h := h2 hc
        clear h1 h2
        refine zr_iconst C 1 dX0_isGranted_27 (by decide) ?_
        refine zr_goto C 32 dX0_isGranted_28 (by decide) ?_
        exact zr_zret C rfl (Or.inr rfl) ⟨_, rfl, rfl, rfl, h⟩ (Nat.le_of_ble_eq_true rfl) (Nat.le_of_ble_eq_true rfl) dX0_isGranted_32
theorem dX0_firstComes_0 : decode cX0_firstComes 0 = .ok (.bipush 100, 2) := by decide +kernel
theorem dX0_firstComes_2 : decode cX0_firstComes 2 = .ok (.istore_n 1, 1) := by decide +kernel
theorem dX0_firstComes_3 : decode cX0_firstComes 3 = .ok (.iconst 0, 1) := by decide +kernel
theorem dX0_firstComes_4 : decode cX0_firstComes 4 = .ok (.istore_n 2, 1) := by decide +kernel
theorem dX0_firstComes_5 : decode cX0_firstComes 5 = .ok (.iload_n 2, 1) := by decide +kernel
theorem dX0_firstComes_6 : decode cX0_firstComes 6 = .ok (.aload_n 0, 1) := by decide +kernel
theorem dX0_firstComes_7 : decode cX0_firstComes 7 = .ok (.getfield 9, 3) := by decide +kernel
theorem dX0_firstComes_10 : decode cX0_firstComes 10 = .ok (.arraylength, 1) := by decide +kernel
theorem dX0_firstComes_11 : decode cX0_firstComes 11 = .ok (.if_icmp .ge 20, 3) := by decide +kernel
theorem dX0_firstComes_31 : decode cX0_firstComes 31 = .ok (.iload_n 1, 1) := by decide +kernel
theorem dX0_firstComes_32 : decode cX0_firstComes 32 = .ok (.ireturn, 1) := by decide +kernel
theorem dX0_firstComes_14 : decode cX0_firstComes 14 = .ok (.iload_n 1, 1) := by decide +kernel
theorem dX0_firstComes_15 : decode cX0_firstComes 15 = .ok (.aload_n 0, 1) := by decide +kernel
theorem dX0_firstComes_16 : decode cX0_firstComes 16 = .ok (.getfield 9, 3) := by decide +kernel
theorem dX0_firstComes_19 : decode cX0_firstComes 19 = .ok (.iload_n 2, 1) := by decide +kernel
theorem dX0_firstComes_20 : decode cX0_firstComes 20 = .ok (.iaload, 1) := by decide +kernel
theorem dX0_firstComes_21 : decode cX0_firstComes 21 = .ok (.invokestatic 38, 3) := by decide +kernel
theorem dX0_firstComes_24 : decode cX0_firstComes 24 = .ok (.istore_n 1, 1) := by decide +kernel
theorem dX0_firstComes_25 : decode cX0_firstComes 25 = .ok (.iinc 2 1, 3) := by decide +kernel
theorem dX0_firstComes_28 : decode cX0_firstComes 28 = .ok (.goto (-23), 3) := by decide +kernel
def v_X0_firstComes (a0 : Nat) (T : zT) (F : zF) (Post : Int32 → Prop) : Prop :=
  (∃ I1 : Nat → Int32 → Int32 → Prop, (∃ n3 : Nat, I1 n3 100 0) ∧ (∀ (n2 : Nat) (y4 : Int32) (y5 : Int32), I1 n2 y4 y5 → (T a0 = some (1, 5) ∧ ∃ x10 : Nat, F a0 0 = .ref x10 ∧ ∃ n11 : Nat, T x10 = some (100, n11) ∧ (((nI n11) ≤ y5 → Post y4) ∧ (¬ (nI n11) ≤ y5 → (vp_in y5 n11 ∧ ∃ x14 : Int32, F x10 (y5).toNatClampNeg = .int x14 ∧ (∃ n16 : Nat, n16 < n2 ∧ I1 n16 (if x14 < y4 then x14 else y4) (y5 + 1))))))))
set_option maxRecDepth 100000 in
set_option maxHeartbeats 4000000 in
theorem k_X0_firstComes {l : Launch} {D : va_G} {cA : Nat → ClassId} {N0 zE : Nat} {a0 : Nat} {T : zT} {F : zF} {Post : Int32 → Prop} (h : v_X0_firstComes a0 T F Post) : z_Mt l D cA N0 zE yX0_firstComes cX0_firstComes 3 (some .int) ({ frames := 1, cells := 0, slots := 0, locals := 21 } : Room) [.ref a0] T F (fun v T' F' => ∃ r : Int32, v = some (.int r) ∧ T = T' ∧ F = F' ∧ Post r) := by
  unfold v_X0_firstComes at h
  refine z_bodyT (by decide) (Nat.le_of_ble_eq_true rfl) ?_
  intro p e s m args below meth c C hnm
  have C : z_C p l s m args meth c RX0 cX0_firstComes 3 (some .int) D cA N0 zE := C
  show z_w p l e ({ frames := 1, cells := 0, slots := 0, locals := 21 } : Room) s m args below meth c D cA N0 3 0 0 (MQ below (z_Qc D cA N0 (fun v T' F' => ∃ r : Int32, v = some (.int r) ∧ T = T' ∧ F = F' ∧ Post r)) args s 0 0 (fun q => N0 ≤ q)) 0 [(0, .ref a0)] [] T F
  refine zr_bipush C 100 dX0_firstComes_0 (by decide) ?_
  refine zr_istore_n C [(1, .int 100), (0, .ref a0)] dX0_firstComes_2 rfl (by decide) rfl ?_
  refine zr_iconst C 0 dX0_firstComes_3 (by decide) ?_
  refine zr_istore_n C [(2, .int 0), (1, .int 100), (0, .ref a0)] dX0_firstComes_4 rfl (by decide) rfl ?_
  obtain ⟨I1, ⟨n3, h018⟩, hI17⟩ := h
  have ky19 : ∀ (n2 : Nat) (y4 : Int32) (y5 : Int32), I1 n2 y4 y5 → z_w p l e ({ frames := 1, cells := 0, slots := 0, locals := 21 } : Room) s m args below meth c D cA N0 3 0 0 (MQ below (z_Qc D cA N0 (fun v T' F' => ∃ r : Int32, v = some (.int r) ∧ T = T' ∧ F = F' ∧ Post r)) args s 0 0 (fun q => N0 ≤ q)) 5 [(0, .ref a0), (1, .int y4), (2, .int y5)] [] T F := by
    intro n2
    induction n2 using Nat.strongRecOn with
    | _ n2 ih6 =>
      intro y4 y5 hin
      have h := hI17 n2 y4 y5 hin
      refine zr_iload_n C 2 dX0_firstComes_5 rfl rfl ?_
      refine zr_aload_n C 0 dX0_firstComes_6 rfl rfl ?_
      obtain ⟨hT8, x10, hv9, h⟩ := h
      refine zr_get C fl_X0_9 hT8 hv9 dX0_firstComes_7 ?_
      obtain ⟨n11, hT12, h⟩ := h
      refine zr_alen C hT12 (by decide) rfl dX0_firstComes_10 ?_
      obtain ⟨h1, h2⟩ := h
      refine zr_icmp_ge C 31 dX0_firstComes_11 (by decide) (fun hc => ?_) (fun hc => ?_)
      · have h := h1 hc
        clear h1 h2
        refine zr_iload_n C 1 dX0_firstComes_31 rfl rfl ?_
        exact zr_iret C rfl ⟨_, rfl, rfl, rfl, h⟩ (Nat.le_of_ble_eq_true rfl) (Nat.le_of_ble_eq_true rfl) dX0_firstComes_32
      · have h := h2 hc
        clear h1 h2
        refine zr_iload_n C 1 dX0_firstComes_14 rfl rfl ?_
        refine zr_aload_n C 0 dX0_firstComes_15 rfl rfl ?_
        refine zr_get C fl_X0_9 hT8 hv9 dX0_firstComes_16 ?_
        refine zr_iload_n C 2 dX0_firstComes_19 rfl rfl ?_
        obtain ⟨hi13, x14, hv15, h⟩ := h
        refine zr_iald C rfl hT12 hi13 hv15 dX0_firstComes_20 ?_
        refine zr_min C zq_469 zq_258 zq_29 zq_259 (by decide) (Nat.le_of_ble_eq_true rfl) (Nat.le_of_ble_eq_true rfl) (Nat.le_of_ble_eq_true rfl) dX0_firstComes_21 ?_
        refine zr_istore_n C [(1, .int (if x14 < y4 then x14 else y4)), (0, .ref a0), (2, .int y5)] dX0_firstComes_24 rfl (by decide) rfl ?_
        refine zr_iinc C [(2, .int (y5 + 1)), (1, .int (if x14 < y4 then x14 else y4)), (0, .ref a0)] 2 dX0_firstComes_25 rfl rfl (by decide) rfl ?_
        refine zr_goto C 5 dX0_firstComes_28 (by decide) ?_
        obtain ⟨n16, hlt, h⟩ := h
        exact zr_sub [2, 1, 0] rfl (ih6 n16 hlt (if x14 < y4 then x14 else y4) (y5 + 1) h)
  exact zr_sub [2, 1, 0] rfl (ky19 n3 100 0 h018)
end
section
theorem dX2_init_0 : decode cX2_init 0 = .ok (.aload_n 0, 1) := by decide +kernel
theorem dX2_init_1 : decode cX2_init 1 = .ok (.invokespecial 3, 3) := by decide +kernel
theorem dX2_init_4 : decode cX2_init 4 = .ok (.aload_n 0, 1) := by decide +kernel
theorem dX2_init_5 : decode cX2_init 5 = .ok (.new 9, 3) := by decide +kernel
theorem dX2_init_8 : decode cX2_init 8 = .ok (.dup, 1) := by decide +kernel
theorem dX2_init_12 : decode cX2_init 12 = .ok (.putfield 12, 3) := by decide +kernel
theorem dX2_init_15 : decode cX2_init 15 = .ok (.aload_n 0, 1) := by decide +kernel
theorem dX2_init_16 : decode cX2_init 16 = .ok (.iconst 4, 1) := by decide +kernel
theorem dX2_init_17 : decode cX2_init 17 = .ok (.bipush 16, 2) := by decide +kernel
theorem dX2_init_19 : decode cX2_init 19 = .ok (.multianewarray 18 2, 4) := by decide +kernel
theorem dX2_init_23 : decode cX2_init 23 = .ok (.putfield 20, 3) := by decide +kernel
theorem dX2_init_26 : decode cX2_init 26 = .ok (.aload_n 0, 1) := by decide +kernel
theorem dX2_init_27 : decode cX2_init 27 = .ok (.iload_n 1, 1) := by decide +kernel
theorem dX2_init_28 : decode cX2_init 28 = .ok (.putfield 23, 3) := by decide +kernel
theorem dX2_init_31 : decode cX2_init 31 = .ok (.aload_n 0, 1) := by decide +kernel
theorem dX2_init_32 : decode cX2_init 32 = .ok (.iload_n 2, 1) := by decide +kernel
theorem dX2_init_33 : decode cX2_init 33 = .ok (.putfield 27, 3) := by decide +kernel
theorem dX2_init_36 : decode cX2_init 36 = .ok (.aload_n 0, 1) := by decide +kernel
theorem dX2_init_37 : decode cX2_init 37 = .ok (.iload_n 3, 1) := by decide +kernel
theorem dX2_init_38 : decode cX2_init 38 = .ok (.putfield 30, 3) := by decide +kernel
theorem dX2_init_41 : decode cX2_init 41 = .ok (.iconst 0, 1) := by decide +kernel
theorem dX2_init_42 : decode cX2_init 42 = .ok (.istore 4, 2) := by decide +kernel
theorem dX2_init_44 : decode cX2_init 44 = .ok (.iload 4, 2) := by decide +kernel
theorem dX2_init_46 : decode cX2_init 46 = .ok (.aload_n 0, 1) := by decide +kernel
theorem dX2_init_47 : decode cX2_init 47 = .ok (.getfield 20, 3) := by decide +kernel
theorem dX2_init_50 : decode cX2_init 50 = .ok (.arraylength, 1) := by decide +kernel
theorem dX2_init_51 : decode cX2_init 51 = .ok (.if_icmp .ge 20, 3) := by decide +kernel
theorem dX2_init_71 : decode cX2_init 71 = .ok (.return_, 1) := by decide +kernel
theorem dX2_init_54 : decode cX2_init 54 = .ok (.aload_n 0, 1) := by decide +kernel
theorem dX2_init_55 : decode cX2_init 55 = .ok (.getfield 20, 3) := by decide +kernel
theorem dX2_init_58 : decode cX2_init 58 = .ok (.iload 4, 2) := by decide +kernel
theorem dX2_init_60 : decode cX2_init 60 = .ok (.aaload, 1) := by decide +kernel
theorem dX2_init_61 : decode cX2_init 61 = .ok (.iconst (-1), 1) := by decide +kernel
theorem dX2_init_65 : decode cX2_init 65 = .ok (.iinc 4 1, 3) := by decide +kernel
theorem dX2_init_68 : decode cX2_init 68 = .ok (.goto (-24), 3) := by decide +kernel
theorem dX2_init_62 : decode cX2_init 62 = .ok (.invokestatic 33, 3) := by decide +kernel
theorem dX2_init_9 : decode cX2_init 9 = .ok (.invokespecial 11, 3) := by decide +kernel
def v_X2_init (zE : Nat) (a0 : Nat) (p1 : Int32) (p2 : Int32) (p3 : Int32) (T : zT) (F : zF) (Post : zT → zF → Prop) : Prop :=
  (∀ q1 : Nat, (∀ b, q1 ≤ b → T b = none) → (v_Jx4a65c_init_da8c8 zE q1 (zn T q1 (0, 3)) (zm F q1 (fun j => defaultValue (tyJx4a65c j))) (fun (F3 : zF) => (zn T q1 (0, 3) a0 = some (3, 5) ∧ (∀ q5 : Nat, (∀ b, q5 ≤ b → (zn T q1 (0, 3)) b = none) → (znm (zn T q1 (0, 3)) q5 4 16 a0 = some (3, 5) ∧ (∃ I14 : Nat → Int32 → zF → Prop, (∃ n16 : Nat, I14 n16 0 (zu (zu (zu (zu (zmm (zu F3 a0 3 (.ref q1)) q5 4) a0 4 (.ref q5)) a0 0 (.int p1)) a0 1 (.int p2)) a0 2 (.int p3))) ∧ (∀ (n15 : Nat) (y17 : Int32) (F18 : zF), I14 n15 y17 F18 → (∃ x22 : Nat, F18 a0 4 = .ref x22 ∧ ∃ n23 : Nat, znm (zn T q1 (0, 3)) q5 4 16 x22 = some (102, n23) ∧ (((nI n23) ≤ y17 → Post (znm (zn T q1 (0, 3)) q5 4 16) F18) ∧ (¬ (nI n23) ≤ y17 → (vp_in y17 n23 ∧ ∃ x26 : Nat, F18 x22 (y17).toNatClampNeg = .ref x26 ∧ (v_J7_fill_53178 x26 ((-1)) (znm (zn T q1 (0, 3)) q5 4 16) F18 (fun (F28 : zF) => (∃ n29 : Nat, n29 < n15 ∧ I14 n29 (y17 + 1) F28)))))))))))))))
set_option maxRecDepth 100000 in
set_option maxHeartbeats 4000000 in
theorem k_X2_init {l : Launch} {D : va_G} {cA : Nat → ClassId} {N0 zE : Nat} {a0 : Nat} {p1 : Int32} {p2 : Int32} {p3 : Int32} {T : zT} {F : zF} {Post : zT → zF → Prop} (h : v_X2_init zE a0 p1 p2 p3 T F Post) : z_Mt l D cA N0 zE yX2_init cX2_init 5 none ({ frames := 4, cells := 6, slots := 71, locals := 80 } : Room) [.ref a0, .int p1, .int p2, .int p3] T F (fun v T' F' => v = none ∧ Post T' F') := by
  unfold v_X2_init at h
  refine z_bodyT (by decide) (Nat.le_of_ble_eq_true rfl) ?_
  intro p e s m args below meth c C hnm
  have C : z_C p l s m args meth c RX2 cX2_init 5 none D cA N0 zE := C
  show z_w p l e ({ frames := 4, cells := 6, slots := 71, locals := 80 } : Room) s m args below meth c D cA N0 5 0 0 (MQ below (z_Qc D cA N0 (fun v T' F' => v = none ∧ Post T' F')) args s 6 71 (fun q => N0 ≤ q)) 0 [(0, .ref a0), (1, .int p1), (2, .int p2), (3, .int p3)] [] T F
  refine zr_aload_n C 0 dX2_init_0 rfl rfl ?_
  refine zr_objInit C zq_350 zq_44 zq_45 (by decide) (Nat.le_of_ble_eq_true rfl) dX2_init_1 ?_
  refine zr_aload_n C 0 dX2_init_4 rfl rfl ?_
  refine zr_new C nw_X2_9 (Nat.le_of_ble_eq_true rfl) (Nat.le_of_ble_eq_true rfl) dX2_init_5 (fun q1 hq2 => ?_)
  have h := h q1 hq2
  refine zr_dup C dX2_init_8 rfl ?_
  refine zr_callI (As := []) C (k_Jx4a65c_init_da8c8 h) ok_X2_11 zq_49 rfl rfl ⟨by decide, (Nat.le_of_ble_eq_true rfl)⟩ ⟨(Nat.le_of_ble_eq_true rfl), (Nat.le_of_ble_eq_true rfl)⟩ (Nat.le_of_ble_eq_true rfl) dX2_init_9 (fun v36 U37 G38 hq => ?_)
  clear h
  · obtain ⟨rfl, rfl, h⟩ := hq
    obtain ⟨hT4, h⟩ := h
    refine zr_putF C fl_X2_12 fd_X2_12 hT4 rfl rfl hnm dX2_init_12 ?_
    refine zr_aload_n C 0 dX2_init_15 rfl rfl ?_
    refine zr_iconst C 4 dX2_init_16 (by decide) ?_
    refine zr_bipush C 16 dX2_init_17 (by decide) ?_
    refine zr_multi (n := 4) (k := 16) C rfl rfl zq_353 zq_93 (by decide) (by decide) (by decide) (by decide) (Nat.le_of_ble_eq_true rfl) (Nat.le_of_ble_eq_true rfl) dX2_init_19 (fun q5 hq6 => ?_)
    have h := h q5 hq6
    obtain ⟨hT7, h⟩ := h
    refine zr_putF C fl_X2_20 fd_X2_20 hT7 rfl rfl hnm dX2_init_23 ?_
    refine zr_aload_n C 0 dX2_init_26 rfl rfl ?_
    refine zr_iload_n C 1 dX2_init_27 rfl rfl ?_
    refine zr_putF C fl_X2_23 fd_X2_23 hT7 rfl rfl hnm dX2_init_28 ?_
    refine zr_aload_n C 0 dX2_init_31 rfl rfl ?_
    refine zr_iload_n C 2 dX2_init_32 rfl rfl ?_
    refine zr_putF C fl_X2_27 fd_X2_27 hT7 rfl rfl hnm dX2_init_33 ?_
    refine zr_aload_n C 0 dX2_init_36 rfl rfl ?_
    refine zr_iload_n C 3 dX2_init_37 rfl rfl ?_
    refine zr_putF C fl_X2_30 fd_X2_30 hT7 rfl rfl hnm dX2_init_38 ?_
    refine zr_iconst C 0 dX2_init_41 (by decide) ?_
    refine zr_istore C [(4, .int 0), (0, .ref a0), (1, .int p1), (2, .int p2), (3, .int p3)] dX2_init_42 (by decide) rfl ?_
    obtain ⟨I14, ⟨n16, h034⟩, hI33⟩ := h
    have ky35 : ∀ (n15 : Nat) (y17 : Int32) (F18 : zF), I14 n15 y17 F18 → z_w p l e ({ frames := 4, cells := 6, slots := 71, locals := 80 } : Room) s m args below meth c D cA N0 5 6 71 (MQ below (z_Qc D cA N0 (fun v T' F' => v = none ∧ Post T' F')) args s 6 71 (fun q => N0 ≤ q)) 44 [(0, .ref a0), (1, .int p1), (2, .int p2), (3, .int p3), (4, .int y17)] [] (znm (zn T q1 (0, 3)) q5 4 16) F18 := by
      intro n15
      induction n15 using Nat.strongRecOn with
      | _ n15 ih19 =>
        intro y17 F18 hin
        have h := hI33 n15 y17 F18 hin
        refine zr_iload C 4 dX2_init_44 rfl ?_
        refine zr_aload_n C 0 dX2_init_46 rfl rfl ?_
        obtain ⟨x22, hv21, h⟩ := h
        refine zr_get C fl_X2_20 hT7 hv21 dX2_init_47 ?_
        obtain ⟨n23, hT24, h⟩ := h
        refine zr_alen C hT24 (by decide) rfl dX2_init_50 ?_
        obtain ⟨h1, h2⟩ := h
        refine zr_icmp_ge C 71 dX2_init_51 (by decide) (fun hc => ?_) (fun hc => ?_)
        · have h := h1 hc
          clear h1 h2
          exact zr_vret C rfl ⟨rfl, h⟩ (Nat.le_of_ble_eq_true rfl) (Nat.le_of_ble_eq_true rfl) dX2_init_71
        · have h := h2 hc
          clear h1 h2
          refine zr_aload_n C 0 dX2_init_54 rfl rfl ?_
          refine zr_get C fl_X2_20 hT7 hv21 dX2_init_55 ?_
          refine zr_iload C 4 dX2_init_58 rfl ?_
          obtain ⟨hi25, x26, hv27, h⟩ := h
          refine zr_aald C hT24 (by decide) rfl rfl hi25 hv27 dX2_init_60 ?_
          refine zr_iconst C (-1) dX2_init_61 (by decide) ?_
          refine zr_callS (As := [.ref x26, .int ((-1))]) C (k_J7_fill_53178 h) ok_X2_33 zq_190 rfl ⟨by decide, (Nat.le_of_ble_eq_true rfl)⟩ ⟨(Nat.le_of_ble_eq_true rfl), (Nat.le_of_ble_eq_true rfl)⟩ (Nat.le_of_ble_eq_true rfl) dX2_init_62 (fun v30 U31 G32 hq => ?_)
          clear h
          · obtain ⟨rfl, rfl, h⟩ := hq
            refine zr_iinc C [(4, .int (y17 + 1)), (0, .ref a0), (1, .int p1), (2, .int p2), (3, .int p3)] 4 dX2_init_65 rfl rfl (by decide) rfl ?_
            refine zr_goto C 44 dX2_init_68 (by decide) ?_
            obtain ⟨n29, hlt, h⟩ := h
            exact zr_sub [1, 2, 3, 4, 0] rfl (ih19 n29 hlt (y17 + 1) G32 h)
    exact zr_sub [1, 2, 3, 4, 0] rfl (ky35 n16 0 (zu (zu (zu (zu (zmm (zu G38 a0 3 (.ref q1)) q5 4) a0 4 (.ref q5)) a0 0 (.int p1)) a0 1 (.int p2)) a0 2 (.int p3)) h034)
theorem dX2_isLaidOn_0 : decode cX2_isLaidOn 0 = .ok (.iconst 0, 1) := by decide +kernel
theorem dX2_isLaidOn_1 : decode cX2_isLaidOn 1 = .ok (.istore_n 2, 1) := by decide +kernel
theorem dX2_isLaidOn_2 : decode cX2_isLaidOn 2 = .ok (.iload_n 2, 1) := by decide +kernel
theorem dX2_isLaidOn_3 : decode cX2_isLaidOn 3 = .ok (.aload_n 0, 1) := by decide +kernel
theorem dX2_isLaidOn_4 : decode cX2_isLaidOn 4 = .ok (.getfield 12, 3) := by decide +kernel
theorem dX2_isLaidOn_10 : decode cX2_isLaidOn 10 = .ok (.if_icmp .ge 30, 3) := by decide +kernel
theorem dX2_isLaidOn_40 : decode cX2_isLaidOn 40 = .ok (.iconst 1, 1) := by decide +kernel
theorem dX2_isLaidOn_41 : decode cX2_isLaidOn 41 = .ok (.ireturn, 1) := by decide +kernel
theorem dX2_isLaidOn_13 : decode cX2_isLaidOn 13 = .ok (.aload_n 0, 1) := by decide +kernel
theorem dX2_isLaidOn_14 : decode cX2_isLaidOn 14 = .ok (.getfield 12, 3) := by decide +kernel
theorem dX2_isLaidOn_17 : decode cX2_isLaidOn 17 = .ok (.iload_n 2, 1) := by decide +kernel
theorem dX2_isLaidOn_21 : decode cX2_isLaidOn 21 = .ok (.checkcast 47, 3) := by decide +kernel
theorem dX2_isLaidOn_24 : decode cX2_isLaidOn 24 = .ok (.iload_n 1, 1) := by decide +kernel
theorem dX2_isLaidOn_28 : decode cX2_isLaidOn 28 = .ok (.iconst (-1), 1) := by decide +kernel
theorem dX2_isLaidOn_29 : decode cX2_isLaidOn 29 = .ok (.if_icmp .ne 5, 3) := by decide +kernel
theorem dX2_isLaidOn_34 : decode cX2_isLaidOn 34 = .ok (.iinc 2 1, 3) := by decide +kernel
theorem dX2_isLaidOn_37 : decode cX2_isLaidOn 37 = .ok (.goto (-35), 3) := by decide +kernel
theorem dX2_isLaidOn_32 : decode cX2_isLaidOn 32 = .ok (.iconst 0, 1) := by decide +kernel
theorem dX2_isLaidOn_33 : decode cX2_isLaidOn 33 = .ok (.ireturn, 1) := by decide +kernel
theorem dX2_isLaidOn_25 : decode cX2_isLaidOn 25 = .ok (.invokevirtual 49, 3) := by decide +kernel
theorem dX2_isLaidOn_18 : decode cX2_isLaidOn 18 = .ok (.invokevirtual 43, 3) := by decide +kernel
theorem dX2_isLaidOn_7 : decode cX2_isLaidOn 7 = .ok (.invokevirtual 39, 3) := by decide +kernel
def v_X2_isLaidOn (a0 : Nat) (p1 : Int32) (T : zT) (F : zF) (Post : Int32 → Prop) : Prop :=
  (∃ I1 : Nat → Int32 → Prop, (∃ n3 : Nat, I1 n3 0) ∧ (∀ (n2 : Nat) (y4 : Int32), I1 n2 y4 → (T a0 = some (3, 5) ∧ ∃ x9 : Nat, F a0 3 = .ref x9 ∧ T x9 = some (0, 3) ∧ (v_Jx4a65c_size_8abf5 x9 T F (fun (r11 : Int32) => ((r11 ≤ y4 → Post 1) ∧ (¬ r11 ≤ y4 → (v_Jx4a65c_get_915e3 x9 y4 T F (fun (r12 : Nat) => (T r12 = some (1, 5) ∧ (v_X0_versionAt r12 p1 T F (fun (r14 : Int32) => ((¬ r14 = ((-1)) → (∃ n15 : Nat, n15 < n2 ∧ I1 n15 (y4 + 1))) ∧ (r14 = ((-1)) → Post 0))))))))))))))
set_option maxRecDepth 100000 in
set_option maxHeartbeats 4000000 in
theorem k_X2_isLaidOn {l : Launch} {D : va_G} {cA : Nat → ClassId} {N0 zE : Nat} {a0 : Nat} {p1 : Int32} {T : zT} {F : zF} {Post : Int32 → Prop} (h : v_X2_isLaidOn a0 p1 T F Post) : z_Mt l D cA N0 zE yX2_isLaidOn cX2_isLaidOn 3 (some .boolean) ({ frames := 3, cells := 0, slots := 0, locals := 64 } : Room) [.ref a0, .int p1] T F (fun v T' F' => ∃ r : Int32, v = some (.int r) ∧ T = T' ∧ F = F' ∧ Post r) := by
  unfold v_X2_isLaidOn at h
  refine z_bodyT (by decide) (Nat.le_of_ble_eq_true rfl) ?_
  intro p e s m args below meth c C hnm
  have C : z_C p l s m args meth c RX2 cX2_isLaidOn 3 (some .boolean) D cA N0 zE := C
  show z_w p l e ({ frames := 3, cells := 0, slots := 0, locals := 64 } : Room) s m args below meth c D cA N0 3 0 0 (MQ below (z_Qc D cA N0 (fun v T' F' => ∃ r : Int32, v = some (.int r) ∧ T = T' ∧ F = F' ∧ Post r)) args s 0 0 (fun q => N0 ≤ q)) 0 [(0, .ref a0), (1, .int p1)] [] T F
  refine zr_iconst C 0 dX2_isLaidOn_0 (by decide) ?_
  refine zr_istore_n C [(2, .int 0), (0, .ref a0), (1, .int p1)] dX2_isLaidOn_1 rfl (by decide) rfl ?_
  obtain ⟨I1, ⟨n3, h026⟩, hI25⟩ := h
  have ky27 : ∀ (n2 : Nat) (y4 : Int32), I1 n2 y4 → z_w p l e ({ frames := 3, cells := 0, slots := 0, locals := 64 } : Room) s m args below meth c D cA N0 3 0 0 (MQ below (z_Qc D cA N0 (fun v T' F' => ∃ r : Int32, v = some (.int r) ∧ T = T' ∧ F = F' ∧ Post r)) args s 0 0 (fun q => N0 ≤ q)) 2 [(0, .ref a0), (1, .int p1), (2, .int y4)] [] T F := by
    intro n2
    induction n2 using Nat.strongRecOn with
    | _ n2 ih5 =>
      intro y4 hin
      have h := hI25 n2 y4 hin
      refine zr_iload_n C 2 dX2_isLaidOn_2 rfl rfl ?_
      refine zr_aload_n C 0 dX2_isLaidOn_3 rfl rfl ?_
      obtain ⟨hT7, x9, hv8, h⟩ := h
      refine zr_get C fl_X2_12 hT7 hv8 dX2_isLaidOn_4 ?_
      obtain ⟨hT10, h⟩ := h
      refine zr_callV (As := []) (r := (RJx4a65c, TJx4a65c, 3)) C (k_Jx4a65c_size_8abf5 h) ok_X2_39 zq_112 zq_113 hT10 (by decide) rfl rfl ⟨by decide, (Nat.le_of_ble_eq_true rfl)⟩ ⟨(Nat.le_of_ble_eq_true rfl), (Nat.le_of_ble_eq_true rfl)⟩ (Nat.le_of_ble_eq_true rfl) dX2_isLaidOn_7 (fun v22 U23 G24 hq => ?_)
      clear h
      · obtain ⟨r11, rfl, rfl, rfl, h⟩ := hq
        obtain ⟨h1, h2⟩ := h
        refine zr_icmp_ge C 40 dX2_isLaidOn_10 (by decide) (fun hc => ?_) (fun hc => ?_)
        · have h := h1 hc
          clear h1 h2
          refine zr_iconst C 1 dX2_isLaidOn_40 (by decide) ?_
          exact zr_zret C rfl (Or.inr rfl) ⟨_, rfl, rfl, rfl, h⟩ (Nat.le_of_ble_eq_true rfl) (Nat.le_of_ble_eq_true rfl) dX2_isLaidOn_41
        · have h := h2 hc
          clear h1 h2
          refine zr_aload_n C 0 dX2_isLaidOn_13 rfl rfl ?_
          refine zr_get C fl_X2_12 hT7 hv8 dX2_isLaidOn_14 ?_
          refine zr_iload_n C 2 dX2_isLaidOn_17 rfl rfl ?_
          refine zr_callV (As := [.int y4]) (r := (RJx4a65c, TJx4a65c, 3)) C (k_Jx4a65c_get_915e3 h) ok_X2_43 zq_290 zq_291 hT10 (by decide) rfl rfl ⟨by decide, (Nat.le_of_ble_eq_true rfl)⟩ ⟨(Nat.le_of_ble_eq_true rfl), (Nat.le_of_ble_eq_true rfl)⟩ (Nat.le_of_ble_eq_true rfl) dX2_isLaidOn_18 (fun v19 U20 G21 hq => ?_)
          clear h
          · obtain ⟨r12, rfl, rfl, rfl, h⟩ := hq
            obtain ⟨hT13, h⟩ := h
            refine zr_castS (r := (RX0, TX0, 5)) C hT13 (by decide) rfl zq_451 dX2_isLaidOn_21 ?_
            refine zr_iload_n C 1 dX2_isLaidOn_24 rfl rfl ?_
            refine zr_callV (As := [.int p1]) (r := (RX0, TX0, 5)) C (k_X0_versionAt h) ok_X2_49 zq_425 zq_426 hT13 (by decide) rfl rfl ⟨by decide, (Nat.le_of_ble_eq_true rfl)⟩ ⟨(Nat.le_of_ble_eq_true rfl), (Nat.le_of_ble_eq_true rfl)⟩ (Nat.le_of_ble_eq_true rfl) dX2_isLaidOn_25 (fun v16 U17 G18 hq => ?_)
            clear h
            · obtain ⟨r14, rfl, rfl, rfl, h⟩ := hq
              refine zr_iconst C (-1) dX2_isLaidOn_28 (by decide) ?_
              obtain ⟨h1, h2⟩ := h
              refine zr_icmp_ne C 34 dX2_isLaidOn_29 (by decide) (fun hc => ?_) (fun hc => ?_)
              · have h := h1 hc
                clear h1 h2
                refine zr_iinc C [(2, .int (y4 + 1)), (0, .ref a0), (1, .int p1)] 2 dX2_isLaidOn_34 rfl rfl (by decide) rfl ?_
                refine zr_goto C 2 dX2_isLaidOn_37 (by decide) ?_
                obtain ⟨n15, hlt, h⟩ := h
                exact zr_sub [1, 2, 0] rfl (ih5 n15 hlt (y4 + 1) h)
              · have h := h2 hc
                clear h1 h2
                refine zr_iconst C 0 dX2_isLaidOn_32 (by decide) ?_
                exact zr_zret C rfl (Or.inl rfl) ⟨_, rfl, rfl, rfl, h⟩ (Nat.le_of_ble_eq_true rfl) (Nat.le_of_ble_eq_true rfl) dX2_isLaidOn_33
  exact zr_sub [1, 2, 0] rfl (ky27 n3 0 h026)
theorem dX2_isFitOn_0 : decode cX2_isFitOn 0 = .ok (.iload_n 1, 1) := by decide +kernel
theorem dX2_isFitOn_1 : decode cX2_isFitOn 1 = .ok (.ifCond .lt 12, 3) := by decide +kernel
theorem dX2_isFitOn_13 : decode cX2_isFitOn 13 = .ok (.iconst 0, 1) := by decide +kernel
theorem dX2_isFitOn_14 : decode cX2_isFitOn 14 = .ok (.ireturn, 1) := by decide +kernel
theorem dX2_isFitOn_4 : decode cX2_isFitOn 4 = .ok (.iload_n 1, 1) := by decide +kernel
theorem dX2_isFitOn_5 : decode cX2_isFitOn 5 = .ok (.aload_n 0, 1) := by decide +kernel
theorem dX2_isFitOn_6 : decode cX2_isFitOn 6 = .ok (.getfield 20, 3) := by decide +kernel
theorem dX2_isFitOn_9 : decode cX2_isFitOn 9 = .ok (.arraylength, 1) := by decide +kernel
theorem dX2_isFitOn_10 : decode cX2_isFitOn 10 = .ok (.if_icmp .lt 5, 3) := by decide +kernel
theorem dX2_isFitOn_15 : decode cX2_isFitOn 15 = .ok (.aload_n 0, 1) := by decide +kernel
theorem dX2_isFitOn_16 : decode cX2_isFitOn 16 = .ok (.getfield 20, 3) := by decide +kernel
theorem dX2_isFitOn_19 : decode cX2_isFitOn 19 = .ok (.iload_n 1, 1) := by decide +kernel
theorem dX2_isFitOn_20 : decode cX2_isFitOn 20 = .ok (.aaload, 1) := by decide +kernel
theorem dX2_isFitOn_21 : decode cX2_isFitOn 21 = .ok (.astore_n 3, 1) := by decide +kernel
theorem dX2_isFitOn_22 : decode cX2_isFitOn 22 = .ok (.iconst 0, 1) := by decide +kernel
theorem dX2_isFitOn_23 : decode cX2_isFitOn 23 = .ok (.istore 4, 2) := by decide +kernel
theorem dX2_isFitOn_25 : decode cX2_isFitOn 25 = .ok (.iload 4, 2) := by decide +kernel
theorem dX2_isFitOn_27 : decode cX2_isFitOn 27 = .ok (.aload_n 0, 1) := by decide +kernel
theorem dX2_isFitOn_28 : decode cX2_isFitOn 28 = .ok (.getfield 12, 3) := by decide +kernel
theorem dX2_isFitOn_34 : decode cX2_isFitOn 34 = .ok (.if_icmp .ge 51, 3) := by decide +kernel
theorem dX2_isFitOn_85 : decode cX2_isFitOn 85 = .ok (.iconst 1, 1) := by decide +kernel
theorem dX2_isFitOn_86 : decode cX2_isFitOn 86 = .ok (.ireturn, 1) := by decide +kernel
theorem dX2_isFitOn_37 : decode cX2_isFitOn 37 = .ok (.iload 4, 2) := by decide +kernel
theorem dX2_isFitOn_39 : decode cX2_isFitOn 39 = .ok (.aload_n 3, 1) := by decide +kernel
theorem dX2_isFitOn_40 : decode cX2_isFitOn 40 = .ok (.arraylength, 1) := by decide +kernel
theorem dX2_isFitOn_41 : decode cX2_isFitOn 41 = .ok (.if_icmp .ge 44, 3) := by decide +kernel
theorem dX2_isFitOn_44 : decode cX2_isFitOn 44 = .ok (.aload_n 0, 1) := by decide +kernel
theorem dX2_isFitOn_45 : decode cX2_isFitOn 45 = .ok (.getfield 12, 3) := by decide +kernel
theorem dX2_isFitOn_48 : decode cX2_isFitOn 48 = .ok (.iload 4, 2) := by decide +kernel
theorem dX2_isFitOn_53 : decode cX2_isFitOn 53 = .ok (.checkcast 47, 3) := by decide +kernel
theorem dX2_isFitOn_56 : decode cX2_isFitOn 56 = .ok (.iload_n 2, 1) := by decide +kernel
theorem dX2_isFitOn_60 : decode cX2_isFitOn 60 = .ok (.istore 5, 2) := by decide +kernel
theorem dX2_isFitOn_62 : decode cX2_isFitOn 62 = .ok (.iload 5, 2) := by decide +kernel
theorem dX2_isFitOn_64 : decode cX2_isFitOn 64 = .ok (.iconst (-1), 1) := by decide +kernel
theorem dX2_isFitOn_65 : decode cX2_isFitOn 65 = .ok (.if_icmp .eq 12, 3) := by decide +kernel
theorem dX2_isFitOn_77 : decode cX2_isFitOn 77 = .ok (.iconst 0, 1) := by decide +kernel
theorem dX2_isFitOn_78 : decode cX2_isFitOn 78 = .ok (.ireturn, 1) := by decide +kernel
theorem dX2_isFitOn_68 : decode cX2_isFitOn 68 = .ok (.iload 5, 2) := by decide +kernel
theorem dX2_isFitOn_70 : decode cX2_isFitOn 70 = .ok (.aload_n 3, 1) := by decide +kernel
theorem dX2_isFitOn_71 : decode cX2_isFitOn 71 = .ok (.iload 4, 2) := by decide +kernel
theorem dX2_isFitOn_73 : decode cX2_isFitOn 73 = .ok (.iaload, 1) := by decide +kernel
theorem dX2_isFitOn_74 : decode cX2_isFitOn 74 = .ok (.if_icmp .eq 5, 3) := by decide +kernel
theorem dX2_isFitOn_79 : decode cX2_isFitOn 79 = .ok (.iinc 4 1, 3) := by decide +kernel
theorem dX2_isFitOn_82 : decode cX2_isFitOn 82 = .ok (.goto (-57), 3) := by decide +kernel
theorem dX2_isFitOn_57 : decode cX2_isFitOn 57 = .ok (.invokevirtual 49, 3) := by decide +kernel
theorem dX2_isFitOn_50 : decode cX2_isFitOn 50 = .ok (.invokevirtual 43, 3) := by decide +kernel
theorem dX2_isFitOn_31 : decode cX2_isFitOn 31 = .ok (.invokevirtual 39, 3) := by decide +kernel
def v_X2_isFitOn (a0 : Nat) (p1 : Int32) (p2 : Int32) (T : zT) (F : zF) (Post : Int32 → Prop) : Prop :=
  ((p1 < 0 → Post 0) ∧ (¬ p1 < 0 → (T a0 = some (3, 5) ∧ ∃ x3 : Nat, F a0 4 = .ref x3 ∧ ∃ n4 : Nat, T x3 = some (102, n4) ∧ ((p1 < (nI n4) → (vp_in p1 n4 ∧ ∃ x7 : Nat, F x3 (p1).toNatClampNeg = .ref x7 ∧ (∃ I9 : Nat → Int32 → Prop, (∃ n11 : Nat, I9 n11 0) ∧ (∀ (n10 : Nat) (y12 : Int32), I9 n10 y12 → (∃ x16 : Nat, F a0 3 = .ref x16 ∧ T x16 = some (0, 3) ∧ (v_Jx4a65c_size_8abf5 x16 T F (fun (r18 : Int32) => ((r18 ≤ y12 → Post 1) ∧ (¬ r18 ≤ y12 → (∃ n19 : Nat, T x7 = some (100, n19) ∧ (((nI n19) ≤ y12 → Post 1) ∧ (¬ (nI n19) ≤ y12 → (v_Jx4a65c_get_915e3 x16 y12 T F (fun (r21 : Nat) => (T r21 = some (1, 5) ∧ (v_X0_versionAt r21 p2 T F (fun (r23 : Int32) => ((r23 = ((-1)) → Post 0) ∧ (¬ r23 = ((-1)) → (vp_in y12 n19 ∧ ∃ x25 : Int32, F x7 (y12).toNatClampNeg = .int x25 ∧ ((r23 = x25 → (∃ n27 : Nat, n27 < n10 ∧ I9 n27 (y12 + 1))) ∧ (¬ r23 = x25 → Post 0)))))))))))))))))))))) ∧ (¬ p1 < (nI n4) → Post 0)))))
set_option maxRecDepth 100000 in
set_option maxHeartbeats 4000000 in
theorem k_X2_isFitOn {l : Launch} {D : va_G} {cA : Nat → ClassId} {N0 zE : Nat} {a0 : Nat} {p1 : Int32} {p2 : Int32} {T : zT} {F : zF} {Post : Int32 → Prop} (h : v_X2_isFitOn a0 p1 p2 T F Post) : z_Mt l D cA N0 zE yX2_isFitOn cX2_isFitOn 6 (some .boolean) ({ frames := 3, cells := 0, slots := 0, locals := 64 } : Room) [.ref a0, .int p1, .int p2] T F (fun v T' F' => ∃ r : Int32, v = some (.int r) ∧ T = T' ∧ F = F' ∧ Post r) := by
  unfold v_X2_isFitOn at h
  refine z_bodyT (by decide) (Nat.le_of_ble_eq_true rfl) ?_
  intro p e s m args below meth c C hnm
  have C : z_C p l s m args meth c RX2 cX2_isFitOn 6 (some .boolean) D cA N0 zE := C
  show z_w p l e ({ frames := 3, cells := 0, slots := 0, locals := 64 } : Room) s m args below meth c D cA N0 6 0 0 (MQ below (z_Qc D cA N0 (fun v T' F' => ∃ r : Int32, v = some (.int r) ∧ T = T' ∧ F = F' ∧ Post r)) args s 0 0 (fun q => N0 ≤ q)) 0 [(0, .ref a0), (1, .int p1), (2, .int p2)] [] T F
  refine zr_iload_n C 1 dX2_isFitOn_0 rfl rfl ?_
  obtain ⟨h1, h2⟩ := h
  refine zr_if_lt C 13 dX2_isFitOn_1 (by decide) (fun hc => ?_) (fun hc => ?_)
  · have h := h1 hc
    clear h1 h2
    refine zr_iconst C 0 dX2_isFitOn_13 (by decide) ?_
    exact zr_zret C rfl (Or.inl rfl) ⟨_, rfl, rfl, rfl, h⟩ (Nat.le_of_ble_eq_true rfl) (Nat.le_of_ble_eq_true rfl) dX2_isFitOn_14
  · have h := h2 hc
    clear h1 h2
    refine zr_iload_n C 1 dX2_isFitOn_4 rfl rfl ?_
    refine zr_aload_n C 0 dX2_isFitOn_5 rfl rfl ?_
    obtain ⟨hT1, x3, hv2, h⟩ := h
    refine zr_get C fl_X2_20 hT1 hv2 dX2_isFitOn_6 ?_
    obtain ⟨n4, hT5, h⟩ := h
    refine zr_alen C hT5 (by decide) rfl dX2_isFitOn_9 ?_
    obtain ⟨h1, h2⟩ := h
    refine zr_icmp_lt C 15 dX2_isFitOn_10 (by decide) (fun hc => ?_) (fun hc => ?_)
    · have h := h1 hc
      clear h1 h2
      refine zr_aload_n C 0 dX2_isFitOn_15 rfl rfl ?_
      refine zr_get C fl_X2_20 hT1 hv2 dX2_isFitOn_16 ?_
      refine zr_iload_n C 1 dX2_isFitOn_19 rfl rfl ?_
      obtain ⟨hi6, x7, hv8, h⟩ := h
      refine zr_aald C hT5 (by decide) rfl rfl hi6 hv8 dX2_isFitOn_20 ?_
      refine zr_astore_n C [(3, .ref x7), (0, .ref a0), (1, .int p1), (2, .int p2)] dX2_isFitOn_21 rfl (by decide) rfl ?_
      refine zr_iconst C 0 dX2_isFitOn_22 (by decide) ?_
      refine zr_istore C [(4, .int 0), (3, .ref x7), (0, .ref a0), (1, .int p1), (2, .int p2)] dX2_isFitOn_23 (by decide) rfl ?_
      obtain ⟨I9, ⟨n11, h038⟩, hI37⟩ := h
      have ky39 : ∀ (n10 : Nat) (y12 : Int32), I9 n10 y12 → z_w p l e ({ frames := 3, cells := 0, slots := 0, locals := 64 } : Room) s m args below meth c D cA N0 6 0 0 (MQ below (z_Qc D cA N0 (fun v T' F' => ∃ r : Int32, v = some (.int r) ∧ T = T' ∧ F = F' ∧ Post r)) args s 0 0 (fun q => N0 ≤ q)) 25 [(0, .ref a0), (1, .int p1), (2, .int p2), (3, .ref x7), (4, .int y12)] [] T F := by
        intro n10
        induction n10 using Nat.strongRecOn with
        | _ n10 ih13 =>
          intro y12 hin
          have h := hI37 n10 y12 hin
          refine zr_iload C 4 dX2_isFitOn_25 rfl ?_
          refine zr_aload_n C 0 dX2_isFitOn_27 rfl rfl ?_
          obtain ⟨x16, hv15, h⟩ := h
          refine zr_get C fl_X2_12 hT1 hv15 dX2_isFitOn_28 ?_
          obtain ⟨hT17, h⟩ := h
          refine zr_callV (As := []) (r := (RJx4a65c, TJx4a65c, 3)) C (k_Jx4a65c_size_8abf5 h) ok_X2_39 zq_112 zq_113 hT17 (by decide) rfl rfl ⟨by decide, (Nat.le_of_ble_eq_true rfl)⟩ ⟨(Nat.le_of_ble_eq_true rfl), (Nat.le_of_ble_eq_true rfl)⟩ (Nat.le_of_ble_eq_true rfl) dX2_isFitOn_31 (fun v34 U35 G36 hq => ?_)
          clear h
          · obtain ⟨r18, rfl, rfl, rfl, h⟩ := hq
            obtain ⟨h1, h2⟩ := h
            refine zr_icmp_ge C 85 dX2_isFitOn_34 (by decide) (fun hc => ?_) (fun hc => ?_)
            · have h := h1 hc
              clear h1 h2
              refine zr_iconst C 1 dX2_isFitOn_85 (by decide) ?_
              exact zr_zret C rfl (Or.inr rfl) ⟨_, rfl, rfl, rfl, h⟩ (Nat.le_of_ble_eq_true rfl) (Nat.le_of_ble_eq_true rfl) dX2_isFitOn_86
            · have h := h2 hc
              clear h1 h2
              refine zr_iload C 4 dX2_isFitOn_37 rfl ?_
              refine zr_aload_n C 3 dX2_isFitOn_39 rfl rfl ?_
              obtain ⟨n19, hT20, h⟩ := h
              refine zr_alen C hT20 (by decide) rfl dX2_isFitOn_40 ?_
              obtain ⟨h1, h2⟩ := h
              refine zr_icmp_ge C 85 dX2_isFitOn_41 (by decide) (fun hc => ?_) (fun hc => ?_)
              · have h := h1 hc
                clear h1 h2
                refine zr_iconst C 1 dX2_isFitOn_85 (by decide) ?_
                exact zr_zret C rfl (Or.inr rfl) ⟨_, rfl, rfl, rfl, h⟩ (Nat.le_of_ble_eq_true rfl) (Nat.le_of_ble_eq_true rfl) dX2_isFitOn_86
              · have h := h2 hc
                clear h1 h2
                refine zr_aload_n C 0 dX2_isFitOn_44 rfl rfl ?_
                refine zr_get C fl_X2_12 hT1 hv15 dX2_isFitOn_45 ?_
                refine zr_iload C 4 dX2_isFitOn_48 rfl ?_
                refine zr_callV (As := [.int y12]) (r := (RJx4a65c, TJx4a65c, 3)) C (k_Jx4a65c_get_915e3 h) ok_X2_43 zq_290 zq_291 hT17 (by decide) rfl rfl ⟨by decide, (Nat.le_of_ble_eq_true rfl)⟩ ⟨(Nat.le_of_ble_eq_true rfl), (Nat.le_of_ble_eq_true rfl)⟩ (Nat.le_of_ble_eq_true rfl) dX2_isFitOn_50 (fun v31 U32 G33 hq => ?_)
                clear h
                · obtain ⟨r21, rfl, rfl, rfl, h⟩ := hq
                  obtain ⟨hT22, h⟩ := h
                  refine zr_castS (r := (RX0, TX0, 5)) C hT22 (by decide) rfl zq_451 dX2_isFitOn_53 ?_
                  refine zr_iload_n C 2 dX2_isFitOn_56 rfl rfl ?_
                  refine zr_callV (As := [.int p2]) (r := (RX0, TX0, 5)) C (k_X0_versionAt h) ok_X2_49 zq_425 zq_426 hT22 (by decide) rfl rfl ⟨by decide, (Nat.le_of_ble_eq_true rfl)⟩ ⟨(Nat.le_of_ble_eq_true rfl), (Nat.le_of_ble_eq_true rfl)⟩ (Nat.le_of_ble_eq_true rfl) dX2_isFitOn_57 (fun v28 U29 G30 hq => ?_)
                  clear h
                  · obtain ⟨r23, rfl, rfl, rfl, h⟩ := hq
                    refine zr_istore C [(5, .int r23), (0, .ref a0), (1, .int p1), (2, .int p2), (3, .ref x7), (4, .int y12)] dX2_isFitOn_60 (by decide) rfl ?_
                    refine zr_iload C 0 dX2_isFitOn_62 rfl ?_
                    refine zr_iconst C (-1) dX2_isFitOn_64 (by decide) ?_
                    obtain ⟨h1, h2⟩ := h
                    refine zr_icmp_eq C 77 dX2_isFitOn_65 (by decide) (fun hc => ?_) (fun hc => ?_)
                    · have h := h1 hc
                      clear h1 h2
                      refine zr_iconst C 0 dX2_isFitOn_77 (by decide) ?_
                      exact zr_zret C rfl (Or.inl rfl) ⟨_, rfl, rfl, rfl, h⟩ (Nat.le_of_ble_eq_true rfl) (Nat.le_of_ble_eq_true rfl) dX2_isFitOn_78
                    · have h := h2 hc
                      clear h1 h2
                      refine zr_iload C 0 dX2_isFitOn_68 rfl ?_
                      refine zr_aload_n C 4 dX2_isFitOn_70 rfl rfl ?_
                      refine zr_iload C 5 dX2_isFitOn_71 rfl ?_
                      obtain ⟨hi24, x25, hv26, h⟩ := h
                      refine zr_iald C rfl hT20 hi24 hv26 dX2_isFitOn_73 ?_
                      obtain ⟨h1, h2⟩ := h
                      refine zr_icmp_eq C 79 dX2_isFitOn_74 (by decide) (fun hc => ?_) (fun hc => ?_)
                      · have h := h1 hc
                        clear h1 h2
                        refine zr_iinc C [(4, .int (y12 + 1)), (5, .int r23), (0, .ref a0), (1, .int p1), (2, .int p2), (3, .ref x7)] 5 dX2_isFitOn_79 rfl rfl (by decide) rfl ?_
                        refine zr_goto C 25 dX2_isFitOn_82 (by decide) ?_
                        obtain ⟨n27, hlt, h⟩ := h
                        exact zr_sub [2, 3, 4, 5, 0] rfl (ih13 n27 hlt (y12 + 1) h)
                      · have h := h2 hc
                        clear h1 h2
                        refine zr_iconst C 0 dX2_isFitOn_77 (by decide) ?_
                        exact zr_zret C rfl (Or.inl rfl) ⟨_, rfl, rfl, rfl, h⟩ (Nat.le_of_ble_eq_true rfl) (Nat.le_of_ble_eq_true rfl) dX2_isFitOn_78
      exact zr_sub [2, 3, 4, 1, 0] rfl (ky39 n11 0 h038)
    · have h := h2 hc
      clear h1 h2
      refine zr_iconst C 0 dX2_isFitOn_13 (by decide) ?_
      exact zr_zret C rfl (Or.inl rfl) ⟨_, rfl, rfl, rfl, h⟩ (Nat.le_of_ble_eq_true rfl) (Nat.le_of_ble_eq_true rfl) dX2_isFitOn_14
theorem dX2_approveLook_0 : decode cX2_approveLook 0 = .ok (.iload_n 1, 1) := by decide +kernel
theorem dX2_approveLook_1 : decode cX2_approveLook 1 = .ok (.ifCond .lt 12, 3) := by decide +kernel
theorem dX2_approveLook_13 : decode cX2_approveLook 13 = .ok (.return_, 1) := by decide +kernel
theorem dX2_approveLook_4 : decode cX2_approveLook 4 = .ok (.iload_n 1, 1) := by decide +kernel
theorem dX2_approveLook_5 : decode cX2_approveLook 5 = .ok (.aload_n 0, 1) := by decide +kernel
theorem dX2_approveLook_6 : decode cX2_approveLook 6 = .ok (.getfield 20, 3) := by decide +kernel
theorem dX2_approveLook_9 : decode cX2_approveLook 9 = .ok (.arraylength, 1) := by decide +kernel
theorem dX2_approveLook_10 : decode cX2_approveLook 10 = .ok (.if_icmp .lt 4, 3) := by decide +kernel
theorem dX2_approveLook_14 : decode cX2_approveLook 14 = .ok (.aload_n 0, 1) := by decide +kernel
theorem dX2_approveLook_15 : decode cX2_approveLook 15 = .ok (.getfield 20, 3) := by decide +kernel
theorem dX2_approveLook_18 : decode cX2_approveLook 18 = .ok (.iload_n 1, 1) := by decide +kernel
theorem dX2_approveLook_19 : decode cX2_approveLook 19 = .ok (.aaload, 1) := by decide +kernel
theorem dX2_approveLook_20 : decode cX2_approveLook 20 = .ok (.astore_n 3, 1) := by decide +kernel
theorem dX2_approveLook_21 : decode cX2_approveLook 21 = .ok (.iconst 0, 1) := by decide +kernel
theorem dX2_approveLook_22 : decode cX2_approveLook 22 = .ok (.istore 4, 2) := by decide +kernel
theorem dX2_approveLook_24 : decode cX2_approveLook 24 = .ok (.iload 4, 2) := by decide +kernel
theorem dX2_approveLook_26 : decode cX2_approveLook 26 = .ok (.aload_n 0, 1) := by decide +kernel
theorem dX2_approveLook_27 : decode cX2_approveLook 27 = .ok (.getfield 12, 3) := by decide +kernel
theorem dX2_approveLook_33 : decode cX2_approveLook 33 = .ok (.if_icmp .ge 36, 3) := by decide +kernel
theorem dX2_approveLook_69 : decode cX2_approveLook 69 = .ok (.return_, 1) := by decide +kernel
theorem dX2_approveLook_36 : decode cX2_approveLook 36 = .ok (.iload 4, 2) := by decide +kernel
theorem dX2_approveLook_38 : decode cX2_approveLook 38 = .ok (.aload_n 3, 1) := by decide +kernel
theorem dX2_approveLook_39 : decode cX2_approveLook 39 = .ok (.arraylength, 1) := by decide +kernel
theorem dX2_approveLook_40 : decode cX2_approveLook 40 = .ok (.if_icmp .ge 29, 3) := by decide +kernel
theorem dX2_approveLook_43 : decode cX2_approveLook 43 = .ok (.aload_n 3, 1) := by decide +kernel
theorem dX2_approveLook_44 : decode cX2_approveLook 44 = .ok (.iload 4, 2) := by decide +kernel
theorem dX2_approveLook_46 : decode cX2_approveLook 46 = .ok (.aload_n 0, 1) := by decide +kernel
theorem dX2_approveLook_47 : decode cX2_approveLook 47 = .ok (.getfield 12, 3) := by decide +kernel
theorem dX2_approveLook_50 : decode cX2_approveLook 50 = .ok (.iload 4, 2) := by decide +kernel
theorem dX2_approveLook_55 : decode cX2_approveLook 55 = .ok (.checkcast 47, 3) := by decide +kernel
theorem dX2_approveLook_58 : decode cX2_approveLook 58 = .ok (.iload_n 2, 1) := by decide +kernel
theorem dX2_approveLook_62 : decode cX2_approveLook 62 = .ok (.iastore, 1) := by decide +kernel
theorem dX2_approveLook_63 : decode cX2_approveLook 63 = .ok (.iinc 4 1, 3) := by decide +kernel
theorem dX2_approveLook_66 : decode cX2_approveLook 66 = .ok (.goto (-42), 3) := by decide +kernel
theorem dX2_approveLook_59 : decode cX2_approveLook 59 = .ok (.invokevirtual 49, 3) := by decide +kernel
theorem dX2_approveLook_52 : decode cX2_approveLook 52 = .ok (.invokevirtual 43, 3) := by decide +kernel
theorem dX2_approveLook_30 : decode cX2_approveLook 30 = .ok (.invokevirtual 39, 3) := by decide +kernel
def v_X2_approveLook (a0 : Nat) (p1 : Int32) (p2 : Int32) (T : zT) (F : zF) (Post : zF → Prop) : Prop :=
  ((p1 < 0 → Post F) ∧ (¬ p1 < 0 → (T a0 = some (3, 5) ∧ ∃ x3 : Nat, F a0 4 = .ref x3 ∧ ∃ n4 : Nat, T x3 = some (102, n4) ∧ ((p1 < (nI n4) → (vp_in p1 n4 ∧ ∃ x7 : Nat, F x3 (p1).toNatClampNeg = .ref x7 ∧ (∃ I9 : Nat → Int32 → zF → Prop, (∃ n11 : Nat, I9 n11 0 F) ∧ (∀ (n10 : Nat) (y12 : Int32) (F13 : zF), I9 n10 y12 F13 → (∃ x17 : Nat, F13 a0 3 = .ref x17 ∧ T x17 = some (0, 3) ∧ (v_Jx4a65c_size_8abf5 x17 T F13 (fun (r19 : Int32) => ((r19 ≤ y12 → Post F13) ∧ (¬ r19 ≤ y12 → (∃ n20 : Nat, T x7 = some (100, n20) ∧ (((nI n20) ≤ y12 → Post F13) ∧ (¬ (nI n20) ≤ y12 → (v_Jx4a65c_get_915e3 x17 y12 T F13 (fun (r22 : Nat) => (T r22 = some (1, 5) ∧ (v_X0_versionAt r22 p2 T F13 (fun (r24 : Int32) => (vp_in y12 n20 ∧ (∃ n26 : Nat, n26 < n10 ∧ I9 n26 (y12 + 1) (zu F13 x7 (y12).toNatClampNeg (.int r24))))))))))))))))))))) ∧ (¬ p1 < (nI n4) → Post F)))))
set_option maxRecDepth 100000 in
set_option maxHeartbeats 4000000 in
theorem k_X2_approveLook {l : Launch} {D : va_G} {cA : Nat → ClassId} {N0 zE : Nat} {a0 : Nat} {p1 : Int32} {p2 : Int32} {T : zT} {F : zF} {Post : zF → Prop} (h : v_X2_approveLook a0 p1 p2 T F Post) : z_Mt l D cA N0 zE yX2_approveLook cX2_approveLook 5 none ({ frames := 3, cells := 0, slots := 0, locals := 64 } : Room) [.ref a0, .int p1, .int p2] T F (fun v T' F' => v = none ∧ T = T' ∧ Post F') := by
  unfold v_X2_approveLook at h
  refine z_bodyT (by decide) (Nat.le_of_ble_eq_true rfl) ?_
  intro p e s m args below meth c C hnm
  have C : z_C p l s m args meth c RX2 cX2_approveLook 5 none D cA N0 zE := C
  show z_w p l e ({ frames := 3, cells := 0, slots := 0, locals := 64 } : Room) s m args below meth c D cA N0 5 0 0 (MQ below (z_Qc D cA N0 (fun v T' F' => v = none ∧ T = T' ∧ Post F')) args s 0 0 (fun q => N0 ≤ q)) 0 [(0, .ref a0), (1, .int p1), (2, .int p2)] [] T F
  refine zr_iload_n C 1 dX2_approveLook_0 rfl rfl ?_
  obtain ⟨h1, h2⟩ := h
  refine zr_if_lt C 13 dX2_approveLook_1 (by decide) (fun hc => ?_) (fun hc => ?_)
  · have h := h1 hc
    clear h1 h2
    exact zr_vret C rfl ⟨rfl, rfl, h⟩ (Nat.le_of_ble_eq_true rfl) (Nat.le_of_ble_eq_true rfl) dX2_approveLook_13
  · have h := h2 hc
    clear h1 h2
    refine zr_iload_n C 1 dX2_approveLook_4 rfl rfl ?_
    refine zr_aload_n C 0 dX2_approveLook_5 rfl rfl ?_
    obtain ⟨hT1, x3, hv2, h⟩ := h
    refine zr_get C fl_X2_20 hT1 hv2 dX2_approveLook_6 ?_
    obtain ⟨n4, hT5, h⟩ := h
    refine zr_alen C hT5 (by decide) rfl dX2_approveLook_9 ?_
    obtain ⟨h1, h2⟩ := h
    refine zr_icmp_lt C 14 dX2_approveLook_10 (by decide) (fun hc => ?_) (fun hc => ?_)
    · have h := h1 hc
      clear h1 h2
      refine zr_aload_n C 0 dX2_approveLook_14 rfl rfl ?_
      refine zr_get C fl_X2_20 hT1 hv2 dX2_approveLook_15 ?_
      refine zr_iload_n C 1 dX2_approveLook_18 rfl rfl ?_
      obtain ⟨hi6, x7, hv8, h⟩ := h
      refine zr_aald C hT5 (by decide) rfl rfl hi6 hv8 dX2_approveLook_19 ?_
      refine zr_astore_n C [(3, .ref x7), (0, .ref a0), (1, .int p1), (2, .int p2)] dX2_approveLook_20 rfl (by decide) rfl ?_
      refine zr_iconst C 0 dX2_approveLook_21 (by decide) ?_
      refine zr_istore C [(4, .int 0), (3, .ref x7), (0, .ref a0), (1, .int p1), (2, .int p2)] dX2_approveLook_22 (by decide) rfl ?_
      obtain ⟨I9, ⟨n11, h037⟩, hI36⟩ := h
      have ky38 : ∀ (n10 : Nat) (y12 : Int32) (F13 : zF), I9 n10 y12 F13 → z_w p l e ({ frames := 3, cells := 0, slots := 0, locals := 64 } : Room) s m args below meth c D cA N0 5 0 0 (MQ below (z_Qc D cA N0 (fun v T' F' => v = none ∧ T = T' ∧ Post F')) args s 0 0 (fun q => N0 ≤ q)) 24 [(0, .ref a0), (1, .int p1), (2, .int p2), (3, .ref x7), (4, .int y12)] [] T F13 := by
        intro n10
        induction n10 using Nat.strongRecOn with
        | _ n10 ih14 =>
          intro y12 F13 hin
          have h := hI36 n10 y12 F13 hin
          refine zr_iload C 4 dX2_approveLook_24 rfl ?_
          refine zr_aload_n C 0 dX2_approveLook_26 rfl rfl ?_
          obtain ⟨x17, hv16, h⟩ := h
          refine zr_get C fl_X2_12 hT1 hv16 dX2_approveLook_27 ?_
          obtain ⟨hT18, h⟩ := h
          refine zr_callV (As := []) (r := (RJx4a65c, TJx4a65c, 3)) C (k_Jx4a65c_size_8abf5 h) ok_X2_39 zq_112 zq_113 hT18 (by decide) rfl rfl ⟨by decide, (Nat.le_of_ble_eq_true rfl)⟩ ⟨(Nat.le_of_ble_eq_true rfl), (Nat.le_of_ble_eq_true rfl)⟩ (Nat.le_of_ble_eq_true rfl) dX2_approveLook_30 (fun v33 U34 G35 hq => ?_)
          clear h
          · obtain ⟨r19, rfl, rfl, rfl, h⟩ := hq
            obtain ⟨h1, h2⟩ := h
            refine zr_icmp_ge C 69 dX2_approveLook_33 (by decide) (fun hc => ?_) (fun hc => ?_)
            · have h := h1 hc
              clear h1 h2
              exact zr_vret C rfl ⟨rfl, rfl, h⟩ (Nat.le_of_ble_eq_true rfl) (Nat.le_of_ble_eq_true rfl) dX2_approveLook_69
            · have h := h2 hc
              clear h1 h2
              refine zr_iload C 4 dX2_approveLook_36 rfl ?_
              refine zr_aload_n C 3 dX2_approveLook_38 rfl rfl ?_
              obtain ⟨n20, hT21, h⟩ := h
              refine zr_alen C hT21 (by decide) rfl dX2_approveLook_39 ?_
              obtain ⟨h1, h2⟩ := h
              refine zr_icmp_ge C 69 dX2_approveLook_40 (by decide) (fun hc => ?_) (fun hc => ?_)
              · have h := h1 hc
                clear h1 h2
                exact zr_vret C rfl ⟨rfl, rfl, h⟩ (Nat.le_of_ble_eq_true rfl) (Nat.le_of_ble_eq_true rfl) dX2_approveLook_69
              · have h := h2 hc
                clear h1 h2
                refine zr_aload_n C 3 dX2_approveLook_43 rfl rfl ?_
                refine zr_iload C 4 dX2_approveLook_44 rfl ?_
                refine zr_aload_n C 0 dX2_approveLook_46 rfl rfl ?_
                refine zr_get C fl_X2_12 hT1 hv16 dX2_approveLook_47 ?_
                refine zr_iload C 4 dX2_approveLook_50 rfl ?_
                refine zr_callV (As := [.int y12]) (r := (RJx4a65c, TJx4a65c, 3)) C (k_Jx4a65c_get_915e3 h) ok_X2_43 zq_290 zq_291 hT18 (by decide) rfl rfl ⟨by decide, (Nat.le_of_ble_eq_true rfl)⟩ ⟨(Nat.le_of_ble_eq_true rfl), (Nat.le_of_ble_eq_true rfl)⟩ (Nat.le_of_ble_eq_true rfl) dX2_approveLook_52 (fun v30 U31 G32 hq => ?_)
                clear h
                · obtain ⟨r22, rfl, rfl, rfl, h⟩ := hq
                  obtain ⟨hT23, h⟩ := h
                  refine zr_castS (r := (RX0, TX0, 5)) C hT23 (by decide) rfl zq_451 dX2_approveLook_55 ?_
                  refine zr_iload_n C 2 dX2_approveLook_58 rfl rfl ?_
                  refine zr_callV (As := [.int p2]) (r := (RX0, TX0, 5)) C (k_X0_versionAt h) ok_X2_49 zq_425 zq_426 hT23 (by decide) rfl rfl ⟨by decide, (Nat.le_of_ble_eq_true rfl)⟩ ⟨(Nat.le_of_ble_eq_true rfl), (Nat.le_of_ble_eq_true rfl)⟩ (Nat.le_of_ble_eq_true rfl) dX2_approveLook_59 (fun v27 U28 G29 hq => ?_)
                  clear h
                  · obtain ⟨r24, rfl, rfl, rfl, h⟩ := hq
                    obtain ⟨hi25, h⟩ := h
                    refine zr_iast C rfl hT21 hi25 dX2_approveLook_62 ?_
                    refine zr_iinc C [(4, .int (y12 + 1)), (0, .ref a0), (1, .int p1), (2, .int p2), (3, .ref x7)] 4 dX2_approveLook_63 rfl rfl (by decide) rfl ?_
                    refine zr_goto C 24 dX2_approveLook_66 (by decide) ?_
                    obtain ⟨n26, hlt, h⟩ := h
                    exact zr_sub [1, 2, 3, 4, 0] rfl (ih14 n26 hlt (y12 + 1) (zu F13 x7 (y12).toNatClampNeg (.int r24)) h)
      exact zr_sub [2, 3, 4, 1, 0] rfl (ky38 n11 0 F h037)
    · have h := h2 hc
      clear h1 h2
      exact zr_vret C rfl ⟨rfl, rfl, h⟩ (Nat.le_of_ble_eq_true rfl) (Nat.le_of_ble_eq_true rfl) dX2_approveLook_13
theorem dX2_dropApproval_0 : decode cX2_dropApproval 0 = .ok (.iload_n 1, 1) := by decide +kernel
theorem dX2_dropApproval_1 : decode cX2_dropApproval 1 = .ok (.ifCond .lt 22, 3) := by decide +kernel
theorem dX2_dropApproval_23 : decode cX2_dropApproval 23 = .ok (.return_, 1) := by decide +kernel
theorem dX2_dropApproval_4 : decode cX2_dropApproval 4 = .ok (.iload_n 1, 1) := by decide +kernel
theorem dX2_dropApproval_5 : decode cX2_dropApproval 5 = .ok (.aload_n 0, 1) := by decide +kernel
theorem dX2_dropApproval_6 : decode cX2_dropApproval 6 = .ok (.getfield 20, 3) := by decide +kernel
theorem dX2_dropApproval_9 : decode cX2_dropApproval 9 = .ok (.arraylength, 1) := by decide +kernel
theorem dX2_dropApproval_10 : decode cX2_dropApproval 10 = .ok (.if_icmp .ge 13, 3) := by decide +kernel
theorem dX2_dropApproval_13 : decode cX2_dropApproval 13 = .ok (.aload_n 0, 1) := by decide +kernel
theorem dX2_dropApproval_14 : decode cX2_dropApproval 14 = .ok (.getfield 20, 3) := by decide +kernel
theorem dX2_dropApproval_17 : decode cX2_dropApproval 17 = .ok (.iload_n 1, 1) := by decide +kernel
theorem dX2_dropApproval_18 : decode cX2_dropApproval 18 = .ok (.aaload, 1) := by decide +kernel
theorem dX2_dropApproval_19 : decode cX2_dropApproval 19 = .ok (.iconst (-1), 1) := by decide +kernel
theorem dX2_dropApproval_20 : decode cX2_dropApproval 20 = .ok (.invokestatic 33, 3) := by decide +kernel
def v_X2_dropApproval (a0 : Nat) (p1 : Int32) (T : zT) (F : zF) (Post : zF → Prop) : Prop :=
  ((p1 < 0 → Post F) ∧ (¬ p1 < 0 → (T a0 = some (3, 5) ∧ ∃ x3 : Nat, F a0 4 = .ref x3 ∧ ∃ n4 : Nat, T x3 = some (102, n4) ∧ (((nI n4) ≤ p1 → Post F) ∧ (¬ (nI n4) ≤ p1 → (vp_in p1 n4 ∧ ∃ x7 : Nat, F x3 (p1).toNatClampNeg = .ref x7 ∧ (v_J7_fill_53178 x7 ((-1)) T F (fun (F9 : zF) => Post F9))))))))
set_option maxRecDepth 100000 in
set_option maxHeartbeats 4000000 in
theorem k_X2_dropApproval {l : Launch} {D : va_G} {cA : Nat → ClassId} {N0 zE : Nat} {a0 : Nat} {p1 : Int32} {T : zT} {F : zF} {Post : zF → Prop} (h : v_X2_dropApproval a0 p1 T F Post) : z_Mt l D cA N0 zE yX2_dropApproval cX2_dropApproval 2 none ({ frames := 1, cells := 0, slots := 0, locals := 23 } : Room) [.ref a0, .int p1] T F (fun v T' F' => v = none ∧ T = T' ∧ Post F') := by
  unfold v_X2_dropApproval at h
  refine z_bodyT (by decide) (Nat.le_of_ble_eq_true rfl) ?_
  intro p e s m args below meth c C hnm
  have C : z_C p l s m args meth c RX2 cX2_dropApproval 2 none D cA N0 zE := C
  show z_w p l e ({ frames := 1, cells := 0, slots := 0, locals := 23 } : Room) s m args below meth c D cA N0 2 0 0 (MQ below (z_Qc D cA N0 (fun v T' F' => v = none ∧ T = T' ∧ Post F')) args s 0 0 (fun q => N0 ≤ q)) 0 [(0, .ref a0), (1, .int p1)] [] T F
  refine zr_iload_n C 1 dX2_dropApproval_0 rfl rfl ?_
  obtain ⟨h1, h2⟩ := h
  refine zr_if_lt C 23 dX2_dropApproval_1 (by decide) (fun hc => ?_) (fun hc => ?_)
  · have h := h1 hc
    clear h1 h2
    exact zr_vret C rfl ⟨rfl, rfl, h⟩ (Nat.le_of_ble_eq_true rfl) (Nat.le_of_ble_eq_true rfl) dX2_dropApproval_23
  · have h := h2 hc
    clear h1 h2
    refine zr_iload_n C 1 dX2_dropApproval_4 rfl rfl ?_
    refine zr_aload_n C 0 dX2_dropApproval_5 rfl rfl ?_
    obtain ⟨hT1, x3, hv2, h⟩ := h
    refine zr_get C fl_X2_20 hT1 hv2 dX2_dropApproval_6 ?_
    obtain ⟨n4, hT5, h⟩ := h
    refine zr_alen C hT5 (by decide) rfl dX2_dropApproval_9 ?_
    obtain ⟨h1, h2⟩ := h
    refine zr_icmp_ge C 23 dX2_dropApproval_10 (by decide) (fun hc => ?_) (fun hc => ?_)
    · have h := h1 hc
      clear h1 h2
      exact zr_vret C rfl ⟨rfl, rfl, h⟩ (Nat.le_of_ble_eq_true rfl) (Nat.le_of_ble_eq_true rfl) dX2_dropApproval_23
    · have h := h2 hc
      clear h1 h2
      refine zr_aload_n C 0 dX2_dropApproval_13 rfl rfl ?_
      refine zr_get C fl_X2_20 hT1 hv2 dX2_dropApproval_14 ?_
      refine zr_iload_n C 1 dX2_dropApproval_17 rfl rfl ?_
      obtain ⟨hi6, x7, hv8, h⟩ := h
      refine zr_aald C hT5 (by decide) rfl rfl hi6 hv8 dX2_dropApproval_18 ?_
      refine zr_iconst C (-1) dX2_dropApproval_19 (by decide) ?_
      refine zr_callS (As := [.ref x7, .int ((-1))]) C (k_J7_fill_53178 h) ok_X2_33 zq_190 rfl ⟨by decide, (Nat.le_of_ble_eq_true rfl)⟩ ⟨(Nat.le_of_ble_eq_true rfl), (Nat.le_of_ble_eq_true rfl)⟩ (Nat.le_of_ble_eq_true rfl) dX2_dropApproval_20 (fun v10 U11 G12 hq => ?_)
      clear h
      · obtain ⟨rfl, rfl, h⟩ := hq
        exact zr_vret C rfl ⟨rfl, rfl, h⟩ (Nat.le_of_ble_eq_true rfl) (Nat.le_of_ble_eq_true rfl) dX2_dropApproval_23
theorem dX2_isGrantedOn_0 : decode cX2_isGrantedOn 0 = .ok (.iconst 0, 1) := by decide +kernel
theorem dX2_isGrantedOn_1 : decode cX2_isGrantedOn 1 = .ok (.istore 4, 2) := by decide +kernel
theorem dX2_isGrantedOn_3 : decode cX2_isGrantedOn 3 = .ok (.iload 4, 2) := by decide +kernel
theorem dX2_isGrantedOn_5 : decode cX2_isGrantedOn 5 = .ok (.aload_n 0, 1) := by decide +kernel
theorem dX2_isGrantedOn_6 : decode cX2_isGrantedOn 6 = .ok (.getfield 12, 3) := by decide +kernel
theorem dX2_isGrantedOn_12 : decode cX2_isGrantedOn 12 = .ok (.if_icmp .ge 32, 3) := by decide +kernel
theorem dX2_isGrantedOn_44 : decode cX2_isGrantedOn 44 = .ok (.iconst 1, 1) := by decide +kernel
theorem dX2_isGrantedOn_45 : decode cX2_isGrantedOn 45 = .ok (.ireturn, 1) := by decide +kernel
theorem dX2_isGrantedOn_15 : decode cX2_isGrantedOn 15 = .ok (.aload_n 0, 1) := by decide +kernel
theorem dX2_isGrantedOn_16 : decode cX2_isGrantedOn 16 = .ok (.getfield 12, 3) := by decide +kernel
theorem dX2_isGrantedOn_19 : decode cX2_isGrantedOn 19 = .ok (.iload 4, 2) := by decide +kernel
theorem dX2_isGrantedOn_24 : decode cX2_isGrantedOn 24 = .ok (.checkcast 47, 3) := by decide +kernel
theorem dX2_isGrantedOn_27 : decode cX2_isGrantedOn 27 = .ok (.iload_n 1, 1) := by decide +kernel
theorem dX2_isGrantedOn_28 : decode cX2_isGrantedOn 28 = .ok (.iload_n 2, 1) := by decide +kernel
theorem dX2_isGrantedOn_29 : decode cX2_isGrantedOn 29 = .ok (.iload_n 3, 1) := by decide +kernel
theorem dX2_isGrantedOn_33 : decode cX2_isGrantedOn 33 = .ok (.ifCond .ne 5, 3) := by decide +kernel
theorem dX2_isGrantedOn_38 : decode cX2_isGrantedOn 38 = .ok (.iinc 4 1, 3) := by decide +kernel
theorem dX2_isGrantedOn_41 : decode cX2_isGrantedOn 41 = .ok (.goto (-38), 3) := by decide +kernel
theorem dX2_isGrantedOn_36 : decode cX2_isGrantedOn 36 = .ok (.iconst 0, 1) := by decide +kernel
theorem dX2_isGrantedOn_37 : decode cX2_isGrantedOn 37 = .ok (.ireturn, 1) := by decide +kernel
theorem dX2_isGrantedOn_30 : decode cX2_isGrantedOn 30 = .ok (.invokevirtual 53, 3) := by decide +kernel
theorem dX2_isGrantedOn_21 : decode cX2_isGrantedOn 21 = .ok (.invokevirtual 43, 3) := by decide +kernel
theorem dX2_isGrantedOn_9 : decode cX2_isGrantedOn 9 = .ok (.invokevirtual 39, 3) := by decide +kernel
def v_X2_isGrantedOn (a0 : Nat) (p1 : Int32) (p2 : Int32) (p3 : Int32) (T : zT) (F : zF) (Post : Int32 → Prop) : Prop :=
  (∃ I1 : Nat → Int32 → Prop, (∃ n3 : Nat, I1 n3 0) ∧ (∀ (n2 : Nat) (y4 : Int32), I1 n2 y4 → (T a0 = some (3, 5) ∧ ∃ x9 : Nat, F a0 3 = .ref x9 ∧ T x9 = some (0, 3) ∧ (v_Jx4a65c_size_8abf5 x9 T F (fun (r11 : Int32) => ((r11 ≤ y4 → Post 1) ∧ (¬ r11 ≤ y4 → (v_Jx4a65c_get_915e3 x9 y4 T F (fun (r12 : Nat) => (T r12 = some (1, 5) ∧ (v_X0_isGranted r12 p1 p2 p3 T F (fun (r14 : Int32) => ((¬ r14 = 0 → (∃ n15 : Nat, n15 < n2 ∧ I1 n15 (y4 + 1))) ∧ (r14 = 0 → Post 0))))))))))))))
set_option maxRecDepth 100000 in
set_option maxHeartbeats 4000000 in
theorem k_X2_isGrantedOn {l : Launch} {D : va_G} {cA : Nat → ClassId} {N0 zE : Nat} {a0 : Nat} {p1 : Int32} {p2 : Int32} {p3 : Int32} {T : zT} {F : zF} {Post : Int32 → Prop} (h : v_X2_isGrantedOn a0 p1 p2 p3 T F Post) : z_Mt l D cA N0 zE yX2_isGrantedOn cX2_isGrantedOn 5 (some .boolean) ({ frames := 3, cells := 0, slots := 0, locals := 64 } : Room) [.ref a0, .int p1, .int p2, .int p3] T F (fun v T' F' => ∃ r : Int32, v = some (.int r) ∧ T = T' ∧ F = F' ∧ Post r) := by
  unfold v_X2_isGrantedOn at h
  refine z_bodyT (by decide) (Nat.le_of_ble_eq_true rfl) ?_
  intro p e s m args below meth c C hnm
  have C : z_C p l s m args meth c RX2 cX2_isGrantedOn 5 (some .boolean) D cA N0 zE := C
  show z_w p l e ({ frames := 3, cells := 0, slots := 0, locals := 64 } : Room) s m args below meth c D cA N0 5 0 0 (MQ below (z_Qc D cA N0 (fun v T' F' => ∃ r : Int32, v = some (.int r) ∧ T = T' ∧ F = F' ∧ Post r)) args s 0 0 (fun q => N0 ≤ q)) 0 [(0, .ref a0), (1, .int p1), (2, .int p2), (3, .int p3)] [] T F
  refine zr_iconst C 0 dX2_isGrantedOn_0 (by decide) ?_
  refine zr_istore C [(4, .int 0), (0, .ref a0), (1, .int p1), (2, .int p2), (3, .int p3)] dX2_isGrantedOn_1 (by decide) rfl ?_
  obtain ⟨I1, ⟨n3, h026⟩, hI25⟩ := h
  have ky27 : ∀ (n2 : Nat) (y4 : Int32), I1 n2 y4 → z_w p l e ({ frames := 3, cells := 0, slots := 0, locals := 64 } : Room) s m args below meth c D cA N0 5 0 0 (MQ below (z_Qc D cA N0 (fun v T' F' => ∃ r : Int32, v = some (.int r) ∧ T = T' ∧ F = F' ∧ Post r)) args s 0 0 (fun q => N0 ≤ q)) 3 [(0, .ref a0), (1, .int p1), (2, .int p2), (3, .int p3), (4, .int y4)] [] T F := by
    intro n2
    induction n2 using Nat.strongRecOn with
    | _ n2 ih5 =>
      intro y4 hin
      have h := hI25 n2 y4 hin
      refine zr_iload C 4 dX2_isGrantedOn_3 rfl ?_
      refine zr_aload_n C 0 dX2_isGrantedOn_5 rfl rfl ?_
      obtain ⟨hT7, x9, hv8, h⟩ := h
      refine zr_get C fl_X2_12 hT7 hv8 dX2_isGrantedOn_6 ?_
      obtain ⟨hT10, h⟩ := h
      refine zr_callV (As := []) (r := (RJx4a65c, TJx4a65c, 3)) C (k_Jx4a65c_size_8abf5 h) ok_X2_39 zq_112 zq_113 hT10 (by decide) rfl rfl ⟨by decide, (Nat.le_of_ble_eq_true rfl)⟩ ⟨(Nat.le_of_ble_eq_true rfl), (Nat.le_of_ble_eq_true rfl)⟩ (Nat.le_of_ble_eq_true rfl) dX2_isGrantedOn_9 (fun v22 U23 G24 hq => ?_)
      clear h
      · obtain ⟨r11, rfl, rfl, rfl, h⟩ := hq
        obtain ⟨h1, h2⟩ := h
        refine zr_icmp_ge C 44 dX2_isGrantedOn_12 (by decide) (fun hc => ?_) (fun hc => ?_)
        · have h := h1 hc
          clear h1 h2
          refine zr_iconst C 1 dX2_isGrantedOn_44 (by decide) ?_
          exact zr_zret C rfl (Or.inr rfl) ⟨_, rfl, rfl, rfl, h⟩ (Nat.le_of_ble_eq_true rfl) (Nat.le_of_ble_eq_true rfl) dX2_isGrantedOn_45
        · have h := h2 hc
          clear h1 h2
          refine zr_aload_n C 0 dX2_isGrantedOn_15 rfl rfl ?_
          refine zr_get C fl_X2_12 hT7 hv8 dX2_isGrantedOn_16 ?_
          refine zr_iload C 4 dX2_isGrantedOn_19 rfl ?_
          refine zr_callV (As := [.int y4]) (r := (RJx4a65c, TJx4a65c, 3)) C (k_Jx4a65c_get_915e3 h) ok_X2_43 zq_290 zq_291 hT10 (by decide) rfl rfl ⟨by decide, (Nat.le_of_ble_eq_true rfl)⟩ ⟨(Nat.le_of_ble_eq_true rfl), (Nat.le_of_ble_eq_true rfl)⟩ (Nat.le_of_ble_eq_true rfl) dX2_isGrantedOn_21 (fun v19 U20 G21 hq => ?_)
          clear h
          · obtain ⟨r12, rfl, rfl, rfl, h⟩ := hq
            obtain ⟨hT13, h⟩ := h
            refine zr_castS (r := (RX0, TX0, 5)) C hT13 (by decide) rfl zq_451 dX2_isGrantedOn_24 ?_
            refine zr_iload_n C 1 dX2_isGrantedOn_27 rfl rfl ?_
            refine zr_iload_n C 2 dX2_isGrantedOn_28 rfl rfl ?_
            refine zr_iload_n C 3 dX2_isGrantedOn_29 rfl rfl ?_
            refine zr_callV (As := [.int p1, .int p2, .int p3]) (r := (RX0, TX0, 5)) C (k_X0_isGranted h) ok_X2_53 zq_496 zq_497 hT13 (by decide) rfl rfl ⟨by decide, (Nat.le_of_ble_eq_true rfl)⟩ ⟨(Nat.le_of_ble_eq_true rfl), (Nat.le_of_ble_eq_true rfl)⟩ (Nat.le_of_ble_eq_true rfl) dX2_isGrantedOn_30 (fun v16 U17 G18 hq => ?_)
            clear h
            · obtain ⟨r14, rfl, rfl, rfl, h⟩ := hq
              obtain ⟨h1, h2⟩ := h
              refine zr_if_ne C 38 dX2_isGrantedOn_33 (by decide) (fun hc => ?_) (fun hc => ?_)
              · have h := h1 hc
                clear h1 h2
                refine zr_iinc C [(4, .int (y4 + 1)), (0, .ref a0), (1, .int p1), (2, .int p2), (3, .int p3)] 4 dX2_isGrantedOn_38 rfl rfl (by decide) rfl ?_
                refine zr_goto C 3 dX2_isGrantedOn_41 (by decide) ?_
                obtain ⟨n15, hlt, h⟩ := h
                exact zr_sub [1, 2, 3, 4, 0] rfl (ih5 n15 hlt (y4 + 1) h)
              · have h := h2 hc
                clear h1 h2
                refine zr_iconst C 0 dX2_isGrantedOn_36 (by decide) ?_
                exact zr_zret C rfl (Or.inl rfl) ⟨_, rfl, rfl, rfl, h⟩ (Nat.le_of_ble_eq_true rfl) (Nat.le_of_ble_eq_true rfl) dX2_isGrantedOn_37
  exact zr_sub [1, 2, 3, 4, 0] rfl (ky27 n3 0 h026)
theorem dX2_reasonOn_0 : decode cX2_reasonOn 0 = .ok (.aload_n 0, 1) := by decide +kernel
theorem dX2_reasonOn_1 : decode cX2_reasonOn 1 = .ok (.iload_n 2, 1) := by decide +kernel
theorem dX2_reasonOn_5 : decode cX2_reasonOn 5 = .ok (.ifCond .ne 5, 3) := by decide +kernel
theorem dX2_reasonOn_10 : decode cX2_reasonOn 10 = .ok (.aload_n 0, 1) := by decide +kernel
theorem dX2_reasonOn_11 : decode cX2_reasonOn 11 = .ok (.iload_n 1, 1) := by decide +kernel
theorem dX2_reasonOn_12 : decode cX2_reasonOn 12 = .ok (.iload_n 2, 1) := by decide +kernel
theorem dX2_reasonOn_13 : decode cX2_reasonOn 13 = .ok (.iload_n 2, 1) := by decide +kernel
theorem dX2_reasonOn_17 : decode cX2_reasonOn 17 = .ok (.ifCond .ne 5, 3) := by decide +kernel
theorem dX2_reasonOn_22 : decode cX2_reasonOn 22 = .ok (.aload_n 0, 1) := by decide +kernel
theorem dX2_reasonOn_23 : decode cX2_reasonOn 23 = .ok (.iload_n 1, 1) := by decide +kernel
theorem dX2_reasonOn_24 : decode cX2_reasonOn 24 = .ok (.iload_n 2, 1) := by decide +kernel
theorem dX2_reasonOn_28 : decode cX2_reasonOn 28 = .ok (.ifCond .eq 7, 3) := by decide +kernel
theorem dX2_reasonOn_35 : decode cX2_reasonOn 35 = .ok (.iconst 3, 1) := by decide +kernel
theorem dX2_reasonOn_36 : decode cX2_reasonOn 36 = .ok (.ireturn, 1) := by decide +kernel
theorem dX2_reasonOn_31 : decode cX2_reasonOn 31 = .ok (.iconst 0, 1) := by decide +kernel
theorem dX2_reasonOn_32 : decode cX2_reasonOn 32 = .ok (.goto 4, 3) := by decide +kernel
theorem dX2_reasonOn_25 : decode cX2_reasonOn 25 = .ok (.invokevirtual 64, 3) := by decide +kernel
theorem dX2_reasonOn_20 : decode cX2_reasonOn 20 = .ok (.iconst 2, 1) := by decide +kernel
theorem dX2_reasonOn_21 : decode cX2_reasonOn 21 = .ok (.ireturn, 1) := by decide +kernel
theorem dX2_reasonOn_14 : decode cX2_reasonOn 14 = .ok (.invokevirtual 61, 3) := by decide +kernel
theorem dX2_reasonOn_8 : decode cX2_reasonOn 8 = .ok (.iconst 1, 1) := by decide +kernel
theorem dX2_reasonOn_9 : decode cX2_reasonOn 9 = .ok (.ireturn, 1) := by decide +kernel
theorem dX2_reasonOn_2 : decode cX2_reasonOn 2 = .ok (.invokevirtual 57, 3) := by decide +kernel
def v_X2_reasonOn (a0 : Nat) (p1 : Int32) (p2 : Int32) (T : zT) (F : zF) (Post : Int32 → Prop) : Prop :=
  (T a0 = some (3, 5) ∧ (v_X2_isLaidOn a0 p2 T F (fun (r2 : Int32) => ((¬ r2 = 0 → (v_X2_isGrantedOn a0 p1 p2 p2 T F (fun (r3 : Int32) => ((¬ r3 = 0 → (v_X2_isFitOn a0 p1 p2 T F (fun (r4 : Int32) => ((r4 = 0 → Post 3) ∧ (¬ r4 = 0 → Post 0))))) ∧ (r3 = 0 → Post 2))))) ∧ (r2 = 0 → Post 1)))))
set_option maxRecDepth 100000 in
set_option maxHeartbeats 4000000 in
theorem k_X2_reasonOn {l : Launch} {D : va_G} {cA : Nat → ClassId} {N0 zE : Nat} {a0 : Nat} {p1 : Int32} {p2 : Int32} {T : zT} {F : zF} {Post : Int32 → Prop} (h : v_X2_reasonOn a0 p1 p2 T F Post) : z_Mt l D cA N0 zE yX2_reasonOn cX2_reasonOn 3 (some .int) ({ frames := 4, cells := 0, slots := 0, locals := 89 } : Room) [.ref a0, .int p1, .int p2] T F (fun v T' F' => ∃ r : Int32, v = some (.int r) ∧ T = T' ∧ F = F' ∧ Post r) := by
  unfold v_X2_reasonOn at h
  refine z_bodyT (by decide) (Nat.le_of_ble_eq_true rfl) ?_
  intro p e s m args below meth c C hnm
  have C : z_C p l s m args meth c RX2 cX2_reasonOn 3 (some .int) D cA N0 zE := C
  show z_w p l e ({ frames := 4, cells := 0, slots := 0, locals := 89 } : Room) s m args below meth c D cA N0 3 0 0 (MQ below (z_Qc D cA N0 (fun v T' F' => ∃ r : Int32, v = some (.int r) ∧ T = T' ∧ F = F' ∧ Post r)) args s 0 0 (fun q => N0 ≤ q)) 0 [(0, .ref a0), (1, .int p1), (2, .int p2)] [] T F
  refine zr_aload_n C 0 dX2_reasonOn_0 rfl rfl ?_
  refine zr_iload_n C 2 dX2_reasonOn_1 rfl rfl ?_
  obtain ⟨hT1, h⟩ := h
  refine zr_callV (As := [.int p2]) (r := (RX2, TX2, 5)) C (k_X2_isLaidOn h) ok_X2_57 zq_488 zq_489 hT1 (by decide) rfl rfl ⟨by decide, (Nat.le_of_ble_eq_true rfl)⟩ ⟨(Nat.le_of_ble_eq_true rfl), (Nat.le_of_ble_eq_true rfl)⟩ (Nat.le_of_ble_eq_true rfl) dX2_reasonOn_2 (fun v11 U12 G13 hq => ?_)
  clear h
  · obtain ⟨r2, rfl, rfl, rfl, h⟩ := hq
    obtain ⟨h1, h2⟩ := h
    refine zr_if_ne C 10 dX2_reasonOn_5 (by decide) (fun hc => ?_) (fun hc => ?_)
    · have h := h1 hc
      clear h1 h2
      refine zr_aload_n C 0 dX2_reasonOn_10 rfl rfl ?_
      refine zr_iload_n C 1 dX2_reasonOn_11 rfl rfl ?_
      refine zr_iload_n C 2 dX2_reasonOn_12 rfl rfl ?_
      refine zr_iload_n C 2 dX2_reasonOn_13 rfl rfl ?_
      refine zr_callV (As := [.int p1, .int p2, .int p2]) (r := (RX2, TX2, 5)) C (k_X2_isGrantedOn h) ok_X2_61 zq_492 zq_493 hT1 (by decide) rfl rfl ⟨by decide, (Nat.le_of_ble_eq_true rfl)⟩ ⟨(Nat.le_of_ble_eq_true rfl), (Nat.le_of_ble_eq_true rfl)⟩ (Nat.le_of_ble_eq_true rfl) dX2_reasonOn_14 (fun v8 U9 G10 hq => ?_)
      clear h
      · obtain ⟨r3, rfl, rfl, rfl, h⟩ := hq
        obtain ⟨h1, h2⟩ := h
        refine zr_if_ne C 22 dX2_reasonOn_17 (by decide) (fun hc => ?_) (fun hc => ?_)
        · have h := h1 hc
          clear h1 h2
          refine zr_aload_n C 0 dX2_reasonOn_22 rfl rfl ?_
          refine zr_iload_n C 1 dX2_reasonOn_23 rfl rfl ?_
          refine zr_iload_n C 2 dX2_reasonOn_24 rfl rfl ?_
          refine zr_callV (As := [.int p1, .int p2]) (r := (RX2, TX2, 5)) C (k_X2_isFitOn h) ok_X2_64 zq_446 zq_447 hT1 (by decide) rfl rfl ⟨by decide, (Nat.le_of_ble_eq_true rfl)⟩ ⟨(Nat.le_of_ble_eq_true rfl), (Nat.le_of_ble_eq_true rfl)⟩ (Nat.le_of_ble_eq_true rfl) dX2_reasonOn_25 (fun v5 U6 G7 hq => ?_)
          clear h
          · obtain ⟨r4, rfl, rfl, rfl, h⟩ := hq
            obtain ⟨h1, h2⟩ := h
            refine zr_if_eq C 35 dX2_reasonOn_28 (by decide) (fun hc => ?_) (fun hc => ?_)
            · have h := h1 hc
              clear h1 h2
              refine zr_iconst C 3 dX2_reasonOn_35 (by decide) ?_
              exact zr_iret C rfl ⟨_, rfl, rfl, rfl, h⟩ (Nat.le_of_ble_eq_true rfl) (Nat.le_of_ble_eq_true rfl) dX2_reasonOn_36
            · have h := h2 hc
              clear h1 h2
              refine zr_iconst C 0 dX2_reasonOn_31 (by decide) ?_
              refine zr_goto C 36 dX2_reasonOn_32 (by decide) ?_
              exact zr_iret C rfl ⟨_, rfl, rfl, rfl, h⟩ (Nat.le_of_ble_eq_true rfl) (Nat.le_of_ble_eq_true rfl) dX2_reasonOn_36
        · have h := h2 hc
          clear h1 h2
          refine zr_iconst C 2 dX2_reasonOn_20 (by decide) ?_
          exact zr_iret C rfl ⟨_, rfl, rfl, rfl, h⟩ (Nat.le_of_ble_eq_true rfl) (Nat.le_of_ble_eq_true rfl) dX2_reasonOn_21
    · have h := h2 hc
      clear h1 h2
      refine zr_iconst C 1 dX2_reasonOn_8 (by decide) ?_
      exact zr_iret C rfl ⟨_, rfl, rfl, rfl, h⟩ (Nat.le_of_ble_eq_true rfl) (Nat.le_of_ble_eq_true rfl) dX2_reasonOn_9
theorem dX2_landsFitOn_0 : decode cX2_landsFitOn 0 = .ok (.iconst 0, 1) := by decide +kernel
theorem dX2_landsFitOn_1 : decode cX2_landsFitOn 1 = .ok (.istore_n 2, 1) := by decide +kernel
theorem dX2_landsFitOn_2 : decode cX2_landsFitOn 2 = .ok (.iconst 0, 1) := by decide +kernel
theorem dX2_landsFitOn_3 : decode cX2_landsFitOn 3 = .ok (.istore_n 3, 1) := by decide +kernel
theorem dX2_landsFitOn_4 : decode cX2_landsFitOn 4 = .ok (.iload_n 3, 1) := by decide +kernel
theorem dX2_landsFitOn_5 : decode cX2_landsFitOn 5 = .ok (.iconst 4, 1) := by decide +kernel
theorem dX2_landsFitOn_6 : decode cX2_landsFitOn 6 = .ok (.if_icmp .ge 21, 3) := by decide +kernel
theorem dX2_landsFitOn_27 : decode cX2_landsFitOn 27 = .ok (.iload_n 2, 1) := by decide +kernel
theorem dX2_landsFitOn_28 : decode cX2_landsFitOn 28 = .ok (.ireturn, 1) := by decide +kernel
theorem dX2_landsFitOn_9 : decode cX2_landsFitOn 9 = .ok (.aload_n 0, 1) := by decide +kernel
theorem dX2_landsFitOn_10 : decode cX2_landsFitOn 10 = .ok (.iload_n 3, 1) := by decide +kernel
theorem dX2_landsFitOn_11 : decode cX2_landsFitOn 11 = .ok (.iload_n 1, 1) := by decide +kernel
theorem dX2_landsFitOn_15 : decode cX2_landsFitOn 15 = .ok (.ifCond .eq 6, 3) := by decide +kernel
theorem dX2_landsFitOn_21 : decode cX2_landsFitOn 21 = .ok (.iinc 3 1, 3) := by decide +kernel
theorem dX2_landsFitOn_24 : decode cX2_landsFitOn 24 = .ok (.goto (-20), 3) := by decide +kernel
theorem dX2_landsFitOn_18 : decode cX2_landsFitOn 18 = .ok (.iinc 2 1, 3) := by decide +kernel
theorem dX2_landsFitOn_12 : decode cX2_landsFitOn 12 = .ok (.invokevirtual 64, 3) := by decide +kernel
def v_X2_landsFitOn (a0 : Nat) (p1 : Int32) (T : zT) (F : zF) (Post : Int32 → Prop) : Prop :=
  (∃ I1 : Nat → Int32 → Int32 → Prop, (∃ n3 : Nat, I1 n3 0 0) ∧ (∀ (n2 : Nat) (y4 : Int32) (y5 : Int32), I1 n2 y4 y5 → ((4 ≤ y5 → Post y4) ∧ (¬ 4 ≤ y5 → (T a0 = some (3, 5) ∧ (v_X2_isFitOn a0 y5 p1 T F (fun (r9 : Int32) => ((r9 = 0 → (∃ n10 : Nat, n10 < n2 ∧ I1 n10 y4 (y5 + 1))) ∧ (¬ r9 = 0 → (∃ n11 : Nat, n11 < n2 ∧ I1 n11 (y4 + 1) (y5 + 1)))))))))))
set_option maxRecDepth 100000 in
set_option maxHeartbeats 4000000 in
theorem k_X2_landsFitOn {l : Launch} {D : va_G} {cA : Nat → ClassId} {N0 zE : Nat} {a0 : Nat} {p1 : Int32} {T : zT} {F : zF} {Post : Int32 → Prop} (h : v_X2_landsFitOn a0 p1 T F Post) : z_Mt l D cA N0 zE yX2_landsFitOn cX2_landsFitOn 4 (some .int) ({ frames := 4, cells := 0, slots := 0, locals := 89 } : Room) [.ref a0, .int p1] T F (fun v T' F' => ∃ r : Int32, v = some (.int r) ∧ T = T' ∧ F = F' ∧ Post r) := by
  unfold v_X2_landsFitOn at h
  refine z_bodyT (by decide) (Nat.le_of_ble_eq_true rfl) ?_
  intro p e s m args below meth c C hnm
  have C : z_C p l s m args meth c RX2 cX2_landsFitOn 4 (some .int) D cA N0 zE := C
  show z_w p l e ({ frames := 4, cells := 0, slots := 0, locals := 89 } : Room) s m args below meth c D cA N0 4 0 0 (MQ below (z_Qc D cA N0 (fun v T' F' => ∃ r : Int32, v = some (.int r) ∧ T = T' ∧ F = F' ∧ Post r)) args s 0 0 (fun q => N0 ≤ q)) 0 [(0, .ref a0), (1, .int p1)] [] T F
  refine zr_iconst C 0 dX2_landsFitOn_0 (by decide) ?_
  refine zr_istore_n C [(2, .int 0), (0, .ref a0), (1, .int p1)] dX2_landsFitOn_1 rfl (by decide) rfl ?_
  refine zr_iconst C 0 dX2_landsFitOn_2 (by decide) ?_
  refine zr_istore_n C [(3, .int 0), (2, .int 0), (0, .ref a0), (1, .int p1)] dX2_landsFitOn_3 rfl (by decide) rfl ?_
  obtain ⟨I1, ⟨n3, h016⟩, hI15⟩ := h
  have ky17 : ∀ (n2 : Nat) (y4 : Int32) (y5 : Int32), I1 n2 y4 y5 → z_w p l e ({ frames := 4, cells := 0, slots := 0, locals := 89 } : Room) s m args below meth c D cA N0 4 0 0 (MQ below (z_Qc D cA N0 (fun v T' F' => ∃ r : Int32, v = some (.int r) ∧ T = T' ∧ F = F' ∧ Post r)) args s 0 0 (fun q => N0 ≤ q)) 4 [(0, .ref a0), (1, .int p1), (2, .int y4), (3, .int y5)] [] T F := by
    intro n2
    induction n2 using Nat.strongRecOn with
    | _ n2 ih6 =>
      intro y4 y5 hin
      have h := hI15 n2 y4 y5 hin
      refine zr_iload_n C 3 dX2_landsFitOn_4 rfl rfl ?_
      refine zr_iconst C 4 dX2_landsFitOn_5 (by decide) ?_
      obtain ⟨h1, h2⟩ := h
      refine zr_icmp_ge C 27 dX2_landsFitOn_6 (by decide) (fun hc => ?_) (fun hc => ?_)
      · have h := h1 hc
        clear h1 h2
        refine zr_iload_n C 2 dX2_landsFitOn_27 rfl rfl ?_
        exact zr_iret C rfl ⟨_, rfl, rfl, rfl, h⟩ (Nat.le_of_ble_eq_true rfl) (Nat.le_of_ble_eq_true rfl) dX2_landsFitOn_28
      · have h := h2 hc
        clear h1 h2
        refine zr_aload_n C 0 dX2_landsFitOn_9 rfl rfl ?_
        refine zr_iload_n C 3 dX2_landsFitOn_10 rfl rfl ?_
        refine zr_iload_n C 1 dX2_landsFitOn_11 rfl rfl ?_
        obtain ⟨hT8, h⟩ := h
        refine zr_callV (As := [.int y5, .int p1]) (r := (RX2, TX2, 5)) C (k_X2_isFitOn h) ok_X2_64 zq_446 zq_447 hT8 (by decide) rfl rfl ⟨by decide, (Nat.le_of_ble_eq_true rfl)⟩ ⟨(Nat.le_of_ble_eq_true rfl), (Nat.le_of_ble_eq_true rfl)⟩ (Nat.le_of_ble_eq_true rfl) dX2_landsFitOn_12 (fun v12 U13 G14 hq => ?_)
        clear h
        · obtain ⟨r9, rfl, rfl, rfl, h⟩ := hq
          obtain ⟨h1, h2⟩ := h
          refine zr_if_eq C 21 dX2_landsFitOn_15 (by decide) (fun hc => ?_) (fun hc => ?_)
          · have h := h1 hc
            clear h1 h2
            refine zr_iinc C [(3, .int (y5 + 1)), (0, .ref a0), (1, .int p1), (2, .int y4)] 3 dX2_landsFitOn_21 rfl rfl (by decide) rfl ?_
            refine zr_goto C 4 dX2_landsFitOn_24 (by decide) ?_
            obtain ⟨n10, hlt, h⟩ := h
            exact zr_sub [1, 2, 3, 0] rfl (ih6 n10 hlt y4 (y5 + 1) h)
          · have h := h2 hc
            clear h1 h2
            refine zr_iinc C [(2, .int (y4 + 1)), (0, .ref a0), (1, .int p1), (3, .int y5)] 2 dX2_landsFitOn_18 rfl rfl (by decide) rfl ?_
            refine zr_iinc C [(3, .int (y5 + 1)), (2, .int (y4 + 1)), (0, .ref a0), (1, .int p1)] 3 dX2_landsFitOn_21 rfl rfl (by decide) rfl ?_
            refine zr_goto C 4 dX2_landsFitOn_24 (by decide) ?_
            obtain ⟨n11, hlt, h⟩ := h
            exact zr_sub [2, 3, 1, 0] rfl (ih6 n11 hlt (y4 + 1) (y5 + 1) h)
  exact zr_sub [2, 3, 1, 0] rfl (ky17 n3 0 0 h016)
theorem dX2_firstLaidDay_0 : decode cX2_firstLaidDay 0 = .ok (.iconst 0, 1) := by decide +kernel
theorem dX2_firstLaidDay_1 : decode cX2_firstLaidDay 1 = .ok (.istore_n 1, 1) := by decide +kernel
theorem dX2_firstLaidDay_2 : decode cX2_firstLaidDay 2 = .ok (.iconst 0, 1) := by decide +kernel
theorem dX2_firstLaidDay_3 : decode cX2_firstLaidDay 3 = .ok (.istore_n 2, 1) := by decide +kernel
theorem dX2_firstLaidDay_4 : decode cX2_firstLaidDay 4 = .ok (.iload_n 2, 1) := by decide +kernel
theorem dX2_firstLaidDay_5 : decode cX2_firstLaidDay 5 = .ok (.aload_n 0, 1) := by decide +kernel
theorem dX2_firstLaidDay_6 : decode cX2_firstLaidDay 6 = .ok (.getfield 12, 3) := by decide +kernel
theorem dX2_firstLaidDay_12 : decode cX2_firstLaidDay 12 = .ok (.if_icmp .ge 28, 3) := by decide +kernel
theorem dX2_firstLaidDay_40 : decode cX2_firstLaidDay 40 = .ok (.iload_n 1, 1) := by decide +kernel
theorem dX2_firstLaidDay_41 : decode cX2_firstLaidDay 41 = .ok (.bipush 99, 2) := by decide +kernel
theorem dX2_firstLaidDay_43 : decode cX2_firstLaidDay 43 = .ok (.if_icmp .le 7, 3) := by decide +kernel
theorem dX2_firstLaidDay_50 : decode cX2_firstLaidDay 50 = .ok (.iload_n 1, 1) := by decide +kernel
theorem dX2_firstLaidDay_51 : decode cX2_firstLaidDay 51 = .ok (.ireturn, 1) := by decide +kernel
theorem dX2_firstLaidDay_46 : decode cX2_firstLaidDay 46 = .ok (.iconst (-1), 1) := by decide +kernel
theorem dX2_firstLaidDay_47 : decode cX2_firstLaidDay 47 = .ok (.goto 4, 3) := by decide +kernel
theorem dX2_firstLaidDay_15 : decode cX2_firstLaidDay 15 = .ok (.iload_n 1, 1) := by decide +kernel
theorem dX2_firstLaidDay_16 : decode cX2_firstLaidDay 16 = .ok (.aload_n 0, 1) := by decide +kernel
theorem dX2_firstLaidDay_17 : decode cX2_firstLaidDay 17 = .ok (.getfield 12, 3) := by decide +kernel
theorem dX2_firstLaidDay_20 : decode cX2_firstLaidDay 20 = .ok (.iload_n 2, 1) := by decide +kernel
theorem dX2_firstLaidDay_24 : decode cX2_firstLaidDay 24 = .ok (.checkcast 47, 3) := by decide +kernel
theorem dX2_firstLaidDay_30 : decode cX2_firstLaidDay 30 = .ok (.invokestatic 71, 3) := by decide +kernel
theorem dX2_firstLaidDay_33 : decode cX2_firstLaidDay 33 = .ok (.istore_n 1, 1) := by decide +kernel
theorem dX2_firstLaidDay_34 : decode cX2_firstLaidDay 34 = .ok (.iinc 2 1, 3) := by decide +kernel
theorem dX2_firstLaidDay_37 : decode cX2_firstLaidDay 37 = .ok (.goto (-33), 3) := by decide +kernel
theorem dX2_firstLaidDay_27 : decode cX2_firstLaidDay 27 = .ok (.invokevirtual 68, 3) := by decide +kernel
theorem dX2_firstLaidDay_21 : decode cX2_firstLaidDay 21 = .ok (.invokevirtual 43, 3) := by decide +kernel
theorem dX2_firstLaidDay_9 : decode cX2_firstLaidDay 9 = .ok (.invokevirtual 39, 3) := by decide +kernel
def v_X2_firstLaidDay (a0 : Nat) (T : zT) (F : zF) (Post : Int32 → Prop) : Prop :=
  (∃ I1 : Nat → Int32 → Int32 → Prop, (∃ n3 : Nat, I1 n3 0 0) ∧ (∀ (n2 : Nat) (y4 : Int32) (y5 : Int32), I1 n2 y4 y5 → (T a0 = some (3, 5) ∧ ∃ x10 : Nat, F a0 3 = .ref x10 ∧ T x10 = some (0, 3) ∧ (v_Jx4a65c_size_8abf5 x10 T F (fun (r12 : Int32) => ((r12 ≤ y5 → ((y4 ≤ 99 → Post y4) ∧ (¬ y4 ≤ 99 → Post ((-1))))) ∧ (¬ r12 ≤ y5 → (v_Jx4a65c_get_915e3 x10 y5 T F (fun (r13 : Nat) => (T r13 = some (1, 5) ∧ (v_X0_firstComes r13 T F (fun (r15 : Int32) => (∃ n16 : Nat, n16 < n2 ∧ I1 n16 (if y4 < r15 then r15 else y4) (y5 + 1))))))))))))))
set_option maxRecDepth 100000 in
set_option maxHeartbeats 4000000 in
theorem k_X2_firstLaidDay {l : Launch} {D : va_G} {cA : Nat → ClassId} {N0 zE : Nat} {a0 : Nat} {T : zT} {F : zF} {Post : Int32 → Prop} (h : v_X2_firstLaidDay a0 T F Post) : z_Mt l D cA N0 zE yX2_firstLaidDay cX2_firstLaidDay 3 (some .int) ({ frames := 3, cells := 0, slots := 0, locals := 64 } : Room) [.ref a0] T F (fun v T' F' => ∃ r : Int32, v = some (.int r) ∧ T = T' ∧ F = F' ∧ Post r) := by
  unfold v_X2_firstLaidDay at h
  refine z_bodyT (by decide) (Nat.le_of_ble_eq_true rfl) ?_
  intro p e s m args below meth c C hnm
  have C : z_C p l s m args meth c RX2 cX2_firstLaidDay 3 (some .int) D cA N0 zE := C
  show z_w p l e ({ frames := 3, cells := 0, slots := 0, locals := 64 } : Room) s m args below meth c D cA N0 3 0 0 (MQ below (z_Qc D cA N0 (fun v T' F' => ∃ r : Int32, v = some (.int r) ∧ T = T' ∧ F = F' ∧ Post r)) args s 0 0 (fun q => N0 ≤ q)) 0 [(0, .ref a0)] [] T F
  refine zr_iconst C 0 dX2_firstLaidDay_0 (by decide) ?_
  refine zr_istore_n C [(1, .int 0), (0, .ref a0)] dX2_firstLaidDay_1 rfl (by decide) rfl ?_
  refine zr_iconst C 0 dX2_firstLaidDay_2 (by decide) ?_
  refine zr_istore_n C [(2, .int 0), (1, .int 0), (0, .ref a0)] dX2_firstLaidDay_3 rfl (by decide) rfl ?_
  obtain ⟨I1, ⟨n3, h027⟩, hI26⟩ := h
  have ky28 : ∀ (n2 : Nat) (y4 : Int32) (y5 : Int32), I1 n2 y4 y5 → z_w p l e ({ frames := 3, cells := 0, slots := 0, locals := 64 } : Room) s m args below meth c D cA N0 3 0 0 (MQ below (z_Qc D cA N0 (fun v T' F' => ∃ r : Int32, v = some (.int r) ∧ T = T' ∧ F = F' ∧ Post r)) args s 0 0 (fun q => N0 ≤ q)) 4 [(0, .ref a0), (1, .int y4), (2, .int y5)] [] T F := by
    intro n2
    induction n2 using Nat.strongRecOn with
    | _ n2 ih6 =>
      intro y4 y5 hin
      have h := hI26 n2 y4 y5 hin
      refine zr_iload_n C 2 dX2_firstLaidDay_4 rfl rfl ?_
      refine zr_aload_n C 0 dX2_firstLaidDay_5 rfl rfl ?_
      obtain ⟨hT8, x10, hv9, h⟩ := h
      refine zr_get C fl_X2_12 hT8 hv9 dX2_firstLaidDay_6 ?_
      obtain ⟨hT11, h⟩ := h
      refine zr_callV (As := []) (r := (RJx4a65c, TJx4a65c, 3)) C (k_Jx4a65c_size_8abf5 h) ok_X2_39 zq_112 zq_113 hT11 (by decide) rfl rfl ⟨by decide, (Nat.le_of_ble_eq_true rfl)⟩ ⟨(Nat.le_of_ble_eq_true rfl), (Nat.le_of_ble_eq_true rfl)⟩ (Nat.le_of_ble_eq_true rfl) dX2_firstLaidDay_9 (fun v23 U24 G25 hq => ?_)
      clear h
      · obtain ⟨r12, rfl, rfl, rfl, h⟩ := hq
        obtain ⟨h1, h2⟩ := h
        refine zr_icmp_ge C 40 dX2_firstLaidDay_12 (by decide) (fun hc => ?_) (fun hc => ?_)
        · have h := h1 hc
          clear h1 h2
          refine zr_iload_n C 1 dX2_firstLaidDay_40 rfl rfl ?_
          refine zr_bipush C 99 dX2_firstLaidDay_41 (by decide) ?_
          obtain ⟨h1, h2⟩ := h
          refine zr_icmp_le C 50 dX2_firstLaidDay_43 (by decide) (fun hc => ?_) (fun hc => ?_)
          · have h := h1 hc
            clear h1 h2
            refine zr_iload_n C 1 dX2_firstLaidDay_50 rfl rfl ?_
            exact zr_iret C rfl ⟨_, rfl, rfl, rfl, h⟩ (Nat.le_of_ble_eq_true rfl) (Nat.le_of_ble_eq_true rfl) dX2_firstLaidDay_51
          · have h := h2 hc
            clear h1 h2
            refine zr_iconst C (-1) dX2_firstLaidDay_46 (by decide) ?_
            refine zr_goto C 51 dX2_firstLaidDay_47 (by decide) ?_
            exact zr_iret C rfl ⟨_, rfl, rfl, rfl, h⟩ (Nat.le_of_ble_eq_true rfl) (Nat.le_of_ble_eq_true rfl) dX2_firstLaidDay_51
        · have h := h2 hc
          clear h1 h2
          refine zr_iload_n C 1 dX2_firstLaidDay_15 rfl rfl ?_
          refine zr_aload_n C 0 dX2_firstLaidDay_16 rfl rfl ?_
          refine zr_get C fl_X2_12 hT8 hv9 dX2_firstLaidDay_17 ?_
          refine zr_iload_n C 2 dX2_firstLaidDay_20 rfl rfl ?_
          refine zr_callV (As := [.int y5]) (r := (RJx4a65c, TJx4a65c, 3)) C (k_Jx4a65c_get_915e3 h) ok_X2_43 zq_290 zq_291 hT11 (by decide) rfl rfl ⟨by decide, (Nat.le_of_ble_eq_true rfl)⟩ ⟨(Nat.le_of_ble_eq_true rfl), (Nat.le_of_ble_eq_true rfl)⟩ (Nat.le_of_ble_eq_true rfl) dX2_firstLaidDay_21 (fun v20 U21 G22 hq => ?_)
          clear h
          · obtain ⟨r13, rfl, rfl, rfl, h⟩ := hq
            obtain ⟨hT14, h⟩ := h
            refine zr_castS (r := (RX0, TX0, 5)) C hT14 (by decide) rfl zq_451 dX2_firstLaidDay_24 ?_
            refine zr_callV (As := []) (r := (RX0, TX0, 5)) C (k_X0_firstComes h) ok_X2_68 zq_466 zq_467 hT14 (by decide) rfl rfl ⟨by decide, (Nat.le_of_ble_eq_true rfl)⟩ ⟨(Nat.le_of_ble_eq_true rfl), (Nat.le_of_ble_eq_true rfl)⟩ (Nat.le_of_ble_eq_true rfl) dX2_firstLaidDay_27 (fun v17 U18 G19 hq => ?_)
            clear h
            · obtain ⟨r15, rfl, rfl, rfl, h⟩ := hq
              refine zr_max C zq_470 zq_229 zq_29 zq_230 (by decide) (Nat.le_of_ble_eq_true rfl) (Nat.le_of_ble_eq_true rfl) (Nat.le_of_ble_eq_true rfl) dX2_firstLaidDay_30 ?_
              refine zr_istore_n C [(1, .int (if y4 < r15 then r15 else y4)), (0, .ref a0), (2, .int y5)] dX2_firstLaidDay_33 rfl (by decide) rfl ?_
              refine zr_iinc C [(2, .int (y5 + 1)), (1, .int (if y4 < r15 then r15 else y4)), (0, .ref a0)] 2 dX2_firstLaidDay_34 rfl rfl (by decide) rfl ?_
              refine zr_goto C 4 dX2_firstLaidDay_37 (by decide) ?_
              obtain ⟨n16, hlt, h⟩ := h
              exact zr_sub [2, 1, 0] rfl (ih6 n16 hlt (if y4 < r15 then r15 else y4) (y5 + 1) h)
  exact zr_sub [2, 1, 0] rfl (ky28 n3 0 0 h027)
end
section
theorem dX1_isOpen_0 : decode cX1_isOpen 0 = .ok (.aload_n 0, 1) := by decide +kernel
theorem dX1_isOpen_1 : decode cX1_isOpen 1 = .ok (.getfield 9, 3) := by decide +kernel
theorem dX1_isOpen_4 : decode cX1_isOpen 4 = .ok (.ifCond .eq 11, 3) := by decide +kernel
theorem dX1_isOpen_15 : decode cX1_isOpen 15 = .ok (.iconst 1, 1) := by decide +kernel
theorem dX1_isOpen_16 : decode cX1_isOpen 16 = .ok (.goto 4, 3) := by decide +kernel
theorem dX1_isOpen_20 : decode cX1_isOpen 20 = .ok (.ireturn, 1) := by decide +kernel
theorem dX1_isOpen_7 : decode cX1_isOpen 7 = .ok (.aload_n 0, 1) := by decide +kernel
theorem dX1_isOpen_8 : decode cX1_isOpen 8 = .ok (.getfield 9, 3) := by decide +kernel
theorem dX1_isOpen_11 : decode cX1_isOpen 11 = .ok (.iconst 1, 1) := by decide +kernel
theorem dX1_isOpen_12 : decode cX1_isOpen 12 = .ok (.if_icmp .ne 7, 3) := by decide +kernel
theorem dX1_isOpen_19 : decode cX1_isOpen 19 = .ok (.iconst 0, 1) := by decide +kernel
def v_X1_isOpen (a0 : Nat) (T : zT) (F : zF) (Post : Int32 → Prop) : Prop :=
  (T a0 = some (2, 12) ∧ ∃ x3 : Int32, F a0 6 = .int x3 ∧ ((x3 = 0 → Post 1) ∧ (¬ x3 = 0 → ((¬ x3 = 1 → Post 0) ∧ (x3 = 1 → Post 1)))))
set_option maxRecDepth 100000 in
set_option maxHeartbeats 4000000 in
theorem k_X1_isOpen {l : Launch} {D : va_G} {cA : Nat → ClassId} {N0 zE : Nat} {a0 : Nat} {T : zT} {F : zF} {Post : Int32 → Prop} (h : v_X1_isOpen a0 T F Post) : z_Mt l D cA N0 zE yX1_isOpen cX1_isOpen 1 (some .boolean) ({ frames := 0, cells := 0, slots := 0, locals := 0 } : Room) [.ref a0] T F (fun v T' F' => ∃ r : Int32, v = some (.int r) ∧ T = T' ∧ F = F' ∧ Post r) := by
  unfold v_X1_isOpen at h
  refine z_bodyT (by decide) (Nat.le_of_ble_eq_true rfl) ?_
  intro p e s m args below meth c C hnm
  have C : z_C p l s m args meth c RX1 cX1_isOpen 1 (some .boolean) D cA N0 zE := C
  show z_w p l e ({ frames := 0, cells := 0, slots := 0, locals := 0 } : Room) s m args below meth c D cA N0 1 0 0 (MQ below (z_Qc D cA N0 (fun v T' F' => ∃ r : Int32, v = some (.int r) ∧ T = T' ∧ F = F' ∧ Post r)) args s 0 0 (fun q => N0 ≤ q)) 0 [(0, .ref a0)] [] T F
  refine zr_aload_n C 0 dX1_isOpen_0 rfl rfl ?_
  obtain ⟨hT1, x3, hv2, h⟩ := h
  refine zr_get C fl_X1_9 hT1 hv2 dX1_isOpen_1 ?_
  obtain ⟨h1, h2⟩ := h
  refine zr_if_eq C 15 dX1_isOpen_4 (by decide) (fun hc => ?_) (fun hc => ?_)
  · have h := h1 hc
    clear h1 h2
    refine zr_iconst C 1 dX1_isOpen_15 (by decide) ?_
    refine zr_goto C 20 dX1_isOpen_16 (by decide) ?_
    exact zr_zret C rfl (Or.inr rfl) ⟨_, rfl, rfl, rfl, h⟩ (Nat.le_of_ble_eq_true rfl) (Nat.le_of_ble_eq_true rfl) dX1_isOpen_20
  · have h := h2 hc
    clear h1 h2
    refine zr_aload_n C 0 dX1_isOpen_7 rfl rfl ?_
    refine zr_get C fl_X1_9 hT1 hv2 dX1_isOpen_8 ?_
    refine zr_iconst C 1 dX1_isOpen_11 (by decide) ?_
    obtain ⟨h1, h2⟩ := h
    refine zr_icmp_ne C 19 dX1_isOpen_12 (by decide) (fun hc => ?_) (fun hc => ?_)
    · have h := h1 hc
      clear h1 h2
      refine zr_iconst C 0 dX1_isOpen_19 (by decide) ?_
      exact zr_zret C rfl (Or.inl rfl) ⟨_, rfl, rfl, rfl, h⟩ (Nat.le_of_ble_eq_true rfl) (Nat.le_of_ble_eq_true rfl) dX1_isOpen_20
    · have h := h2 hc
      clear h1 h2
      refine zr_iconst C 1 dX1_isOpen_15 (by decide) ?_
      refine zr_goto C 20 dX1_isOpen_16 (by decide) ?_
      exact zr_zret C rfl (Or.inr rfl) ⟨_, rfl, rfl, rfl, h⟩ (Nat.le_of_ble_eq_true rfl) (Nat.le_of_ble_eq_true rfl) dX1_isOpen_20
theorem dX1_isIn_0 : decode cX1_isIn 0 = .ok (.aload_n 0, 1) := by decide +kernel
theorem dX1_isIn_1 : decode cX1_isIn 1 = .ok (.getfield 35, 3) := by decide +kernel
theorem dX1_isIn_4 : decode cX1_isIn 4 = .ok (.iload_n 1, 1) := by decide +kernel
theorem dX1_isIn_5 : decode cX1_isIn 5 = .ok (.if_icmp .ne 15, 3) := by decide +kernel
theorem dX1_isIn_20 : decode cX1_isIn 20 = .ok (.iconst 0, 1) := by decide +kernel
theorem dX1_isIn_21 : decode cX1_isIn 21 = .ok (.ireturn, 1) := by decide +kernel
theorem dX1_isIn_8 : decode cX1_isIn 8 = .ok (.aload_n 0, 1) := by decide +kernel
theorem dX1_isIn_9 : decode cX1_isIn 9 = .ok (.getfield 38, 3) := by decide +kernel
theorem dX1_isIn_12 : decode cX1_isIn 12 = .ok (.iload_n 2, 1) := by decide +kernel
theorem dX1_isIn_13 : decode cX1_isIn 13 = .ok (.if_icmp .ne 7, 3) := by decide +kernel
theorem dX1_isIn_16 : decode cX1_isIn 16 = .ok (.iconst 1, 1) := by decide +kernel
theorem dX1_isIn_17 : decode cX1_isIn 17 = .ok (.goto 4, 3) := by decide +kernel
def v_X1_isIn (a0 : Nat) (p1 : Int32) (p2 : Int32) (T : zT) (F : zF) (Post : Int32 → Prop) : Prop :=
  (T a0 = some (2, 12) ∧ ∃ x3 : Int32, F a0 1 = .int x3 ∧ ((¬ x3 = p1 → Post 0) ∧ (x3 = p1 → (∃ x5 : Int32, F a0 2 = .int x5 ∧ ((¬ x5 = p2 → Post 0) ∧ (x5 = p2 → Post 1))))))
set_option maxRecDepth 100000 in
set_option maxHeartbeats 4000000 in
theorem k_X1_isIn {l : Launch} {D : va_G} {cA : Nat → ClassId} {N0 zE : Nat} {a0 : Nat} {p1 : Int32} {p2 : Int32} {T : zT} {F : zF} {Post : Int32 → Prop} (h : v_X1_isIn a0 p1 p2 T F Post) : z_Mt l D cA N0 zE yX1_isIn cX1_isIn 3 (some .boolean) ({ frames := 0, cells := 0, slots := 0, locals := 0 } : Room) [.ref a0, .int p1, .int p2] T F (fun v T' F' => ∃ r : Int32, v = some (.int r) ∧ T = T' ∧ F = F' ∧ Post r) := by
  unfold v_X1_isIn at h
  refine z_bodyT (by decide) (Nat.le_of_ble_eq_true rfl) ?_
  intro p e s m args below meth c C hnm
  have C : z_C p l s m args meth c RX1 cX1_isIn 3 (some .boolean) D cA N0 zE := C
  show z_w p l e ({ frames := 0, cells := 0, slots := 0, locals := 0 } : Room) s m args below meth c D cA N0 3 0 0 (MQ below (z_Qc D cA N0 (fun v T' F' => ∃ r : Int32, v = some (.int r) ∧ T = T' ∧ F = F' ∧ Post r)) args s 0 0 (fun q => N0 ≤ q)) 0 [(0, .ref a0), (1, .int p1), (2, .int p2)] [] T F
  refine zr_aload_n C 0 dX1_isIn_0 rfl rfl ?_
  obtain ⟨hT1, x3, hv2, h⟩ := h
  refine zr_get C fl_X1_35 hT1 hv2 dX1_isIn_1 ?_
  refine zr_iload_n C 1 dX1_isIn_4 rfl rfl ?_
  obtain ⟨h1, h2⟩ := h
  refine zr_icmp_ne C 20 dX1_isIn_5 (by decide) (fun hc => ?_) (fun hc => ?_)
  · have h := h1 hc
    clear h1 h2
    refine zr_iconst C 0 dX1_isIn_20 (by decide) ?_
    exact zr_zret C rfl (Or.inl rfl) ⟨_, rfl, rfl, rfl, h⟩ (Nat.le_of_ble_eq_true rfl) (Nat.le_of_ble_eq_true rfl) dX1_isIn_21
  · have h := h2 hc
    clear h1 h2
    refine zr_aload_n C 0 dX1_isIn_8 rfl rfl ?_
    obtain ⟨x5, hv4, h⟩ := h
    refine zr_get C fl_X1_38 hT1 hv4 dX1_isIn_9 ?_
    refine zr_iload_n C 2 dX1_isIn_12 rfl rfl ?_
    obtain ⟨h1, h2⟩ := h
    refine zr_icmp_ne C 20 dX1_isIn_13 (by decide) (fun hc => ?_) (fun hc => ?_)
    · have h := h1 hc
      clear h1 h2
      refine zr_iconst C 0 dX1_isIn_20 (by decide) ?_
      exact zr_zret C rfl (Or.inl rfl) ⟨_, rfl, rfl, rfl, h⟩ (Nat.le_of_ble_eq_true rfl) (Nat.le_of_ble_eq_true rfl) dX1_isIn_21
    · have h := h2 hc
      clear h1 h2
      refine zr_iconst C 1 dX1_isIn_16 (by decide) ?_
      refine zr_goto C 21 dX1_isIn_17 (by decide) ?_
      exact zr_zret C rfl (Or.inr rfl) ⟨_, rfl, rfl, rfl, h⟩ (Nat.le_of_ble_eq_true rfl) (Nat.le_of_ble_eq_true rfl) dX1_isIn_21
theorem dX1_hasDayIn_0 : decode cX1_hasDayIn 0 = .ok (.aload_n 0, 1) := by decide +kernel
theorem dX1_hasDayIn_1 : decode cX1_hasDayIn 1 = .ok (.getfield 41, 3) := by decide +kernel
theorem dX1_hasDayIn_4 : decode cX1_hasDayIn 4 = .ok (.iload_n 2, 1) := by decide +kernel
theorem dX1_hasDayIn_5 : decode cX1_hasDayIn 5 = .ok (.if_icmp .gt 15, 3) := by decide +kernel
theorem dX1_hasDayIn_20 : decode cX1_hasDayIn 20 = .ok (.iconst 0, 1) := by decide +kernel
theorem dX1_hasDayIn_21 : decode cX1_hasDayIn 21 = .ok (.ireturn, 1) := by decide +kernel
theorem dX1_hasDayIn_8 : decode cX1_hasDayIn 8 = .ok (.iload_n 1, 1) := by decide +kernel
theorem dX1_hasDayIn_9 : decode cX1_hasDayIn 9 = .ok (.aload_n 0, 1) := by decide +kernel
theorem dX1_hasDayIn_10 : decode cX1_hasDayIn 10 = .ok (.getfield 44, 3) := by decide +kernel
theorem dX1_hasDayIn_13 : decode cX1_hasDayIn 13 = .ok (.if_icmp .gt 7, 3) := by decide +kernel
theorem dX1_hasDayIn_16 : decode cX1_hasDayIn 16 = .ok (.iconst 1, 1) := by decide +kernel
theorem dX1_hasDayIn_17 : decode cX1_hasDayIn 17 = .ok (.goto 4, 3) := by decide +kernel
def v_X1_hasDayIn (a0 : Nat) (p1 : Int32) (p2 : Int32) (T : zT) (F : zF) (Post : Int32 → Prop) : Prop :=
  (T a0 = some (2, 12) ∧ ∃ x3 : Int32, F a0 3 = .int x3 ∧ ((p2 < x3 → Post 0) ∧ (¬ p2 < x3 → (∃ x5 : Int32, F a0 4 = .int x5 ∧ ((x5 < p1 → Post 0) ∧ (¬ x5 < p1 → Post 1))))))
set_option maxRecDepth 100000 in
set_option maxHeartbeats 4000000 in
theorem k_X1_hasDayIn {l : Launch} {D : va_G} {cA : Nat → ClassId} {N0 zE : Nat} {a0 : Nat} {p1 : Int32} {p2 : Int32} {T : zT} {F : zF} {Post : Int32 → Prop} (h : v_X1_hasDayIn a0 p1 p2 T F Post) : z_Mt l D cA N0 zE yX1_hasDayIn cX1_hasDayIn 3 (some .boolean) ({ frames := 0, cells := 0, slots := 0, locals := 0 } : Room) [.ref a0, .int p1, .int p2] T F (fun v T' F' => ∃ r : Int32, v = some (.int r) ∧ T = T' ∧ F = F' ∧ Post r) := by
  unfold v_X1_hasDayIn at h
  refine z_bodyT (by decide) (Nat.le_of_ble_eq_true rfl) ?_
  intro p e s m args below meth c C hnm
  have C : z_C p l s m args meth c RX1 cX1_hasDayIn 3 (some .boolean) D cA N0 zE := C
  show z_w p l e ({ frames := 0, cells := 0, slots := 0, locals := 0 } : Room) s m args below meth c D cA N0 3 0 0 (MQ below (z_Qc D cA N0 (fun v T' F' => ∃ r : Int32, v = some (.int r) ∧ T = T' ∧ F = F' ∧ Post r)) args s 0 0 (fun q => N0 ≤ q)) 0 [(0, .ref a0), (1, .int p1), (2, .int p2)] [] T F
  refine zr_aload_n C 0 dX1_hasDayIn_0 rfl rfl ?_
  obtain ⟨hT1, x3, hv2, h⟩ := h
  refine zr_get C fl_X1_41 hT1 hv2 dX1_hasDayIn_1 ?_
  refine zr_iload_n C 2 dX1_hasDayIn_4 rfl rfl ?_
  obtain ⟨h1, h2⟩ := h
  refine zr_icmp_gt C 20 dX1_hasDayIn_5 (by decide) (fun hc => ?_) (fun hc => ?_)
  · have h := h1 hc
    clear h1 h2
    refine zr_iconst C 0 dX1_hasDayIn_20 (by decide) ?_
    exact zr_zret C rfl (Or.inl rfl) ⟨_, rfl, rfl, rfl, h⟩ (Nat.le_of_ble_eq_true rfl) (Nat.le_of_ble_eq_true rfl) dX1_hasDayIn_21
  · have h := h2 hc
    clear h1 h2
    refine zr_iload_n C 1 dX1_hasDayIn_8 rfl rfl ?_
    refine zr_aload_n C 0 dX1_hasDayIn_9 rfl rfl ?_
    obtain ⟨x5, hv4, h⟩ := h
    refine zr_get C fl_X1_44 hT1 hv4 dX1_hasDayIn_10 ?_
    obtain ⟨h1, h2⟩ := h
    refine zr_icmp_gt C 20 dX1_hasDayIn_13 (by decide) (fun hc => ?_) (fun hc => ?_)
    · have h := h1 hc
      clear h1 h2
      refine zr_iconst C 0 dX1_hasDayIn_20 (by decide) ?_
      exact zr_zret C rfl (Or.inl rfl) ⟨_, rfl, rfl, rfl, h⟩ (Nat.le_of_ble_eq_true rfl) (Nat.le_of_ble_eq_true rfl) dX1_hasDayIn_21
    · have h := h2 hc
      clear h1 h2
      refine zr_iconst C 1 dX1_hasDayIn_16 (by decide) ?_
      refine zr_goto C 21 dX1_hasDayIn_17 (by decide) ?_
      exact zr_zret C rfl (Or.inr rfl) ⟨_, rfl, rfl, rfl, h⟩ (Nat.le_of_ble_eq_true rfl) (Nat.le_of_ble_eq_true rfl) dX1_hasDayIn_21
theorem dX1_init_0 : decode cX1_init 0 = .ok (.aload_n 0, 1) := by decide +kernel
theorem dX1_init_1 : decode cX1_init 1 = .ok (.invokespecial 3, 3) := by decide +kernel
theorem dX1_init_4 : decode cX1_init 4 = .ok (.aload_n 0, 1) := by decide +kernel
theorem dX1_init_5 : decode cX1_init 5 = .ok (.iconst 0, 1) := by decide +kernel
theorem dX1_init_6 : decode cX1_init 6 = .ok (.putfield 9, 3) := by decide +kernel
theorem dX1_init_9 : decode cX1_init 9 = .ok (.aload_n 0, 1) := by decide +kernel
theorem dX1_init_10 : decode cX1_init 10 = .ok (.iconst 0, 1) := by decide +kernel
theorem dX1_init_11 : decode cX1_init 11 = .ok (.putfield 15, 3) := by decide +kernel
theorem dX1_init_14 : decode cX1_init 14 = .ok (.aload_n 0, 1) := by decide +kernel
theorem dX1_init_15 : decode cX1_init 15 = .ok (.iconst 0, 1) := by decide +kernel
theorem dX1_init_16 : decode cX1_init 16 = .ok (.putfield 18, 3) := by decide +kernel
theorem dX1_init_19 : decode cX1_init 19 = .ok (.aload_n 0, 1) := by decide +kernel
theorem dX1_init_20 : decode cX1_init 20 = .ok (.iconst 0, 1) := by decide +kernel
theorem dX1_init_21 : decode cX1_init 21 = .ok (.putfield 21, 3) := by decide +kernel
theorem dX1_init_24 : decode cX1_init 24 = .ok (.aload_n 0, 1) := by decide +kernel
theorem dX1_init_25 : decode cX1_init 25 = .ok (.iconst 0, 1) := by decide +kernel
theorem dX1_init_26 : decode cX1_init 26 = .ok (.putfield 24, 3) := by decide +kernel
theorem dX1_init_29 : decode cX1_init 29 = .ok (.aload_n 0, 1) := by decide +kernel
theorem dX1_init_30 : decode cX1_init 30 = .ok (.iconst 0, 1) := by decide +kernel
theorem dX1_init_31 : decode cX1_init 31 = .ok (.putfield 28, 3) := by decide +kernel
theorem dX1_init_34 : decode cX1_init 34 = .ok (.aload_n 0, 1) := by decide +kernel
theorem dX1_init_35 : decode cX1_init 35 = .ok (.aload_n 1, 1) := by decide +kernel
theorem dX1_init_36 : decode cX1_init 36 = .ok (.putfield 31, 3) := by decide +kernel
theorem dX1_init_39 : decode cX1_init 39 = .ok (.aload_n 0, 1) := by decide +kernel
theorem dX1_init_40 : decode cX1_init 40 = .ok (.iload_n 2, 1) := by decide +kernel
theorem dX1_init_41 : decode cX1_init 41 = .ok (.putfield 35, 3) := by decide +kernel
theorem dX1_init_44 : decode cX1_init 44 = .ok (.aload_n 0, 1) := by decide +kernel
theorem dX1_init_45 : decode cX1_init 45 = .ok (.iload_n 3, 1) := by decide +kernel
theorem dX1_init_46 : decode cX1_init 46 = .ok (.putfield 38, 3) := by decide +kernel
theorem dX1_init_49 : decode cX1_init 49 = .ok (.aload_n 0, 1) := by decide +kernel
theorem dX1_init_50 : decode cX1_init 50 = .ok (.iload 4, 2) := by decide +kernel
theorem dX1_init_52 : decode cX1_init 52 = .ok (.putfield 41, 3) := by decide +kernel
theorem dX1_init_55 : decode cX1_init 55 = .ok (.aload_n 0, 1) := by decide +kernel
theorem dX1_init_56 : decode cX1_init 56 = .ok (.iload 5, 2) := by decide +kernel
theorem dX1_init_58 : decode cX1_init 58 = .ok (.putfield 44, 3) := by decide +kernel
theorem dX1_init_61 : decode cX1_init 61 = .ok (.aload_n 0, 1) := by decide +kernel
theorem dX1_init_62 : decode cX1_init 62 = .ok (.iload 6, 2) := by decide +kernel
theorem dX1_init_64 : decode cX1_init 64 = .ok (.putfield 47, 3) := by decide +kernel
theorem dX1_init_67 : decode cX1_init 67 = .ok (.return_, 1) := by decide +kernel
def v_X1_init (a0 : Nat) (a1 : Nat) (p2 : Int32) (p3 : Int32) (p4 : Int32) (p5 : Int32) (p6 : Int32) (T : zT) (F : zF) (Post : zF → Prop) : Prop :=
  (T a0 = some (2, 12) ∧ Post (zu (zu (zu (zu (zu (zu (zu (zu (zu (zu (zu (zu F a0 6 (.int 0)) a0 7 (.int 0)) a0 8 (.int 0)) a0 9 (.int 0)) a0 10 (.int 0)) a0 11 (.int 0)) a0 0 (.ref a1)) a0 1 (.int p2)) a0 2 (.int p3)) a0 3 (.int p4)) a0 4 (.int p5)) a0 5 (.int p6)))
set_option maxRecDepth 100000 in
set_option maxHeartbeats 4000000 in
theorem k_X1_init {l : Launch} {D : va_G} {cA : Nat → ClassId} {N0 zE : Nat} {a0 : Nat} {a1 : Nat} {p2 : Int32} {p3 : Int32} {p4 : Int32} {p5 : Int32} {p6 : Int32} {T : zT} {F : zF} {Post : zF → Prop} (h : v_X1_init a0 a1 p2 p3 p4 p5 p6 T F Post) : z_Mt l D cA N0 zE yX1_init cX1_init 7 none ({ frames := 1, cells := 0, slots := 0, locals := 20 } : Room) [.ref a0, .ref a1, .int p2, .int p3, .int p4, .int p5, .int p6] T F (fun v T' F' => v = none ∧ T = T' ∧ Post F') := by
  unfold v_X1_init at h
  refine z_bodyT (by decide) (Nat.le_of_ble_eq_true rfl) ?_
  intro p e s m args below meth c C hnm
  have C : z_C p l s m args meth c RX1 cX1_init 7 none D cA N0 zE := C
  show z_w p l e ({ frames := 1, cells := 0, slots := 0, locals := 20 } : Room) s m args below meth c D cA N0 7 0 0 (MQ below (z_Qc D cA N0 (fun v T' F' => v = none ∧ T = T' ∧ Post F')) args s 0 0 (fun q => N0 ≤ q)) 0 [(0, .ref a0), (1, .ref a1), (2, .int p2), (3, .int p3), (4, .int p4), (5, .int p5), (6, .int p6)] [] T F
  refine zr_aload_n C 0 dX1_init_0 rfl rfl ?_
  refine zr_objInit C zq_566 zq_44 zq_45 (by decide) (Nat.le_of_ble_eq_true rfl) dX1_init_1 ?_
  refine zr_aload_n C 0 dX1_init_4 rfl rfl ?_
  refine zr_iconst C 0 dX1_init_5 (by decide) ?_
  obtain ⟨hT1, h⟩ := h
  refine zr_put C fl_X1_9 hT1 rfl rfl dX1_init_6 ?_
  refine zr_aload_n C 0 dX1_init_9 rfl rfl ?_
  refine zr_iconst C 0 dX1_init_10 (by decide) ?_
  refine zr_put C fl_X1_15 hT1 rfl rfl dX1_init_11 ?_
  refine zr_aload_n C 0 dX1_init_14 rfl rfl ?_
  refine zr_iconst C 0 dX1_init_15 (by decide) ?_
  refine zr_put C fl_X1_18 hT1 rfl rfl dX1_init_16 ?_
  refine zr_aload_n C 0 dX1_init_19 rfl rfl ?_
  refine zr_iconst C 0 dX1_init_20 (by decide) ?_
  refine zr_put C fl_X1_21 hT1 rfl rfl dX1_init_21 ?_
  refine zr_aload_n C 0 dX1_init_24 rfl rfl ?_
  refine zr_iconst C 0 dX1_init_25 (by decide) ?_
  refine zr_put C fl_X1_24 hT1 rfl rfl dX1_init_26 ?_
  refine zr_aload_n C 0 dX1_init_29 rfl rfl ?_
  refine zr_iconst C 0 dX1_init_30 (by decide) ?_
  refine zr_put C fl_X1_28 hT1 rfl rfl dX1_init_31 ?_
  refine zr_aload_n C 0 dX1_init_34 rfl rfl ?_
  refine zr_aload_n C 1 dX1_init_35 rfl rfl ?_
  refine zr_put C fl_X1_31 hT1 rfl rfl dX1_init_36 ?_
  refine zr_aload_n C 0 dX1_init_39 rfl rfl ?_
  refine zr_iload_n C 2 dX1_init_40 rfl rfl ?_
  refine zr_put C fl_X1_35 hT1 rfl rfl dX1_init_41 ?_
  refine zr_aload_n C 0 dX1_init_44 rfl rfl ?_
  refine zr_iload_n C 3 dX1_init_45 rfl rfl ?_
  refine zr_put C fl_X1_38 hT1 rfl rfl dX1_init_46 ?_
  refine zr_aload_n C 0 dX1_init_49 rfl rfl ?_
  refine zr_iload C 4 dX1_init_50 rfl ?_
  refine zr_put C fl_X1_41 hT1 rfl rfl dX1_init_52 ?_
  refine zr_aload_n C 0 dX1_init_55 rfl rfl ?_
  refine zr_iload C 5 dX1_init_56 rfl ?_
  refine zr_put C fl_X1_44 hT1 rfl rfl dX1_init_58 ?_
  refine zr_aload_n C 0 dX1_init_61 rfl rfl ?_
  refine zr_iload C 6 dX1_init_62 rfl ?_
  refine zr_put C fl_X1_47 hT1 rfl rfl dX1_init_64 ?_
  exact zr_vret C rfl ⟨rfl, rfl, h⟩ (Nat.le_of_ble_eq_true rfl) (Nat.le_of_ble_eq_true rfl) dX1_init_67
theorem dX1_giveUp_0 : decode cX1_giveUp 0 = .ok (.aload_n 0, 1) := by decide +kernel
theorem dX1_giveUp_1 : decode cX1_giveUp 1 = .ok (.aload_n 0, 1) := by decide +kernel
theorem dX1_giveUp_2 : decode cX1_giveUp 2 = .ok (.getfield 9, 3) := by decide +kernel
theorem dX1_giveUp_5 : decode cX1_giveUp 5 = .ok (.ifCond .ne 7, 3) := by decide +kernel
theorem dX1_giveUp_12 : decode cX1_giveUp 12 = .ok (.iconst 0, 1) := by decide +kernel
theorem dX1_giveUp_13 : decode cX1_giveUp 13 = .ok (.putfield 28, 3) := by decide +kernel
theorem dX1_giveUp_16 : decode cX1_giveUp 16 = .ok (.aload_n 0, 1) := by decide +kernel
theorem dX1_giveUp_17 : decode cX1_giveUp 17 = .ok (.iconst 3, 1) := by decide +kernel
theorem dX1_giveUp_18 : decode cX1_giveUp 18 = .ok (.putfield 9, 3) := by decide +kernel
theorem dX1_giveUp_21 : decode cX1_giveUp 21 = .ok (.aload_n 0, 1) := by decide +kernel
theorem dX1_giveUp_22 : decode cX1_giveUp 22 = .ok (.iconst 0, 1) := by decide +kernel
theorem dX1_giveUp_23 : decode cX1_giveUp 23 = .ok (.putfield 24, 3) := by decide +kernel
theorem dX1_giveUp_26 : decode cX1_giveUp 26 = .ok (.return_, 1) := by decide +kernel
theorem dX1_giveUp_8 : decode cX1_giveUp 8 = .ok (.iconst 1, 1) := by decide +kernel
theorem dX1_giveUp_9 : decode cX1_giveUp 9 = .ok (.goto 4, 3) := by decide +kernel
def v_X1_giveUp (a0 : Nat) (T : zT) (F : zF) (Post : zF → Prop) : Prop :=
  (T a0 = some (2, 12) ∧ ∃ x3 : Int32, F a0 6 = .int x3 ∧ ((¬ x3 = 0 → Post (zu (zu (zu F a0 11 (.int 0)) a0 6 (.int 3)) a0 10 (.int 0))) ∧ (x3 = 0 → Post (zu (zu (zu F a0 11 (.int 1)) a0 6 (.int 3)) a0 10 (.int 0)))))
set_option maxRecDepth 100000 in
set_option maxHeartbeats 4000000 in
theorem k_X1_giveUp {l : Launch} {D : va_G} {cA : Nat → ClassId} {N0 zE : Nat} {a0 : Nat} {T : zT} {F : zF} {Post : zF → Prop} (h : v_X1_giveUp a0 T F Post) : z_Mt l D cA N0 zE yX1_giveUp cX1_giveUp 1 none ({ frames := 0, cells := 0, slots := 0, locals := 0 } : Room) [.ref a0] T F (fun v T' F' => v = none ∧ T = T' ∧ Post F') := by
  unfold v_X1_giveUp at h
  refine z_bodyT (by decide) (Nat.le_of_ble_eq_true rfl) ?_
  intro p e s m args below meth c C hnm
  have C : z_C p l s m args meth c RX1 cX1_giveUp 1 none D cA N0 zE := C
  show z_w p l e ({ frames := 0, cells := 0, slots := 0, locals := 0 } : Room) s m args below meth c D cA N0 1 0 0 (MQ below (z_Qc D cA N0 (fun v T' F' => v = none ∧ T = T' ∧ Post F')) args s 0 0 (fun q => N0 ≤ q)) 0 [(0, .ref a0)] [] T F
  refine zr_aload_n C 0 dX1_giveUp_0 rfl rfl ?_
  refine zr_aload_n C 0 dX1_giveUp_1 rfl rfl ?_
  obtain ⟨hT1, x3, hv2, h⟩ := h
  refine zr_get C fl_X1_9 hT1 hv2 dX1_giveUp_2 ?_
  obtain ⟨h1, h2⟩ := h
  refine zr_if_ne C 12 dX1_giveUp_5 (by decide) (fun hc => ?_) (fun hc => ?_)
  · have h := h1 hc
    clear h1 h2
    refine zr_iconst C 0 dX1_giveUp_12 (by decide) ?_
    refine zr_put C fl_X1_28 hT1 rfl rfl dX1_giveUp_13 ?_
    refine zr_aload_n C 0 dX1_giveUp_16 rfl rfl ?_
    refine zr_iconst C 3 dX1_giveUp_17 (by decide) ?_
    refine zr_put C fl_X1_9 hT1 rfl rfl dX1_giveUp_18 ?_
    refine zr_aload_n C 0 dX1_giveUp_21 rfl rfl ?_
    refine zr_iconst C 0 dX1_giveUp_22 (by decide) ?_
    refine zr_put C fl_X1_24 hT1 rfl rfl dX1_giveUp_23 ?_
    exact zr_vret C rfl ⟨rfl, rfl, h⟩ (Nat.le_of_ble_eq_true rfl) (Nat.le_of_ble_eq_true rfl) dX1_giveUp_26
  · have h := h2 hc
    clear h1 h2
    refine zr_iconst C 1 dX1_giveUp_8 (by decide) ?_
    refine zr_goto C 13 dX1_giveUp_9 (by decide) ?_
    refine zr_put C fl_X1_28 hT1 rfl rfl dX1_giveUp_13 ?_
    refine zr_aload_n C 0 dX1_giveUp_16 rfl rfl ?_
    refine zr_iconst C 3 dX1_giveUp_17 (by decide) ?_
    refine zr_put C fl_X1_9 hT1 rfl rfl dX1_giveUp_18 ?_
    refine zr_aload_n C 0 dX1_giveUp_21 rfl rfl ?_
    refine zr_iconst C 0 dX1_giveUp_22 (by decide) ?_
    refine zr_put C fl_X1_24 hT1 rfl rfl dX1_giveUp_23 ?_
    exact zr_vret C rfl ⟨rfl, rfl, h⟩ (Nat.le_of_ble_eq_true rfl) (Nat.le_of_ble_eq_true rfl) dX1_giveUp_26
theorem dX1_costNow_0 : decode cX1_costNow 0 = .ok (.aload_n 0, 1) := by decide +kernel
theorem dX1_costNow_1 : decode cX1_costNow 1 = .ok (.getfield 44, 3) := by decide +kernel
theorem dX1_costNow_4 : decode cX1_costNow 4 = .ok (.aload_n 0, 1) := by decide +kernel
theorem dX1_costNow_5 : decode cX1_costNow 5 = .ok (.getfield 41, 3) := by decide +kernel
theorem dX1_costNow_8 : decode cX1_costNow 8 = .ok (.isub, 1) := by decide +kernel
theorem dX1_costNow_9 : decode cX1_costNow 9 = .ok (.iconst 1, 1) := by decide +kernel
theorem dX1_costNow_10 : decode cX1_costNow 10 = .ok (.iadd, 1) := by decide +kernel
theorem dX1_costNow_11 : decode cX1_costNow 11 = .ok (.istore_n 1, 1) := by decide +kernel
theorem dX1_costNow_12 : decode cX1_costNow 12 = .ok (.aload_n 0, 1) := by decide +kernel
theorem dX1_costNow_13 : decode cX1_costNow 13 = .ok (.getfield 28, 3) := by decide +kernel
theorem dX1_costNow_16 : decode cX1_costNow 16 = .ok (.ifCond .ne 15, 3) := by decide +kernel
theorem dX1_costNow_31 : decode cX1_costNow 31 = .ok (.iconst 0, 1) := by decide +kernel
theorem dX1_costNow_32 : decode cX1_costNow 32 = .ok (.ireturn, 1) := by decide +kernel
theorem dX1_costNow_19 : decode cX1_costNow 19 = .ok (.aload_n 0, 1) := by decide +kernel
theorem dX1_costNow_20 : decode cX1_costNow 20 = .ok (.getfield 9, 3) := by decide +kernel
theorem dX1_costNow_23 : decode cX1_costNow 23 = .ok (.iconst 4, 1) := by decide +kernel
theorem dX1_costNow_24 : decode cX1_costNow 24 = .ok (.if_icmp .eq 7, 3) := by decide +kernel
theorem dX1_costNow_27 : decode cX1_costNow 27 = .ok (.iload_n 1, 1) := by decide +kernel
theorem dX1_costNow_28 : decode cX1_costNow 28 = .ok (.ifCond .gt 5, 3) := by decide +kernel
theorem dX1_costNow_33 : decode cX1_costNow 33 = .ok (.aload_n 0, 1) := by decide +kernel
theorem dX1_costNow_34 : decode cX1_costNow 34 = .ok (.getfield 47, 3) := by decide +kernel
theorem dX1_costNow_37 : decode cX1_costNow 37 = .ok (.aload_n 0, 1) := by decide +kernel
theorem dX1_costNow_38 : decode cX1_costNow 38 = .ok (.getfield 18, 3) := by decide +kernel
theorem dX1_costNow_41 : decode cX1_costNow 41 = .ok (.aload_n 0, 1) := by decide +kernel
theorem dX1_costNow_42 : decode cX1_costNow 42 = .ok (.getfield 47, 3) := by decide +kernel
theorem dX1_costNow_45 : decode cX1_costNow 45 = .ok (.iload_n 1, 1) := by decide +kernel
theorem dX1_costNow_46 : decode cX1_costNow 46 = .ok (.idiv, 1) := by decide +kernel
theorem dX1_costNow_47 : decode cX1_costNow 47 = .ok (.imul, 1) := by decide +kernel
theorem dX1_costNow_48 : decode cX1_costNow 48 = .ok (.isub, 1) := by decide +kernel
theorem dX1_costNow_49 : decode cX1_costNow 49 = .ok (.ireturn, 1) := by decide +kernel
def v_X1_costNow (a0 : Nat) (T : zT) (F : zF) (Post : Int32 → Prop) : Prop :=
  (T a0 = some (2, 12) ∧ ∃ x3 : Int32, F a0 4 = .int x3 ∧ ∃ x5 : Int32, F a0 3 = .int x5 ∧ ∃ x7 : Int32, F a0 11 = .int x7 ∧ ((¬ x7 = 0 → Post 0) ∧ (x7 = 0 → (∃ x9 : Int32, F a0 6 = .int x9 ∧ ((x9 = 4 → Post 0) ∧ (¬ x9 = 4 → ((0 < ((x3 - x5) + 1) → (∃ x11 : Int32, F a0 5 = .int x11 ∧ ∃ x13 : Int32, F a0 8 = .int x13 ∧ ¬ ((x3 - x5) + 1) = 0 ∧ Post (x11 - (x13 * (x11 / ((x3 - x5) + 1)))))) ∧ (¬ 0 < ((x3 - x5) + 1) → Post 0))))))))
set_option maxRecDepth 100000 in
set_option maxHeartbeats 4000000 in
theorem k_X1_costNow {l : Launch} {D : va_G} {cA : Nat → ClassId} {N0 zE : Nat} {a0 : Nat} {T : zT} {F : zF} {Post : Int32 → Prop} (h : v_X1_costNow a0 T F Post) : z_Mt l D cA N0 zE yX1_costNow cX1_costNow 2 (some .int) ({ frames := 0, cells := 0, slots := 0, locals := 0 } : Room) [.ref a0] T F (fun v T' F' => ∃ r : Int32, v = some (.int r) ∧ T = T' ∧ F = F' ∧ Post r) := by
  unfold v_X1_costNow at h
  refine z_bodyT (by decide) (Nat.le_of_ble_eq_true rfl) ?_
  intro p e s m args below meth c C hnm
  have C : z_C p l s m args meth c RX1 cX1_costNow 2 (some .int) D cA N0 zE := C
  show z_w p l e ({ frames := 0, cells := 0, slots := 0, locals := 0 } : Room) s m args below meth c D cA N0 2 0 0 (MQ below (z_Qc D cA N0 (fun v T' F' => ∃ r : Int32, v = some (.int r) ∧ T = T' ∧ F = F' ∧ Post r)) args s 0 0 (fun q => N0 ≤ q)) 0 [(0, .ref a0)] [] T F
  refine zr_aload_n C 0 dX1_costNow_0 rfl rfl ?_
  obtain ⟨hT1, x3, hv2, h⟩ := h
  refine zr_get C fl_X1_44 hT1 hv2 dX1_costNow_1 ?_
  refine zr_aload_n C 0 dX1_costNow_4 rfl rfl ?_
  obtain ⟨x5, hv4, h⟩ := h
  refine zr_get C fl_X1_41 hT1 hv4 dX1_costNow_5 ?_
  refine zr_isub C dX1_costNow_8 ?_
  refine zr_iconst C 1 dX1_costNow_9 (by decide) ?_
  refine zr_iadd C dX1_costNow_10 ?_
  refine zr_istore_n C [(1, .int ((x3 - x5) + 1)), (0, .ref a0)] dX1_costNow_11 rfl (by decide) rfl ?_
  refine zr_aload_n C 1 dX1_costNow_12 rfl rfl ?_
  obtain ⟨x7, hv6, h⟩ := h
  refine zr_get C fl_X1_28 hT1 hv6 dX1_costNow_13 ?_
  obtain ⟨h1, h2⟩ := h
  refine zr_if_ne C 31 dX1_costNow_16 (by decide) (fun hc => ?_) (fun hc => ?_)
  · have h := h1 hc
    clear h1 h2
    refine zr_iconst C 0 dX1_costNow_31 (by decide) ?_
    exact zr_iret C rfl ⟨_, rfl, rfl, rfl, h⟩ (Nat.le_of_ble_eq_true rfl) (Nat.le_of_ble_eq_true rfl) dX1_costNow_32
  · have h := h2 hc
    clear h1 h2
    refine zr_aload_n C 1 dX1_costNow_19 rfl rfl ?_
    obtain ⟨x9, hv8, h⟩ := h
    refine zr_get C fl_X1_9 hT1 hv8 dX1_costNow_20 ?_
    refine zr_iconst C 4 dX1_costNow_23 (by decide) ?_
    obtain ⟨h1, h2⟩ := h
    refine zr_icmp_eq C 31 dX1_costNow_24 (by decide) (fun hc => ?_) (fun hc => ?_)
    · have h := h1 hc
      clear h1 h2
      refine zr_iconst C 0 dX1_costNow_31 (by decide) ?_
      exact zr_iret C rfl ⟨_, rfl, rfl, rfl, h⟩ (Nat.le_of_ble_eq_true rfl) (Nat.le_of_ble_eq_true rfl) dX1_costNow_32
    · have h := h2 hc
      clear h1 h2
      refine zr_iload_n C 0 dX1_costNow_27 rfl rfl ?_
      obtain ⟨h1, h2⟩ := h
      refine zr_if_gt C 33 dX1_costNow_28 (by decide) (fun hc => ?_) (fun hc => ?_)
      · have h := h1 hc
        clear h1 h2
        refine zr_aload_n C 1 dX1_costNow_33 rfl rfl ?_
        obtain ⟨x11, hv10, h⟩ := h
        refine zr_get C fl_X1_47 hT1 hv10 dX1_costNow_34 ?_
        refine zr_aload_n C 1 dX1_costNow_37 rfl rfl ?_
        obtain ⟨x13, hv12, h⟩ := h
        refine zr_get C fl_X1_18 hT1 hv12 dX1_costNow_38 ?_
        refine zr_aload_n C 1 dX1_costNow_41 rfl rfl ?_
        refine zr_get C fl_X1_47 hT1 hv10 dX1_costNow_42 ?_
        refine zr_iload_n C 0 dX1_costNow_45 rfl rfl ?_
        obtain ⟨hz14, h⟩ := h
        refine zr_idiv C dX1_costNow_46 hz14 ?_
        refine zr_imul C dX1_costNow_47 ?_
        refine zr_isub C dX1_costNow_48 ?_
        exact zr_iret C rfl ⟨_, rfl, rfl, rfl, h⟩ (Nat.le_of_ble_eq_true rfl) (Nat.le_of_ble_eq_true rfl) dX1_costNow_49
      · have h := h2 hc
        clear h1 h2
        refine zr_iconst C 0 dX1_costNow_31 (by decide) ?_
        exact zr_iret C rfl ⟨_, rfl, rfl, rfl, h⟩ (Nat.le_of_ble_eq_true rfl) (Nat.le_of_ble_eq_true rfl) dX1_costNow_32
theorem dX1_takePiece_0 : decode cX1_takePiece 0 = .ok (.aload_n 0, 1) := by decide +kernel
theorem dX1_takePiece_1 : decode cX1_takePiece 1 = .ok (.aload_n 1, 1) := by decide +kernel
theorem dX1_takePiece_2 : decode cX1_takePiece 2 = .ok (.putfield 31, 3) := by decide +kernel
theorem dX1_takePiece_5 : decode cX1_takePiece 5 = .ok (.aload_n 0, 1) := by decide +kernel
theorem dX1_takePiece_6 : decode cX1_takePiece 6 = .ok (.dup, 1) := by decide +kernel
theorem dX1_takePiece_7 : decode cX1_takePiece 7 = .ok (.getfield 21, 3) := by decide +kernel
theorem dX1_takePiece_10 : decode cX1_takePiece 10 = .ok (.iconst 1, 1) := by decide +kernel
theorem dX1_takePiece_11 : decode cX1_takePiece 11 = .ok (.iadd, 1) := by decide +kernel
theorem dX1_takePiece_12 : decode cX1_takePiece 12 = .ok (.putfield 21, 3) := by decide +kernel
theorem dX1_takePiece_15 : decode cX1_takePiece 15 = .ok (.return_, 1) := by decide +kernel
def v_X1_takePiece (a0 : Nat) (a1 : Nat) (T : zT) (F : zF) (Post : zF → Prop) : Prop :=
  (T a0 = some (2, 12) ∧ ∃ x3 : Int32, (zu F a0 0 (.ref a1)) a0 9 = .int x3 ∧ Post (zu (zu F a0 0 (.ref a1)) a0 9 (.int (x3 + 1))))
set_option maxRecDepth 100000 in
set_option maxHeartbeats 4000000 in
theorem k_X1_takePiece {l : Launch} {D : va_G} {cA : Nat → ClassId} {N0 zE : Nat} {a0 : Nat} {a1 : Nat} {T : zT} {F : zF} {Post : zF → Prop} (h : v_X1_takePiece a0 a1 T F Post) : z_Mt l D cA N0 zE yX1_takePiece cX1_takePiece 2 none ({ frames := 0, cells := 0, slots := 0, locals := 0 } : Room) [.ref a0, .ref a1] T F (fun v T' F' => v = none ∧ T = T' ∧ Post F') := by
  unfold v_X1_takePiece at h
  refine z_bodyT (by decide) (Nat.le_of_ble_eq_true rfl) ?_
  intro p e s m args below meth c C hnm
  have C : z_C p l s m args meth c RX1 cX1_takePiece 2 none D cA N0 zE := C
  show z_w p l e ({ frames := 0, cells := 0, slots := 0, locals := 0 } : Room) s m args below meth c D cA N0 2 0 0 (MQ below (z_Qc D cA N0 (fun v T' F' => v = none ∧ T = T' ∧ Post F')) args s 0 0 (fun q => N0 ≤ q)) 0 [(0, .ref a0), (1, .ref a1)] [] T F
  refine zr_aload_n C 0 dX1_takePiece_0 rfl rfl ?_
  refine zr_aload_n C 1 dX1_takePiece_1 rfl rfl ?_
  obtain ⟨hT1, h⟩ := h
  refine zr_put C fl_X1_31 hT1 rfl rfl dX1_takePiece_2 ?_
  refine zr_aload_n C 0 dX1_takePiece_5 rfl rfl ?_
  refine zr_dup C dX1_takePiece_6 rfl ?_
  obtain ⟨x3, hv2, h⟩ := h
  refine zr_get C fl_X1_21 hT1 hv2 dX1_takePiece_7 ?_
  refine zr_iconst C 1 dX1_takePiece_10 (by decide) ?_
  refine zr_iadd C dX1_takePiece_11 ?_
  refine zr_put C fl_X1_21 hT1 rfl rfl dX1_takePiece_12 ?_
  exact zr_vret C rfl ⟨rfl, rfl, h⟩ (Nat.le_of_ble_eq_true rfl) (Nat.le_of_ble_eq_true rfl) dX1_takePiece_15
theorem dX1_endIfPast_0 : decode cX1_endIfPast 0 = .ok (.aload_n 0, 1) := by decide +kernel
theorem dX1_endIfPast_1 : decode cX1_endIfPast 1 = .ok (.getfield 9, 3) := by decide +kernel
theorem dX1_endIfPast_4 : decode cX1_endIfPast 4 = .ok (.iconst 1, 1) := by decide +kernel
theorem dX1_endIfPast_5 : decode cX1_endIfPast 5 = .ok (.if_icmp .ne 21, 3) := by decide +kernel
theorem dX1_endIfPast_26 : decode cX1_endIfPast 26 = .ok (.return_, 1) := by decide +kernel
theorem dX1_endIfPast_8 : decode cX1_endIfPast 8 = .ok (.aload_n 0, 1) := by decide +kernel
theorem dX1_endIfPast_9 : decode cX1_endIfPast 9 = .ok (.getfield 44, 3) := by decide +kernel
theorem dX1_endIfPast_12 : decode cX1_endIfPast 12 = .ok (.iload_n 1, 1) := by decide +kernel
theorem dX1_endIfPast_13 : decode cX1_endIfPast 13 = .ok (.if_icmp .ge 13, 3) := by decide +kernel
theorem dX1_endIfPast_16 : decode cX1_endIfPast 16 = .ok (.aload_n 0, 1) := by decide +kernel
theorem dX1_endIfPast_17 : decode cX1_endIfPast 17 = .ok (.iconst 2, 1) := by decide +kernel
theorem dX1_endIfPast_18 : decode cX1_endIfPast 18 = .ok (.putfield 9, 3) := by decide +kernel
theorem dX1_endIfPast_21 : decode cX1_endIfPast 21 = .ok (.aload_n 0, 1) := by decide +kernel
theorem dX1_endIfPast_22 : decode cX1_endIfPast 22 = .ok (.iconst 0, 1) := by decide +kernel
theorem dX1_endIfPast_23 : decode cX1_endIfPast 23 = .ok (.putfield 24, 3) := by decide +kernel
def v_X1_endIfPast (a0 : Nat) (p1 : Int32) (T : zT) (F : zF) (Post : zF → Prop) : Prop :=
  (T a0 = some (2, 12) ∧ ∃ x3 : Int32, F a0 6 = .int x3 ∧ ((¬ x3 = 1 → Post F) ∧ (x3 = 1 → (∃ x5 : Int32, F a0 4 = .int x5 ∧ ((p1 ≤ x5 → Post F) ∧ (¬ p1 ≤ x5 → Post (zu (zu F a0 6 (.int 2)) a0 10 (.int 0))))))))
set_option maxRecDepth 100000 in
set_option maxHeartbeats 4000000 in
theorem k_X1_endIfPast {l : Launch} {D : va_G} {cA : Nat → ClassId} {N0 zE : Nat} {a0 : Nat} {p1 : Int32} {T : zT} {F : zF} {Post : zF → Prop} (h : v_X1_endIfPast a0 p1 T F Post) : z_Mt l D cA N0 zE yX1_endIfPast cX1_endIfPast 2 none ({ frames := 0, cells := 0, slots := 0, locals := 0 } : Room) [.ref a0, .int p1] T F (fun v T' F' => v = none ∧ T = T' ∧ Post F') := by
  unfold v_X1_endIfPast at h
  refine z_bodyT (by decide) (Nat.le_of_ble_eq_true rfl) ?_
  intro p e s m args below meth c C hnm
  have C : z_C p l s m args meth c RX1 cX1_endIfPast 2 none D cA N0 zE := C
  show z_w p l e ({ frames := 0, cells := 0, slots := 0, locals := 0 } : Room) s m args below meth c D cA N0 2 0 0 (MQ below (z_Qc D cA N0 (fun v T' F' => v = none ∧ T = T' ∧ Post F')) args s 0 0 (fun q => N0 ≤ q)) 0 [(0, .ref a0), (1, .int p1)] [] T F
  refine zr_aload_n C 0 dX1_endIfPast_0 rfl rfl ?_
  obtain ⟨hT1, x3, hv2, h⟩ := h
  refine zr_get C fl_X1_9 hT1 hv2 dX1_endIfPast_1 ?_
  refine zr_iconst C 1 dX1_endIfPast_4 (by decide) ?_
  obtain ⟨h1, h2⟩ := h
  refine zr_icmp_ne C 26 dX1_endIfPast_5 (by decide) (fun hc => ?_) (fun hc => ?_)
  · have h := h1 hc
    clear h1 h2
    exact zr_vret C rfl ⟨rfl, rfl, h⟩ (Nat.le_of_ble_eq_true rfl) (Nat.le_of_ble_eq_true rfl) dX1_endIfPast_26
  · have h := h2 hc
    clear h1 h2
    refine zr_aload_n C 0 dX1_endIfPast_8 rfl rfl ?_
    obtain ⟨x5, hv4, h⟩ := h
    refine zr_get C fl_X1_44 hT1 hv4 dX1_endIfPast_9 ?_
    refine zr_iload_n C 1 dX1_endIfPast_12 rfl rfl ?_
    obtain ⟨h1, h2⟩ := h
    refine zr_icmp_ge C 26 dX1_endIfPast_13 (by decide) (fun hc => ?_) (fun hc => ?_)
    · have h := h1 hc
      clear h1 h2
      exact zr_vret C rfl ⟨rfl, rfl, h⟩ (Nat.le_of_ble_eq_true rfl) (Nat.le_of_ble_eq_true rfl) dX1_endIfPast_26
    · have h := h2 hc
      clear h1 h2
      refine zr_aload_n C 0 dX1_endIfPast_16 rfl rfl ?_
      refine zr_iconst C 2 dX1_endIfPast_17 (by decide) ?_
      refine zr_put C fl_X1_9 hT1 rfl rfl dX1_endIfPast_18 ?_
      refine zr_aload_n C 0 dX1_endIfPast_21 rfl rfl ?_
      refine zr_iconst C 0 dX1_endIfPast_22 (by decide) ?_
      refine zr_put C fl_X1_24 hT1 rfl rfl dX1_endIfPast_23 ?_
      exact zr_vret C rfl ⟨rfl, rfl, h⟩ (Nat.le_of_ble_eq_true rfl) (Nat.le_of_ble_eq_true rfl) dX1_endIfPast_26
theorem dX1_missesDeadline_0 : decode cX1_missesDeadline 0 = .ok (.aload_n 0, 1) := by decide +kernel
theorem dX1_missesDeadline_1 : decode cX1_missesDeadline 1 = .ok (.getfield 9, 3) := by decide +kernel
theorem dX1_missesDeadline_4 : decode cX1_missesDeadline 4 = .ok (.ifCond .ne 32, 3) := by decide +kernel
theorem dX1_missesDeadline_36 : decode cX1_missesDeadline 36 = .ok (.iconst 0, 1) := by decide +kernel
theorem dX1_missesDeadline_37 : decode cX1_missesDeadline 37 = .ok (.ireturn, 1) := by decide +kernel
theorem dX1_missesDeadline_7 : decode cX1_missesDeadline 7 = .ok (.iload_n 1, 1) := by decide +kernel
theorem dX1_missesDeadline_8 : decode cX1_missesDeadline 8 = .ok (.aload_n 0, 1) := by decide +kernel
theorem dX1_missesDeadline_9 : decode cX1_missesDeadline 9 = .ok (.getfield 41, 3) := by decide +kernel
theorem dX1_missesDeadline_12 : decode cX1_missesDeadline 12 = .ok (.iconst 3, 1) := by decide +kernel
theorem dX1_missesDeadline_13 : decode cX1_missesDeadline 13 = .ok (.isub, 1) := by decide +kernel
theorem dX1_missesDeadline_14 : decode cX1_missesDeadline 14 = .ok (.if_icmp .ne 22, 3) := by decide +kernel
theorem dX1_missesDeadline_17 : decode cX1_missesDeadline 17 = .ok (.aload_n 0, 1) := by decide +kernel
theorem dX1_missesDeadline_18 : decode cX1_missesDeadline 18 = .ok (.getfield 31, 3) := by decide +kernel
theorem dX1_missesDeadline_21 : decode cX1_missesDeadline 21 = .ok (.aload_n 0, 1) := by decide +kernel
theorem dX1_missesDeadline_22 : decode cX1_missesDeadline 22 = .ok (.getfield 35, 3) := by decide +kernel
theorem dX1_missesDeadline_25 : decode cX1_missesDeadline 25 = .ok (.iload_n 1, 1) := by decide +kernel
theorem dX1_missesDeadline_29 : decode cX1_missesDeadline 29 = .ok (.ifCond .ne 7, 3) := by decide +kernel
theorem dX1_missesDeadline_32 : decode cX1_missesDeadline 32 = .ok (.iconst 1, 1) := by decide +kernel
theorem dX1_missesDeadline_33 : decode cX1_missesDeadline 33 = .ok (.goto 4, 3) := by decide +kernel
theorem dX1_missesDeadline_26 : decode cX1_missesDeadline 26 = .ok (.invokevirtual 54, 3) := by decide +kernel
def v_X1_missesDeadline (a0 : Nat) (p1 : Int32) (T : zT) (F : zF) (Post : Int32 → Prop) : Prop :=
  (T a0 = some (2, 12) ∧ ∃ x3 : Int32, F a0 6 = .int x3 ∧ ((¬ x3 = 0 → Post 0) ∧ (x3 = 0 → (∃ x5 : Int32, F a0 3 = .int x5 ∧ ((¬ p1 = (x5 - 3) → Post 0) ∧ (p1 = (x5 - 3) → (∃ x7 : Nat, F a0 0 = .ref x7 ∧ ∃ x9 : Int32, F a0 1 = .int x9 ∧ T x7 = some (3, 5) ∧ (v_X2_isFitOn x7 x9 p1 T F (fun (r11 : Int32) => ((¬ r11 = 0 → Post 0) ∧ (r11 = 0 → Post 1)))))))))))
set_option maxRecDepth 100000 in
set_option maxHeartbeats 4000000 in
theorem k_X1_missesDeadline {l : Launch} {D : va_G} {cA : Nat → ClassId} {N0 zE : Nat} {a0 : Nat} {p1 : Int32} {T : zT} {F : zF} {Post : Int32 → Prop} (h : v_X1_missesDeadline a0 p1 T F Post) : z_Mt l D cA N0 zE yX1_missesDeadline cX1_missesDeadline 2 (some .boolean) ({ frames := 4, cells := 0, slots := 0, locals := 89 } : Room) [.ref a0, .int p1] T F (fun v T' F' => ∃ r : Int32, v = some (.int r) ∧ T = T' ∧ F = F' ∧ Post r) := by
  unfold v_X1_missesDeadline at h
  refine z_bodyT (by decide) (Nat.le_of_ble_eq_true rfl) ?_
  intro p e s m args below meth c C hnm
  have C : z_C p l s m args meth c RX1 cX1_missesDeadline 2 (some .boolean) D cA N0 zE := C
  show z_w p l e ({ frames := 4, cells := 0, slots := 0, locals := 89 } : Room) s m args below meth c D cA N0 2 0 0 (MQ below (z_Qc D cA N0 (fun v T' F' => ∃ r : Int32, v = some (.int r) ∧ T = T' ∧ F = F' ∧ Post r)) args s 0 0 (fun q => N0 ≤ q)) 0 [(0, .ref a0), (1, .int p1)] [] T F
  refine zr_aload_n C 0 dX1_missesDeadline_0 rfl rfl ?_
  obtain ⟨hT1, x3, hv2, h⟩ := h
  refine zr_get C fl_X1_9 hT1 hv2 dX1_missesDeadline_1 ?_
  obtain ⟨h1, h2⟩ := h
  refine zr_if_ne C 36 dX1_missesDeadline_4 (by decide) (fun hc => ?_) (fun hc => ?_)
  · have h := h1 hc
    clear h1 h2
    refine zr_iconst C 0 dX1_missesDeadline_36 (by decide) ?_
    exact zr_zret C rfl (Or.inl rfl) ⟨_, rfl, rfl, rfl, h⟩ (Nat.le_of_ble_eq_true rfl) (Nat.le_of_ble_eq_true rfl) dX1_missesDeadline_37
  · have h := h2 hc
    clear h1 h2
    refine zr_iload_n C 1 dX1_missesDeadline_7 rfl rfl ?_
    refine zr_aload_n C 0 dX1_missesDeadline_8 rfl rfl ?_
    obtain ⟨x5, hv4, h⟩ := h
    refine zr_get C fl_X1_41 hT1 hv4 dX1_missesDeadline_9 ?_
    refine zr_iconst C 3 dX1_missesDeadline_12 (by decide) ?_
    refine zr_isub C dX1_missesDeadline_13 ?_
    obtain ⟨h1, h2⟩ := h
    refine zr_icmp_ne C 36 dX1_missesDeadline_14 (by decide) (fun hc => ?_) (fun hc => ?_)
    · have h := h1 hc
      clear h1 h2
      refine zr_iconst C 0 dX1_missesDeadline_36 (by decide) ?_
      exact zr_zret C rfl (Or.inl rfl) ⟨_, rfl, rfl, rfl, h⟩ (Nat.le_of_ble_eq_true rfl) (Nat.le_of_ble_eq_true rfl) dX1_missesDeadline_37
    · have h := h2 hc
      clear h1 h2
      refine zr_aload_n C 0 dX1_missesDeadline_17 rfl rfl ?_
      obtain ⟨x7, hv6, h⟩ := h
      refine zr_get C fl_X1_31 hT1 hv6 dX1_missesDeadline_18 ?_
      refine zr_aload_n C 0 dX1_missesDeadline_21 rfl rfl ?_
      obtain ⟨x9, hv8, h⟩ := h
      refine zr_get C fl_X1_35 hT1 hv8 dX1_missesDeadline_22 ?_
      refine zr_iload_n C 1 dX1_missesDeadline_25 rfl rfl ?_
      obtain ⟨hT10, h⟩ := h
      refine zr_callV (As := [.int x9, .int p1]) (r := (RX2, TX2, 5)) C (k_X2_isFitOn h) ok_X1_54 zq_446 zq_447 hT10 (by decide) rfl rfl ⟨by decide, (Nat.le_of_ble_eq_true rfl)⟩ ⟨(Nat.le_of_ble_eq_true rfl), (Nat.le_of_ble_eq_true rfl)⟩ (Nat.le_of_ble_eq_true rfl) dX1_missesDeadline_26 (fun v12 U13 G14 hq => ?_)
      clear h
      · obtain ⟨r11, rfl, rfl, rfl, h⟩ := hq
        obtain ⟨h1, h2⟩ := h
        refine zr_if_ne C 36 dX1_missesDeadline_29 (by decide) (fun hc => ?_) (fun hc => ?_)
        · have h := h1 hc
          clear h1 h2
          refine zr_iconst C 0 dX1_missesDeadline_36 (by decide) ?_
          exact zr_zret C rfl (Or.inl rfl) ⟨_, rfl, rfl, rfl, h⟩ (Nat.le_of_ble_eq_true rfl) (Nat.le_of_ble_eq_true rfl) dX1_missesDeadline_37
        · have h := h2 hc
          clear h1 h2
          refine zr_iconst C 1 dX1_missesDeadline_32 (by decide) ?_
          refine zr_goto C 37 dX1_missesDeadline_33 (by decide) ?_
          exact zr_zret C rfl (Or.inr rfl) ⟨_, rfl, rfl, rfl, h⟩ (Nat.le_of_ble_eq_true rfl) (Nat.le_of_ble_eq_true rfl) dX1_missesDeadline_37
theorem dX1_mayMove_0 : decode cX1_mayMove 0 = .ok (.aload_n 0, 1) := by decide +kernel
theorem dX1_mayMove_1 : decode cX1_mayMove 1 = .ok (.getfield 15, 3) := by decide +kernel
theorem dX1_mayMove_4 : decode cX1_mayMove 4 = .ok (.iconst 3, 1) := by decide +kernel
theorem dX1_mayMove_5 : decode cX1_mayMove 5 = .ok (.if_icmp .ge 18, 3) := by decide +kernel
theorem dX1_mayMove_23 : decode cX1_mayMove 23 = .ok (.iconst 0, 1) := by decide +kernel
theorem dX1_mayMove_24 : decode cX1_mayMove 24 = .ok (.ireturn, 1) := by decide +kernel
theorem dX1_mayMove_8 : decode cX1_mayMove 8 = .ok (.aload_n 0, 1) := by decide +kernel
theorem dX1_mayMove_9 : decode cX1_mayMove 9 = .ok (.getfield 44, 3) := by decide +kernel
theorem dX1_mayMove_12 : decode cX1_mayMove 12 = .ok (.iconst 2, 1) := by decide +kernel
theorem dX1_mayMove_13 : decode cX1_mayMove 13 = .ok (.iadd, 1) := by decide +kernel
theorem dX1_mayMove_14 : decode cX1_mayMove 14 = .ok (.bipush 99, 2) := by decide +kernel
theorem dX1_mayMove_16 : decode cX1_mayMove 16 = .ok (.if_icmp .gt 7, 3) := by decide +kernel
theorem dX1_mayMove_19 : decode cX1_mayMove 19 = .ok (.iconst 1, 1) := by decide +kernel
theorem dX1_mayMove_20 : decode cX1_mayMove 20 = .ok (.goto 4, 3) := by decide +kernel
def v_X1_mayMove (a0 : Nat) (T : zT) (F : zF) (Post : Int32 → Prop) : Prop :=
  (T a0 = some (2, 12) ∧ ∃ x3 : Int32, F a0 7 = .int x3 ∧ ((3 ≤ x3 → Post 0) ∧ (¬ 3 ≤ x3 → (∃ x5 : Int32, F a0 4 = .int x5 ∧ ((99 < (x5 + 2) → Post 0) ∧ (¬ 99 < (x5 + 2) → Post 1))))))
set_option maxRecDepth 100000 in
set_option maxHeartbeats 4000000 in
theorem k_X1_mayMove {l : Launch} {D : va_G} {cA : Nat → ClassId} {N0 zE : Nat} {a0 : Nat} {T : zT} {F : zF} {Post : Int32 → Prop} (h : v_X1_mayMove a0 T F Post) : z_Mt l D cA N0 zE yX1_mayMove cX1_mayMove 1 (some .boolean) ({ frames := 0, cells := 0, slots := 0, locals := 0 } : Room) [.ref a0] T F (fun v T' F' => ∃ r : Int32, v = some (.int r) ∧ T = T' ∧ F = F' ∧ Post r) := by
  unfold v_X1_mayMove at h
  refine z_bodyT (by decide) (Nat.le_of_ble_eq_true rfl) ?_
  intro p e s m args below meth c C hnm
  have C : z_C p l s m args meth c RX1 cX1_mayMove 1 (some .boolean) D cA N0 zE := C
  show z_w p l e ({ frames := 0, cells := 0, slots := 0, locals := 0 } : Room) s m args below meth c D cA N0 1 0 0 (MQ below (z_Qc D cA N0 (fun v T' F' => ∃ r : Int32, v = some (.int r) ∧ T = T' ∧ F = F' ∧ Post r)) args s 0 0 (fun q => N0 ≤ q)) 0 [(0, .ref a0)] [] T F
  refine zr_aload_n C 0 dX1_mayMove_0 rfl rfl ?_
  obtain ⟨hT1, x3, hv2, h⟩ := h
  refine zr_get C fl_X1_15 hT1 hv2 dX1_mayMove_1 ?_
  refine zr_iconst C 3 dX1_mayMove_4 (by decide) ?_
  obtain ⟨h1, h2⟩ := h
  refine zr_icmp_ge C 23 dX1_mayMove_5 (by decide) (fun hc => ?_) (fun hc => ?_)
  · have h := h1 hc
    clear h1 h2
    refine zr_iconst C 0 dX1_mayMove_23 (by decide) ?_
    exact zr_zret C rfl (Or.inl rfl) ⟨_, rfl, rfl, rfl, h⟩ (Nat.le_of_ble_eq_true rfl) (Nat.le_of_ble_eq_true rfl) dX1_mayMove_24
  · have h := h2 hc
    clear h1 h2
    refine zr_aload_n C 0 dX1_mayMove_8 rfl rfl ?_
    obtain ⟨x5, hv4, h⟩ := h
    refine zr_get C fl_X1_44 hT1 hv4 dX1_mayMove_9 ?_
    refine zr_iconst C 2 dX1_mayMove_12 (by decide) ?_
    refine zr_iadd C dX1_mayMove_13 ?_
    refine zr_bipush C 99 dX1_mayMove_14 (by decide) ?_
    obtain ⟨h1, h2⟩ := h
    refine zr_icmp_gt C 23 dX1_mayMove_16 (by decide) (fun hc => ?_) (fun hc => ?_)
    · have h := h1 hc
      clear h1 h2
      refine zr_iconst C 0 dX1_mayMove_23 (by decide) ?_
      exact zr_zret C rfl (Or.inl rfl) ⟨_, rfl, rfl, rfl, h⟩ (Nat.le_of_ble_eq_true rfl) (Nat.le_of_ble_eq_true rfl) dX1_mayMove_24
    · have h := h2 hc
      clear h1 h2
      refine zr_iconst C 1 dX1_mayMove_19 (by decide) ?_
      refine zr_goto C 24 dX1_mayMove_20 (by decide) ?_
      exact zr_zret C rfl (Or.inr rfl) ⟨_, rfl, rfl, rfl, h⟩ (Nat.le_of_ble_eq_true rfl) (Nat.le_of_ble_eq_true rfl) dX1_mayMove_24
theorem dX1_moveOn_0 : decode cX1_moveOn 0 = .ok (.aload_n 0, 1) := by decide +kernel
theorem dX1_moveOn_1 : decode cX1_moveOn 1 = .ok (.dup, 1) := by decide +kernel
theorem dX1_moveOn_2 : decode cX1_moveOn 2 = .ok (.getfield 41, 3) := by decide +kernel
theorem dX1_moveOn_5 : decode cX1_moveOn 5 = .ok (.iconst 2, 1) := by decide +kernel
theorem dX1_moveOn_6 : decode cX1_moveOn 6 = .ok (.iadd, 1) := by decide +kernel
theorem dX1_moveOn_7 : decode cX1_moveOn 7 = .ok (.putfield 41, 3) := by decide +kernel
theorem dX1_moveOn_10 : decode cX1_moveOn 10 = .ok (.aload_n 0, 1) := by decide +kernel
theorem dX1_moveOn_11 : decode cX1_moveOn 11 = .ok (.dup, 1) := by decide +kernel
theorem dX1_moveOn_12 : decode cX1_moveOn 12 = .ok (.getfield 44, 3) := by decide +kernel
theorem dX1_moveOn_15 : decode cX1_moveOn 15 = .ok (.iconst 2, 1) := by decide +kernel
theorem dX1_moveOn_16 : decode cX1_moveOn 16 = .ok (.iadd, 1) := by decide +kernel
theorem dX1_moveOn_17 : decode cX1_moveOn 17 = .ok (.putfield 44, 3) := by decide +kernel
theorem dX1_moveOn_20 : decode cX1_moveOn 20 = .ok (.aload_n 0, 1) := by decide +kernel
theorem dX1_moveOn_21 : decode cX1_moveOn 21 = .ok (.dup, 1) := by decide +kernel
theorem dX1_moveOn_22 : decode cX1_moveOn 22 = .ok (.getfield 47, 3) := by decide +kernel
theorem dX1_moveOn_25 : decode cX1_moveOn 25 = .ok (.aload_n 0, 1) := by decide +kernel
theorem dX1_moveOn_26 : decode cX1_moveOn 26 = .ok (.getfield 47, 3) := by decide +kernel
theorem dX1_moveOn_29 : decode cX1_moveOn 29 = .ok (.iconst 5, 1) := by decide +kernel
theorem dX1_moveOn_30 : decode cX1_moveOn 30 = .ok (.idiv, 1) := by decide +kernel
theorem dX1_moveOn_31 : decode cX1_moveOn 31 = .ok (.iadd, 1) := by decide +kernel
theorem dX1_moveOn_32 : decode cX1_moveOn 32 = .ok (.putfield 47, 3) := by decide +kernel
theorem dX1_moveOn_35 : decode cX1_moveOn 35 = .ok (.aload_n 0, 1) := by decide +kernel
theorem dX1_moveOn_36 : decode cX1_moveOn 36 = .ok (.dup, 1) := by decide +kernel
theorem dX1_moveOn_37 : decode cX1_moveOn 37 = .ok (.getfield 15, 3) := by decide +kernel
theorem dX1_moveOn_40 : decode cX1_moveOn 40 = .ok (.iconst 1, 1) := by decide +kernel
theorem dX1_moveOn_41 : decode cX1_moveOn 41 = .ok (.iadd, 1) := by decide +kernel
theorem dX1_moveOn_42 : decode cX1_moveOn 42 = .ok (.putfield 15, 3) := by decide +kernel
theorem dX1_moveOn_45 : decode cX1_moveOn 45 = .ok (.return_, 1) := by decide +kernel
def v_X1_moveOn (a0 : Nat) (T : zT) (F : zF) (Post : zF → Prop) : Prop :=
  (T a0 = some (2, 12) ∧ ∃ x3 : Int32, F a0 3 = .int x3 ∧ ∃ x5 : Int32, (zu F a0 3 (.int (x3 + 2))) a0 4 = .int x5 ∧ ∃ x8 : Int32, (zu (zu F a0 3 (.int (x3 + 2))) a0 4 (.int (x5 + 2))) a0 5 = .int x8 ∧ ∃ x12 : Int32, (zu (zu (zu F a0 3 (.int (x3 + 2))) a0 4 (.int (x5 + 2))) a0 5 (.int (x8 + (x8 / 5)))) a0 7 = .int x12 ∧ Post (zu (zu (zu (zu F a0 3 (.int (x3 + 2))) a0 4 (.int (x5 + 2))) a0 5 (.int (x8 + (x8 / 5)))) a0 7 (.int (x12 + 1))))
set_option maxRecDepth 100000 in
set_option maxHeartbeats 4000000 in
theorem k_X1_moveOn {l : Launch} {D : va_G} {cA : Nat → ClassId} {N0 zE : Nat} {a0 : Nat} {T : zT} {F : zF} {Post : zF → Prop} (h : v_X1_moveOn a0 T F Post) : z_Mt l D cA N0 zE yX1_moveOn cX1_moveOn 1 none ({ frames := 0, cells := 0, slots := 0, locals := 0 } : Room) [.ref a0] T F (fun v T' F' => v = none ∧ T = T' ∧ Post F') := by
  unfold v_X1_moveOn at h
  refine z_bodyT (by decide) (Nat.le_of_ble_eq_true rfl) ?_
  intro p e s m args below meth c C hnm
  have C : z_C p l s m args meth c RX1 cX1_moveOn 1 none D cA N0 zE := C
  show z_w p l e ({ frames := 0, cells := 0, slots := 0, locals := 0 } : Room) s m args below meth c D cA N0 1 0 0 (MQ below (z_Qc D cA N0 (fun v T' F' => v = none ∧ T = T' ∧ Post F')) args s 0 0 (fun q => N0 ≤ q)) 0 [(0, .ref a0)] [] T F
  refine zr_aload_n C 0 dX1_moveOn_0 rfl rfl ?_
  refine zr_dup C dX1_moveOn_1 rfl ?_
  obtain ⟨hT1, x3, hv2, h⟩ := h
  refine zr_get C fl_X1_41 hT1 hv2 dX1_moveOn_2 ?_
  refine zr_iconst C 2 dX1_moveOn_5 (by decide) ?_
  refine zr_iadd C dX1_moveOn_6 ?_
  refine zr_put C fl_X1_41 hT1 rfl rfl dX1_moveOn_7 ?_
  refine zr_aload_n C 0 dX1_moveOn_10 rfl rfl ?_
  refine zr_dup C dX1_moveOn_11 rfl ?_
  obtain ⟨x5, hv4, h⟩ := h
  refine zr_get C fl_X1_44 hT1 hv4 dX1_moveOn_12 ?_
  refine zr_iconst C 2 dX1_moveOn_15 (by decide) ?_
  refine zr_iadd C dX1_moveOn_16 ?_
  refine zr_put C fl_X1_44 hT1 rfl rfl dX1_moveOn_17 ?_
  refine zr_aload_n C 0 dX1_moveOn_20 rfl rfl ?_
  refine zr_dup C dX1_moveOn_21 rfl ?_
  obtain ⟨x8, hv7, h⟩ := h
  refine zr_get C fl_X1_47 hT1 hv7 dX1_moveOn_22 ?_
  refine zr_aload_n C 0 dX1_moveOn_25 rfl rfl ?_
  refine zr_get C fl_X1_47 hT1 hv7 dX1_moveOn_26 ?_
  refine zr_iconst C 5 dX1_moveOn_29 (by decide) ?_
  refine zr_idiv C dX1_moveOn_30 (by decide) ?_
  refine zr_iadd C dX1_moveOn_31 ?_
  refine zr_put C fl_X1_47 hT1 rfl rfl dX1_moveOn_32 ?_
  refine zr_aload_n C 0 dX1_moveOn_35 rfl rfl ?_
  refine zr_dup C dX1_moveOn_36 rfl ?_
  obtain ⟨x12, hv11, h⟩ := h
  refine zr_get C fl_X1_15 hT1 hv11 dX1_moveOn_37 ?_
  refine zr_iconst C 1 dX1_moveOn_40 (by decide) ?_
  refine zr_iadd C dX1_moveOn_41 ?_
  refine zr_put C fl_X1_15 hT1 rfl rfl dX1_moveOn_42 ?_
  exact zr_vret C rfl ⟨rfl, rfl, h⟩ (Nat.le_of_ble_eq_true rfl) (Nat.le_of_ble_eq_true rfl) dX1_moveOn_45
theorem dX1_startIfDue_0 : decode cX1_startIfDue 0 = .ok (.aload_n 0, 1) := by decide +kernel
theorem dX1_startIfDue_1 : decode cX1_startIfDue 1 = .ok (.getfield 9, 3) := by decide +kernel
theorem dX1_startIfDue_4 : decode cX1_startIfDue 4 = .ok (.ifCond .ne 16, 3) := by decide +kernel
theorem dX1_startIfDue_20 : decode cX1_startIfDue 20 = .ok (.return_, 1) := by decide +kernel
theorem dX1_startIfDue_7 : decode cX1_startIfDue 7 = .ok (.aload_n 0, 1) := by decide +kernel
theorem dX1_startIfDue_8 : decode cX1_startIfDue 8 = .ok (.getfield 41, 3) := by decide +kernel
theorem dX1_startIfDue_11 : decode cX1_startIfDue 11 = .ok (.iload_n 1, 1) := by decide +kernel
theorem dX1_startIfDue_12 : decode cX1_startIfDue 12 = .ok (.if_icmp .ne 8, 3) := by decide +kernel
theorem dX1_startIfDue_15 : decode cX1_startIfDue 15 = .ok (.aload_n 0, 1) := by decide +kernel
theorem dX1_startIfDue_16 : decode cX1_startIfDue 16 = .ok (.iconst 1, 1) := by decide +kernel
theorem dX1_startIfDue_17 : decode cX1_startIfDue 17 = .ok (.putfield 9, 3) := by decide +kernel
def v_X1_startIfDue (a0 : Nat) (p1 : Int32) (T : zT) (F : zF) (Post : zF → Prop) : Prop :=
  (T a0 = some (2, 12) ∧ ∃ x3 : Int32, F a0 6 = .int x3 ∧ ((¬ x3 = 0 → Post F) ∧ (x3 = 0 → (∃ x5 : Int32, F a0 3 = .int x5 ∧ ((¬ x5 = p1 → Post F) ∧ (x5 = p1 → Post (zu F a0 6 (.int 1))))))))
set_option maxRecDepth 100000 in
set_option maxHeartbeats 4000000 in
theorem k_X1_startIfDue {l : Launch} {D : va_G} {cA : Nat → ClassId} {N0 zE : Nat} {a0 : Nat} {p1 : Int32} {T : zT} {F : zF} {Post : zF → Prop} (h : v_X1_startIfDue a0 p1 T F Post) : z_Mt l D cA N0 zE yX1_startIfDue cX1_startIfDue 2 none ({ frames := 0, cells := 0, slots := 0, locals := 0 } : Room) [.ref a0, .int p1] T F (fun v T' F' => v = none ∧ T = T' ∧ Post F') := by
  unfold v_X1_startIfDue at h
  refine z_bodyT (by decide) (Nat.le_of_ble_eq_true rfl) ?_
  intro p e s m args below meth c C hnm
  have C : z_C p l s m args meth c RX1 cX1_startIfDue 2 none D cA N0 zE := C
  show z_w p l e ({ frames := 0, cells := 0, slots := 0, locals := 0 } : Room) s m args below meth c D cA N0 2 0 0 (MQ below (z_Qc D cA N0 (fun v T' F' => v = none ∧ T = T' ∧ Post F')) args s 0 0 (fun q => N0 ≤ q)) 0 [(0, .ref a0), (1, .int p1)] [] T F
  refine zr_aload_n C 0 dX1_startIfDue_0 rfl rfl ?_
  obtain ⟨hT1, x3, hv2, h⟩ := h
  refine zr_get C fl_X1_9 hT1 hv2 dX1_startIfDue_1 ?_
  obtain ⟨h1, h2⟩ := h
  refine zr_if_ne C 20 dX1_startIfDue_4 (by decide) (fun hc => ?_) (fun hc => ?_)
  · have h := h1 hc
    clear h1 h2
    exact zr_vret C rfl ⟨rfl, rfl, h⟩ (Nat.le_of_ble_eq_true rfl) (Nat.le_of_ble_eq_true rfl) dX1_startIfDue_20
  · have h := h2 hc
    clear h1 h2
    refine zr_aload_n C 0 dX1_startIfDue_7 rfl rfl ?_
    obtain ⟨x5, hv4, h⟩ := h
    refine zr_get C fl_X1_41 hT1 hv4 dX1_startIfDue_8 ?_
    refine zr_iload_n C 1 dX1_startIfDue_11 rfl rfl ?_
    obtain ⟨h1, h2⟩ := h
    refine zr_icmp_ne C 20 dX1_startIfDue_12 (by decide) (fun hc => ?_) (fun hc => ?_)
    · have h := h1 hc
      clear h1 h2
      exact zr_vret C rfl ⟨rfl, rfl, h⟩ (Nat.le_of_ble_eq_true rfl) (Nat.le_of_ble_eq_true rfl) dX1_startIfDue_20
    · have h := h2 hc
      clear h1 h2
      refine zr_aload_n C 0 dX1_startIfDue_15 rfl rfl ?_
      refine zr_iconst C 1 dX1_startIfDue_16 (by decide) ?_
      refine zr_put C fl_X1_9 hT1 rfl rfl dX1_startIfDue_17 ?_
      exact zr_vret C rfl ⟨rfl, rfl, h⟩ (Nat.le_of_ble_eq_true rfl) (Nat.le_of_ble_eq_true rfl) dX1_startIfDue_20
theorem dX1_showOrPull_0 : decode cX1_showOrPull 0 = .ok (.aload_n 0, 1) := by decide +kernel
theorem dX1_showOrPull_1 : decode cX1_showOrPull 1 = .ok (.getfield 9, 3) := by decide +kernel
theorem dX1_showOrPull_4 : decode cX1_showOrPull 4 = .ok (.iconst 1, 1) := by decide +kernel
theorem dX1_showOrPull_5 : decode cX1_showOrPull 5 = .ok (.if_icmp .eq 4, 3) := by decide +kernel
theorem dX1_showOrPull_9 : decode cX1_showOrPull 9 = .ok (.aload_n 0, 1) := by decide +kernel
theorem dX1_showOrPull_10 : decode cX1_showOrPull 10 = .ok (.aload_n 0, 1) := by decide +kernel
theorem dX1_showOrPull_11 : decode cX1_showOrPull 11 = .ok (.getfield 31, 3) := by decide +kernel
theorem dX1_showOrPull_14 : decode cX1_showOrPull 14 = .ok (.aload_n 0, 1) := by decide +kernel
theorem dX1_showOrPull_15 : decode cX1_showOrPull 15 = .ok (.getfield 35, 3) := by decide +kernel
theorem dX1_showOrPull_18 : decode cX1_showOrPull 18 = .ok (.iload_n 1, 1) := by decide +kernel
theorem dX1_showOrPull_22 : decode cX1_showOrPull 22 = .ok (.ifCond .ne 7, 3) := by decide +kernel
theorem dX1_showOrPull_29 : decode cX1_showOrPull 29 = .ok (.iconst 0, 1) := by decide +kernel
theorem dX1_showOrPull_30 : decode cX1_showOrPull 30 = .ok (.putfield 24, 3) := by decide +kernel
theorem dX1_showOrPull_33 : decode cX1_showOrPull 33 = .ok (.aload_n 0, 1) := by decide +kernel
theorem dX1_showOrPull_34 : decode cX1_showOrPull 34 = .ok (.getfield 24, 3) := by decide +kernel
theorem dX1_showOrPull_37 : decode cX1_showOrPull 37 = .ok (.ifCond .ne 13, 3) := by decide +kernel
theorem dX1_showOrPull_40 : decode cX1_showOrPull 40 = .ok (.aload_n 0, 1) := by decide +kernel
theorem dX1_showOrPull_41 : decode cX1_showOrPull 41 = .ok (.dup, 1) := by decide +kernel
theorem dX1_showOrPull_42 : decode cX1_showOrPull 42 = .ok (.getfield 18, 3) := by decide +kernel
theorem dX1_showOrPull_45 : decode cX1_showOrPull 45 = .ok (.iconst 1, 1) := by decide +kernel
theorem dX1_showOrPull_46 : decode cX1_showOrPull 46 = .ok (.iadd, 1) := by decide +kernel
theorem dX1_showOrPull_47 : decode cX1_showOrPull 47 = .ok (.putfield 18, 3) := by decide +kernel
theorem dX1_showOrPull_50 : decode cX1_showOrPull 50 = .ok (.return_, 1) := by decide +kernel
theorem dX1_showOrPull_25 : decode cX1_showOrPull 25 = .ok (.iconst 1, 1) := by decide +kernel
theorem dX1_showOrPull_26 : decode cX1_showOrPull 26 = .ok (.goto 4, 3) := by decide +kernel
theorem dX1_showOrPull_19 : decode cX1_showOrPull 19 = .ok (.invokevirtual 60, 3) := by decide +kernel
theorem dX1_showOrPull_8 : decode cX1_showOrPull 8 = .ok (.return_, 1) := by decide +kernel
def v_X1_showOrPull (a0 : Nat) (p1 : Int32) (T : zT) (F : zF) (Post : zF → Prop) : Prop :=
  (T a0 = some (2, 12) ∧ ∃ x3 : Int32, F a0 6 = .int x3 ∧ ((x3 = 1 → (∃ x5 : Nat, F a0 0 = .ref x5 ∧ ∃ x7 : Int32, F a0 1 = .int x7 ∧ T x5 = some (3, 5) ∧ (v_X2_reasonOn x5 x7 p1 T F (fun (r9 : Int32) => ((¬ r9 = 0 → (∃ x14 : Int32, (zu F a0 10 (.int 0)) a0 8 = .int x14 ∧ Post (zu (zu F a0 10 (.int 0)) a0 8 (.int (x14 + 1))))) ∧ (r9 = 0 → Post (zu F a0 10 (.int 1)))))))) ∧ (¬ x3 = 1 → Post F)))
set_option maxRecDepth 100000 in
set_option maxHeartbeats 4000000 in
theorem k_X1_showOrPull {l : Launch} {D : va_G} {cA : Nat → ClassId} {N0 zE : Nat} {a0 : Nat} {p1 : Int32} {T : zT} {F : zF} {Post : zF → Prop} (h : v_X1_showOrPull a0 p1 T F Post) : z_Mt l D cA N0 zE yX1_showOrPull cX1_showOrPull 2 none ({ frames := 5, cells := 0, slots := 0, locals := 111 } : Room) [.ref a0, .int p1] T F (fun v T' F' => v = none ∧ T = T' ∧ Post F') := by
  unfold v_X1_showOrPull at h
  refine z_bodyT (by decide) (Nat.le_of_ble_eq_true rfl) ?_
  intro p e s m args below meth c C hnm
  have C : z_C p l s m args meth c RX1 cX1_showOrPull 2 none D cA N0 zE := C
  show z_w p l e ({ frames := 5, cells := 0, slots := 0, locals := 111 } : Room) s m args below meth c D cA N0 2 0 0 (MQ below (z_Qc D cA N0 (fun v T' F' => v = none ∧ T = T' ∧ Post F')) args s 0 0 (fun q => N0 ≤ q)) 0 [(0, .ref a0), (1, .int p1)] [] T F
  refine zr_aload_n C 0 dX1_showOrPull_0 rfl rfl ?_
  obtain ⟨hT1, x3, hv2, h⟩ := h
  refine zr_get C fl_X1_9 hT1 hv2 dX1_showOrPull_1 ?_
  refine zr_iconst C 1 dX1_showOrPull_4 (by decide) ?_
  obtain ⟨h1, h2⟩ := h
  refine zr_icmp_eq C 9 dX1_showOrPull_5 (by decide) (fun hc => ?_) (fun hc => ?_)
  · have h := h1 hc
    clear h1 h2
    refine zr_aload_n C 0 dX1_showOrPull_9 rfl rfl ?_
    refine zr_aload_n C 0 dX1_showOrPull_10 rfl rfl ?_
    obtain ⟨x5, hv4, h⟩ := h
    refine zr_get C fl_X1_31 hT1 hv4 dX1_showOrPull_11 ?_
    refine zr_aload_n C 0 dX1_showOrPull_14 rfl rfl ?_
    obtain ⟨x7, hv6, h⟩ := h
    refine zr_get C fl_X1_35 hT1 hv6 dX1_showOrPull_15 ?_
    refine zr_iload_n C 1 dX1_showOrPull_18 rfl rfl ?_
    obtain ⟨hT8, h⟩ := h
    refine zr_callV (As := [.int x7, .int p1]) (r := (RX2, TX2, 5)) C (k_X2_reasonOn h) ok_X1_60 zq_484 zq_485 hT8 (by decide) rfl rfl ⟨by decide, (Nat.le_of_ble_eq_true rfl)⟩ ⟨(Nat.le_of_ble_eq_true rfl), (Nat.le_of_ble_eq_true rfl)⟩ (Nat.le_of_ble_eq_true rfl) dX1_showOrPull_19 (fun v22 U23 G24 hq => ?_)
    clear h
    · obtain ⟨r9, rfl, rfl, rfl, h⟩ := hq
      obtain ⟨h1, h2⟩ := h
      refine zr_if_ne C 29 dX1_showOrPull_22 (by decide) (fun hc => ?_) (fun hc => ?_)
      · have h := h1 hc
        clear h1 h2
        refine zr_iconst C 0 dX1_showOrPull_29 (by decide) ?_
        refine zr_put C fl_X1_24 hT1 rfl rfl dX1_showOrPull_30 ?_
        refine zr_aload_n C 0 dX1_showOrPull_33 rfl rfl ?_
        refine zr_get C fl_X1_24 hT1 z_ueq dX1_showOrPull_34 ?_
        refine zr_if_ne C 50 dX1_showOrPull_37 (by decide) (fun hc => absurd hc (by decide)) (fun _ => ?_)
        refine zr_aload_n C 0 dX1_showOrPull_40 rfl rfl ?_
        refine zr_dup C dX1_showOrPull_41 rfl ?_
        obtain ⟨x14, hv13, h⟩ := h
        refine zr_get C fl_X1_18 hT1 hv13 dX1_showOrPull_42 ?_
        refine zr_iconst C 1 dX1_showOrPull_45 (by decide) ?_
        refine zr_iadd C dX1_showOrPull_46 ?_
        refine zr_put C fl_X1_18 hT1 rfl rfl dX1_showOrPull_47 ?_
        exact zr_vret C rfl ⟨rfl, rfl, h⟩ (Nat.le_of_ble_eq_true rfl) (Nat.le_of_ble_eq_true rfl) dX1_showOrPull_50
      · have h := h2 hc
        clear h1 h2
        refine zr_iconst C 1 dX1_showOrPull_25 (by decide) ?_
        refine zr_goto C 30 dX1_showOrPull_26 (by decide) ?_
        refine zr_put C fl_X1_24 hT1 rfl rfl dX1_showOrPull_30 ?_
        refine zr_aload_n C 0 dX1_showOrPull_33 rfl rfl ?_
        refine zr_get C fl_X1_24 hT1 z_ueq dX1_showOrPull_34 ?_
        refine zr_if_ne C 50 dX1_showOrPull_37 (by decide) (fun _ => ?_) (fun hc => absurd hc (by decide))
        exact zr_vret C rfl ⟨rfl, rfl, h⟩ (Nat.le_of_ble_eq_true rfl) (Nat.le_of_ble_eq_true rfl) dX1_showOrPull_50
  · have h := h2 hc
    clear h1 h2
    exact zr_vret C rfl ⟨rfl, rfl, h⟩ (Nat.le_of_ble_eq_true rfl) (Nat.le_of_ble_eq_true rfl) dX1_showOrPull_8
theorem dX1_setTo_0 : decode cX1_setTo 0 = .ok (.aload_n 0, 1) := by decide +kernel
theorem dX1_setTo_1 : decode cX1_setTo 1 = .ok (.aload_n 1, 1) := by decide +kernel
theorem dX1_setTo_2 : decode cX1_setTo 2 = .ok (.getfield 31, 3) := by decide +kernel
theorem dX1_setTo_5 : decode cX1_setTo 5 = .ok (.putfield 31, 3) := by decide +kernel
theorem dX1_setTo_8 : decode cX1_setTo 8 = .ok (.aload_n 0, 1) := by decide +kernel
theorem dX1_setTo_9 : decode cX1_setTo 9 = .ok (.aload_n 1, 1) := by decide +kernel
theorem dX1_setTo_10 : decode cX1_setTo 10 = .ok (.getfield 35, 3) := by decide +kernel
theorem dX1_setTo_13 : decode cX1_setTo 13 = .ok (.putfield 35, 3) := by decide +kernel
theorem dX1_setTo_16 : decode cX1_setTo 16 = .ok (.aload_n 0, 1) := by decide +kernel
theorem dX1_setTo_17 : decode cX1_setTo 17 = .ok (.aload_n 1, 1) := by decide +kernel
theorem dX1_setTo_18 : decode cX1_setTo 18 = .ok (.getfield 38, 3) := by decide +kernel
theorem dX1_setTo_21 : decode cX1_setTo 21 = .ok (.putfield 38, 3) := by decide +kernel
theorem dX1_setTo_24 : decode cX1_setTo 24 = .ok (.aload_n 0, 1) := by decide +kernel
theorem dX1_setTo_25 : decode cX1_setTo 25 = .ok (.aload_n 1, 1) := by decide +kernel
theorem dX1_setTo_26 : decode cX1_setTo 26 = .ok (.getfield 41, 3) := by decide +kernel
theorem dX1_setTo_29 : decode cX1_setTo 29 = .ok (.putfield 41, 3) := by decide +kernel
theorem dX1_setTo_32 : decode cX1_setTo 32 = .ok (.aload_n 0, 1) := by decide +kernel
theorem dX1_setTo_33 : decode cX1_setTo 33 = .ok (.aload_n 1, 1) := by decide +kernel
theorem dX1_setTo_34 : decode cX1_setTo 34 = .ok (.getfield 44, 3) := by decide +kernel
theorem dX1_setTo_37 : decode cX1_setTo 37 = .ok (.putfield 44, 3) := by decide +kernel
theorem dX1_setTo_40 : decode cX1_setTo 40 = .ok (.aload_n 0, 1) := by decide +kernel
theorem dX1_setTo_41 : decode cX1_setTo 41 = .ok (.aload_n 1, 1) := by decide +kernel
theorem dX1_setTo_42 : decode cX1_setTo 42 = .ok (.getfield 47, 3) := by decide +kernel
theorem dX1_setTo_45 : decode cX1_setTo 45 = .ok (.putfield 47, 3) := by decide +kernel
theorem dX1_setTo_48 : decode cX1_setTo 48 = .ok (.aload_n 0, 1) := by decide +kernel
theorem dX1_setTo_49 : decode cX1_setTo 49 = .ok (.aload_n 1, 1) := by decide +kernel
theorem dX1_setTo_50 : decode cX1_setTo 50 = .ok (.getfield 9, 3) := by decide +kernel
theorem dX1_setTo_53 : decode cX1_setTo 53 = .ok (.putfield 9, 3) := by decide +kernel
theorem dX1_setTo_56 : decode cX1_setTo 56 = .ok (.aload_n 0, 1) := by decide +kernel
theorem dX1_setTo_57 : decode cX1_setTo 57 = .ok (.aload_n 1, 1) := by decide +kernel
theorem dX1_setTo_58 : decode cX1_setTo 58 = .ok (.getfield 15, 3) := by decide +kernel
theorem dX1_setTo_61 : decode cX1_setTo 61 = .ok (.putfield 15, 3) := by decide +kernel
theorem dX1_setTo_64 : decode cX1_setTo 64 = .ok (.aload_n 0, 1) := by decide +kernel
theorem dX1_setTo_65 : decode cX1_setTo 65 = .ok (.aload_n 1, 1) := by decide +kernel
theorem dX1_setTo_66 : decode cX1_setTo 66 = .ok (.getfield 18, 3) := by decide +kernel
theorem dX1_setTo_69 : decode cX1_setTo 69 = .ok (.putfield 18, 3) := by decide +kernel
theorem dX1_setTo_72 : decode cX1_setTo 72 = .ok (.aload_n 0, 1) := by decide +kernel
theorem dX1_setTo_73 : decode cX1_setTo 73 = .ok (.aload_n 1, 1) := by decide +kernel
theorem dX1_setTo_74 : decode cX1_setTo 74 = .ok (.getfield 21, 3) := by decide +kernel
theorem dX1_setTo_77 : decode cX1_setTo 77 = .ok (.putfield 21, 3) := by decide +kernel
theorem dX1_setTo_80 : decode cX1_setTo 80 = .ok (.aload_n 0, 1) := by decide +kernel
theorem dX1_setTo_81 : decode cX1_setTo 81 = .ok (.aload_n 1, 1) := by decide +kernel
theorem dX1_setTo_82 : decode cX1_setTo 82 = .ok (.getfield 24, 3) := by decide +kernel
theorem dX1_setTo_85 : decode cX1_setTo 85 = .ok (.putfield 24, 3) := by decide +kernel
theorem dX1_setTo_88 : decode cX1_setTo 88 = .ok (.aload_n 0, 1) := by decide +kernel
theorem dX1_setTo_89 : decode cX1_setTo 89 = .ok (.aload_n 1, 1) := by decide +kernel
theorem dX1_setTo_90 : decode cX1_setTo 90 = .ok (.getfield 28, 3) := by decide +kernel
theorem dX1_setTo_93 : decode cX1_setTo 93 = .ok (.putfield 28, 3) := by decide +kernel
theorem dX1_setTo_96 : decode cX1_setTo 96 = .ok (.return_, 1) := by decide +kernel
def v_X1_setTo (a0 : Nat) (a1 : Nat) (T : zT) (F : zF) (Post : zF → Prop) : Prop :=
  (T a1 = some (2, 12) ∧ ∃ x3 : Nat, F a1 0 = .ref x3 ∧ T a0 = some (2, 12) ∧ ∃ x6 : Int32, (zu F a0 0 (.ref x3)) a1 1 = .int x6 ∧ ∃ x9 : Int32, (zu (zu F a0 0 (.ref x3)) a0 1 (.int x6)) a1 2 = .int x9 ∧ ∃ x13 : Int32, (zu (zu (zu F a0 0 (.ref x3)) a0 1 (.int x6)) a0 2 (.int x9)) a1 3 = .int x13 ∧ ∃ x18 : Int32, (zu (zu (zu (zu F a0 0 (.ref x3)) a0 1 (.int x6)) a0 2 (.int x9)) a0 3 (.int x13)) a1 4 = .int x18 ∧ ∃ x24 : Int32, (zu (zu (zu (zu (zu F a0 0 (.ref x3)) a0 1 (.int x6)) a0 2 (.int x9)) a0 3 (.int x13)) a0 4 (.int x18)) a1 5 = .int x24 ∧ ∃ x31 : Int32, (zu (zu (zu (zu (zu (zu F a0 0 (.ref x3)) a0 1 (.int x6)) a0 2 (.int x9)) a0 3 (.int x13)) a0 4 (.int x18)) a0 5 (.int x24)) a1 6 = .int x31 ∧ ∃ x39 : Int32, (zu (zu (zu (zu (zu (zu (zu F a0 0 (.ref x3)) a0 1 (.int x6)) a0 2 (.int x9)) a0 3 (.int x13)) a0 4 (.int x18)) a0 5 (.int x24)) a0 6 (.int x31)) a1 7 = .int x39 ∧ ∃ x48 : Int32, (zu (zu (zu (zu (zu (zu (zu (zu F a0 0 (.ref x3)) a0 1 (.int x6)) a0 2 (.int x9)) a0 3 (.int x13)) a0 4 (.int x18)) a0 5 (.int x24)) a0 6 (.int x31)) a0 7 (.int x39)) a1 8 = .int x48 ∧ ∃ x58 : Int32, (zu (zu (zu (zu (zu (zu (zu (zu (zu F a0 0 (.ref x3)) a0 1 (.int x6)) a0 2 (.int x9)) a0 3 (.int x13)) a0 4 (.int x18)) a0 5 (.int x24)) a0 6 (.int x31)) a0 7 (.int x39)) a0 8 (.int x48)) a1 9 = .int x58 ∧ ∃ x69 : Int32, (zu (zu (zu (zu (zu (zu (zu (zu (zu (zu F a0 0 (.ref x3)) a0 1 (.int x6)) a0 2 (.int x9)) a0 3 (.int x13)) a0 4 (.int x18)) a0 5 (.int x24)) a0 6 (.int x31)) a0 7 (.int x39)) a0 8 (.int x48)) a0 9 (.int x58)) a1 10 = .int x69 ∧ (x69 = 0 ∨ x69 = 1) ∧ ∃ x82 : Int32, (zu (zu (zu (zu (zu (zu (zu (zu (zu (zu (zu F a0 0 (.ref x3)) a0 1 (.int x6)) a0 2 (.int x9)) a0 3 (.int x13)) a0 4 (.int x18)) a0 5 (.int x24)) a0 6 (.int x31)) a0 7 (.int x39)) a0 8 (.int x48)) a0 9 (.int x58)) a0 10 (.int x69)) a1 11 = .int x82 ∧ (x82 = 0 ∨ x82 = 1) ∧ Post (zu (zu (zu (zu (zu (zu (zu (zu (zu (zu (zu (zu F a0 0 (.ref x3)) a0 1 (.int x6)) a0 2 (.int x9)) a0 3 (.int x13)) a0 4 (.int x18)) a0 5 (.int x24)) a0 6 (.int x31)) a0 7 (.int x39)) a0 8 (.int x48)) a0 9 (.int x58)) a0 10 (.int x69)) a0 11 (.int x82)))
set_option maxRecDepth 100000 in
set_option maxHeartbeats 4000000 in
theorem k_X1_setTo {l : Launch} {D : va_G} {cA : Nat → ClassId} {N0 zE : Nat} {a0 : Nat} {a1 : Nat} {T : zT} {F : zF} {Post : zF → Prop} (h : v_X1_setTo a0 a1 T F Post) : z_Mt l D cA N0 zE yX1_setTo cX1_setTo 2 none ({ frames := 0, cells := 0, slots := 0, locals := 0 } : Room) [.ref a0, .ref a1] T F (fun v T' F' => v = none ∧ T = T' ∧ Post F') := by
  unfold v_X1_setTo at h
  refine z_bodyT (by decide) (Nat.le_of_ble_eq_true rfl) ?_
  intro p e s m args below meth c C hnm
  have C : z_C p l s m args meth c RX1 cX1_setTo 2 none D cA N0 zE := C
  show z_w p l e ({ frames := 0, cells := 0, slots := 0, locals := 0 } : Room) s m args below meth c D cA N0 2 0 0 (MQ below (z_Qc D cA N0 (fun v T' F' => v = none ∧ T = T' ∧ Post F')) args s 0 0 (fun q => N0 ≤ q)) 0 [(0, .ref a0), (1, .ref a1)] [] T F
  refine zr_aload_n C 0 dX1_setTo_0 rfl rfl ?_
  refine zr_aload_n C 1 dX1_setTo_1 rfl rfl ?_
  obtain ⟨hT1, x3, hv2, h⟩ := h
  refine zr_get C fl_X1_31 hT1 hv2 dX1_setTo_2 ?_
  obtain ⟨hT4, h⟩ := h
  refine zr_put C fl_X1_31 hT4 rfl rfl dX1_setTo_5 ?_
  refine zr_aload_n C 0 dX1_setTo_8 rfl rfl ?_
  refine zr_aload_n C 1 dX1_setTo_9 rfl rfl ?_
  obtain ⟨x6, hv5, h⟩ := h
  refine zr_get C fl_X1_35 hT1 hv5 dX1_setTo_10 ?_
  refine zr_put C fl_X1_35 hT4 rfl rfl dX1_setTo_13 ?_
  refine zr_aload_n C 0 dX1_setTo_16 rfl rfl ?_
  refine zr_aload_n C 1 dX1_setTo_17 rfl rfl ?_
  obtain ⟨x9, hv8, h⟩ := h
  refine zr_get C fl_X1_38 hT1 hv8 dX1_setTo_18 ?_
  refine zr_put C fl_X1_38 hT4 rfl rfl dX1_setTo_21 ?_
  refine zr_aload_n C 0 dX1_setTo_24 rfl rfl ?_
  refine zr_aload_n C 1 dX1_setTo_25 rfl rfl ?_
  obtain ⟨x13, hv12, h⟩ := h
  refine zr_get C fl_X1_41 hT1 hv12 dX1_setTo_26 ?_
  refine zr_put C fl_X1_41 hT4 rfl rfl dX1_setTo_29 ?_
  refine zr_aload_n C 0 dX1_setTo_32 rfl rfl ?_
  refine zr_aload_n C 1 dX1_setTo_33 rfl rfl ?_
  obtain ⟨x18, hv17, h⟩ := h
  refine zr_get C fl_X1_44 hT1 hv17 dX1_setTo_34 ?_
  refine zr_put C fl_X1_44 hT4 rfl rfl dX1_setTo_37 ?_
  refine zr_aload_n C 0 dX1_setTo_40 rfl rfl ?_
  refine zr_aload_n C 1 dX1_setTo_41 rfl rfl ?_
  obtain ⟨x24, hv23, h⟩ := h
  refine zr_get C fl_X1_47 hT1 hv23 dX1_setTo_42 ?_
  refine zr_put C fl_X1_47 hT4 rfl rfl dX1_setTo_45 ?_
  refine zr_aload_n C 0 dX1_setTo_48 rfl rfl ?_
  refine zr_aload_n C 1 dX1_setTo_49 rfl rfl ?_
  obtain ⟨x31, hv30, h⟩ := h
  refine zr_get C fl_X1_9 hT1 hv30 dX1_setTo_50 ?_
  refine zr_put C fl_X1_9 hT4 rfl rfl dX1_setTo_53 ?_
  refine zr_aload_n C 0 dX1_setTo_56 rfl rfl ?_
  refine zr_aload_n C 1 dX1_setTo_57 rfl rfl ?_
  obtain ⟨x39, hv38, h⟩ := h
  refine zr_get C fl_X1_15 hT1 hv38 dX1_setTo_58 ?_
  refine zr_put C fl_X1_15 hT4 rfl rfl dX1_setTo_61 ?_
  refine zr_aload_n C 0 dX1_setTo_64 rfl rfl ?_
  refine zr_aload_n C 1 dX1_setTo_65 rfl rfl ?_
  obtain ⟨x48, hv47, h⟩ := h
  refine zr_get C fl_X1_18 hT1 hv47 dX1_setTo_66 ?_
  refine zr_put C fl_X1_18 hT4 rfl rfl dX1_setTo_69 ?_
  refine zr_aload_n C 0 dX1_setTo_72 rfl rfl ?_
  refine zr_aload_n C 1 dX1_setTo_73 rfl rfl ?_
  obtain ⟨x58, hv57, h⟩ := h
  refine zr_get C fl_X1_21 hT1 hv57 dX1_setTo_74 ?_
  refine zr_put C fl_X1_21 hT4 rfl rfl dX1_setTo_77 ?_
  refine zr_aload_n C 0 dX1_setTo_80 rfl rfl ?_
  refine zr_aload_n C 1 dX1_setTo_81 rfl rfl ?_
  obtain ⟨x69, hv68, h⟩ := h
  refine zr_get C fl_X1_24 hT1 hv68 dX1_setTo_82 ?_
  obtain ⟨hb70, h⟩ := h
  refine zr_put C fl_X1_24 hT4 (z_nb hb70) (z_fb hb70) dX1_setTo_85 ?_
  refine zr_aload_n C 0 dX1_setTo_88 rfl rfl ?_
  refine zr_aload_n C 1 dX1_setTo_89 rfl rfl ?_
  obtain ⟨x82, hv81, h⟩ := h
  refine zr_get C fl_X1_28 hT1 hv81 dX1_setTo_90 ?_
  obtain ⟨hb83, h⟩ := h
  refine zr_put C fl_X1_28 hT4 (z_nb hb83) (z_fb hb83) dX1_setTo_93 ?_
  exact zr_vret C rfl ⟨rfl, rfl, h⟩ (Nat.le_of_ble_eq_true rfl) (Nat.le_of_ble_eq_true rfl) dX1_setTo_96
theorem dX1_init__0 : decode cX1_init_ 0 = .ok (.aload_n 0, 1) := by decide +kernel
theorem dX1_init__1 : decode cX1_init_ 1 = .ok (.invokespecial 3, 3) := by decide +kernel
theorem dX1_init__4 : decode cX1_init_ 4 = .ok (.aload_n 0, 1) := by decide +kernel
theorem dX1_init__5 : decode cX1_init_ 5 = .ok (.iconst 0, 1) := by decide +kernel
theorem dX1_init__6 : decode cX1_init_ 6 = .ok (.putfield 9, 3) := by decide +kernel
theorem dX1_init__9 : decode cX1_init_ 9 = .ok (.aload_n 0, 1) := by decide +kernel
theorem dX1_init__10 : decode cX1_init_ 10 = .ok (.iconst 0, 1) := by decide +kernel
theorem dX1_init__11 : decode cX1_init_ 11 = .ok (.putfield 15, 3) := by decide +kernel
theorem dX1_init__14 : decode cX1_init_ 14 = .ok (.aload_n 0, 1) := by decide +kernel
theorem dX1_init__15 : decode cX1_init_ 15 = .ok (.iconst 0, 1) := by decide +kernel
theorem dX1_init__16 : decode cX1_init_ 16 = .ok (.putfield 18, 3) := by decide +kernel
theorem dX1_init__19 : decode cX1_init_ 19 = .ok (.aload_n 0, 1) := by decide +kernel
theorem dX1_init__20 : decode cX1_init_ 20 = .ok (.iconst 0, 1) := by decide +kernel
theorem dX1_init__21 : decode cX1_init_ 21 = .ok (.putfield 21, 3) := by decide +kernel
theorem dX1_init__24 : decode cX1_init_ 24 = .ok (.aload_n 0, 1) := by decide +kernel
theorem dX1_init__25 : decode cX1_init_ 25 = .ok (.iconst 0, 1) := by decide +kernel
theorem dX1_init__26 : decode cX1_init_ 26 = .ok (.putfield 24, 3) := by decide +kernel
theorem dX1_init__29 : decode cX1_init_ 29 = .ok (.aload_n 0, 1) := by decide +kernel
theorem dX1_init__30 : decode cX1_init_ 30 = .ok (.iconst 0, 1) := by decide +kernel
theorem dX1_init__31 : decode cX1_init_ 31 = .ok (.putfield 28, 3) := by decide +kernel
theorem dX1_init__34 : decode cX1_init_ 34 = .ok (.aload_n 0, 1) := by decide +kernel
theorem dX1_init__35 : decode cX1_init_ 35 = .ok (.aload_n 1, 1) := by decide +kernel
theorem dX1_init__39 : decode cX1_init_ 39 = .ok (.return_, 1) := by decide +kernel
theorem dX1_init__36 : decode cX1_init_ 36 = .ok (.invokevirtual 50, 3) := by decide +kernel
def v_X1_init_ (a0 : Nat) (a1 : Nat) (T : zT) (F : zF) (Post : zF → Prop) : Prop :=
  (T a0 = some (2, 12) ∧ (v_X1_setTo a0 a1 T (zu (zu (zu (zu (zu (zu F a0 6 (.int 0)) a0 7 (.int 0)) a0 8 (.int 0)) a0 9 (.int 0)) a0 10 (.int 0)) a0 11 (.int 0)) (fun (F17 : zF) => Post F17)))
set_option maxRecDepth 100000 in
set_option maxHeartbeats 4000000 in
theorem k_X1_init_ {l : Launch} {D : va_G} {cA : Nat → ClassId} {N0 zE : Nat} {a0 : Nat} {a1 : Nat} {T : zT} {F : zF} {Post : zF → Prop} (h : v_X1_init_ a0 a1 T F Post) : z_Mt l D cA N0 zE yX1_init_ cX1_init_ 2 none ({ frames := 1, cells := 0, slots := 0, locals := 21 } : Room) [.ref a0, .ref a1] T F (fun v T' F' => v = none ∧ T = T' ∧ Post F') := by
  unfold v_X1_init_ at h
  refine z_bodyT (by decide) (Nat.le_of_ble_eq_true rfl) ?_
  intro p e s m args below meth c C hnm
  have C : z_C p l s m args meth c RX1 cX1_init_ 2 none D cA N0 zE := C
  show z_w p l e ({ frames := 1, cells := 0, slots := 0, locals := 21 } : Room) s m args below meth c D cA N0 2 0 0 (MQ below (z_Qc D cA N0 (fun v T' F' => v = none ∧ T = T' ∧ Post F')) args s 0 0 (fun q => N0 ≤ q)) 0 [(0, .ref a0), (1, .ref a1)] [] T F
  refine zr_aload_n C 0 dX1_init__0 rfl rfl ?_
  refine zr_objInit C zq_566 zq_44 zq_45 (by decide) (Nat.le_of_ble_eq_true rfl) dX1_init__1 ?_
  refine zr_aload_n C 0 dX1_init__4 rfl rfl ?_
  refine zr_iconst C 0 dX1_init__5 (by decide) ?_
  obtain ⟨hT1, h⟩ := h
  refine zr_put C fl_X1_9 hT1 rfl rfl dX1_init__6 ?_
  refine zr_aload_n C 0 dX1_init__9 rfl rfl ?_
  refine zr_iconst C 0 dX1_init__10 (by decide) ?_
  refine zr_put C fl_X1_15 hT1 rfl rfl dX1_init__11 ?_
  refine zr_aload_n C 0 dX1_init__14 rfl rfl ?_
  refine zr_iconst C 0 dX1_init__15 (by decide) ?_
  refine zr_put C fl_X1_18 hT1 rfl rfl dX1_init__16 ?_
  refine zr_aload_n C 0 dX1_init__19 rfl rfl ?_
  refine zr_iconst C 0 dX1_init__20 (by decide) ?_
  refine zr_put C fl_X1_21 hT1 rfl rfl dX1_init__21 ?_
  refine zr_aload_n C 0 dX1_init__24 rfl rfl ?_
  refine zr_iconst C 0 dX1_init__25 (by decide) ?_
  refine zr_put C fl_X1_24 hT1 rfl rfl dX1_init__26 ?_
  refine zr_aload_n C 0 dX1_init__29 rfl rfl ?_
  refine zr_iconst C 0 dX1_init__30 (by decide) ?_
  refine zr_put C fl_X1_28 hT1 rfl rfl dX1_init__31 ?_
  refine zr_aload_n C 0 dX1_init__34 rfl rfl ?_
  refine zr_aload_n C 1 dX1_init__35 rfl rfl ?_
  refine zr_callV (As := [.ref a1]) (r := (RX1, TX1, 12)) C (k_X1_setTo h) ok_X1_50 zq_560 zq_12 hT1 (by decide) rfl rfl ⟨by decide, (Nat.le_of_ble_eq_true rfl)⟩ ⟨(Nat.le_of_ble_eq_true rfl), (Nat.le_of_ble_eq_true rfl)⟩ (Nat.le_of_ble_eq_true rfl) dX1_init__36 (fun v18 U19 G20 hq => ?_)
  clear h
  · obtain ⟨rfl, rfl, h⟩ := hq
    exact zr_vret C rfl ⟨rfl, rfl, h⟩ (Nat.le_of_ble_eq_true rfl) (Nat.le_of_ble_eq_true rfl) dX1_init__39
end
section
theorem dX3_init_0 : decode cX3_init 0 = .ok (.aload_n 0, 1) := by decide +kernel
theorem dX3_init_1 : decode cX3_init 1 = .ok (.invokespecial 3, 3) := by decide +kernel
theorem dX3_init_4 : decode cX3_init 4 = .ok (.aload_n 0, 1) := by decide +kernel
theorem dX3_init_5 : decode cX3_init 5 = .ok (.new 9, 3) := by decide +kernel
theorem dX3_init_8 : decode cX3_init 8 = .ok (.dup, 1) := by decide +kernel
theorem dX3_init_12 : decode cX3_init 12 = .ok (.putfield 12, 3) := by decide +kernel
theorem dX3_init_15 : decode cX3_init 15 = .ok (.aload_n 0, 1) := by decide +kernel
theorem dX3_init_16 : decode cX3_init 16 = .ok (.new 9, 3) := by decide +kernel
theorem dX3_init_19 : decode cX3_init 19 = .ok (.dup, 1) := by decide +kernel
theorem dX3_init_23 : decode cX3_init 23 = .ok (.putfield 18, 3) := by decide +kernel
theorem dX3_init_26 : decode cX3_init 26 = .ok (.aload_n 0, 1) := by decide +kernel
theorem dX3_init_27 : decode cX3_init 27 = .ok (.iconst 0, 1) := by decide +kernel
theorem dX3_init_28 : decode cX3_init 28 = .ok (.putfield 21, 3) := by decide +kernel
theorem dX3_init_31 : decode cX3_init 31 = .ok (.return_, 1) := by decide +kernel
theorem dX3_init_20 : decode cX3_init 20 = .ok (.invokespecial 11, 3) := by decide +kernel
theorem dX3_init_9 : decode cX3_init 9 = .ok (.invokespecial 11, 3) := by decide +kernel
def v_X3_init (zE : Nat) (a0 : Nat) (T : zT) (F : zF) (Post : zT → zF → Prop) : Prop :=
  (∀ q1 : Nat, (∀ b, q1 ≤ b → T b = none) → (v_Jx4a65c_init_da8c8 zE q1 (zn T q1 (0, 3)) (zm F q1 (fun j => defaultValue (tyJx4a65c j))) (fun (F3 : zF) => (zn T q1 (0, 3) a0 = some (4, 3) ∧ (∀ q5 : Nat, (∀ b, q5 ≤ b → (zn T q1 (0, 3)) b = none) → (v_Jx4a65c_init_da8c8 zE q5 (zn (zn T q1 (0, 3)) q5 (0, 3)) (zm (zu F3 a0 0 (.ref q1)) q5 (fun j => defaultValue (tyJx4a65c j))) (fun (F7 : zF) => (zn (zn T q1 (0, 3)) q5 (0, 3) a0 = some (4, 3) ∧ Post (zn (zn T q1 (0, 3)) q5 (0, 3)) (zu (zu F7 a0 1 (.ref q5)) a0 2 (.int 0))))))))))
set_option maxRecDepth 100000 in
set_option maxHeartbeats 4000000 in
theorem k_X3_init {l : Launch} {D : va_G} {cA : Nat → ClassId} {N0 zE : Nat} {a0 : Nat} {T : zT} {F : zF} {Post : zT → zF → Prop} (h : v_X3_init zE a0 T F Post) : z_Mt l D cA N0 zE yX3_init cX3_init 1 none ({ frames := 4, cells := 2, slots := 6, locals := 80 } : Room) [.ref a0] T F (fun v T' F' => v = none ∧ Post T' F') := by
  unfold v_X3_init at h
  refine z_bodyT (by decide) (Nat.le_of_ble_eq_true rfl) ?_
  intro p e s m args below meth c C hnm
  have C : z_C p l s m args meth c RX3 cX3_init 1 none D cA N0 zE := C
  show z_w p l e ({ frames := 4, cells := 2, slots := 6, locals := 80 } : Room) s m args below meth c D cA N0 1 0 0 (MQ below (z_Qc D cA N0 (fun v T' F' => v = none ∧ Post T' F')) args s 2 6 (fun q => N0 ≤ q)) 0 [(0, .ref a0)] [] T F
  refine zr_aload_n C 0 dX3_init_0 rfl rfl ?_
  refine zr_objInit C zq_77 zq_44 zq_45 (by decide) (Nat.le_of_ble_eq_true rfl) dX3_init_1 ?_
  refine zr_aload_n C 0 dX3_init_4 rfl rfl ?_
  refine zr_new C nw_X3_9 (Nat.le_of_ble_eq_true rfl) (Nat.le_of_ble_eq_true rfl) dX3_init_5 (fun q1 hq2 => ?_)
  have h := h q1 hq2
  refine zr_dup C dX3_init_8 rfl ?_
  refine zr_callI (As := []) C (k_Jx4a65c_init_da8c8 h) ok_X3_11 zq_49 rfl rfl ⟨by decide, (Nat.le_of_ble_eq_true rfl)⟩ ⟨(Nat.le_of_ble_eq_true rfl), (Nat.le_of_ble_eq_true rfl)⟩ (Nat.le_of_ble_eq_true rfl) dX3_init_9 (fun v13 U14 G15 hq => ?_)
  clear h
  · obtain ⟨rfl, rfl, h⟩ := hq
    obtain ⟨hT4, h⟩ := h
    refine zr_putF C fl_X3_12 fd_X3_12 hT4 rfl rfl hnm dX3_init_12 ?_
    refine zr_aload_n C 0 dX3_init_15 rfl rfl ?_
    refine zr_new C nw_X3_9 (Nat.le_of_ble_eq_true rfl) (Nat.le_of_ble_eq_true rfl) dX3_init_16 (fun q5 hq6 => ?_)
    have h := h q5 hq6
    refine zr_dup C dX3_init_19 rfl ?_
    refine zr_callI (As := []) C (k_Jx4a65c_init_da8c8 h) ok_X3_11 zq_49 rfl rfl ⟨by decide, (Nat.le_of_ble_eq_true rfl)⟩ ⟨(Nat.le_of_ble_eq_true rfl), (Nat.le_of_ble_eq_true rfl)⟩ (Nat.le_of_ble_eq_true rfl) dX3_init_20 (fun v10 U11 G12 hq => ?_)
    clear h
    · obtain ⟨rfl, rfl, h⟩ := hq
      obtain ⟨hT8, h⟩ := h
      refine zr_put C fl_X3_18 hT8 rfl rfl dX3_init_23 ?_
      refine zr_aload_n C 0 dX3_init_26 rfl rfl ?_
      refine zr_iconst C 0 dX3_init_27 (by decide) ?_
      refine zr_put C fl_X3_21 hT8 rfl rfl dX3_init_28 ?_
      exact zr_vret C rfl ⟨rfl, h⟩ (Nat.le_of_ble_eq_true rfl) (Nat.le_of_ble_eq_true rfl) dX3_init_31
theorem dX3_openBookingsOf_0 : decode cX3_openBookingsOf 0 = .ok (.iconst 0, 1) := by decide +kernel
theorem dX3_openBookingsOf_1 : decode cX3_openBookingsOf 1 = .ok (.istore_n 2, 1) := by decide +kernel
theorem dX3_openBookingsOf_2 : decode cX3_openBookingsOf 2 = .ok (.iconst 0, 1) := by decide +kernel
theorem dX3_openBookingsOf_3 : decode cX3_openBookingsOf 3 = .ok (.istore_n 3, 1) := by decide +kernel
theorem dX3_openBookingsOf_4 : decode cX3_openBookingsOf 4 = .ok (.iload_n 3, 1) := by decide +kernel
theorem dX3_openBookingsOf_5 : decode cX3_openBookingsOf 5 = .ok (.aload_n 0, 1) := by decide +kernel
theorem dX3_openBookingsOf_6 : decode cX3_openBookingsOf 6 = .ok (.getfield 12, 3) := by decide +kernel
theorem dX3_openBookingsOf_12 : decode cX3_openBookingsOf 12 = .ok (.if_icmp .ge 42, 3) := by decide +kernel
theorem dX3_openBookingsOf_54 : decode cX3_openBookingsOf 54 = .ok (.iload_n 2, 1) := by decide +kernel
theorem dX3_openBookingsOf_55 : decode cX3_openBookingsOf 55 = .ok (.ireturn, 1) := by decide +kernel
theorem dX3_openBookingsOf_15 : decode cX3_openBookingsOf 15 = .ok (.aload_n 0, 1) := by decide +kernel
theorem dX3_openBookingsOf_16 : decode cX3_openBookingsOf 16 = .ok (.getfield 12, 3) := by decide +kernel
theorem dX3_openBookingsOf_19 : decode cX3_openBookingsOf 19 = .ok (.iload_n 3, 1) := by decide +kernel
theorem dX3_openBookingsOf_23 : decode cX3_openBookingsOf 23 = .ok (.checkcast 33, 3) := by decide +kernel
theorem dX3_openBookingsOf_26 : decode cX3_openBookingsOf 26 = .ok (.astore 4, 2) := by decide +kernel
theorem dX3_openBookingsOf_28 : decode cX3_openBookingsOf 28 = .ok (.aload 4, 2) := by decide +kernel
theorem dX3_openBookingsOf_33 : decode cX3_openBookingsOf 33 = .ok (.ifCond .eq 15, 3) := by decide +kernel
theorem dX3_openBookingsOf_48 : decode cX3_openBookingsOf 48 = .ok (.iinc 3 1, 3) := by decide +kernel
theorem dX3_openBookingsOf_51 : decode cX3_openBookingsOf 51 = .ok (.goto (-47), 3) := by decide +kernel
theorem dX3_openBookingsOf_36 : decode cX3_openBookingsOf 36 = .ok (.aload 4, 2) := by decide +kernel
theorem dX3_openBookingsOf_38 : decode cX3_openBookingsOf 38 = .ok (.getfield 113, 3) := by decide +kernel
theorem dX3_openBookingsOf_41 : decode cX3_openBookingsOf 41 = .ok (.aload_n 1, 1) := by decide +kernel
theorem dX3_openBookingsOf_42 : decode cX3_openBookingsOf 42 = .ok (.if_acmp .ne 6, 3) := by decide +kernel
theorem dX3_openBookingsOf_45 : decode cX3_openBookingsOf 45 = .ok (.iinc 2 1, 3) := by decide +kernel
theorem dX3_openBookingsOf_30 : decode cX3_openBookingsOf 30 = .ok (.invokevirtual 97, 3) := by decide +kernel
theorem dX3_openBookingsOf_20 : decode cX3_openBookingsOf 20 = .ok (.invokevirtual 29, 3) := by decide +kernel
theorem dX3_openBookingsOf_9 : decode cX3_openBookingsOf 9 = .ok (.invokevirtual 25, 3) := by decide +kernel
def v_X3_openBookingsOf (a0 : Nat) (a1 : Nat) (T : zT) (F : zF) (Post : Int32 → Prop) : Prop :=
  (∃ I1 : Nat → Int32 → Int32 → Prop, (∃ n3 : Nat, I1 n3 0 0) ∧ (∀ (n2 : Nat) (y4 : Int32) (y5 : Int32), I1 n2 y4 y5 → (T a0 = some (4, 3) ∧ ∃ x10 : Nat, F a0 0 = .ref x10 ∧ T x10 = some (0, 3) ∧ (v_Jx4a65c_size_8abf5 x10 T F (fun (r12 : Int32) => ((r12 ≤ y5 → Post y4) ∧ (¬ r12 ≤ y5 → (v_Jx4a65c_get_915e3 x10 y5 T F (fun (r13 : Nat) => (T r13 = some (2, 12) ∧ (v_X1_isOpen r13 T F (fun (r15 : Int32) => ((r15 = 0 → (∃ n16 : Nat, n16 < n2 ∧ I1 n16 y4 (y5 + 1))) ∧ (¬ r15 = 0 → (∃ x18 : Nat, F r13 0 = .ref x18 ∧ ((¬ (some x18 : Option Nat) = some a1 → (∃ n19 : Nat, n19 < n2 ∧ I1 n19 y4 (y5 + 1))) ∧ ((some x18 : Option Nat) = some a1 → (∃ n20 : Nat, n20 < n2 ∧ I1 n20 (y4 + 1) (y5 + 1)))))))))))))))))))
set_option maxRecDepth 100000 in
set_option maxHeartbeats 4000000 in
theorem k_X3_openBookingsOf {l : Launch} {D : va_G} {cA : Nat → ClassId} {N0 zE : Nat} {a0 : Nat} {a1 : Nat} {T : zT} {F : zF} {Post : Int32 → Prop} (h : v_X3_openBookingsOf a0 a1 T F Post) : z_Mt l D cA N0 zE yX3_openBookingsOf cX3_openBookingsOf 5 (some .int) ({ frames := 3, cells := 0, slots := 0, locals := 64 } : Room) [.ref a0, .ref a1] T F (fun v T' F' => ∃ r : Int32, v = some (.int r) ∧ T = T' ∧ F = F' ∧ Post r) := by
  unfold v_X3_openBookingsOf at h
  refine z_bodyT (by decide) (Nat.le_of_ble_eq_true rfl) ?_
  intro p e s m args below meth c C hnm
  have C : z_C p l s m args meth c RX3 cX3_openBookingsOf 5 (some .int) D cA N0 zE := C
  show z_w p l e ({ frames := 3, cells := 0, slots := 0, locals := 64 } : Room) s m args below meth c D cA N0 5 0 0 (MQ below (z_Qc D cA N0 (fun v T' F' => ∃ r : Int32, v = some (.int r) ∧ T = T' ∧ F = F' ∧ Post r)) args s 0 0 (fun q => N0 ≤ q)) 0 [(0, .ref a0), (1, .ref a1)] [] T F
  refine zr_iconst C 0 dX3_openBookingsOf_0 (by decide) ?_
  refine zr_istore_n C [(2, .int 0), (0, .ref a0), (1, .ref a1)] dX3_openBookingsOf_1 rfl (by decide) rfl ?_
  refine zr_iconst C 0 dX3_openBookingsOf_2 (by decide) ?_
  refine zr_istore_n C [(3, .int 0), (2, .int 0), (0, .ref a0), (1, .ref a1)] dX3_openBookingsOf_3 rfl (by decide) rfl ?_
  obtain ⟨I1, ⟨n3, h031⟩, hI30⟩ := h
  have ky32 : ∀ (n2 : Nat) (y4 : Int32) (y5 : Int32), I1 n2 y4 y5 → z_w p l e ({ frames := 3, cells := 0, slots := 0, locals := 64 } : Room) s m args below meth c D cA N0 5 0 0 (MQ below (z_Qc D cA N0 (fun v T' F' => ∃ r : Int32, v = some (.int r) ∧ T = T' ∧ F = F' ∧ Post r)) args s 0 0 (fun q => N0 ≤ q)) 4 [(0, .ref a0), (1, .ref a1), (2, .int y4), (3, .int y5)] [] T F := by
    intro n2
    induction n2 using Nat.strongRecOn with
    | _ n2 ih6 =>
      intro y4 y5 hin
      have h := hI30 n2 y4 y5 hin
      refine zr_iload_n C 3 dX3_openBookingsOf_4 rfl rfl ?_
      refine zr_aload_n C 0 dX3_openBookingsOf_5 rfl rfl ?_
      obtain ⟨hT8, x10, hv9, h⟩ := h
      refine zr_get C fl_X3_12 hT8 hv9 dX3_openBookingsOf_6 ?_
      obtain ⟨hT11, h⟩ := h
      refine zr_callV (As := []) (r := (RJx4a65c, TJx4a65c, 3)) C (k_Jx4a65c_size_8abf5 h) ok_X3_25 zq_112 zq_113 hT11 (by decide) rfl rfl ⟨by decide, (Nat.le_of_ble_eq_true rfl)⟩ ⟨(Nat.le_of_ble_eq_true rfl), (Nat.le_of_ble_eq_true rfl)⟩ (Nat.le_of_ble_eq_true rfl) dX3_openBookingsOf_9 (fun v27 U28 G29 hq => ?_)
      clear h
      · obtain ⟨r12, rfl, rfl, rfl, h⟩ := hq
        obtain ⟨h1, h2⟩ := h
        refine zr_icmp_ge C 54 dX3_openBookingsOf_12 (by decide) (fun hc => ?_) (fun hc => ?_)
        · have h := h1 hc
          clear h1 h2
          refine zr_iload_n C 2 dX3_openBookingsOf_54 rfl rfl ?_
          exact zr_iret C rfl ⟨_, rfl, rfl, rfl, h⟩ (Nat.le_of_ble_eq_true rfl) (Nat.le_of_ble_eq_true rfl) dX3_openBookingsOf_55
        · have h := h2 hc
          clear h1 h2
          refine zr_aload_n C 0 dX3_openBookingsOf_15 rfl rfl ?_
          refine zr_get C fl_X3_12 hT8 hv9 dX3_openBookingsOf_16 ?_
          refine zr_iload_n C 3 dX3_openBookingsOf_19 rfl rfl ?_
          refine zr_callV (As := [.int y5]) (r := (RJx4a65c, TJx4a65c, 3)) C (k_Jx4a65c_get_915e3 h) ok_X3_29 zq_290 zq_291 hT11 (by decide) rfl rfl ⟨by decide, (Nat.le_of_ble_eq_true rfl)⟩ ⟨(Nat.le_of_ble_eq_true rfl), (Nat.le_of_ble_eq_true rfl)⟩ (Nat.le_of_ble_eq_true rfl) dX3_openBookingsOf_20 (fun v24 U25 G26 hq => ?_)
          clear h
          · obtain ⟨r13, rfl, rfl, rfl, h⟩ := hq
            obtain ⟨hT14, h⟩ := h
            refine zr_castS (r := (RX1, TX1, 12)) C hT14 (by decide) rfl zq_402 dX3_openBookingsOf_23 ?_
            refine zr_astore C [(4, .ref r13), (0, .ref a0), (1, .ref a1), (2, .int y4), (3, .int y5)] dX3_openBookingsOf_26 (by decide) rfl ?_
            refine zr_aload C 0 dX3_openBookingsOf_28 rfl ?_
            refine zr_callV (As := []) (r := (RX1, TX1, 12)) C (k_X1_isOpen h) ok_X3_97 zq_458 zq_459 hT14 (by decide) rfl rfl ⟨by decide, (Nat.le_of_ble_eq_true rfl)⟩ ⟨(Nat.le_of_ble_eq_true rfl), (Nat.le_of_ble_eq_true rfl)⟩ (Nat.le_of_ble_eq_true rfl) dX3_openBookingsOf_30 (fun v21 U22 G23 hq => ?_)
            clear h
            · obtain ⟨r15, rfl, rfl, rfl, h⟩ := hq
              obtain ⟨h1, h2⟩ := h
              refine zr_if_eq C 48 dX3_openBookingsOf_33 (by decide) (fun hc => ?_) (fun hc => ?_)
              · have h := h1 hc
                clear h1 h2
                refine zr_iinc C [(3, .int (y5 + 1)), (4, .ref r13), (0, .ref a0), (1, .ref a1), (2, .int y4)] 4 dX3_openBookingsOf_48 rfl rfl (by decide) rfl ?_
                refine zr_goto C 4 dX3_openBookingsOf_51 (by decide) ?_
                obtain ⟨n16, hlt, h⟩ := h
                exact zr_sub [2, 3, 4, 0] rfl (ih6 n16 hlt y4 (y5 + 1) h)
              · have h := h2 hc
                clear h1 h2
                refine zr_aload C 0 dX3_openBookingsOf_36 rfl ?_
                obtain ⟨x18, hv17, h⟩ := h
                refine zr_get C fl_X3_113 hT14 hv17 dX3_openBookingsOf_38 ?_
                refine zr_aload_n C 2 dX3_openBookingsOf_41 rfl rfl ?_
                obtain ⟨h1, h2⟩ := h
                refine zr_acmp_ne (rx := some x18) (ry := some a1) C 48 dX3_openBookingsOf_42 (by decide) (fun hc => ?_) (fun hc => ?_)
                · have h := h1 hc
                  clear h1 h2
                  refine zr_iinc C [(3, .int (y5 + 1)), (4, .ref r13), (0, .ref a0), (1, .ref a1), (2, .int y4)] 4 dX3_openBookingsOf_48 rfl rfl (by decide) rfl ?_
                  refine zr_goto C 4 dX3_openBookingsOf_51 (by decide) ?_
                  obtain ⟨n19, hlt, h⟩ := h
                  exact zr_sub [2, 3, 4, 0] rfl (ih6 n19 hlt y4 (y5 + 1) h)
                · have h := h2 hc
                  clear h1 h2
                  refine zr_iinc C [(2, .int (y4 + 1)), (4, .ref r13), (0, .ref a0), (1, .ref a1), (3, .int y5)] 3 dX3_openBookingsOf_45 rfl rfl (by decide) rfl ?_
                  refine zr_iinc C [(3, .int (y5 + 1)), (2, .int (y4 + 1)), (4, .ref r13), (0, .ref a0), (1, .ref a1)] 4 dX3_openBookingsOf_48 rfl rfl (by decide) rfl ?_
                  refine zr_goto C 4 dX3_openBookingsOf_51 (by decide) ?_
                  obtain ⟨n20, hlt, h⟩ := h
                  exact zr_sub [3, 4, 1, 0] rfl (ih6 n20 hlt (y4 + 1) (y5 + 1) h)
  exact zr_sub [2, 3, 1, 0] rfl (ky32 n3 0 0 h031)
theorem dX3_isTaken_0 : decode cX3_isTaken 0 = .ok (.iconst 0, 1) := by decide +kernel
theorem dX3_isTaken_1 : decode cX3_isTaken 1 = .ok (.istore 6, 2) := by decide +kernel
theorem dX3_isTaken_3 : decode cX3_isTaken 3 = .ok (.iload 6, 2) := by decide +kernel
theorem dX3_isTaken_5 : decode cX3_isTaken 5 = .ok (.aload_n 0, 1) := by decide +kernel
theorem dX3_isTaken_6 : decode cX3_isTaken 6 = .ok (.getfield 12, 3) := by decide +kernel
theorem dX3_isTaken_12 : decode cX3_isTaken 12 = .ok (.if_icmp .ge 61, 3) := by decide +kernel
theorem dX3_isTaken_73 : decode cX3_isTaken 73 = .ok (.iconst 0, 1) := by decide +kernel
theorem dX3_isTaken_74 : decode cX3_isTaken 74 = .ok (.ireturn, 1) := by decide +kernel
theorem dX3_isTaken_15 : decode cX3_isTaken 15 = .ok (.aload_n 0, 1) := by decide +kernel
theorem dX3_isTaken_16 : decode cX3_isTaken 16 = .ok (.getfield 12, 3) := by decide +kernel
theorem dX3_isTaken_19 : decode cX3_isTaken 19 = .ok (.iload 6, 2) := by decide +kernel
theorem dX3_isTaken_24 : decode cX3_isTaken 24 = .ok (.checkcast 33, 3) := by decide +kernel
theorem dX3_isTaken_27 : decode cX3_isTaken 27 = .ok (.astore 7, 2) := by decide +kernel
theorem dX3_isTaken_29 : decode cX3_isTaken 29 = .ok (.aload 7, 2) := by decide +kernel
theorem dX3_isTaken_31 : decode cX3_isTaken 31 = .ok (.aload 5, 2) := by decide +kernel
theorem dX3_isTaken_33 : decode cX3_isTaken 33 = .ok (.if_acmp .eq 34, 3) := by decide +kernel
theorem dX3_isTaken_67 : decode cX3_isTaken 67 = .ok (.iinc 6 1, 3) := by decide +kernel
theorem dX3_isTaken_70 : decode cX3_isTaken 70 = .ok (.goto (-67), 3) := by decide +kernel
theorem dX3_isTaken_36 : decode cX3_isTaken 36 = .ok (.aload 7, 2) := by decide +kernel
theorem dX3_isTaken_41 : decode cX3_isTaken 41 = .ok (.ifCond .eq 26, 3) := by decide +kernel
theorem dX3_isTaken_44 : decode cX3_isTaken 44 = .ok (.aload 7, 2) := by decide +kernel
theorem dX3_isTaken_46 : decode cX3_isTaken 46 = .ok (.iload_n 1, 1) := by decide +kernel
theorem dX3_isTaken_47 : decode cX3_isTaken 47 = .ok (.iload_n 2, 1) := by decide +kernel
theorem dX3_isTaken_51 : decode cX3_isTaken 51 = .ok (.ifCond .eq 16, 3) := by decide +kernel
theorem dX3_isTaken_54 : decode cX3_isTaken 54 = .ok (.aload 7, 2) := by decide +kernel
theorem dX3_isTaken_56 : decode cX3_isTaken 56 = .ok (.iload_n 3, 1) := by decide +kernel
theorem dX3_isTaken_57 : decode cX3_isTaken 57 = .ok (.iload 4, 2) := by decide +kernel
theorem dX3_isTaken_62 : decode cX3_isTaken 62 = .ok (.ifCond .eq 5, 3) := by decide +kernel
theorem dX3_isTaken_65 : decode cX3_isTaken 65 = .ok (.iconst 1, 1) := by decide +kernel
theorem dX3_isTaken_66 : decode cX3_isTaken 66 = .ok (.ireturn, 1) := by decide +kernel
theorem dX3_isTaken_59 : decode cX3_isTaken 59 = .ok (.invokevirtual 104, 3) := by decide +kernel
theorem dX3_isTaken_48 : decode cX3_isTaken 48 = .ok (.invokevirtual 100, 3) := by decide +kernel
theorem dX3_isTaken_38 : decode cX3_isTaken 38 = .ok (.invokevirtual 97, 3) := by decide +kernel
theorem dX3_isTaken_21 : decode cX3_isTaken 21 = .ok (.invokevirtual 29, 3) := by decide +kernel
theorem dX3_isTaken_9 : decode cX3_isTaken 9 = .ok (.invokevirtual 25, 3) := by decide +kernel
def v_X3_isTaken (a0 : Nat) (p1 : Int32) (p2 : Int32) (p3 : Int32) (p4 : Int32) (o5 : Option Nat) (T : zT) (F : zF) (Post : Int32 → Prop) : Prop :=
  ((o5 = none → (∃ I1 : Nat → Int32 → Prop, (∃ n3 : Nat, I1 n3 0) ∧ (∀ (n2 : Nat) (y4 : Int32), I1 n2 y4 → (T a0 = some (4, 3) ∧ ∃ x9 : Nat, F a0 0 = .ref x9 ∧ T x9 = some (0, 3) ∧ (v_Jx4a65c_size_8abf5 x9 T F (fun (r11 : Int32) => ((r11 ≤ y4 → Post 0) ∧ (¬ r11 ≤ y4 → (v_Jx4a65c_get_915e3 x9 y4 T F (fun (r12 : Nat) => (T r12 = some (2, 12) ∧ (((some r12 : Option Nat) = none → (∃ n14 : Nat, n14 < n2 ∧ I1 n14 (y4 + 1))) ∧ (¬ (some r12 : Option Nat) = none → (v_X1_isOpen r12 T F (fun (r15 : Int32) => ((r15 = 0 → (∃ n16 : Nat, n16 < n2 ∧ I1 n16 (y4 + 1))) ∧ (¬ r15 = 0 → (v_X1_isIn r12 p1 p2 T F (fun (r17 : Int32) => ((r17 = 0 → (∃ n18 : Nat, n18 < n2 ∧ I1 n18 (y4 + 1))) ∧ (¬ r17 = 0 → (v_X1_hasDayIn r12 p3 p4 T F (fun (r19 : Int32) => ((r19 = 0 → (∃ n20 : Nat, n20 < n2 ∧ I1 n20 (y4 + 1))) ∧ (¬ r19 = 0 → Post 1))))))))))))))))))))))))) ∧ (∀ y39 : Nat, o5 = some y39 → (∃ I40 : Nat → Int32 → Prop, (∃ n42 : Nat, I40 n42 0) ∧ (∀ (n41 : Nat) (y43 : Int32), I40 n41 y43 → (T a0 = some (4, 3) ∧ ∃ x48 : Nat, F a0 0 = .ref x48 ∧ T x48 = some (0, 3) ∧ (v_Jx4a65c_size_8abf5 x48 T F (fun (r50 : Int32) => ((r50 ≤ y43 → Post 0) ∧ (¬ r50 ≤ y43 → (v_Jx4a65c_get_915e3 x48 y43 T F (fun (r51 : Nat) => (T r51 = some (2, 12) ∧ (((some r51 : Option Nat) = some y39 → (∃ n53 : Nat, n53 < n41 ∧ I40 n53 (y43 + 1))) ∧ (¬ (some r51 : Option Nat) = some y39 → (v_X1_isOpen r51 T F (fun (r54 : Int32) => ((r54 = 0 → (∃ n55 : Nat, n55 < n41 ∧ I40 n55 (y43 + 1))) ∧ (¬ r54 = 0 → (v_X1_isIn r51 p1 p2 T F (fun (r56 : Int32) => ((r56 = 0 → (∃ n57 : Nat, n57 < n41 ∧ I40 n57 (y43 + 1))) ∧ (¬ r56 = 0 → (v_X1_hasDayIn r51 p3 p4 T F (fun (r58 : Int32) => ((r58 = 0 → (∃ n59 : Nat, n59 < n41 ∧ I40 n59 (y43 + 1))) ∧ (¬ r58 = 0 → Post 1))))))))))))))))))))))))))
set_option maxRecDepth 100000 in
set_option maxHeartbeats 4000000 in
theorem k_X3_isTaken {l : Launch} {D : va_G} {cA : Nat → ClassId} {N0 zE : Nat} {a0 : Nat} {p1 : Int32} {p2 : Int32} {p3 : Int32} {p4 : Int32} {o5 : Option Nat} {T : zT} {F : zF} {Post : Int32 → Prop} (h : v_X3_isTaken a0 p1 p2 p3 p4 o5 T F Post) : z_Mt l D cA N0 zE yX3_isTaken cX3_isTaken 8 (some .boolean) ({ frames := 3, cells := 0, slots := 0, locals := 64 } : Room) [.ref a0, .int p1, .int p2, .int p3, .int p4, va_rf o5] T F (fun v T' F' => ∃ r : Int32, v = some (.int r) ∧ T = T' ∧ F = F' ∧ Post r) := by
  unfold v_X3_isTaken at h
  obtain ⟨ha, hb⟩ := h
  cases o5 with
  | none =>
    have h := ha rfl
    refine z_bodyT (by decide) (Nat.le_of_ble_eq_true rfl) ?_
    intro p e s m args below meth c C hnm
    have C : z_C p l s m args meth c RX3 cX3_isTaken 8 (some .boolean) D cA N0 zE := C
    show z_w p l e ({ frames := 3, cells := 0, slots := 0, locals := 64 } : Room) s m args below meth c D cA N0 8 0 0 (MQ below (z_Qc D cA N0 (fun v T' F' => ∃ r : Int32, v = some (.int r) ∧ T = T' ∧ F = F' ∧ Post r)) args s 0 0 (fun q => N0 ≤ q)) 0 [(0, .ref a0), (1, .int p1), (2, .int p2), (3, .int p3), (4, .int p4), (5, .null)] [] T F
    refine zr_iconst C 0 dX3_isTaken_0 (by decide) ?_
    refine zr_istore C [(6, .int 0), (0, .ref a0), (1, .int p1), (2, .int p2), (3, .int p3), (4, .int p4), (5, .null)] dX3_isTaken_1 (by decide) rfl ?_
    obtain ⟨I1, ⟨n3, h037⟩, hI36⟩ := h
    have ky38 : ∀ (n2 : Nat) (y4 : Int32), I1 n2 y4 → z_w p l e ({ frames := 3, cells := 0, slots := 0, locals := 64 } : Room) s m args below meth c D cA N0 8 0 0 (MQ below (z_Qc D cA N0 (fun v T' F' => ∃ r : Int32, v = some (.int r) ∧ T = T' ∧ F = F' ∧ Post r)) args s 0 0 (fun q => N0 ≤ q)) 3 [(0, .ref a0), (1, .int p1), (2, .int p2), (3, .int p3), (4, .int p4), (5, .null), (6, .int y4)] [] T F := by
      intro n2
      induction n2 using Nat.strongRecOn with
      | _ n2 ih5 =>
        intro y4 hin
        have h := hI36 n2 y4 hin
        refine zr_iload C 6 dX3_isTaken_3 rfl ?_
        refine zr_aload_n C 0 dX3_isTaken_5 rfl rfl ?_
        obtain ⟨hT7, x9, hv8, h⟩ := h
        refine zr_get C fl_X3_12 hT7 hv8 dX3_isTaken_6 ?_
        obtain ⟨hT10, h⟩ := h
        refine zr_callV (As := []) (r := (RJx4a65c, TJx4a65c, 3)) C (k_Jx4a65c_size_8abf5 h) ok_X3_25 zq_112 zq_113 hT10 (by decide) rfl rfl ⟨by decide, (Nat.le_of_ble_eq_true rfl)⟩ ⟨(Nat.le_of_ble_eq_true rfl), (Nat.le_of_ble_eq_true rfl)⟩ (Nat.le_of_ble_eq_true rfl) dX3_isTaken_9 (fun v33 U34 G35 hq => ?_)
        clear h
        · obtain ⟨r11, rfl, rfl, rfl, h⟩ := hq
          obtain ⟨h1, h2⟩ := h
          refine zr_icmp_ge C 73 dX3_isTaken_12 (by decide) (fun hc => ?_) (fun hc => ?_)
          · have h := h1 hc
            clear h1 h2
            refine zr_iconst C 0 dX3_isTaken_73 (by decide) ?_
            exact zr_zret C rfl (Or.inl rfl) ⟨_, rfl, rfl, rfl, h⟩ (Nat.le_of_ble_eq_true rfl) (Nat.le_of_ble_eq_true rfl) dX3_isTaken_74
          · have h := h2 hc
            clear h1 h2
            refine zr_aload_n C 0 dX3_isTaken_15 rfl rfl ?_
            refine zr_get C fl_X3_12 hT7 hv8 dX3_isTaken_16 ?_
            refine zr_iload C 6 dX3_isTaken_19 rfl ?_
            refine zr_callV (As := [.int y4]) (r := (RJx4a65c, TJx4a65c, 3)) C (k_Jx4a65c_get_915e3 h) ok_X3_29 zq_290 zq_291 hT10 (by decide) rfl rfl ⟨by decide, (Nat.le_of_ble_eq_true rfl)⟩ ⟨(Nat.le_of_ble_eq_true rfl), (Nat.le_of_ble_eq_true rfl)⟩ (Nat.le_of_ble_eq_true rfl) dX3_isTaken_21 (fun v30 U31 G32 hq => ?_)
            clear h
            · obtain ⟨r12, rfl, rfl, rfl, h⟩ := hq
              obtain ⟨hT13, h⟩ := h
              refine zr_castS (r := (RX1, TX1, 12)) C hT13 (by decide) rfl zq_402 dX3_isTaken_24 ?_
              refine zr_astore C [(7, .ref r12), (0, .ref a0), (1, .int p1), (2, .int p2), (3, .int p3), (4, .int p4), (5, .null), (6, .int y4)] dX3_isTaken_27 (by decide) rfl ?_
              refine zr_aload C 0 dX3_isTaken_29 rfl ?_
              refine zr_aloadN C 6 dX3_isTaken_31 rfl ?_
              obtain ⟨h1, h2⟩ := h
              refine zr_acmp_eq (rx := some r12) (ry := none) C 67 dX3_isTaken_33 (by decide) (fun hc => ?_) (fun hc => ?_)
              · have h := h1 hc
                clear h1 h2
                refine zr_iinc C [(6, .int (y4 + 1)), (7, .ref r12), (0, .ref a0), (1, .int p1), (2, .int p2), (3, .int p3), (4, .int p4), (5, .null)] 7 dX3_isTaken_67 rfl rfl (by decide) rfl ?_
                refine zr_goto C 3 dX3_isTaken_70 (by decide) ?_
                obtain ⟨n14, hlt, h⟩ := h
                exact zr_sub [2, 3, 4, 5, 6, 7, 0] rfl (ih5 n14 hlt (y4 + 1) h)
              · have h := h2 hc
                clear h1 h2
                refine zr_aload C 0 dX3_isTaken_36 rfl ?_
                refine zr_callV (As := []) (r := (RX1, TX1, 12)) C (k_X1_isOpen h) ok_X3_97 zq_458 zq_459 hT13 (by decide) rfl rfl ⟨by decide, (Nat.le_of_ble_eq_true rfl)⟩ ⟨(Nat.le_of_ble_eq_true rfl), (Nat.le_of_ble_eq_true rfl)⟩ (Nat.le_of_ble_eq_true rfl) dX3_isTaken_38 (fun v27 U28 G29 hq => ?_)
                clear h
                · obtain ⟨r15, rfl, rfl, rfl, h⟩ := hq
                  obtain ⟨h1, h2⟩ := h
                  refine zr_if_eq C 67 dX3_isTaken_41 (by decide) (fun hc => ?_) (fun hc => ?_)
                  · have h := h1 hc
                    clear h1 h2
                    refine zr_iinc C [(6, .int (y4 + 1)), (7, .ref r12), (0, .ref a0), (1, .int p1), (2, .int p2), (3, .int p3), (4, .int p4), (5, .null)] 7 dX3_isTaken_67 rfl rfl (by decide) rfl ?_
                    refine zr_goto C 3 dX3_isTaken_70 (by decide) ?_
                    obtain ⟨n16, hlt, h⟩ := h
                    exact zr_sub [2, 3, 4, 5, 6, 7, 0] rfl (ih5 n16 hlt (y4 + 1) h)
                  · have h := h2 hc
                    clear h1 h2
                    refine zr_aload C 0 dX3_isTaken_44 rfl ?_
                    refine zr_iload_n C 2 dX3_isTaken_46 rfl rfl ?_
                    refine zr_iload_n C 3 dX3_isTaken_47 rfl rfl ?_
                    refine zr_callV (As := [.int p1, .int p2]) (r := (RX1, TX1, 12)) C (k_X1_isIn h) ok_X3_100 zq_656 zq_657 hT13 (by decide) rfl rfl ⟨by decide, (Nat.le_of_ble_eq_true rfl)⟩ ⟨(Nat.le_of_ble_eq_true rfl), (Nat.le_of_ble_eq_true rfl)⟩ (Nat.le_of_ble_eq_true rfl) dX3_isTaken_48 (fun v24 U25 G26 hq => ?_)
                    clear h
                    · obtain ⟨r17, rfl, rfl, rfl, h⟩ := hq
                      obtain ⟨h1, h2⟩ := h
                      refine zr_if_eq C 67 dX3_isTaken_51 (by decide) (fun hc => ?_) (fun hc => ?_)
                      · have h := h1 hc
                        clear h1 h2
                        refine zr_iinc C [(6, .int (y4 + 1)), (7, .ref r12), (0, .ref a0), (1, .int p1), (2, .int p2), (3, .int p3), (4, .int p4), (5, .null)] 7 dX3_isTaken_67 rfl rfl (by decide) rfl ?_
                        refine zr_goto C 3 dX3_isTaken_70 (by decide) ?_
                        obtain ⟨n18, hlt, h⟩ := h
                        exact zr_sub [2, 3, 4, 5, 6, 7, 0] rfl (ih5 n18 hlt (y4 + 1) h)
                      · have h := h2 hc
                        clear h1 h2
                        refine zr_aload C 0 dX3_isTaken_54 rfl ?_
                        refine zr_iload_n C 4 dX3_isTaken_56 rfl rfl ?_
                        refine zr_iload C 5 dX3_isTaken_57 rfl ?_
                        refine zr_callV (As := [.int p3, .int p4]) (r := (RX1, TX1, 12)) C (k_X1_hasDayIn h) ok_X3_104 zq_660 zq_661 hT13 (by decide) rfl rfl ⟨by decide, (Nat.le_of_ble_eq_true rfl)⟩ ⟨(Nat.le_of_ble_eq_true rfl), (Nat.le_of_ble_eq_true rfl)⟩ (Nat.le_of_ble_eq_true rfl) dX3_isTaken_59 (fun v21 U22 G23 hq => ?_)
                        clear h
                        · obtain ⟨r19, rfl, rfl, rfl, h⟩ := hq
                          obtain ⟨h1, h2⟩ := h
                          refine zr_if_eq C 67 dX3_isTaken_62 (by decide) (fun hc => ?_) (fun hc => ?_)
                          · have h := h1 hc
                            clear h1 h2
                            refine zr_iinc C [(6, .int (y4 + 1)), (7, .ref r12), (0, .ref a0), (1, .int p1), (2, .int p2), (3, .int p3), (4, .int p4), (5, .null)] 7 dX3_isTaken_67 rfl rfl (by decide) rfl ?_
                            refine zr_goto C 3 dX3_isTaken_70 (by decide) ?_
                            obtain ⟨n20, hlt, h⟩ := h
                            exact zr_sub [2, 3, 4, 5, 6, 7, 0] rfl (ih5 n20 hlt (y4 + 1) h)
                          · have h := h2 hc
                            clear h1 h2
                            refine zr_iconst C 1 dX3_isTaken_65 (by decide) ?_
                            exact zr_zret C rfl (Or.inr rfl) ⟨_, rfl, rfl, rfl, h⟩ (Nat.le_of_ble_eq_true rfl) (Nat.le_of_ble_eq_true rfl) dX3_isTaken_66
    exact zr_sub [1, 2, 3, 4, 5, 6, 0] rfl (ky38 n3 0 h037)
  | some y39 =>
    have h := hb y39 rfl
    refine z_bodyT (by decide) (Nat.le_of_ble_eq_true rfl) ?_
    intro p e s m args below meth c C hnm
    have C : z_C p l s m args meth c RX3 cX3_isTaken 8 (some .boolean) D cA N0 zE := C
    show z_w p l e ({ frames := 3, cells := 0, slots := 0, locals := 64 } : Room) s m args below meth c D cA N0 8 0 0 (MQ below (z_Qc D cA N0 (fun v T' F' => ∃ r : Int32, v = some (.int r) ∧ T = T' ∧ F = F' ∧ Post r)) args s 0 0 (fun q => N0 ≤ q)) 0 [(0, .ref a0), (1, .int p1), (2, .int p2), (3, .int p3), (4, .int p4), (5, .ref y39)] [] T F
    refine zr_iconst C 0 dX3_isTaken_0 (by decide) ?_
    refine zr_istore C [(6, .int 0), (0, .ref a0), (1, .int p1), (2, .int p2), (3, .int p3), (4, .int p4), (5, .ref y39)] dX3_isTaken_1 (by decide) rfl ?_
    obtain ⟨I40, ⟨n42, h076⟩, hI75⟩ := h
    have ky77 : ∀ (n41 : Nat) (y43 : Int32), I40 n41 y43 → z_w p l e ({ frames := 3, cells := 0, slots := 0, locals := 64 } : Room) s m args below meth c D cA N0 8 0 0 (MQ below (z_Qc D cA N0 (fun v T' F' => ∃ r : Int32, v = some (.int r) ∧ T = T' ∧ F = F' ∧ Post r)) args s 0 0 (fun q => N0 ≤ q)) 3 [(0, .ref a0), (1, .int p1), (2, .int p2), (3, .int p3), (4, .int p4), (5, .ref y39), (6, .int y43)] [] T F := by
      intro n41
      induction n41 using Nat.strongRecOn with
      | _ n41 ih44 =>
        intro y43 hin
        have h := hI75 n41 y43 hin
        refine zr_iload C 6 dX3_isTaken_3 rfl ?_
        refine zr_aload_n C 0 dX3_isTaken_5 rfl rfl ?_
        obtain ⟨hT46, x48, hv47, h⟩ := h
        refine zr_get C fl_X3_12 hT46 hv47 dX3_isTaken_6 ?_
        obtain ⟨hT49, h⟩ := h
        refine zr_callV (As := []) (r := (RJx4a65c, TJx4a65c, 3)) C (k_Jx4a65c_size_8abf5 h) ok_X3_25 zq_112 zq_113 hT49 (by decide) rfl rfl ⟨by decide, (Nat.le_of_ble_eq_true rfl)⟩ ⟨(Nat.le_of_ble_eq_true rfl), (Nat.le_of_ble_eq_true rfl)⟩ (Nat.le_of_ble_eq_true rfl) dX3_isTaken_9 (fun v72 U73 G74 hq => ?_)
        clear h
        · obtain ⟨r50, rfl, rfl, rfl, h⟩ := hq
          obtain ⟨h1, h2⟩ := h
          refine zr_icmp_ge C 73 dX3_isTaken_12 (by decide) (fun hc => ?_) (fun hc => ?_)
          · have h := h1 hc
            clear h1 h2
            refine zr_iconst C 0 dX3_isTaken_73 (by decide) ?_
            exact zr_zret C rfl (Or.inl rfl) ⟨_, rfl, rfl, rfl, h⟩ (Nat.le_of_ble_eq_true rfl) (Nat.le_of_ble_eq_true rfl) dX3_isTaken_74
          · have h := h2 hc
            clear h1 h2
            refine zr_aload_n C 0 dX3_isTaken_15 rfl rfl ?_
            refine zr_get C fl_X3_12 hT46 hv47 dX3_isTaken_16 ?_
            refine zr_iload C 6 dX3_isTaken_19 rfl ?_
            refine zr_callV (As := [.int y43]) (r := (RJx4a65c, TJx4a65c, 3)) C (k_Jx4a65c_get_915e3 h) ok_X3_29 zq_290 zq_291 hT49 (by decide) rfl rfl ⟨by decide, (Nat.le_of_ble_eq_true rfl)⟩ ⟨(Nat.le_of_ble_eq_true rfl), (Nat.le_of_ble_eq_true rfl)⟩ (Nat.le_of_ble_eq_true rfl) dX3_isTaken_21 (fun v69 U70 G71 hq => ?_)
            clear h
            · obtain ⟨r51, rfl, rfl, rfl, h⟩ := hq
              obtain ⟨hT52, h⟩ := h
              refine zr_castS (r := (RX1, TX1, 12)) C hT52 (by decide) rfl zq_402 dX3_isTaken_24 ?_
              refine zr_astore C [(7, .ref r51), (0, .ref a0), (1, .int p1), (2, .int p2), (3, .int p3), (4, .int p4), (5, .ref y39), (6, .int y43)] dX3_isTaken_27 (by decide) rfl ?_
              refine zr_aload C 0 dX3_isTaken_29 rfl ?_
              refine zr_aload C 6 dX3_isTaken_31 rfl ?_
              obtain ⟨h1, h2⟩ := h
              refine zr_acmp_eq (rx := some r51) (ry := some y39) C 67 dX3_isTaken_33 (by decide) (fun hc => ?_) (fun hc => ?_)
              · have h := h1 hc
                clear h1 h2
                refine zr_iinc C [(6, .int (y43 + 1)), (7, .ref r51), (0, .ref a0), (1, .int p1), (2, .int p2), (3, .int p3), (4, .int p4), (5, .ref y39)] 7 dX3_isTaken_67 rfl rfl (by decide) rfl ?_
                refine zr_goto C 3 dX3_isTaken_70 (by decide) ?_
                obtain ⟨n53, hlt, h⟩ := h
                exact zr_sub [2, 3, 4, 5, 6, 7, 0] rfl (ih44 n53 hlt (y43 + 1) h)
              · have h := h2 hc
                clear h1 h2
                refine zr_aload C 0 dX3_isTaken_36 rfl ?_
                refine zr_callV (As := []) (r := (RX1, TX1, 12)) C (k_X1_isOpen h) ok_X3_97 zq_458 zq_459 hT52 (by decide) rfl rfl ⟨by decide, (Nat.le_of_ble_eq_true rfl)⟩ ⟨(Nat.le_of_ble_eq_true rfl), (Nat.le_of_ble_eq_true rfl)⟩ (Nat.le_of_ble_eq_true rfl) dX3_isTaken_38 (fun v66 U67 G68 hq => ?_)
                clear h
                · obtain ⟨r54, rfl, rfl, rfl, h⟩ := hq
                  obtain ⟨h1, h2⟩ := h
                  refine zr_if_eq C 67 dX3_isTaken_41 (by decide) (fun hc => ?_) (fun hc => ?_)
                  · have h := h1 hc
                    clear h1 h2
                    refine zr_iinc C [(6, .int (y43 + 1)), (7, .ref r51), (0, .ref a0), (1, .int p1), (2, .int p2), (3, .int p3), (4, .int p4), (5, .ref y39)] 7 dX3_isTaken_67 rfl rfl (by decide) rfl ?_
                    refine zr_goto C 3 dX3_isTaken_70 (by decide) ?_
                    obtain ⟨n55, hlt, h⟩ := h
                    exact zr_sub [2, 3, 4, 5, 6, 7, 0] rfl (ih44 n55 hlt (y43 + 1) h)
                  · have h := h2 hc
                    clear h1 h2
                    refine zr_aload C 0 dX3_isTaken_44 rfl ?_
                    refine zr_iload_n C 2 dX3_isTaken_46 rfl rfl ?_
                    refine zr_iload_n C 3 dX3_isTaken_47 rfl rfl ?_
                    refine zr_callV (As := [.int p1, .int p2]) (r := (RX1, TX1, 12)) C (k_X1_isIn h) ok_X3_100 zq_656 zq_657 hT52 (by decide) rfl rfl ⟨by decide, (Nat.le_of_ble_eq_true rfl)⟩ ⟨(Nat.le_of_ble_eq_true rfl), (Nat.le_of_ble_eq_true rfl)⟩ (Nat.le_of_ble_eq_true rfl) dX3_isTaken_48 (fun v63 U64 G65 hq => ?_)
                    clear h
                    · obtain ⟨r56, rfl, rfl, rfl, h⟩ := hq
                      obtain ⟨h1, h2⟩ := h
                      refine zr_if_eq C 67 dX3_isTaken_51 (by decide) (fun hc => ?_) (fun hc => ?_)
                      · have h := h1 hc
                        clear h1 h2
                        refine zr_iinc C [(6, .int (y43 + 1)), (7, .ref r51), (0, .ref a0), (1, .int p1), (2, .int p2), (3, .int p3), (4, .int p4), (5, .ref y39)] 7 dX3_isTaken_67 rfl rfl (by decide) rfl ?_
                        refine zr_goto C 3 dX3_isTaken_70 (by decide) ?_
                        obtain ⟨n57, hlt, h⟩ := h
                        exact zr_sub [2, 3, 4, 5, 6, 7, 0] rfl (ih44 n57 hlt (y43 + 1) h)
                      · have h := h2 hc
                        clear h1 h2
                        refine zr_aload C 0 dX3_isTaken_54 rfl ?_
                        refine zr_iload_n C 4 dX3_isTaken_56 rfl rfl ?_
                        refine zr_iload C 5 dX3_isTaken_57 rfl ?_
                        refine zr_callV (As := [.int p3, .int p4]) (r := (RX1, TX1, 12)) C (k_X1_hasDayIn h) ok_X3_104 zq_660 zq_661 hT52 (by decide) rfl rfl ⟨by decide, (Nat.le_of_ble_eq_true rfl)⟩ ⟨(Nat.le_of_ble_eq_true rfl), (Nat.le_of_ble_eq_true rfl)⟩ (Nat.le_of_ble_eq_true rfl) dX3_isTaken_59 (fun v60 U61 G62 hq => ?_)
                        clear h
                        · obtain ⟨r58, rfl, rfl, rfl, h⟩ := hq
                          obtain ⟨h1, h2⟩ := h
                          refine zr_if_eq C 67 dX3_isTaken_62 (by decide) (fun hc => ?_) (fun hc => ?_)
                          · have h := h1 hc
                            clear h1 h2
                            refine zr_iinc C [(6, .int (y43 + 1)), (7, .ref r51), (0, .ref a0), (1, .int p1), (2, .int p2), (3, .int p3), (4, .int p4), (5, .ref y39)] 7 dX3_isTaken_67 rfl rfl (by decide) rfl ?_
                            refine zr_goto C 3 dX3_isTaken_70 (by decide) ?_
                            obtain ⟨n59, hlt, h⟩ := h
                            exact zr_sub [2, 3, 4, 5, 6, 7, 0] rfl (ih44 n59 hlt (y43 + 1) h)
                          · have h := h2 hc
                            clear h1 h2
                            refine zr_iconst C 1 dX3_isTaken_65 (by decide) ?_
                            exact zr_zret C rfl (Or.inr rfl) ⟨_, rfl, rfl, rfl, h⟩ (Nat.le_of_ble_eq_true rfl) (Nat.le_of_ble_eq_true rfl) dX3_isTaken_66
    exact zr_sub [1, 2, 3, 4, 5, 6, 0] rfl (ky77 n42 0 h076)
theorem dX3_priceToday_0 : decode cX3_priceToday 0 = .ok (.iload_n 3, 1) := by decide +kernel
theorem dX3_priceToday_1 : decode cX3_priceToday 1 = .ok (.iload_n 2, 1) := by decide +kernel
theorem dX3_priceToday_2 : decode cX3_priceToday 2 = .ok (.iload_n 1, 1) := by decide +kernel
theorem dX3_priceToday_3 : decode cX3_priceToday 3 = .ok (.isub, 1) := by decide +kernel
theorem dX3_priceToday_4 : decode cX3_priceToday 4 = .ok (.iconst 1, 1) := by decide +kernel
theorem dX3_priceToday_5 : decode cX3_priceToday 5 = .ok (.iadd, 1) := by decide +kernel
theorem dX3_priceToday_6 : decode cX3_priceToday 6 = .ok (.imul, 1) := by decide +kernel
theorem dX3_priceToday_7 : decode cX3_priceToday 7 = .ok (.istore 4, 2) := by decide +kernel
theorem dX3_priceToday_9 : decode cX3_priceToday 9 = .ok (.iconst 0, 1) := by decide +kernel
theorem dX3_priceToday_10 : decode cX3_priceToday 10 = .ok (.aload_n 0, 1) := by decide +kernel
theorem dX3_priceToday_11 : decode cX3_priceToday 11 = .ok (.getfield 21, 3) := by decide +kernel
theorem dX3_priceToday_14 : decode cX3_priceToday 14 = .ok (.iload_n 1, 1) := by decide +kernel
theorem dX3_priceToday_15 : decode cX3_priceToday 15 = .ok (.bipush 10, 2) := by decide +kernel
theorem dX3_priceToday_17 : decode cX3_priceToday 17 = .ok (.isub, 1) := by decide +kernel
theorem dX3_priceToday_18 : decode cX3_priceToday 18 = .ok (.isub, 1) := by decide +kernel
theorem dX3_priceToday_19 : decode cX3_priceToday 19 = .ok (.invokestatic 131, 3) := by decide +kernel
theorem dX3_priceToday_22 : decode cX3_priceToday 22 = .ok (.istore 5, 2) := by decide +kernel
theorem dX3_priceToday_24 : decode cX3_priceToday 24 = .ok (.iload 4, 2) := by decide +kernel
theorem dX3_priceToday_26 : decode cX3_priceToday 26 = .ok (.iload 5, 2) := by decide +kernel
theorem dX3_priceToday_28 : decode cX3_priceToday 28 = .ok (.iload 4, 2) := by decide +kernel
theorem dX3_priceToday_30 : decode cX3_priceToday 30 = .ok (.bipush 10, 2) := by decide +kernel
theorem dX3_priceToday_32 : decode cX3_priceToday 32 = .ok (.idiv, 1) := by decide +kernel
theorem dX3_priceToday_33 : decode cX3_priceToday 33 = .ok (.imul, 1) := by decide +kernel
theorem dX3_priceToday_34 : decode cX3_priceToday 34 = .ok (.iadd, 1) := by decide +kernel
theorem dX3_priceToday_35 : decode cX3_priceToday 35 = .ok (.ireturn, 1) := by decide +kernel
def v_X3_priceToday (a0 : Nat) (p1 : Int32) (p2 : Int32) (p3 : Int32) (T : zT) (F : zF) (Post : Int32 → Prop) : Prop :=
  (T a0 = some (4, 3) ∧ ∃ x3 : Int32, F a0 2 = .int x3 ∧ (∀ (y4 : Int32), y4 = (if (0 : Int32) < (x3 - (p1 - 10)) then (x3 - (p1 - 10)) else (0 : Int32)) → Post ((p3 * ((p2 - p1) + 1)) + (y4 * ((p3 * ((p2 - p1) + 1)) / 10)))))
set_option maxRecDepth 100000 in
set_option maxHeartbeats 4000000 in
theorem k_X3_priceToday {l : Launch} {D : va_G} {cA : Nat → ClassId} {N0 zE : Nat} {a0 : Nat} {p1 : Int32} {p2 : Int32} {p3 : Int32} {T : zT} {F : zF} {Post : Int32 → Prop} (h : v_X3_priceToday a0 p1 p2 p3 T F Post) : z_Mt l D cA N0 zE yX3_priceToday cX3_priceToday 6 (some .int) ({ frames := 1, cells := 0, slots := 0, locals := 21 } : Room) [.ref a0, .int p1, .int p2, .int p3] T F (fun v T' F' => ∃ r : Int32, v = some (.int r) ∧ T = T' ∧ F = F' ∧ Post r) := by
  unfold v_X3_priceToday at h
  refine z_bodyT (by decide) (Nat.le_of_ble_eq_true rfl) ?_
  intro p e s m args below meth c C hnm
  have C : z_C p l s m args meth c RX3 cX3_priceToday 6 (some .int) D cA N0 zE := C
  show z_w p l e ({ frames := 1, cells := 0, slots := 0, locals := 21 } : Room) s m args below meth c D cA N0 6 0 0 (MQ below (z_Qc D cA N0 (fun v T' F' => ∃ r : Int32, v = some (.int r) ∧ T = T' ∧ F = F' ∧ Post r)) args s 0 0 (fun q => N0 ≤ q)) 0 [(0, .ref a0), (1, .int p1), (2, .int p2), (3, .int p3)] [] T F
  refine zr_iload_n C 3 dX3_priceToday_0 rfl rfl ?_
  refine zr_iload_n C 2 dX3_priceToday_1 rfl rfl ?_
  refine zr_iload_n C 1 dX3_priceToday_2 rfl rfl ?_
  refine zr_isub C dX3_priceToday_3 ?_
  refine zr_iconst C 1 dX3_priceToday_4 (by decide) ?_
  refine zr_iadd C dX3_priceToday_5 ?_
  refine zr_imul C dX3_priceToday_6 ?_
  refine zr_istore C [(4, .int (p3 * ((p2 - p1) + 1))), (0, .ref a0), (1, .int p1), (2, .int p2), (3, .int p3)] dX3_priceToday_7 (by decide) rfl ?_
  refine zr_iconst C 0 dX3_priceToday_9 (by decide) ?_
  refine zr_aload_n C 1 dX3_priceToday_10 rfl rfl ?_
  obtain ⟨hT1, x3, hv2, h⟩ := h
  refine zr_get C fl_X3_21 hT1 hv2 dX3_priceToday_11 ?_
  refine zr_iload_n C 2 dX3_priceToday_14 rfl rfl ?_
  refine zr_bipush C 10 dX3_priceToday_15 (by decide) ?_
  refine zr_isub C dX3_priceToday_17 ?_
  refine zr_isub C dX3_priceToday_18 ?_
  refine zr_max C zq_729 zq_229 zq_29 zq_230 (by decide) (Nat.le_of_ble_eq_true rfl) (Nat.le_of_ble_eq_true rfl) (Nat.le_of_ble_eq_true rfl) dX3_priceToday_19 ?_
  refine zr_topi (fun y4 hy5 => ?_)
  have h := h y4 hy5
  refine zr_istore C [(5, .int y4), (4, .int (p3 * ((p2 - p1) + 1))), (0, .ref a0), (1, .int p1), (2, .int p2), (3, .int p3)] dX3_priceToday_22 (by decide) rfl ?_
  refine zr_iload C 1 dX3_priceToday_24 rfl ?_
  refine zr_iload C 0 dX3_priceToday_26 rfl ?_
  refine zr_iload C 1 dX3_priceToday_28 rfl ?_
  refine zr_bipush C 10 dX3_priceToday_30 (by decide) ?_
  refine zr_idiv C dX3_priceToday_32 (by decide) ?_
  refine zr_imul C dX3_priceToday_33 ?_
  refine zr_iadd C dX3_priceToday_34 ?_
  exact zr_iret C rfl ⟨_, rfl, rfl, rfl, h⟩ (Nat.le_of_ble_eq_true rfl) (Nat.le_of_ble_eq_true rfl) dX3_priceToday_35
theorem dX3_isUsedIn_0 : decode cX3_isUsedIn 0 = .ok (.iconst 0, 1) := by decide +kernel
theorem dX3_isUsedIn_1 : decode cX3_isUsedIn 1 = .ok (.istore_n 3, 1) := by decide +kernel
theorem dX3_isUsedIn_2 : decode cX3_isUsedIn 2 = .ok (.iload_n 3, 1) := by decide +kernel
theorem dX3_isUsedIn_3 : decode cX3_isUsedIn 3 = .ok (.aload_n 0, 1) := by decide +kernel
theorem dX3_isUsedIn_4 : decode cX3_isUsedIn 4 = .ok (.getfield 12, 3) := by decide +kernel
theorem dX3_isUsedIn_10 : decode cX3_isUsedIn 10 = .ok (.if_icmp .ge 50, 3) := by decide +kernel
theorem dX3_isUsedIn_60 : decode cX3_isUsedIn 60 = .ok (.iconst 0, 1) := by decide +kernel
theorem dX3_isUsedIn_61 : decode cX3_isUsedIn 61 = .ok (.ireturn, 1) := by decide +kernel
theorem dX3_isUsedIn_13 : decode cX3_isUsedIn 13 = .ok (.aload_n 0, 1) := by decide +kernel
theorem dX3_isUsedIn_14 : decode cX3_isUsedIn 14 = .ok (.getfield 12, 3) := by decide +kernel
theorem dX3_isUsedIn_17 : decode cX3_isUsedIn 17 = .ok (.iload_n 3, 1) := by decide +kernel
theorem dX3_isUsedIn_21 : decode cX3_isUsedIn 21 = .ok (.checkcast 33, 3) := by decide +kernel
theorem dX3_isUsedIn_24 : decode cX3_isUsedIn 24 = .ok (.astore 4, 2) := by decide +kernel
theorem dX3_isUsedIn_26 : decode cX3_isUsedIn 26 = .ok (.aload 4, 2) := by decide +kernel
theorem dX3_isUsedIn_31 : decode cX3_isUsedIn 31 = .ok (.ifCond .eq 23, 3) := by decide +kernel
theorem dX3_isUsedIn_54 : decode cX3_isUsedIn 54 = .ok (.iinc 3 1, 3) := by decide +kernel
theorem dX3_isUsedIn_57 : decode cX3_isUsedIn 57 = .ok (.goto (-55), 3) := by decide +kernel
theorem dX3_isUsedIn_34 : decode cX3_isUsedIn 34 = .ok (.aload 4, 2) := by decide +kernel
theorem dX3_isUsedIn_36 : decode cX3_isUsedIn 36 = .ok (.getfield 75, 3) := by decide +kernel
theorem dX3_isUsedIn_39 : decode cX3_isUsedIn 39 = .ok (.iload_n 1, 1) := by decide +kernel
theorem dX3_isUsedIn_40 : decode cX3_isUsedIn 40 = .ok (.if_icmp .ne 14, 3) := by decide +kernel
theorem dX3_isUsedIn_43 : decode cX3_isUsedIn 43 = .ok (.aload 4, 2) := by decide +kernel
theorem dX3_isUsedIn_45 : decode cX3_isUsedIn 45 = .ok (.getfield 113, 3) := by decide +kernel
theorem dX3_isUsedIn_48 : decode cX3_isUsedIn 48 = .ok (.aload_n 2, 1) := by decide +kernel
theorem dX3_isUsedIn_49 : decode cX3_isUsedIn 49 = .ok (.if_acmp .ne 5, 3) := by decide +kernel
theorem dX3_isUsedIn_52 : decode cX3_isUsedIn 52 = .ok (.iconst 1, 1) := by decide +kernel
theorem dX3_isUsedIn_53 : decode cX3_isUsedIn 53 = .ok (.ireturn, 1) := by decide +kernel
theorem dX3_isUsedIn_28 : decode cX3_isUsedIn 28 = .ok (.invokevirtual 97, 3) := by decide +kernel
theorem dX3_isUsedIn_18 : decode cX3_isUsedIn 18 = .ok (.invokevirtual 29, 3) := by decide +kernel
theorem dX3_isUsedIn_7 : decode cX3_isUsedIn 7 = .ok (.invokevirtual 25, 3) := by decide +kernel
def v_X3_isUsedIn (a0 : Nat) (p1 : Int32) (a2 : Nat) (T : zT) (F : zF) (Post : Int32 → Prop) : Prop :=
  (∃ I1 : Nat → Int32 → Prop, (∃ n3 : Nat, I1 n3 0) ∧ (∀ (n2 : Nat) (y4 : Int32), I1 n2 y4 → (T a0 = some (4, 3) ∧ ∃ x9 : Nat, F a0 0 = .ref x9 ∧ T x9 = some (0, 3) ∧ (v_Jx4a65c_size_8abf5 x9 T F (fun (r11 : Int32) => ((r11 ≤ y4 → Post 0) ∧ (¬ r11 ≤ y4 → (v_Jx4a65c_get_915e3 x9 y4 T F (fun (r12 : Nat) => (T r12 = some (2, 12) ∧ (v_X1_isOpen r12 T F (fun (r14 : Int32) => ((r14 = 0 → (∃ n15 : Nat, n15 < n2 ∧ I1 n15 (y4 + 1))) ∧ (¬ r14 = 0 → (∃ x17 : Int32, F r12 1 = .int x17 ∧ ((¬ x17 = p1 → (∃ n18 : Nat, n18 < n2 ∧ I1 n18 (y4 + 1))) ∧ (x17 = p1 → (∃ x20 : Nat, F r12 0 = .ref x20 ∧ ((¬ (some x20 : Option Nat) = some a2 → (∃ n21 : Nat, n21 < n2 ∧ I1 n21 (y4 + 1))) ∧ ((some x20 : Option Nat) = some a2 → Post 1))))))))))))))))))))
set_option maxRecDepth 100000 in
set_option maxHeartbeats 4000000 in
theorem k_X3_isUsedIn {l : Launch} {D : va_G} {cA : Nat → ClassId} {N0 zE : Nat} {a0 : Nat} {p1 : Int32} {a2 : Nat} {T : zT} {F : zF} {Post : Int32 → Prop} (h : v_X3_isUsedIn a0 p1 a2 T F Post) : z_Mt l D cA N0 zE yX3_isUsedIn cX3_isUsedIn 5 (some .boolean) ({ frames := 3, cells := 0, slots := 0, locals := 64 } : Room) [.ref a0, .int p1, .ref a2] T F (fun v T' F' => ∃ r : Int32, v = some (.int r) ∧ T = T' ∧ F = F' ∧ Post r) := by
  unfold v_X3_isUsedIn at h
  refine z_bodyT (by decide) (Nat.le_of_ble_eq_true rfl) ?_
  intro p e s m args below meth c C hnm
  have C : z_C p l s m args meth c RX3 cX3_isUsedIn 5 (some .boolean) D cA N0 zE := C
  show z_w p l e ({ frames := 3, cells := 0, slots := 0, locals := 64 } : Room) s m args below meth c D cA N0 5 0 0 (MQ below (z_Qc D cA N0 (fun v T' F' => ∃ r : Int32, v = some (.int r) ∧ T = T' ∧ F = F' ∧ Post r)) args s 0 0 (fun q => N0 ≤ q)) 0 [(0, .ref a0), (1, .int p1), (2, .ref a2)] [] T F
  refine zr_iconst C 0 dX3_isUsedIn_0 (by decide) ?_
  refine zr_istore_n C [(3, .int 0), (0, .ref a0), (1, .int p1), (2, .ref a2)] dX3_isUsedIn_1 rfl (by decide) rfl ?_
  obtain ⟨I1, ⟨n3, h032⟩, hI31⟩ := h
  have ky33 : ∀ (n2 : Nat) (y4 : Int32), I1 n2 y4 → z_w p l e ({ frames := 3, cells := 0, slots := 0, locals := 64 } : Room) s m args below meth c D cA N0 5 0 0 (MQ below (z_Qc D cA N0 (fun v T' F' => ∃ r : Int32, v = some (.int r) ∧ T = T' ∧ F = F' ∧ Post r)) args s 0 0 (fun q => N0 ≤ q)) 2 [(0, .ref a0), (1, .int p1), (2, .ref a2), (3, .int y4)] [] T F := by
    intro n2
    induction n2 using Nat.strongRecOn with
    | _ n2 ih5 =>
      intro y4 hin
      have h := hI31 n2 y4 hin
      refine zr_iload_n C 3 dX3_isUsedIn_2 rfl rfl ?_
      refine zr_aload_n C 0 dX3_isUsedIn_3 rfl rfl ?_
      obtain ⟨hT7, x9, hv8, h⟩ := h
      refine zr_get C fl_X3_12 hT7 hv8 dX3_isUsedIn_4 ?_
      obtain ⟨hT10, h⟩ := h
      refine zr_callV (As := []) (r := (RJx4a65c, TJx4a65c, 3)) C (k_Jx4a65c_size_8abf5 h) ok_X3_25 zq_112 zq_113 hT10 (by decide) rfl rfl ⟨by decide, (Nat.le_of_ble_eq_true rfl)⟩ ⟨(Nat.le_of_ble_eq_true rfl), (Nat.le_of_ble_eq_true rfl)⟩ (Nat.le_of_ble_eq_true rfl) dX3_isUsedIn_7 (fun v28 U29 G30 hq => ?_)
      clear h
      · obtain ⟨r11, rfl, rfl, rfl, h⟩ := hq
        obtain ⟨h1, h2⟩ := h
        refine zr_icmp_ge C 60 dX3_isUsedIn_10 (by decide) (fun hc => ?_) (fun hc => ?_)
        · have h := h1 hc
          clear h1 h2
          refine zr_iconst C 0 dX3_isUsedIn_60 (by decide) ?_
          exact zr_zret C rfl (Or.inl rfl) ⟨_, rfl, rfl, rfl, h⟩ (Nat.le_of_ble_eq_true rfl) (Nat.le_of_ble_eq_true rfl) dX3_isUsedIn_61
        · have h := h2 hc
          clear h1 h2
          refine zr_aload_n C 0 dX3_isUsedIn_13 rfl rfl ?_
          refine zr_get C fl_X3_12 hT7 hv8 dX3_isUsedIn_14 ?_
          refine zr_iload_n C 3 dX3_isUsedIn_17 rfl rfl ?_
          refine zr_callV (As := [.int y4]) (r := (RJx4a65c, TJx4a65c, 3)) C (k_Jx4a65c_get_915e3 h) ok_X3_29 zq_290 zq_291 hT10 (by decide) rfl rfl ⟨by decide, (Nat.le_of_ble_eq_true rfl)⟩ ⟨(Nat.le_of_ble_eq_true rfl), (Nat.le_of_ble_eq_true rfl)⟩ (Nat.le_of_ble_eq_true rfl) dX3_isUsedIn_18 (fun v25 U26 G27 hq => ?_)
          clear h
          · obtain ⟨r12, rfl, rfl, rfl, h⟩ := hq
            obtain ⟨hT13, h⟩ := h
            refine zr_castS (r := (RX1, TX1, 12)) C hT13 (by decide) rfl zq_402 dX3_isUsedIn_21 ?_
            refine zr_astore C [(4, .ref r12), (0, .ref a0), (1, .int p1), (2, .ref a2), (3, .int y4)] dX3_isUsedIn_24 (by decide) rfl ?_
            refine zr_aload C 0 dX3_isUsedIn_26 rfl ?_
            refine zr_callV (As := []) (r := (RX1, TX1, 12)) C (k_X1_isOpen h) ok_X3_97 zq_458 zq_459 hT13 (by decide) rfl rfl ⟨by decide, (Nat.le_of_ble_eq_true rfl)⟩ ⟨(Nat.le_of_ble_eq_true rfl), (Nat.le_of_ble_eq_true rfl)⟩ (Nat.le_of_ble_eq_true rfl) dX3_isUsedIn_28 (fun v22 U23 G24 hq => ?_)
            clear h
            · obtain ⟨r14, rfl, rfl, rfl, h⟩ := hq
              obtain ⟨h1, h2⟩ := h
              refine zr_if_eq C 54 dX3_isUsedIn_31 (by decide) (fun hc => ?_) (fun hc => ?_)
              · have h := h1 hc
                clear h1 h2
                refine zr_iinc C [(3, .int (y4 + 1)), (4, .ref r12), (0, .ref a0), (1, .int p1), (2, .ref a2)] 4 dX3_isUsedIn_54 rfl rfl (by decide) rfl ?_
                refine zr_goto C 2 dX3_isUsedIn_57 (by decide) ?_
                obtain ⟨n15, hlt, h⟩ := h
                exact zr_sub [2, 3, 4, 0] rfl (ih5 n15 hlt (y4 + 1) h)
              · have h := h2 hc
                clear h1 h2
                refine zr_aload C 0 dX3_isUsedIn_34 rfl ?_
                obtain ⟨x17, hv16, h⟩ := h
                refine zr_get C fl_X3_75 hT13 hv16 dX3_isUsedIn_36 ?_
                refine zr_iload_n C 2 dX3_isUsedIn_39 rfl rfl ?_
                obtain ⟨h1, h2⟩ := h
                refine zr_icmp_ne C 54 dX3_isUsedIn_40 (by decide) (fun hc => ?_) (fun hc => ?_)
                · have h := h1 hc
                  clear h1 h2
                  refine zr_iinc C [(3, .int (y4 + 1)), (4, .ref r12), (0, .ref a0), (1, .int p1), (2, .ref a2)] 4 dX3_isUsedIn_54 rfl rfl (by decide) rfl ?_
                  refine zr_goto C 2 dX3_isUsedIn_57 (by decide) ?_
                  obtain ⟨n18, hlt, h⟩ := h
                  exact zr_sub [2, 3, 4, 0] rfl (ih5 n18 hlt (y4 + 1) h)
                · have h := h2 hc
                  clear h1 h2
                  refine zr_aload C 0 dX3_isUsedIn_43 rfl ?_
                  obtain ⟨x20, hv19, h⟩ := h
                  refine zr_get C fl_X3_113 hT13 hv19 dX3_isUsedIn_45 ?_
                  refine zr_aload_n C 3 dX3_isUsedIn_48 rfl rfl ?_
                  obtain ⟨h1, h2⟩ := h
                  refine zr_acmp_ne (rx := some x20) (ry := some a2) C 54 dX3_isUsedIn_49 (by decide) (fun hc => ?_) (fun hc => ?_)
                  · have h := h1 hc
                    clear h1 h2
                    refine zr_iinc C [(3, .int (y4 + 1)), (4, .ref r12), (0, .ref a0), (1, .int p1), (2, .ref a2)] 4 dX3_isUsedIn_54 rfl rfl (by decide) rfl ?_
                    refine zr_goto C 2 dX3_isUsedIn_57 (by decide) ?_
                    obtain ⟨n21, hlt, h⟩ := h
                    exact zr_sub [2, 3, 4, 0] rfl (ih5 n21 hlt (y4 + 1) h)
                  · have h := h2 hc
                    clear h1 h2
                    refine zr_iconst C 1 dX3_isUsedIn_52 (by decide) ?_
                    exact zr_zret C rfl (Or.inr rfl) ⟨_, rfl, rfl, rfl, h⟩ (Nat.le_of_ble_eq_true rfl) (Nat.le_of_ble_eq_true rfl) dX3_isUsedIn_53
  exact zr_sub [1, 2, 3, 0] rfl (ky33 n3 0 h032)
theorem dX3_canSwap_0 : decode cX3_canSwap 0 = .ok (.aload_n 2, 1) := by decide +kernel
theorem dX3_canSwap_1 : decode cX3_canSwap 1 = .ok (.aload_n 1, 1) := by decide +kernel
theorem dX3_canSwap_2 : decode cX3_canSwap 2 = .ok (.getfield 113, 3) := by decide +kernel
theorem dX3_canSwap_5 : decode cX3_canSwap 5 = .ok (.if_acmp .eq 67, 3) := by decide +kernel
theorem dX3_canSwap_72 : decode cX3_canSwap 72 = .ok (.iconst 0, 1) := by decide +kernel
theorem dX3_canSwap_73 : decode cX3_canSwap 73 = .ok (.ireturn, 1) := by decide +kernel
theorem dX3_canSwap_8 : decode cX3_canSwap 8 = .ok (.aload_n 2, 1) := by decide +kernel
theorem dX3_canSwap_9 : decode cX3_canSwap 9 = .ok (.getfield 117, 3) := by decide +kernel
theorem dX3_canSwap_12 : decode cX3_canSwap 12 = .ok (.aload_n 1, 1) := by decide +kernel
theorem dX3_canSwap_13 : decode cX3_canSwap 13 = .ok (.getfield 113, 3) := by decide +kernel
theorem dX3_canSwap_16 : decode cX3_canSwap 16 = .ok (.getfield 117, 3) := by decide +kernel
theorem dX3_canSwap_19 : decode cX3_canSwap 19 = .ok (.if_icmp .ne 53, 3) := by decide +kernel
theorem dX3_canSwap_22 : decode cX3_canSwap 22 = .ok (.aload_n 2, 1) := by decide +kernel
theorem dX3_canSwap_23 : decode cX3_canSwap 23 = .ok (.aload_n 1, 1) := by decide +kernel
theorem dX3_canSwap_24 : decode cX3_canSwap 24 = .ok (.getfield 75, 3) := by decide +kernel
theorem dX3_canSwap_27 : decode cX3_canSwap 27 = .ok (.aload_n 0, 1) := by decide +kernel
theorem dX3_canSwap_28 : decode cX3_canSwap 28 = .ok (.getfield 21, 3) := by decide +kernel
theorem dX3_canSwap_34 : decode cX3_canSwap 34 = .ok (.ifCond .eq 38, 3) := by decide +kernel
theorem dX3_canSwap_37 : decode cX3_canSwap 37 = .ok (.aload_n 2, 1) := by decide +kernel
theorem dX3_canSwap_38 : decode cX3_canSwap 38 = .ok (.aload_n 1, 1) := by decide +kernel
theorem dX3_canSwap_39 : decode cX3_canSwap 39 = .ok (.getfield 75, 3) := by decide +kernel
theorem dX3_canSwap_42 : decode cX3_canSwap 42 = .ok (.aload_n 1, 1) := by decide +kernel
theorem dX3_canSwap_43 : decode cX3_canSwap 43 = .ok (.getfield 81, 3) := by decide +kernel
theorem dX3_canSwap_46 : decode cX3_canSwap 46 = .ok (.aload_n 1, 1) := by decide +kernel
theorem dX3_canSwap_47 : decode cX3_canSwap 47 = .ok (.getfield 84, 3) := by decide +kernel
theorem dX3_canSwap_53 : decode cX3_canSwap 53 = .ok (.ifCond .eq 19, 3) := by decide +kernel
theorem dX3_canSwap_56 : decode cX3_canSwap 56 = .ok (.aload_n 0, 1) := by decide +kernel
theorem dX3_canSwap_57 : decode cX3_canSwap 57 = .ok (.aload_n 1, 1) := by decide +kernel
theorem dX3_canSwap_58 : decode cX3_canSwap 58 = .ok (.getfield 75, 3) := by decide +kernel
theorem dX3_canSwap_61 : decode cX3_canSwap 61 = .ok (.aload_n 2, 1) := by decide +kernel
theorem dX3_canSwap_65 : decode cX3_canSwap 65 = .ok (.ifCond .ne 7, 3) := by decide +kernel
theorem dX3_canSwap_68 : decode cX3_canSwap 68 = .ok (.iconst 1, 1) := by decide +kernel
theorem dX3_canSwap_69 : decode cX3_canSwap 69 = .ok (.goto 4, 3) := by decide +kernel
theorem dX3_canSwap_62 : decode cX3_canSwap 62 = .ok (.invokevirtual 127, 3) := by decide +kernel
theorem dX3_canSwap_50 : decode cX3_canSwap 50 = .ok (.invokevirtual 123, 3) := by decide +kernel
theorem dX3_canSwap_31 : decode cX3_canSwap 31 = .ok (.invokevirtual 120, 3) := by decide +kernel
def v_X3_canSwap (a0 : Nat) (a1 : Nat) (a2 : Nat) (T : zT) (F : zF) (Post : Int32 → Prop) : Prop :=
  (T a1 = some (2, 12) ∧ ∃ x3 : Nat, F a1 0 = .ref x3 ∧ (((some a2 : Option Nat) = some x3 → Post 0) ∧ (¬ (some a2 : Option Nat) = some x3 → (T a2 = some (3, 5) ∧ ∃ x6 : Int32, F a2 1 = .int x6 ∧ T x3 = some (3, 5) ∧ ∃ x9 : Int32, F x3 1 = .int x9 ∧ ((¬ x6 = x9 → Post 0) ∧ (x6 = x9 → (∃ x11 : Int32, F a1 1 = .int x11 ∧ T a0 = some (4, 3) ∧ ∃ x14 : Int32, F a0 2 = .int x14 ∧ (v_X2_isFitOn a2 x11 x14 T F (fun (r15 : Int32) => ((r15 = 0 → Post 0) ∧ (¬ r15 = 0 → (∃ x17 : Int32, F a1 3 = .int x17 ∧ ∃ x19 : Int32, F a1 4 = .int x19 ∧ (v_X2_isGrantedOn a2 x11 x17 x19 T F (fun (r20 : Int32) => ((r20 = 0 → Post 0) ∧ (¬ r20 = 0 → (v_X3_isUsedIn a0 x11 a2 T F (fun (r21 : Int32) => ((¬ r21 = 0 → Post 0) ∧ (r21 = 0 → Post 1))))))))))))))))))))
set_option maxRecDepth 100000 in
set_option maxHeartbeats 4000000 in
theorem k_X3_canSwap {l : Launch} {D : va_G} {cA : Nat → ClassId} {N0 zE : Nat} {a0 : Nat} {a1 : Nat} {a2 : Nat} {T : zT} {F : zF} {Post : Int32 → Prop} (h : v_X3_canSwap a0 a1 a2 T F Post) : z_Mt l D cA N0 zE yX3_canSwap cX3_canSwap 3 (some .boolean) ({ frames := 4, cells := 0, slots := 0, locals := 89 } : Room) [.ref a0, .ref a1, .ref a2] T F (fun v T' F' => ∃ r : Int32, v = some (.int r) ∧ T = T' ∧ F = F' ∧ Post r) := by
  unfold v_X3_canSwap at h
  refine z_bodyT (by decide) (Nat.le_of_ble_eq_true rfl) ?_
  intro p e s m args below meth c C hnm
  have C : z_C p l s m args meth c RX3 cX3_canSwap 3 (some .boolean) D cA N0 zE := C
  show z_w p l e ({ frames := 4, cells := 0, slots := 0, locals := 89 } : Room) s m args below meth c D cA N0 3 0 0 (MQ below (z_Qc D cA N0 (fun v T' F' => ∃ r : Int32, v = some (.int r) ∧ T = T' ∧ F = F' ∧ Post r)) args s 0 0 (fun q => N0 ≤ q)) 0 [(0, .ref a0), (1, .ref a1), (2, .ref a2)] [] T F
  refine zr_aload_n C 2 dX3_canSwap_0 rfl rfl ?_
  refine zr_aload_n C 1 dX3_canSwap_1 rfl rfl ?_
  obtain ⟨hT1, x3, hv2, h⟩ := h
  refine zr_get C fl_X3_113 hT1 hv2 dX3_canSwap_2 ?_
  obtain ⟨h1, h2⟩ := h
  refine zr_acmp_eq (rx := some a2) (ry := some x3) C 72 dX3_canSwap_5 (by decide) (fun hc => ?_) (fun hc => ?_)
  · have h := h1 hc
    clear h1 h2
    refine zr_iconst C 0 dX3_canSwap_72 (by decide) ?_
    exact zr_zret C rfl (Or.inl rfl) ⟨_, rfl, rfl, rfl, h⟩ (Nat.le_of_ble_eq_true rfl) (Nat.le_of_ble_eq_true rfl) dX3_canSwap_73
  · have h := h2 hc
    clear h1 h2
    refine zr_aload_n C 2 dX3_canSwap_8 rfl rfl ?_
    obtain ⟨hT4, x6, hv5, h⟩ := h
    refine zr_get C fl_X3_117 hT4 hv5 dX3_canSwap_9 ?_
    refine zr_aload_n C 1 dX3_canSwap_12 rfl rfl ?_
    refine zr_get C fl_X3_113 hT1 hv2 dX3_canSwap_13 ?_
    obtain ⟨hT7, x9, hv8, h⟩ := h
    refine zr_get C fl_X3_117 hT7 hv8 dX3_canSwap_16 ?_
    obtain ⟨h1, h2⟩ := h
    refine zr_icmp_ne C 72 dX3_canSwap_19 (by decide) (fun hc => ?_) (fun hc => ?_)
    · have h := h1 hc
      clear h1 h2
      refine zr_iconst C 0 dX3_canSwap_72 (by decide) ?_
      exact zr_zret C rfl (Or.inl rfl) ⟨_, rfl, rfl, rfl, h⟩ (Nat.le_of_ble_eq_true rfl) (Nat.le_of_ble_eq_true rfl) dX3_canSwap_73
    · have h := h2 hc
      clear h1 h2
      refine zr_aload_n C 2 dX3_canSwap_22 rfl rfl ?_
      refine zr_aload_n C 1 dX3_canSwap_23 rfl rfl ?_
      obtain ⟨x11, hv10, h⟩ := h
      refine zr_get C fl_X3_75 hT1 hv10 dX3_canSwap_24 ?_
      refine zr_aload_n C 0 dX3_canSwap_27 rfl rfl ?_
      obtain ⟨hT12, x14, hv13, h⟩ := h
      refine zr_get C fl_X3_21 hT12 hv13 dX3_canSwap_28 ?_
      refine zr_callV (As := [.int x11, .int x14]) (r := (RX2, TX2, 5)) C (k_X2_isFitOn h) ok_X3_120 zq_446 zq_447 hT4 (by decide) rfl rfl ⟨by decide, (Nat.le_of_ble_eq_true rfl)⟩ ⟨(Nat.le_of_ble_eq_true rfl), (Nat.le_of_ble_eq_true rfl)⟩ (Nat.le_of_ble_eq_true rfl) dX3_canSwap_31 (fun v28 U29 G30 hq => ?_)
      clear h
      · obtain ⟨r15, rfl, rfl, rfl, h⟩ := hq
        obtain ⟨h1, h2⟩ := h
        refine zr_if_eq C 72 dX3_canSwap_34 (by decide) (fun hc => ?_) (fun hc => ?_)
        · have h := h1 hc
          clear h1 h2
          refine zr_iconst C 0 dX3_canSwap_72 (by decide) ?_
          exact zr_zret C rfl (Or.inl rfl) ⟨_, rfl, rfl, rfl, h⟩ (Nat.le_of_ble_eq_true rfl) (Nat.le_of_ble_eq_true rfl) dX3_canSwap_73
        · have h := h2 hc
          clear h1 h2
          refine zr_aload_n C 2 dX3_canSwap_37 rfl rfl ?_
          refine zr_aload_n C 1 dX3_canSwap_38 rfl rfl ?_
          refine zr_get C fl_X3_75 hT1 hv10 dX3_canSwap_39 ?_
          refine zr_aload_n C 1 dX3_canSwap_42 rfl rfl ?_
          obtain ⟨x17, hv16, h⟩ := h
          refine zr_get C fl_X3_81 hT1 hv16 dX3_canSwap_43 ?_
          refine zr_aload_n C 1 dX3_canSwap_46 rfl rfl ?_
          obtain ⟨x19, hv18, h⟩ := h
          refine zr_get C fl_X3_84 hT1 hv18 dX3_canSwap_47 ?_
          refine zr_callV (As := [.int x11, .int x17, .int x19]) (r := (RX2, TX2, 5)) C (k_X2_isGrantedOn h) ok_X3_123 zq_492 zq_493 hT4 (by decide) rfl rfl ⟨by decide, (Nat.le_of_ble_eq_true rfl)⟩ ⟨(Nat.le_of_ble_eq_true rfl), (Nat.le_of_ble_eq_true rfl)⟩ (Nat.le_of_ble_eq_true rfl) dX3_canSwap_50 (fun v25 U26 G27 hq => ?_)
          clear h
          · obtain ⟨r20, rfl, rfl, rfl, h⟩ := hq
            obtain ⟨h1, h2⟩ := h
            refine zr_if_eq C 72 dX3_canSwap_53 (by decide) (fun hc => ?_) (fun hc => ?_)
            · have h := h1 hc
              clear h1 h2
              refine zr_iconst C 0 dX3_canSwap_72 (by decide) ?_
              exact zr_zret C rfl (Or.inl rfl) ⟨_, rfl, rfl, rfl, h⟩ (Nat.le_of_ble_eq_true rfl) (Nat.le_of_ble_eq_true rfl) dX3_canSwap_73
            · have h := h2 hc
              clear h1 h2
              refine zr_aload_n C 0 dX3_canSwap_56 rfl rfl ?_
              refine zr_aload_n C 1 dX3_canSwap_57 rfl rfl ?_
              refine zr_get C fl_X3_75 hT1 hv10 dX3_canSwap_58 ?_
              refine zr_aload_n C 2 dX3_canSwap_61 rfl rfl ?_
              refine zr_callV (As := [.int x11, .ref a2]) (r := (RX3, TX3, 3)) C (k_X3_isUsedIn h) ok_X3_127 zq_521 zq_9 hT12 (by decide) rfl rfl ⟨by decide, (Nat.le_of_ble_eq_true rfl)⟩ ⟨(Nat.le_of_ble_eq_true rfl), (Nat.le_of_ble_eq_true rfl)⟩ (Nat.le_of_ble_eq_true rfl) dX3_canSwap_62 (fun v22 U23 G24 hq => ?_)
              clear h
              · obtain ⟨r21, rfl, rfl, rfl, h⟩ := hq
                obtain ⟨h1, h2⟩ := h
                refine zr_if_ne C 72 dX3_canSwap_65 (by decide) (fun hc => ?_) (fun hc => ?_)
                · have h := h1 hc
                  clear h1 h2
                  refine zr_iconst C 0 dX3_canSwap_72 (by decide) ?_
                  exact zr_zret C rfl (Or.inl rfl) ⟨_, rfl, rfl, rfl, h⟩ (Nat.le_of_ble_eq_true rfl) (Nat.le_of_ble_eq_true rfl) dX3_canSwap_73
                · have h := h2 hc
                  clear h1 h2
                  refine zr_iconst C 1 dX3_canSwap_68 (by decide) ?_
                  refine zr_goto C 73 dX3_canSwap_69 (by decide) ?_
                  exact zr_zret C rfl (Or.inr rfl) ⟨_, rfl, rfl, rfl, h⟩ (Nat.le_of_ble_eq_true rfl) (Nat.le_of_ble_eq_true rfl) dX3_canSwap_73
theorem dX3_firstSwap_0 : decode cX3_firstSwap 0 = .ok (.iconst 0, 1) := by decide +kernel
theorem dX3_firstSwap_1 : decode cX3_firstSwap 1 = .ok (.istore_n 2, 1) := by decide +kernel
theorem dX3_firstSwap_2 : decode cX3_firstSwap 2 = .ok (.iload_n 2, 1) := by decide +kernel
theorem dX3_firstSwap_3 : decode cX3_firstSwap 3 = .ok (.aload_n 0, 1) := by decide +kernel
theorem dX3_firstSwap_4 : decode cX3_firstSwap 4 = .ok (.getfield 18, 3) := by decide +kernel
theorem dX3_firstSwap_10 : decode cX3_firstSwap 10 = .ok (.if_icmp .ge 40, 3) := by decide +kernel
theorem dX3_firstSwap_50 : decode cX3_firstSwap 50 = .ok (.aconst_null, 1) := by decide +kernel
theorem dX3_firstSwap_51 : decode cX3_firstSwap 51 = .ok (.areturn, 1) := by decide +kernel
theorem dX3_firstSwap_13 : decode cX3_firstSwap 13 = .ok (.aload_n 0, 1) := by decide +kernel
theorem dX3_firstSwap_14 : decode cX3_firstSwap 14 = .ok (.aload_n 1, 1) := by decide +kernel
theorem dX3_firstSwap_15 : decode cX3_firstSwap 15 = .ok (.aload_n 0, 1) := by decide +kernel
theorem dX3_firstSwap_16 : decode cX3_firstSwap 16 = .ok (.getfield 18, 3) := by decide +kernel
theorem dX3_firstSwap_19 : decode cX3_firstSwap 19 = .ok (.iload_n 2, 1) := by decide +kernel
theorem dX3_firstSwap_23 : decode cX3_firstSwap 23 = .ok (.checkcast 107, 3) := by decide +kernel
theorem dX3_firstSwap_29 : decode cX3_firstSwap 29 = .ok (.ifCond .eq 15, 3) := by decide +kernel
theorem dX3_firstSwap_44 : decode cX3_firstSwap 44 = .ok (.iinc 2 1, 3) := by decide +kernel
theorem dX3_firstSwap_47 : decode cX3_firstSwap 47 = .ok (.goto (-45), 3) := by decide +kernel
theorem dX3_firstSwap_32 : decode cX3_firstSwap 32 = .ok (.aload_n 0, 1) := by decide +kernel
theorem dX3_firstSwap_33 : decode cX3_firstSwap 33 = .ok (.getfield 18, 3) := by decide +kernel
theorem dX3_firstSwap_36 : decode cX3_firstSwap 36 = .ok (.iload_n 2, 1) := by decide +kernel
theorem dX3_firstSwap_40 : decode cX3_firstSwap 40 = .ok (.checkcast 107, 3) := by decide +kernel
theorem dX3_firstSwap_43 : decode cX3_firstSwap 43 = .ok (.areturn, 1) := by decide +kernel
theorem dX3_firstSwap_37 : decode cX3_firstSwap 37 = .ok (.invokevirtual 29, 3) := by decide +kernel
theorem dX3_firstSwap_26 : decode cX3_firstSwap 26 = .ok (.invokevirtual 109, 3) := by decide +kernel
theorem dX3_firstSwap_20 : decode cX3_firstSwap 20 = .ok (.invokevirtual 29, 3) := by decide +kernel
theorem dX3_firstSwap_7 : decode cX3_firstSwap 7 = .ok (.invokevirtual 25, 3) := by decide +kernel
def v_X3_firstSwap (a0 : Nat) (a1 : Nat) (T : zT) (F : zF) (Post : Option Nat → Prop) : Prop :=
  (∃ I1 : Nat → Int32 → Prop, (∃ n3 : Nat, I1 n3 0) ∧ (∀ (n2 : Nat) (y4 : Int32), I1 n2 y4 → (T a0 = some (4, 3) ∧ ∃ x9 : Nat, F a0 1 = .ref x9 ∧ T x9 = some (0, 3) ∧ (v_Jx4a65c_size_8abf5 x9 T F (fun (r11 : Int32) => ((r11 ≤ y4 → Post none) ∧ (¬ r11 ≤ y4 → (v_Jx4a65c_get_915e3 x9 y4 T F (fun (r12 : Nat) => (T r12 = some (3, 5) ∧ (v_X3_canSwap a0 a1 r12 T F (fun (r14 : Int32) => ((r14 = 0 → (∃ n15 : Nat, n15 < n2 ∧ I1 n15 (y4 + 1))) ∧ (¬ r14 = 0 → (v_Jx4a65c_get_915e3 x9 y4 T F (fun (r16 : Nat) => (T r16 = some (3, 5) ∧ Post (some r16))))))))))))))))))
set_option maxRecDepth 100000 in
set_option maxHeartbeats 4000000 in
theorem k_X3_firstSwap {l : Launch} {D : va_G} {cA : Nat → ClassId} {N0 zE : Nat} {a0 : Nat} {a1 : Nat} {T : zT} {F : zF} {Post : Option Nat → Prop} (h : v_X3_firstSwap a0 a1 T F Post) : z_Mt l D cA N0 zE yX3_firstSwap cX3_firstSwap 3 (some (.object "BrandRoom$Piece")) ({ frames := 5, cells := 0, slots := 0, locals := 111 } : Room) [.ref a0, .ref a1] T F (fun v T' F' => ∃ r : Option Nat, v = some (va_rf r) ∧ T = T' ∧ F = F' ∧ Post r) := by
  unfold v_X3_firstSwap at h
  refine z_bodyT (by decide) (Nat.le_of_ble_eq_true rfl) ?_
  intro p e s m args below meth c C hnm
  have C : z_C p l s m args meth c RX3 cX3_firstSwap 3 (some (.object "BrandRoom$Piece")) D cA N0 zE := C
  show z_w p l e ({ frames := 5, cells := 0, slots := 0, locals := 111 } : Room) s m args below meth c D cA N0 3 0 0 (MQ below (z_Qc D cA N0 (fun v T' F' => ∃ r : Option Nat, v = some (va_rf r) ∧ T = T' ∧ F = F' ∧ Post r)) args s 0 0 (fun q => N0 ≤ q)) 0 [(0, .ref a0), (1, .ref a1)] [] T F
  refine zr_iconst C 0 dX3_firstSwap_0 (by decide) ?_
  refine zr_istore_n C [(2, .int 0), (0, .ref a0), (1, .ref a1)] dX3_firstSwap_1 rfl (by decide) rfl ?_
  obtain ⟨I1, ⟨n3, h031⟩, hI30⟩ := h
  have ky32 : ∀ (n2 : Nat) (y4 : Int32), I1 n2 y4 → z_w p l e ({ frames := 5, cells := 0, slots := 0, locals := 111 } : Room) s m args below meth c D cA N0 3 0 0 (MQ below (z_Qc D cA N0 (fun v T' F' => ∃ r : Option Nat, v = some (va_rf r) ∧ T = T' ∧ F = F' ∧ Post r)) args s 0 0 (fun q => N0 ≤ q)) 2 [(0, .ref a0), (1, .ref a1), (2, .int y4)] [] T F := by
    intro n2
    induction n2 using Nat.strongRecOn with
    | _ n2 ih5 =>
      intro y4 hin
      have h := hI30 n2 y4 hin
      refine zr_iload_n C 2 dX3_firstSwap_2 rfl rfl ?_
      refine zr_aload_n C 0 dX3_firstSwap_3 rfl rfl ?_
      obtain ⟨hT7, x9, hv8, h⟩ := h
      refine zr_get C fl_X3_18 hT7 hv8 dX3_firstSwap_4 ?_
      obtain ⟨hT10, h⟩ := h
      refine zr_callV (As := []) (r := (RJx4a65c, TJx4a65c, 3)) C (k_Jx4a65c_size_8abf5 h) ok_X3_25 zq_112 zq_113 hT10 (by decide) rfl rfl ⟨by decide, (Nat.le_of_ble_eq_true rfl)⟩ ⟨(Nat.le_of_ble_eq_true rfl), (Nat.le_of_ble_eq_true rfl)⟩ (Nat.le_of_ble_eq_true rfl) dX3_firstSwap_7 (fun v27 U28 G29 hq => ?_)
      clear h
      · obtain ⟨r11, rfl, rfl, rfl, h⟩ := hq
        obtain ⟨h1, h2⟩ := h
        refine zr_icmp_ge C 50 dX3_firstSwap_10 (by decide) (fun hc => ?_) (fun hc => ?_)
        · have h := h1 hc
          clear h1 h2
          refine zr_null C dX3_firstSwap_50 ?_
          exact zr_aret C rfl (Or.inl ⟨_, rfl⟩) (Or.inl rfl) ⟨_, rfl, rfl, rfl, h⟩ (Nat.le_of_ble_eq_true rfl) (Nat.le_of_ble_eq_true rfl) dX3_firstSwap_51
        · have h := h2 hc
          clear h1 h2
          refine zr_aload_n C 0 dX3_firstSwap_13 rfl rfl ?_
          refine zr_aload_n C 1 dX3_firstSwap_14 rfl rfl ?_
          refine zr_aload_n C 0 dX3_firstSwap_15 rfl rfl ?_
          refine zr_get C fl_X3_18 hT7 hv8 dX3_firstSwap_16 ?_
          refine zr_iload_n C 2 dX3_firstSwap_19 rfl rfl ?_
          refine zr_callV (As := [.int y4]) (r := (RJx4a65c, TJx4a65c, 3)) C (k_Jx4a65c_get_915e3 h) ok_X3_29 zq_290 zq_291 hT10 (by decide) rfl rfl ⟨by decide, (Nat.le_of_ble_eq_true rfl)⟩ ⟨(Nat.le_of_ble_eq_true rfl), (Nat.le_of_ble_eq_true rfl)⟩ (Nat.le_of_ble_eq_true rfl) dX3_firstSwap_20 (fun v24 U25 G26 hq => ?_)
          clear h
          · obtain ⟨r12, rfl, rfl, rfl, h⟩ := hq
            obtain ⟨hT13, h⟩ := h
            refine zr_castS (r := (RX2, TX2, 5)) C hT13 (by decide) rfl zq_512 dX3_firstSwap_23 ?_
            refine zr_callV (As := [.ref a1, .ref r12]) (r := (RX3, TX3, 3)) C (k_X3_canSwap h) ok_X3_109 zq_514 zq_515 hT7 (by decide) rfl rfl ⟨by decide, (Nat.le_of_ble_eq_true rfl)⟩ ⟨(Nat.le_of_ble_eq_true rfl), (Nat.le_of_ble_eq_true rfl)⟩ (Nat.le_of_ble_eq_true rfl) dX3_firstSwap_26 (fun v21 U22 G23 hq => ?_)
            clear h
            · obtain ⟨r14, rfl, rfl, rfl, h⟩ := hq
              obtain ⟨h1, h2⟩ := h
              refine zr_if_eq C 44 dX3_firstSwap_29 (by decide) (fun hc => ?_) (fun hc => ?_)
              · have h := h1 hc
                clear h1 h2
                refine zr_iinc C [(2, .int (y4 + 1)), (0, .ref a0), (1, .ref a1)] 2 dX3_firstSwap_44 rfl rfl (by decide) rfl ?_
                refine zr_goto C 2 dX3_firstSwap_47 (by decide) ?_
                obtain ⟨n15, hlt, h⟩ := h
                exact zr_sub [1, 2, 0] rfl (ih5 n15 hlt (y4 + 1) h)
              · have h := h2 hc
                clear h1 h2
                refine zr_aload_n C 0 dX3_firstSwap_32 rfl rfl ?_
                refine zr_get C fl_X3_18 hT7 hv8 dX3_firstSwap_33 ?_
                refine zr_iload_n C 2 dX3_firstSwap_36 rfl rfl ?_
                refine zr_callV (As := [.int y4]) (r := (RJx4a65c, TJx4a65c, 3)) C (k_Jx4a65c_get_915e3 h) ok_X3_29 zq_290 zq_291 hT10 (by decide) rfl rfl ⟨by decide, (Nat.le_of_ble_eq_true rfl)⟩ ⟨(Nat.le_of_ble_eq_true rfl), (Nat.le_of_ble_eq_true rfl)⟩ (Nat.le_of_ble_eq_true rfl) dX3_firstSwap_37 (fun v18 U19 G20 hq => ?_)
                clear h
                · obtain ⟨r16, rfl, rfl, rfl, h⟩ := hq
                  obtain ⟨hT17, h⟩ := h
                  refine zr_castS (r := (RX2, TX2, 5)) C hT17 (by decide) rfl zq_512 dX3_firstSwap_40 ?_
                  exact zr_aret C rfl (Or.inl ⟨_, rfl⟩) (Or.inr ⟨_, rfl⟩) ⟨_, rfl, rfl, rfl, h⟩ (Nat.le_of_ble_eq_true rfl) (Nat.le_of_ble_eq_true rfl) dX3_firstSwap_43
  exact zr_sub [1, 2, 0] rfl (ky32 n3 0 h031)
theorem dX3_settle_0 : decode cX3_settle 0 = .ok (.aload_n 2, 1) := by decide +kernel
theorem dX3_settle_1 : decode cX3_settle 1 = .ok (.ifnull 11, 3) := by decide +kernel
theorem dX3_settle_12 : decode cX3_settle 12 = .ok (.aload_n 1, 1) := by decide +kernel
theorem dX3_settle_16 : decode cX3_settle 16 = .ok (.ifCond .eq 38, 3) := by decide +kernel
theorem dX3_settle_54 : decode cX3_settle 54 = .ok (.aload_n 1, 1) := by decide +kernel
theorem dX3_settle_55 : decode cX3_settle 55 = .ok (.iconst 4, 1) := by decide +kernel
theorem dX3_settle_56 : decode cX3_settle 56 = .ok (.putfield 94, 3) := by decide +kernel
theorem dX3_settle_59 : decode cX3_settle 59 = .ok (.return_, 1) := by decide +kernel
theorem dX3_settle_19 : decode cX3_settle 19 = .ok (.aload_n 0, 1) := by decide +kernel
theorem dX3_settle_20 : decode cX3_settle 20 = .ok (.aload_n 1, 1) := by decide +kernel
theorem dX3_settle_21 : decode cX3_settle 21 = .ok (.getfield 75, 3) := by decide +kernel
theorem dX3_settle_24 : decode cX3_settle 24 = .ok (.aload_n 1, 1) := by decide +kernel
theorem dX3_settle_25 : decode cX3_settle 25 = .ok (.getfield 78, 3) := by decide +kernel
theorem dX3_settle_28 : decode cX3_settle 28 = .ok (.aload_n 1, 1) := by decide +kernel
theorem dX3_settle_29 : decode cX3_settle 29 = .ok (.getfield 81, 3) := by decide +kernel
theorem dX3_settle_32 : decode cX3_settle 32 = .ok (.iconst 2, 1) := by decide +kernel
theorem dX3_settle_33 : decode cX3_settle 33 = .ok (.iadd, 1) := by decide +kernel
theorem dX3_settle_34 : decode cX3_settle 34 = .ok (.aload_n 1, 1) := by decide +kernel
theorem dX3_settle_35 : decode cX3_settle 35 = .ok (.getfield 84, 3) := by decide +kernel
theorem dX3_settle_38 : decode cX3_settle 38 = .ok (.iconst 2, 1) := by decide +kernel
theorem dX3_settle_39 : decode cX3_settle 39 = .ok (.iadd, 1) := by decide +kernel
theorem dX3_settle_40 : decode cX3_settle 40 = .ok (.aload_n 1, 1) := by decide +kernel
theorem dX3_settle_44 : decode cX3_settle 44 = .ok (.ifCond .ne 10, 3) := by decide +kernel
theorem dX3_settle_47 : decode cX3_settle 47 = .ok (.aload_n 1, 1) := by decide +kernel
theorem dX3_settle_51 : decode cX3_settle 51 = .ok (.goto 8, 3) := by decide +kernel
theorem dX3_settle_48 : decode cX3_settle 48 = .ok (.invokevirtual 91, 3) := by decide +kernel
theorem dX3_settle_41 : decode cX3_settle 41 = .ok (.invokevirtual 87, 3) := by decide +kernel
theorem dX3_settle_13 : decode cX3_settle 13 = .ok (.invokevirtual 71, 3) := by decide +kernel
theorem dX3_settle_4 : decode cX3_settle 4 = .ok (.aload_n 1, 1) := by decide +kernel
theorem dX3_settle_5 : decode cX3_settle 5 = .ok (.aload_n 2, 1) := by decide +kernel
theorem dX3_settle_9 : decode cX3_settle 9 = .ok (.goto 50, 3) := by decide +kernel
theorem dX3_settle_6 : decode cX3_settle 6 = .ok (.invokevirtual 67, 3) := by decide +kernel
def v_X3_settle (a0 : Nat) (a1 : Nat) (o2 : Option Nat) (T : zT) (F : zF) (Post : zF → Prop) : Prop :=
  ((o2 = none → (T a1 = some (2, 12) ∧ (v_X1_mayMove a1 T F (fun (r2 : Int32) => ((r2 = 0 → Post (zu F a1 6 (.int 4))) ∧ (¬ r2 = 0 → (∃ x4 : Int32, F a1 1 = .int x4 ∧ ∃ x6 : Int32, F a1 2 = .int x6 ∧ ∃ x8 : Int32, F a1 3 = .int x8 ∧ ∃ x10 : Int32, F a1 4 = .int x10 ∧ T a0 = some (4, 3) ∧ (v_X3_isTaken a0 x4 x6 (x8 + 2) (x10 + 2) ((some a1)) T F (fun (r12 : Int32) => ((¬ r12 = 0 → Post (zu F a1 6 (.int 4))) ∧ (r12 = 0 → (v_X1_moveOn a1 T F (fun (F17 : zF) => Post F17))))))))))))) ∧ (∀ y27 : Nat, o2 = some y27 → (T a1 = some (2, 12) ∧ (v_X1_takePiece a1 y27 T F (fun (F29 : zF) => Post F29)))))
set_option maxRecDepth 100000 in
set_option maxHeartbeats 4000000 in
theorem k_X3_settle {l : Launch} {D : va_G} {cA : Nat → ClassId} {N0 zE : Nat} {a0 : Nat} {a1 : Nat} {o2 : Option Nat} {T : zT} {F : zF} {Post : zF → Prop} (h : v_X3_settle a0 a1 o2 T F Post) : z_Mt l D cA N0 zE yX3_settle cX3_settle 3 none ({ frames := 4, cells := 0, slots := 0, locals := 91 } : Room) [.ref a0, .ref a1, va_rf o2] T F (fun v T' F' => v = none ∧ T = T' ∧ Post F') := by
  unfold v_X3_settle at h
  obtain ⟨ha, hb⟩ := h
  cases o2 with
  | none =>
    have h := ha rfl
    refine z_bodyT (by decide) (Nat.le_of_ble_eq_true rfl) ?_
    intro p e s m args below meth c C hnm
    have C : z_C p l s m args meth c RX3 cX3_settle 3 none D cA N0 zE := C
    show z_w p l e ({ frames := 4, cells := 0, slots := 0, locals := 91 } : Room) s m args below meth c D cA N0 3 0 0 (MQ below (z_Qc D cA N0 (fun v T' F' => v = none ∧ T = T' ∧ Post F')) args s 0 0 (fun q => N0 ≤ q)) 0 [(0, .ref a0), (1, .ref a1), (2, .null)] [] T F
    refine zr_aload_nN C 2 dX3_settle_0 rfl rfl ?_
    refine zr_ifnullN C 12 dX3_settle_1 (by decide) ?_
    refine zr_aload_n C 1 dX3_settle_12 rfl rfl ?_
    obtain ⟨hT1, h⟩ := h
    refine zr_callV (As := []) (r := (RX1, TX1, 12)) C (k_X1_mayMove h) ok_X3_71 zq_648 zq_649 hT1 (by decide) rfl rfl ⟨by decide, (Nat.le_of_ble_eq_true rfl)⟩ ⟨(Nat.le_of_ble_eq_true rfl), (Nat.le_of_ble_eq_true rfl)⟩ (Nat.le_of_ble_eq_true rfl) dX3_settle_13 (fun v24 U25 G26 hq => ?_)
    clear h
    · obtain ⟨r2, rfl, rfl, rfl, h⟩ := hq
      obtain ⟨h1, h2⟩ := h
      refine zr_if_eq C 54 dX3_settle_16 (by decide) (fun hc => ?_) (fun hc => ?_)
      · have h := h1 hc
        clear h1 h2
        refine zr_aload_n C 1 dX3_settle_54 rfl rfl ?_
        refine zr_iconst C 4 dX3_settle_55 (by decide) ?_
        refine zr_put C fl_X3_94 hT1 rfl rfl dX3_settle_56 ?_
        exact zr_vret C rfl ⟨rfl, rfl, h⟩ (Nat.le_of_ble_eq_true rfl) (Nat.le_of_ble_eq_true rfl) dX3_settle_59
      · have h := h2 hc
        clear h1 h2
        refine zr_aload_n C 0 dX3_settle_19 rfl rfl ?_
        refine zr_aload_n C 1 dX3_settle_20 rfl rfl ?_
        obtain ⟨x4, hv3, h⟩ := h
        refine zr_get C fl_X3_75 hT1 hv3 dX3_settle_21 ?_
        refine zr_aload_n C 1 dX3_settle_24 rfl rfl ?_
        obtain ⟨x6, hv5, h⟩ := h
        refine zr_get C fl_X3_78 hT1 hv5 dX3_settle_25 ?_
        refine zr_aload_n C 1 dX3_settle_28 rfl rfl ?_
        obtain ⟨x8, hv7, h⟩ := h
        refine zr_get C fl_X3_81 hT1 hv7 dX3_settle_29 ?_
        refine zr_iconst C 2 dX3_settle_32 (by decide) ?_
        refine zr_iadd C dX3_settle_33 ?_
        refine zr_aload_n C 1 dX3_settle_34 rfl rfl ?_
        obtain ⟨x10, hv9, h⟩ := h
        refine zr_get C fl_X3_84 hT1 hv9 dX3_settle_35 ?_
        refine zr_iconst C 2 dX3_settle_38 (by decide) ?_
        refine zr_iadd C dX3_settle_39 ?_
        refine zr_aload_n C 1 dX3_settle_40 rfl rfl ?_
        obtain ⟨hT11, h⟩ := h
        refine zr_callV (As := [.int x4, .int x6, .int (x8 + 2), .int (x10 + 2), .ref a1]) (r := (RX3, TX3, 3)) C (k_X3_isTaken h) ok_X3_87 zq_652 zq_653 hT11 (by decide) rfl rfl ⟨by decide, (Nat.le_of_ble_eq_true rfl)⟩ ⟨(Nat.le_of_ble_eq_true rfl), (Nat.le_of_ble_eq_true rfl)⟩ (Nat.le_of_ble_eq_true rfl) dX3_settle_41 (fun v21 U22 G23 hq => ?_)
        clear h
        · obtain ⟨r12, rfl, rfl, rfl, h⟩ := hq
          obtain ⟨h1, h2⟩ := h
          refine zr_if_ne C 54 dX3_settle_44 (by decide) (fun hc => ?_) (fun hc => ?_)
          · have h := h1 hc
            clear h1 h2
            refine zr_aload_n C 1 dX3_settle_54 rfl rfl ?_
            refine zr_iconst C 4 dX3_settle_55 (by decide) ?_
            refine zr_put C fl_X3_94 hT1 rfl rfl dX3_settle_56 ?_
            exact zr_vret C rfl ⟨rfl, rfl, h⟩ (Nat.le_of_ble_eq_true rfl) (Nat.le_of_ble_eq_true rfl) dX3_settle_59
          · have h := h2 hc
            clear h1 h2
            refine zr_aload_n C 1 dX3_settle_47 rfl rfl ?_
            refine zr_callV (As := []) (r := (RX1, TX1, 12)) C (k_X1_moveOn h) ok_X3_91 zq_664 zq_665 hT1 (by decide) rfl rfl ⟨by decide, (Nat.le_of_ble_eq_true rfl)⟩ ⟨(Nat.le_of_ble_eq_true rfl), (Nat.le_of_ble_eq_true rfl)⟩ (Nat.le_of_ble_eq_true rfl) dX3_settle_48 (fun v18 U19 G20 hq => ?_)
            clear h
            · obtain ⟨rfl, rfl, h⟩ := hq
              refine zr_goto C 59 dX3_settle_51 (by decide) ?_
              exact zr_vret C rfl ⟨rfl, rfl, h⟩ (Nat.le_of_ble_eq_true rfl) (Nat.le_of_ble_eq_true rfl) dX3_settle_59
  | some y27 =>
    have h := hb y27 rfl
    refine z_bodyT (by decide) (Nat.le_of_ble_eq_true rfl) ?_
    intro p e s m args below meth c C hnm
    have C : z_C p l s m args meth c RX3 cX3_settle 3 none D cA N0 zE := C
    show z_w p l e ({ frames := 4, cells := 0, slots := 0, locals := 91 } : Room) s m args below meth c D cA N0 3 0 0 (MQ below (z_Qc D cA N0 (fun v T' F' => v = none ∧ T = T' ∧ Post F')) args s 0 0 (fun q => N0 ≤ q)) 0 [(0, .ref a0), (1, .ref a1), (2, .ref y27)] [] T F
    refine zr_aload_n C 2 dX3_settle_0 rfl rfl ?_
    refine zr_ifnull C dX3_settle_1 ?_
    refine zr_aload_n C 1 dX3_settle_4 rfl rfl ?_
    refine zr_aload_n C 2 dX3_settle_5 rfl rfl ?_
    obtain ⟨hT28, h⟩ := h
    refine zr_callV (As := [.ref y27]) (r := (RX1, TX1, 12)) C (k_X1_takePiece h) ok_X3_67 zq_644 zq_645 hT28 (by decide) rfl rfl ⟨by decide, (Nat.le_of_ble_eq_true rfl)⟩ ⟨(Nat.le_of_ble_eq_true rfl), (Nat.le_of_ble_eq_true rfl)⟩ (Nat.le_of_ble_eq_true rfl) dX3_settle_6 (fun v30 U31 G32 hq => ?_)
    clear h
    · obtain ⟨rfl, rfl, h⟩ := hq
      refine zr_goto C 59 dX3_settle_9 (by decide) ?_
      exact zr_vret C rfl ⟨rfl, rfl, h⟩ (Nat.le_of_ble_eq_true rfl) (Nat.le_of_ble_eq_true rfl) dX3_settle_59
theorem dX3_beginDay_0 : decode cX3_beginDay 0 = .ok (.aload_n 0, 1) := by decide +kernel
theorem dX3_beginDay_1 : decode cX3_beginDay 1 = .ok (.dup, 1) := by decide +kernel
theorem dX3_beginDay_2 : decode cX3_beginDay 2 = .ok (.getfield 21, 3) := by decide +kernel
theorem dX3_beginDay_5 : decode cX3_beginDay 5 = .ok (.iconst 1, 1) := by decide +kernel
theorem dX3_beginDay_6 : decode cX3_beginDay 6 = .ok (.iadd, 1) := by decide +kernel
theorem dX3_beginDay_7 : decode cX3_beginDay 7 = .ok (.putfield 21, 3) := by decide +kernel
theorem dX3_beginDay_10 : decode cX3_beginDay 10 = .ok (.iconst 0, 1) := by decide +kernel
theorem dX3_beginDay_11 : decode cX3_beginDay 11 = .ok (.istore_n 1, 1) := by decide +kernel
theorem dX3_beginDay_12 : decode cX3_beginDay 12 = .ok (.iload_n 1, 1) := by decide +kernel
theorem dX3_beginDay_13 : decode cX3_beginDay 13 = .ok (.aload_n 0, 1) := by decide +kernel
theorem dX3_beginDay_14 : decode cX3_beginDay 14 = .ok (.getfield 12, 3) := by decide +kernel
theorem dX3_beginDay_20 : decode cX3_beginDay 20 = .ok (.if_icmp .ge 27, 3) := by decide +kernel
theorem dX3_beginDay_47 : decode cX3_beginDay 47 = .ok (.iconst 0, 1) := by decide +kernel
theorem dX3_beginDay_48 : decode cX3_beginDay 48 = .ok (.istore_n 1, 1) := by decide +kernel
theorem dX3_beginDay_49 : decode cX3_beginDay 49 = .ok (.iconst 0, 1) := by decide +kernel
theorem dX3_beginDay_50 : decode cX3_beginDay 50 = .ok (.istore_n 2, 1) := by decide +kernel
theorem dX3_beginDay_51 : decode cX3_beginDay 51 = .ok (.iload_n 2, 1) := by decide +kernel
theorem dX3_beginDay_52 : decode cX3_beginDay 52 = .ok (.aload_n 0, 1) := by decide +kernel
theorem dX3_beginDay_53 : decode cX3_beginDay 53 = .ok (.getfield 12, 3) := by decide +kernel
theorem dX3_beginDay_59 : decode cX3_beginDay 59 = .ok (.if_icmp .ge 53, 3) := by decide +kernel
theorem dX3_beginDay_112 : decode cX3_beginDay 112 = .ok (.iconst 0, 1) := by decide +kernel
theorem dX3_beginDay_113 : decode cX3_beginDay 113 = .ok (.istore_n 2, 1) := by decide +kernel
theorem dX3_beginDay_114 : decode cX3_beginDay 114 = .ok (.iload_n 2, 1) := by decide +kernel
theorem dX3_beginDay_115 : decode cX3_beginDay 115 = .ok (.aload_n 0, 1) := by decide +kernel
theorem dX3_beginDay_116 : decode cX3_beginDay 116 = .ok (.getfield 12, 3) := by decide +kernel
theorem dX3_beginDay_122 : decode cX3_beginDay 122 = .ok (.if_icmp .ge 27, 3) := by decide +kernel
theorem dX3_beginDay_149 : decode cX3_beginDay 149 = .ok (.iload_n 1, 1) := by decide +kernel
theorem dX3_beginDay_150 : decode cX3_beginDay 150 = .ok (.ireturn, 1) := by decide +kernel
theorem dX3_beginDay_125 : decode cX3_beginDay 125 = .ok (.aload_n 0, 1) := by decide +kernel
theorem dX3_beginDay_126 : decode cX3_beginDay 126 = .ok (.getfield 12, 3) := by decide +kernel
theorem dX3_beginDay_129 : decode cX3_beginDay 129 = .ok (.iload_n 2, 1) := by decide +kernel
theorem dX3_beginDay_133 : decode cX3_beginDay 133 = .ok (.checkcast 33, 3) := by decide +kernel
theorem dX3_beginDay_136 : decode cX3_beginDay 136 = .ok (.aload_n 0, 1) := by decide +kernel
theorem dX3_beginDay_137 : decode cX3_beginDay 137 = .ok (.getfield 21, 3) := by decide +kernel
theorem dX3_beginDay_143 : decode cX3_beginDay 143 = .ok (.iinc 2 1, 3) := by decide +kernel
theorem dX3_beginDay_146 : decode cX3_beginDay 146 = .ok (.goto (-32), 3) := by decide +kernel
theorem dX3_beginDay_140 : decode cX3_beginDay 140 = .ok (.invokevirtual 64, 3) := by decide +kernel
theorem dX3_beginDay_130 : decode cX3_beginDay 130 = .ok (.invokevirtual 29, 3) := by decide +kernel
theorem dX3_beginDay_119 : decode cX3_beginDay 119 = .ok (.invokevirtual 25, 3) := by decide +kernel
theorem dX3_beginDay_62 : decode cX3_beginDay 62 = .ok (.aload_n 0, 1) := by decide +kernel
theorem dX3_beginDay_63 : decode cX3_beginDay 63 = .ok (.getfield 12, 3) := by decide +kernel
theorem dX3_beginDay_66 : decode cX3_beginDay 66 = .ok (.iload_n 2, 1) := by decide +kernel
theorem dX3_beginDay_70 : decode cX3_beginDay 70 = .ok (.checkcast 33, 3) := by decide +kernel
theorem dX3_beginDay_73 : decode cX3_beginDay 73 = .ok (.astore_n 3, 1) := by decide +kernel
theorem dX3_beginDay_74 : decode cX3_beginDay 74 = .ok (.aload_n 3, 1) := by decide +kernel
theorem dX3_beginDay_75 : decode cX3_beginDay 75 = .ok (.aload_n 0, 1) := by decide +kernel
theorem dX3_beginDay_76 : decode cX3_beginDay 76 = .ok (.getfield 21, 3) := by decide +kernel
theorem dX3_beginDay_82 : decode cX3_beginDay 82 = .ok (.ifCond .eq 16, 3) := by decide +kernel
theorem dX3_beginDay_98 : decode cX3_beginDay 98 = .ok (.aload_n 3, 1) := by decide +kernel
theorem dX3_beginDay_99 : decode cX3_beginDay 99 = .ok (.aload_n 0, 1) := by decide +kernel
theorem dX3_beginDay_100 : decode cX3_beginDay 100 = .ok (.getfield 21, 3) := by decide +kernel
theorem dX3_beginDay_106 : decode cX3_beginDay 106 = .ok (.iinc 2 1, 3) := by decide +kernel
theorem dX3_beginDay_109 : decode cX3_beginDay 109 = .ok (.goto (-58), 3) := by decide +kernel
theorem dX3_beginDay_103 : decode cX3_beginDay 103 = .ok (.invokevirtual 61, 3) := by decide +kernel
theorem dX3_beginDay_85 : decode cX3_beginDay 85 = .ok (.aload_n 0, 1) := by decide +kernel
theorem dX3_beginDay_86 : decode cX3_beginDay 86 = .ok (.aload_n 3, 1) := by decide +kernel
theorem dX3_beginDay_87 : decode cX3_beginDay 87 = .ok (.aload_n 0, 1) := by decide +kernel
theorem dX3_beginDay_88 : decode cX3_beginDay 88 = .ok (.aload_n 3, 1) := by decide +kernel
theorem dX3_beginDay_95 : decode cX3_beginDay 95 = .ok (.iinc 1 1, 3) := by decide +kernel
theorem dX3_beginDay_92 : decode cX3_beginDay 92 = .ok (.invokevirtual 57, 3) := by decide +kernel
theorem dX3_beginDay_89 : decode cX3_beginDay 89 = .ok (.invokevirtual 53, 3) := by decide +kernel
theorem dX3_beginDay_79 : decode cX3_beginDay 79 = .ok (.invokevirtual 49, 3) := by decide +kernel
theorem dX3_beginDay_67 : decode cX3_beginDay 67 = .ok (.invokevirtual 29, 3) := by decide +kernel
theorem dX3_beginDay_56 : decode cX3_beginDay 56 = .ok (.invokevirtual 25, 3) := by decide +kernel
theorem dX3_beginDay_23 : decode cX3_beginDay 23 = .ok (.aload_n 0, 1) := by decide +kernel
theorem dX3_beginDay_24 : decode cX3_beginDay 24 = .ok (.getfield 12, 3) := by decide +kernel
theorem dX3_beginDay_27 : decode cX3_beginDay 27 = .ok (.iload_n 1, 1) := by decide +kernel
theorem dX3_beginDay_31 : decode cX3_beginDay 31 = .ok (.checkcast 33, 3) := by decide +kernel
theorem dX3_beginDay_34 : decode cX3_beginDay 34 = .ok (.aload_n 0, 1) := by decide +kernel
theorem dX3_beginDay_35 : decode cX3_beginDay 35 = .ok (.getfield 21, 3) := by decide +kernel
theorem dX3_beginDay_41 : decode cX3_beginDay 41 = .ok (.iinc 1 1, 3) := by decide +kernel
theorem dX3_beginDay_44 : decode cX3_beginDay 44 = .ok (.goto (-32), 3) := by decide +kernel
theorem dX3_beginDay_38 : decode cX3_beginDay 38 = .ok (.invokevirtual 45, 3) := by decide +kernel
theorem dX3_beginDay_28 : decode cX3_beginDay 28 = .ok (.invokevirtual 29, 3) := by decide +kernel
theorem dX3_beginDay_17 : decode cX3_beginDay 17 = .ok (.invokevirtual 25, 3) := by decide +kernel
def v_X3_beginDay (a0 : Nat) (T : zT) (F : zF) (Post : Int32 → zF → Prop) : Prop :=
  (T a0 = some (4, 3) ∧ ∃ x3 : Int32, F a0 2 = .int x3 ∧ (∃ I4 : Nat → Int32 → zF → Prop, (∃ n6 : Nat, I4 n6 0 (zu F a0 2 (.int (x3 + 1)))) ∧ (∀ (n5 : Nat) (y7 : Int32) (F8 : zF), I4 n5 y7 F8 → (∃ x12 : Nat, F8 a0 0 = .ref x12 ∧ T x12 = some (0, 3) ∧ (v_Jx4a65c_size_8abf5 x12 T F8 (fun (r14 : Int32) => ((r14 ≤ y7 → (∃ I15 : Nat → Int32 → Int32 → zF → Prop, (∃ n17 : Nat, I15 n17 0 0 F8) ∧ (∀ (n16 : Nat) (y18 : Int32) (y19 : Int32) (F20 : zF), I15 n16 y18 y19 F20 → (∃ x24 : Nat, F20 a0 0 = .ref x24 ∧ T x24 = some (0, 3) ∧ (v_Jx4a65c_size_8abf5 x24 T F20 (fun (r26 : Int32) => ((r26 ≤ y19 → (∃ I27 : Nat → Int32 → zF → Prop, (∃ n29 : Nat, I27 n29 0 F20) ∧ (∀ (n28 : Nat) (y30 : Int32) (F31 : zF), I27 n28 y30 F31 → (∃ x35 : Nat, F31 a0 0 = .ref x35 ∧ T x35 = some (0, 3) ∧ (v_Jx4a65c_size_8abf5 x35 T F31 (fun (r37 : Int32) => ((r37 ≤ y30 → Post y18 F31) ∧ (¬ r37 ≤ y30 → (v_Jx4a65c_get_915e3 x35 y30 T F31 (fun (r38 : Nat) => (T r38 = some (2, 12) ∧ ∃ x41 : Int32, F31 a0 2 = .int x41 ∧ (v_X1_showOrPull r38 x41 T F31 (fun (F42 : zF) => (∃ n43 : Nat, n43 < n28 ∧ I27 n43 (y30 + 1) F42)))))))))))))) ∧ (¬ r26 ≤ y19 → (v_Jx4a65c_get_915e3 x24 y19 T F20 (fun (r56 : Nat) => (T r56 = some (2, 12) ∧ ∃ x59 : Int32, F20 a0 2 = .int x59 ∧ (v_X1_missesDeadline r56 x59 T F20 (fun (r60 : Int32) => ((r60 = 0 → (v_X1_startIfDue r56 x59 T F20 (fun (F61 : zF) => (∃ n62 : Nat, n62 < n16 ∧ I15 n62 y18 (y19 + 1) F61)))) ∧ (¬ r60 = 0 → (v_X3_firstSwap a0 r56 T F20 (fun (r66 : Option Nat) => ((r66 = none → (v_X3_settle a0 r56 none T F20 (fun (F67 : zF) => (∃ x69 : Int32, F67 a0 2 = .int x69 ∧ (v_X1_startIfDue r56 x69 T F67 (fun (F70 : zF) => (∃ n71 : Nat, n71 < n16 ∧ I15 n71 (y18 + 1) (y19 + 1) F70))))))) ∧ (∀ y78 : Nat, r66 = some y78 → (v_X3_settle a0 r56 ((some y78)) T F20 (fun (F79 : zF) => (∃ x81 : Int32, F79 a0 2 = .int x81 ∧ (v_X1_startIfDue r56 x81 T F79 (fun (F82 : zF) => (∃ n83 : Nat, n83 < n16 ∧ I15 n83 (y18 + 1) (y19 + 1) F82))))))))))))))))))))))))) ∧ (¬ r14 ≤ y7 → (v_Jx4a65c_get_915e3 x12 y7 T F8 (fun (r105 : Nat) => (T r105 = some (2, 12) ∧ ∃ x108 : Int32, F8 a0 2 = .int x108 ∧ (v_X1_endIfPast r105 x108 T F8 (fun (F109 : zF) => (∃ n110 : Nat, n110 < n5 ∧ I4 n110 (y7 + 1) F109))))))))))))))
set_option maxRecDepth 100000 in
set_option maxHeartbeats 4000000 in
theorem k_X3_beginDay {l : Launch} {D : va_G} {cA : Nat → ClassId} {N0 zE : Nat} {a0 : Nat} {T : zT} {F : zF} {Post : Int32 → zF → Prop} (h : v_X3_beginDay a0 T F Post) : z_Mt l D cA N0 zE yX3_beginDay cX3_beginDay 4 (some .int) ({ frames := 6, cells := 0, slots := 0, locals := 133 } : Room) [.ref a0] T F (fun v T' F' => ∃ r : Int32, v = some (.int r) ∧ T = T' ∧ Post r F') := by
  unfold v_X3_beginDay at h
  refine z_bodyT (by decide) (Nat.le_of_ble_eq_true rfl) ?_
  intro p e s m args below meth c C hnm
  have C : z_C p l s m args meth c RX3 cX3_beginDay 4 (some .int) D cA N0 zE := C
  show z_w p l e ({ frames := 6, cells := 0, slots := 0, locals := 133 } : Room) s m args below meth c D cA N0 4 0 0 (MQ below (z_Qc D cA N0 (fun v T' F' => ∃ r : Int32, v = some (.int r) ∧ T = T' ∧ Post r F')) args s 0 0 (fun q => N0 ≤ q)) 0 [(0, .ref a0)] [] T F
  refine zr_aload_n C 0 dX3_beginDay_0 rfl rfl ?_
  refine zr_dup C dX3_beginDay_1 rfl ?_
  obtain ⟨hT1, x3, hv2, h⟩ := h
  refine zr_get C fl_X3_21 hT1 hv2 dX3_beginDay_2 ?_
  refine zr_iconst C 1 dX3_beginDay_5 (by decide) ?_
  refine zr_iadd C dX3_beginDay_6 ?_
  refine zr_put C fl_X3_21 hT1 rfl rfl dX3_beginDay_7 ?_
  refine zr_iconst C 0 dX3_beginDay_10 (by decide) ?_
  refine zr_istore_n C [(1, .int 0), (0, .ref a0)] dX3_beginDay_11 rfl (by decide) rfl ?_
  obtain ⟨I4, ⟨n6, h0121⟩, hI120⟩ := h
  have ky122 : ∀ (n5 : Nat) (y7 : Int32) (F8 : zF), I4 n5 y7 F8 → z_w p l e ({ frames := 6, cells := 0, slots := 0, locals := 133 } : Room) s m args below meth c D cA N0 4 0 0 (MQ below (z_Qc D cA N0 (fun v T' F' => ∃ r : Int32, v = some (.int r) ∧ T = T' ∧ Post r F')) args s 0 0 (fun q => N0 ≤ q)) 12 [(0, .ref a0), (1, .int y7)] [] T F8 := by
    intro n5
    induction n5 using Nat.strongRecOn with
    | _ n5 ih9 =>
      intro y7 F8 hin
      have h := hI120 n5 y7 F8 hin
      refine zr_iload_n C 1 dX3_beginDay_12 rfl rfl ?_
      refine zr_aload_n C 0 dX3_beginDay_13 rfl rfl ?_
      obtain ⟨x12, hv11, h⟩ := h
      refine zr_get C fl_X3_12 hT1 hv11 dX3_beginDay_14 ?_
      obtain ⟨hT13, h⟩ := h
      refine zr_callV (As := []) (r := (RJx4a65c, TJx4a65c, 3)) C (k_Jx4a65c_size_8abf5 h) ok_X3_25 zq_112 zq_113 hT13 (by decide) rfl rfl ⟨by decide, (Nat.le_of_ble_eq_true rfl)⟩ ⟨(Nat.le_of_ble_eq_true rfl), (Nat.le_of_ble_eq_true rfl)⟩ (Nat.le_of_ble_eq_true rfl) dX3_beginDay_17 (fun v117 U118 G119 hq => ?_)
      clear h
      · obtain ⟨r14, rfl, rfl, rfl, h⟩ := hq
        obtain ⟨h1, h2⟩ := h
        refine zr_icmp_ge C 47 dX3_beginDay_20 (by decide) (fun hc => ?_) (fun hc => ?_)
        · have h := h1 hc
          clear h1 h2
          refine zr_iconst C 0 dX3_beginDay_47 (by decide) ?_
          refine zr_istore_n C [(1, .int 0), (0, .ref a0)] dX3_beginDay_48 rfl (by decide) rfl ?_
          refine zr_iconst C 0 dX3_beginDay_49 (by decide) ?_
          refine zr_istore_n C [(2, .int 0), (1, .int 0), (0, .ref a0)] dX3_beginDay_50 rfl (by decide) rfl ?_
          obtain ⟨I15, ⟨n17, h0103⟩, hI102⟩ := h
          have ky104 : ∀ (n16 : Nat) (y18 : Int32) (y19 : Int32) (F20 : zF), I15 n16 y18 y19 F20 → z_w p l e ({ frames := 6, cells := 0, slots := 0, locals := 133 } : Room) s m args below meth c D cA N0 4 0 0 (MQ below (z_Qc D cA N0 (fun v T' F' => ∃ r : Int32, v = some (.int r) ∧ T = T' ∧ Post r F')) args s 0 0 (fun q => N0 ≤ q)) 51 [(0, .ref a0), (1, .int y18), (2, .int y19)] [] T F20 := by
            intro n16
            induction n16 using Nat.strongRecOn with
            | _ n16 ih21 =>
              intro y18 y19 F20 hin
              have h := hI102 n16 y18 y19 F20 hin
              refine zr_iload_n C 2 dX3_beginDay_51 rfl rfl ?_
              refine zr_aload_n C 0 dX3_beginDay_52 rfl rfl ?_
              obtain ⟨x24, hv23, h⟩ := h
              refine zr_get C fl_X3_12 hT1 hv23 dX3_beginDay_53 ?_
              obtain ⟨hT25, h⟩ := h
              refine zr_callV (As := []) (r := (RJx4a65c, TJx4a65c, 3)) C (k_Jx4a65c_size_8abf5 h) ok_X3_25 zq_112 zq_113 hT25 (by decide) rfl rfl ⟨by decide, (Nat.le_of_ble_eq_true rfl)⟩ ⟨(Nat.le_of_ble_eq_true rfl), (Nat.le_of_ble_eq_true rfl)⟩ (Nat.le_of_ble_eq_true rfl) dX3_beginDay_56 (fun v99 U100 G101 hq => ?_)
              clear h
              · obtain ⟨r26, rfl, rfl, rfl, h⟩ := hq
                obtain ⟨h1, h2⟩ := h
                refine zr_icmp_ge C 112 dX3_beginDay_59 (by decide) (fun hc => ?_) (fun hc => ?_)
                · have h := h1 hc
                  clear h1 h2
                  refine zr_iconst C 0 dX3_beginDay_112 (by decide) ?_
                  refine zr_istore_n C [(2, .int 0), (0, .ref a0), (1, .int y18)] dX3_beginDay_113 rfl (by decide) rfl ?_
                  obtain ⟨I27, ⟨n29, h054⟩, hI53⟩ := h
                  have ky55 : ∀ (n28 : Nat) (y30 : Int32) (F31 : zF), I27 n28 y30 F31 → z_w p l e ({ frames := 6, cells := 0, slots := 0, locals := 133 } : Room) s m args below meth c D cA N0 4 0 0 (MQ below (z_Qc D cA N0 (fun v T' F' => ∃ r : Int32, v = some (.int r) ∧ T = T' ∧ Post r F')) args s 0 0 (fun q => N0 ≤ q)) 114 [(0, .ref a0), (1, .int y18), (2, .int y30)] [] T F31 := by
                    intro n28
                    induction n28 using Nat.strongRecOn with
                    | _ n28 ih32 =>
                      intro y30 F31 hin
                      have h := hI53 n28 y30 F31 hin
                      refine zr_iload_n C 2 dX3_beginDay_114 rfl rfl ?_
                      refine zr_aload_n C 0 dX3_beginDay_115 rfl rfl ?_
                      obtain ⟨x35, hv34, h⟩ := h
                      refine zr_get C fl_X3_12 hT1 hv34 dX3_beginDay_116 ?_
                      obtain ⟨hT36, h⟩ := h
                      refine zr_callV (As := []) (r := (RJx4a65c, TJx4a65c, 3)) C (k_Jx4a65c_size_8abf5 h) ok_X3_25 zq_112 zq_113 hT36 (by decide) rfl rfl ⟨by decide, (Nat.le_of_ble_eq_true rfl)⟩ ⟨(Nat.le_of_ble_eq_true rfl), (Nat.le_of_ble_eq_true rfl)⟩ (Nat.le_of_ble_eq_true rfl) dX3_beginDay_119 (fun v50 U51 G52 hq => ?_)
                      clear h
                      · obtain ⟨r37, rfl, rfl, rfl, h⟩ := hq
                        obtain ⟨h1, h2⟩ := h
                        refine zr_icmp_ge C 149 dX3_beginDay_122 (by decide) (fun hc => ?_) (fun hc => ?_)
                        · have h := h1 hc
                          clear h1 h2
                          refine zr_iload_n C 1 dX3_beginDay_149 rfl rfl ?_
                          exact zr_iret C rfl ⟨_, rfl, rfl, h⟩ (Nat.le_of_ble_eq_true rfl) (Nat.le_of_ble_eq_true rfl) dX3_beginDay_150
                        · have h := h2 hc
                          clear h1 h2
                          refine zr_aload_n C 0 dX3_beginDay_125 rfl rfl ?_
                          refine zr_get C fl_X3_12 hT1 hv34 dX3_beginDay_126 ?_
                          refine zr_iload_n C 2 dX3_beginDay_129 rfl rfl ?_
                          refine zr_callV (As := [.int y30]) (r := (RJx4a65c, TJx4a65c, 3)) C (k_Jx4a65c_get_915e3 h) ok_X3_29 zq_290 zq_291 hT36 (by decide) rfl rfl ⟨by decide, (Nat.le_of_ble_eq_true rfl)⟩ ⟨(Nat.le_of_ble_eq_true rfl), (Nat.le_of_ble_eq_true rfl)⟩ (Nat.le_of_ble_eq_true rfl) dX3_beginDay_130 (fun v47 U48 G49 hq => ?_)
                          clear h
                          · obtain ⟨r38, rfl, rfl, rfl, h⟩ := hq
                            obtain ⟨hT39, h⟩ := h
                            refine zr_castS (r := (RX1, TX1, 12)) C hT39 (by decide) rfl zq_402 dX3_beginDay_133 ?_
                            refine zr_aload_n C 0 dX3_beginDay_136 rfl rfl ?_
                            obtain ⟨x41, hv40, h⟩ := h
                            refine zr_get C fl_X3_21 hT1 hv40 dX3_beginDay_137 ?_
                            refine zr_callV (As := [.int x41]) (r := (RX1, TX1, 12)) C (k_X1_showOrPull h) ok_X3_64 zq_672 zq_673 hT39 (by decide) rfl rfl ⟨by decide, (Nat.le_of_ble_eq_true rfl)⟩ ⟨(Nat.le_of_ble_eq_true rfl), (Nat.le_of_ble_eq_true rfl)⟩ (Nat.le_of_ble_eq_true rfl) dX3_beginDay_140 (fun v44 U45 G46 hq => ?_)
                            clear h
                            · obtain ⟨rfl, rfl, h⟩ := hq
                              refine zr_iinc C [(2, .int (y30 + 1)), (0, .ref a0), (1, .int y18)] 2 dX3_beginDay_143 rfl rfl (by decide) rfl ?_
                              refine zr_goto C 114 dX3_beginDay_146 (by decide) ?_
                              obtain ⟨n43, hlt, h⟩ := h
                              exact zr_sub [1, 2, 0] rfl (ih32 n43 hlt (y30 + 1) G46 h)
                  exact zr_sub [1, 2, 0] rfl (ky55 n29 0 F20 h054)
                · have h := h2 hc
                  clear h1 h2
                  refine zr_aload_n C 0 dX3_beginDay_62 rfl rfl ?_
                  refine zr_get C fl_X3_12 hT1 hv23 dX3_beginDay_63 ?_
                  refine zr_iload_n C 2 dX3_beginDay_66 rfl rfl ?_
                  refine zr_callV (As := [.int y19]) (r := (RJx4a65c, TJx4a65c, 3)) C (k_Jx4a65c_get_915e3 h) ok_X3_29 zq_290 zq_291 hT25 (by decide) rfl rfl ⟨by decide, (Nat.le_of_ble_eq_true rfl)⟩ ⟨(Nat.le_of_ble_eq_true rfl), (Nat.le_of_ble_eq_true rfl)⟩ (Nat.le_of_ble_eq_true rfl) dX3_beginDay_67 (fun v96 U97 G98 hq => ?_)
                  clear h
                  · obtain ⟨r56, rfl, rfl, rfl, h⟩ := hq
                    obtain ⟨hT57, h⟩ := h
                    refine zr_castS (r := (RX1, TX1, 12)) C hT57 (by decide) rfl zq_402 dX3_beginDay_70 ?_
                    refine zr_astore_n C [(3, .ref r56), (0, .ref a0), (1, .int y18), (2, .int y19)] dX3_beginDay_73 rfl (by decide) rfl ?_
                    refine zr_aload_n C 0 dX3_beginDay_74 rfl rfl ?_
                    refine zr_aload_n C 1 dX3_beginDay_75 rfl rfl ?_
                    obtain ⟨x59, hv58, h⟩ := h
                    refine zr_get C fl_X3_21 hT1 hv58 dX3_beginDay_76 ?_
                    refine zr_callV (As := [.int x59]) (r := (RX1, TX1, 12)) C (k_X1_missesDeadline h) ok_X3_49 zq_634 zq_635 hT57 (by decide) rfl rfl ⟨by decide, (Nat.le_of_ble_eq_true rfl)⟩ ⟨(Nat.le_of_ble_eq_true rfl), (Nat.le_of_ble_eq_true rfl)⟩ (Nat.le_of_ble_eq_true rfl) dX3_beginDay_79 (fun v93 U94 G95 hq => ?_)
                    clear h
                    · obtain ⟨r60, rfl, rfl, rfl, h⟩ := hq
                      obtain ⟨h1, h2⟩ := h
                      refine zr_if_eq C 98 dX3_beginDay_82 (by decide) (fun hc => ?_) (fun hc => ?_)
                      · have h := h1 hc
                        clear h1 h2
                        refine zr_aload_n C 0 dX3_beginDay_98 rfl rfl ?_
                        refine zr_aload_n C 1 dX3_beginDay_99 rfl rfl ?_
                        refine zr_get C fl_X3_21 hT1 hv58 dX3_beginDay_100 ?_
                        refine zr_callV (As := [.int x59]) (r := (RX1, TX1, 12)) C (k_X1_startIfDue h) ok_X3_61 zq_668 zq_669 hT57 (by decide) rfl rfl ⟨by decide, (Nat.le_of_ble_eq_true rfl)⟩ ⟨(Nat.le_of_ble_eq_true rfl), (Nat.le_of_ble_eq_true rfl)⟩ (Nat.le_of_ble_eq_true rfl) dX3_beginDay_103 (fun v63 U64 G65 hq => ?_)
                        clear h
                        · obtain ⟨rfl, rfl, h⟩ := hq
                          refine zr_iinc C [(2, .int (y19 + 1)), (3, .ref r56), (0, .ref a0), (1, .int y18)] 3 dX3_beginDay_106 rfl rfl (by decide) rfl ?_
                          refine zr_goto C 51 dX3_beginDay_109 (by decide) ?_
                          obtain ⟨n62, hlt, h⟩ := h
                          exact zr_sub [2, 3, 0] rfl (ih21 n62 hlt y18 (y19 + 1) G65 h)
                      · have h := h2 hc
                        clear h1 h2
                        refine zr_aload_n C 1 dX3_beginDay_85 rfl rfl ?_
                        refine zr_aload_n C 0 dX3_beginDay_86 rfl rfl ?_
                        refine zr_aload_n C 1 dX3_beginDay_87 rfl rfl ?_
                        refine zr_aload_n C 0 dX3_beginDay_88 rfl rfl ?_
                        refine zr_callV (As := [.ref r56]) (r := (RX3, TX3, 3)) C (k_X3_firstSwap h) ok_X3_53 zq_509 zq_510 hT1 (by decide) rfl rfl ⟨by decide, (Nat.le_of_ble_eq_true rfl)⟩ ⟨(Nat.le_of_ble_eq_true rfl), (Nat.le_of_ble_eq_true rfl)⟩ (Nat.le_of_ble_eq_true rfl) dX3_beginDay_89 (fun v90 U91 G92 hq => ?_)
                        clear h
                        · obtain ⟨r66, rfl, rfl, rfl, h⟩ := hq
                          obtain ⟨ha, hb⟩ := h
                          cases r66 with
                          | none =>
                            have h := ha rfl
                            refine zr_callV (As := [.ref r56, .null]) (r := (RX3, TX3, 3)) C (k_X3_settle h) ok_X3_57 zq_641 zq_13 hT1 (by decide) rfl rfl ⟨by decide, (Nat.le_of_ble_eq_true rfl)⟩ ⟨(Nat.le_of_ble_eq_true rfl), (Nat.le_of_ble_eq_true rfl)⟩ (Nat.le_of_ble_eq_true rfl) dX3_beginDay_92 (fun v75 U76 G77 hq => ?_)
                            clear h
                            · obtain ⟨rfl, rfl, h⟩ := hq
                              refine zr_iinc C [(1, .int (y18 + 1)), (3, .ref r56), (0, .ref a0), (2, .int y19)] 2 dX3_beginDay_95 rfl rfl (by decide) rfl ?_
                              refine zr_aload_n C 1 dX3_beginDay_98 rfl rfl ?_
                              refine zr_aload_n C 2 dX3_beginDay_99 rfl rfl ?_
                              obtain ⟨x69, hv68, h⟩ := h
                              refine zr_get C fl_X3_21 hT1 hv68 dX3_beginDay_100 ?_
                              refine zr_callV (As := [.int x69]) (r := (RX1, TX1, 12)) C (k_X1_startIfDue h) ok_X3_61 zq_668 zq_669 hT57 (by decide) rfl rfl ⟨by decide, (Nat.le_of_ble_eq_true rfl)⟩ ⟨(Nat.le_of_ble_eq_true rfl), (Nat.le_of_ble_eq_true rfl)⟩ (Nat.le_of_ble_eq_true rfl) dX3_beginDay_103 (fun v72 U73 G74 hq => ?_)
                              clear h
                              · obtain ⟨rfl, rfl, h⟩ := hq
                                refine zr_iinc C [(2, .int (y19 + 1)), (1, .int (y18 + 1)), (3, .ref r56), (0, .ref a0)] 3 dX3_beginDay_106 rfl rfl (by decide) rfl ?_
                                refine zr_goto C 51 dX3_beginDay_109 (by decide) ?_
                                obtain ⟨n71, hlt, h⟩ := h
                                exact zr_sub [3, 1, 0] rfl (ih21 n71 hlt (y18 + 1) (y19 + 1) G74 h)
                          | some y78 =>
                            have h := hb y78 rfl
                            refine zr_callV (As := [.ref r56, .ref y78]) (r := (RX3, TX3, 3)) C (k_X3_settle h) ok_X3_57 zq_641 zq_13 hT1 (by decide) rfl rfl ⟨by decide, (Nat.le_of_ble_eq_true rfl)⟩ ⟨(Nat.le_of_ble_eq_true rfl), (Nat.le_of_ble_eq_true rfl)⟩ (Nat.le_of_ble_eq_true rfl) dX3_beginDay_92 (fun v87 U88 G89 hq => ?_)
                            clear h
                            · obtain ⟨rfl, rfl, h⟩ := hq
                              refine zr_iinc C [(1, .int (y18 + 1)), (3, .ref r56), (0, .ref a0), (2, .int y19)] 2 dX3_beginDay_95 rfl rfl (by decide) rfl ?_
                              refine zr_aload_n C 1 dX3_beginDay_98 rfl rfl ?_
                              refine zr_aload_n C 2 dX3_beginDay_99 rfl rfl ?_
                              obtain ⟨x81, hv80, h⟩ := h
                              refine zr_get C fl_X3_21 hT1 hv80 dX3_beginDay_100 ?_
                              refine zr_callV (As := [.int x81]) (r := (RX1, TX1, 12)) C (k_X1_startIfDue h) ok_X3_61 zq_668 zq_669 hT57 (by decide) rfl rfl ⟨by decide, (Nat.le_of_ble_eq_true rfl)⟩ ⟨(Nat.le_of_ble_eq_true rfl), (Nat.le_of_ble_eq_true rfl)⟩ (Nat.le_of_ble_eq_true rfl) dX3_beginDay_103 (fun v84 U85 G86 hq => ?_)
                              clear h
                              · obtain ⟨rfl, rfl, h⟩ := hq
                                refine zr_iinc C [(2, .int (y19 + 1)), (1, .int (y18 + 1)), (3, .ref r56), (0, .ref a0)] 3 dX3_beginDay_106 rfl rfl (by decide) rfl ?_
                                refine zr_goto C 51 dX3_beginDay_109 (by decide) ?_
                                obtain ⟨n83, hlt, h⟩ := h
                                exact zr_sub [3, 1, 0] rfl (ih21 n83 hlt (y18 + 1) (y19 + 1) G86 h)
          exact zr_sub [2, 1, 0] rfl (ky104 n17 0 0 F8 h0103)
        · have h := h2 hc
          clear h1 h2
          refine zr_aload_n C 0 dX3_beginDay_23 rfl rfl ?_
          refine zr_get C fl_X3_12 hT1 hv11 dX3_beginDay_24 ?_
          refine zr_iload_n C 1 dX3_beginDay_27 rfl rfl ?_
          refine zr_callV (As := [.int y7]) (r := (RJx4a65c, TJx4a65c, 3)) C (k_Jx4a65c_get_915e3 h) ok_X3_29 zq_290 zq_291 hT13 (by decide) rfl rfl ⟨by decide, (Nat.le_of_ble_eq_true rfl)⟩ ⟨(Nat.le_of_ble_eq_true rfl), (Nat.le_of_ble_eq_true rfl)⟩ (Nat.le_of_ble_eq_true rfl) dX3_beginDay_28 (fun v114 U115 G116 hq => ?_)
          clear h
          · obtain ⟨r105, rfl, rfl, rfl, h⟩ := hq
            obtain ⟨hT106, h⟩ := h
            refine zr_castS (r := (RX1, TX1, 12)) C hT106 (by decide) rfl zq_402 dX3_beginDay_31 ?_
            refine zr_aload_n C 0 dX3_beginDay_34 rfl rfl ?_
            obtain ⟨x108, hv107, h⟩ := h
            refine zr_get C fl_X3_21 hT1 hv107 dX3_beginDay_35 ?_
            refine zr_callV (As := [.int x108]) (r := (RX1, TX1, 12)) C (k_X1_endIfPast h) ok_X3_45 zq_630 zq_631 hT106 (by decide) rfl rfl ⟨by decide, (Nat.le_of_ble_eq_true rfl)⟩ ⟨(Nat.le_of_ble_eq_true rfl), (Nat.le_of_ble_eq_true rfl)⟩ (Nat.le_of_ble_eq_true rfl) dX3_beginDay_38 (fun v111 U112 G113 hq => ?_)
            clear h
            · obtain ⟨rfl, rfl, h⟩ := hq
              refine zr_iinc C [(1, .int (y7 + 1)), (0, .ref a0)] 1 dX3_beginDay_41 rfl rfl (by decide) rfl ?_
              refine zr_goto C 12 dX3_beginDay_44 (by decide) ?_
              obtain ⟨n110, hlt, h⟩ := h
              exact zr_sub [1, 0] rfl (ih9 n110 hlt (y7 + 1) G113 h)
  exact zr_sub [1, 0] rfl (ky122 n6 0 (zu F a0 2 (.int (x3 + 1))) h0121)
theorem dX3_bookingShownAt_0 : decode cX3_bookingShownAt 0 = .ok (.iconst 0, 1) := by decide +kernel
theorem dX3_bookingShownAt_1 : decode cX3_bookingShownAt 1 = .ok (.istore 4, 2) := by decide +kernel
theorem dX3_bookingShownAt_3 : decode cX3_bookingShownAt 3 = .ok (.iload 4, 2) := by decide +kernel
theorem dX3_bookingShownAt_5 : decode cX3_bookingShownAt 5 = .ok (.aload_n 0, 1) := by decide +kernel
theorem dX3_bookingShownAt_6 : decode cX3_bookingShownAt 6 = .ok (.getfield 12, 3) := by decide +kernel
theorem dX3_bookingShownAt_12 : decode cX3_bookingShownAt 12 = .ok (.if_icmp .ge 63, 3) := by decide +kernel
theorem dX3_bookingShownAt_75 : decode cX3_bookingShownAt 75 = .ok (.iconst (-1), 1) := by decide +kernel
theorem dX3_bookingShownAt_76 : decode cX3_bookingShownAt 76 = .ok (.ireturn, 1) := by decide +kernel
theorem dX3_bookingShownAt_15 : decode cX3_bookingShownAt 15 = .ok (.aload_n 0, 1) := by decide +kernel
theorem dX3_bookingShownAt_16 : decode cX3_bookingShownAt 16 = .ok (.getfield 12, 3) := by decide +kernel
theorem dX3_bookingShownAt_19 : decode cX3_bookingShownAt 19 = .ok (.iload 4, 2) := by decide +kernel
theorem dX3_bookingShownAt_24 : decode cX3_bookingShownAt 24 = .ok (.checkcast 33, 3) := by decide +kernel
theorem dX3_bookingShownAt_27 : decode cX3_bookingShownAt 27 = .ok (.astore 5, 2) := by decide +kernel
theorem dX3_bookingShownAt_29 : decode cX3_bookingShownAt 29 = .ok (.aload 5, 2) := by decide +kernel
theorem dX3_bookingShownAt_34 : decode cX3_bookingShownAt 34 = .ok (.ifCond .ne 12, 3) := by decide +kernel
theorem dX3_bookingShownAt_46 : decode cX3_bookingShownAt 46 = .ok (.aload 5, 2) := by decide +kernel
theorem dX3_bookingShownAt_48 : decode cX3_bookingShownAt 48 = .ok (.iload_n 1, 1) := by decide +kernel
theorem dX3_bookingShownAt_49 : decode cX3_bookingShownAt 49 = .ok (.iload_n 2, 1) := by decide +kernel
theorem dX3_bookingShownAt_53 : decode cX3_bookingShownAt 53 = .ok (.ifCond .eq 16, 3) := by decide +kernel
theorem dX3_bookingShownAt_69 : decode cX3_bookingShownAt 69 = .ok (.iinc 4 1, 3) := by decide +kernel
theorem dX3_bookingShownAt_72 : decode cX3_bookingShownAt 72 = .ok (.goto (-69), 3) := by decide +kernel
theorem dX3_bookingShownAt_56 : decode cX3_bookingShownAt 56 = .ok (.aload 5, 2) := by decide +kernel
theorem dX3_bookingShownAt_58 : decode cX3_bookingShownAt 58 = .ok (.iload_n 3, 1) := by decide +kernel
theorem dX3_bookingShownAt_59 : decode cX3_bookingShownAt 59 = .ok (.iload_n 3, 1) := by decide +kernel
theorem dX3_bookingShownAt_63 : decode cX3_bookingShownAt 63 = .ok (.ifCond .eq 6, 3) := by decide +kernel
theorem dX3_bookingShownAt_66 : decode cX3_bookingShownAt 66 = .ok (.iload 4, 2) := by decide +kernel
theorem dX3_bookingShownAt_68 : decode cX3_bookingShownAt 68 = .ok (.ireturn, 1) := by decide +kernel
theorem dX3_bookingShownAt_60 : decode cX3_bookingShownAt 60 = .ok (.invokevirtual 104, 3) := by decide +kernel
theorem dX3_bookingShownAt_50 : decode cX3_bookingShownAt 50 = .ok (.invokevirtual 100, 3) := by decide +kernel
theorem dX3_bookingShownAt_37 : decode cX3_bookingShownAt 37 = .ok (.aload 5, 2) := by decide +kernel
theorem dX3_bookingShownAt_39 : decode cX3_bookingShownAt 39 = .ok (.getfield 94, 3) := by decide +kernel
theorem dX3_bookingShownAt_42 : decode cX3_bookingShownAt 42 = .ok (.iconst 2, 1) := by decide +kernel
theorem dX3_bookingShownAt_43 : decode cX3_bookingShownAt 43 = .ok (.if_icmp .ne 26, 3) := by decide +kernel
theorem dX3_bookingShownAt_31 : decode cX3_bookingShownAt 31 = .ok (.invokevirtual 97, 3) := by decide +kernel
theorem dX3_bookingShownAt_21 : decode cX3_bookingShownAt 21 = .ok (.invokevirtual 29, 3) := by decide +kernel
theorem dX3_bookingShownAt_9 : decode cX3_bookingShownAt 9 = .ok (.invokevirtual 25, 3) := by decide +kernel
def v_X3_bookingShownAt (a0 : Nat) (p1 : Int32) (p2 : Int32) (p3 : Int32) (T : zT) (F : zF) (Post : Int32 → Prop) : Prop :=
  (∃ I1 : Nat → Int32 → Prop, (∃ n3 : Nat, I1 n3 0) ∧ (∀ (n2 : Nat) (y4 : Int32), I1 n2 y4 → (T a0 = some (4, 3) ∧ ∃ x9 : Nat, F a0 0 = .ref x9 ∧ T x9 = some (0, 3) ∧ (v_Jx4a65c_size_8abf5 x9 T F (fun (r11 : Int32) => ((r11 ≤ y4 → Post ((-1))) ∧ (¬ r11 ≤ y4 → (v_Jx4a65c_get_915e3 x9 y4 T F (fun (r12 : Nat) => (T r12 = some (2, 12) ∧ (v_X1_isOpen r12 T F (fun (r14 : Int32) => ((¬ r14 = 0 → (v_X1_isIn r12 p1 p2 T F (fun (r15 : Int32) => ((r15 = 0 → (∃ n16 : Nat, n16 < n2 ∧ I1 n16 (y4 + 1))) ∧ (¬ r15 = 0 → (v_X1_hasDayIn r12 p3 p3 T F (fun (r17 : Int32) => ((r17 = 0 → (∃ n18 : Nat, n18 < n2 ∧ I1 n18 (y4 + 1))) ∧ (¬ r17 = 0 → Post y4))))))))) ∧ (r14 = 0 → (∃ x26 : Int32, F r12 6 = .int x26 ∧ ((¬ x26 = 2 → (∃ n27 : Nat, n27 < n2 ∧ I1 n27 (y4 + 1))) ∧ (x26 = 2 → (v_X1_isIn r12 p1 p2 T F (fun (r28 : Int32) => ((r28 = 0 → (∃ n29 : Nat, n29 < n2 ∧ I1 n29 (y4 + 1))) ∧ (¬ r28 = 0 → (v_X1_hasDayIn r12 p3 p3 T F (fun (r30 : Int32) => ((r30 = 0 → (∃ n31 : Nat, n31 < n2 ∧ I1 n31 (y4 + 1))) ∧ (¬ r30 = 0 → Post y4)))))))))))))))))))))))))
set_option maxRecDepth 100000 in
set_option maxHeartbeats 4000000 in
theorem k_X3_bookingShownAt {l : Launch} {D : va_G} {cA : Nat → ClassId} {N0 zE : Nat} {a0 : Nat} {p1 : Int32} {p2 : Int32} {p3 : Int32} {T : zT} {F : zF} {Post : Int32 → Prop} (h : v_X3_bookingShownAt a0 p1 p2 p3 T F Post) : z_Mt l D cA N0 zE yX3_bookingShownAt cX3_bookingShownAt 6 (some .int) ({ frames := 3, cells := 0, slots := 0, locals := 64 } : Room) [.ref a0, .int p1, .int p2, .int p3] T F (fun v T' F' => ∃ r : Int32, v = some (.int r) ∧ T = T' ∧ F = F' ∧ Post r) := by
  unfold v_X3_bookingShownAt at h
  refine z_bodyT (by decide) (Nat.le_of_ble_eq_true rfl) ?_
  intro p e s m args below meth c C hnm
  have C : z_C p l s m args meth c RX3 cX3_bookingShownAt 6 (some .int) D cA N0 zE := C
  show z_w p l e ({ frames := 3, cells := 0, slots := 0, locals := 64 } : Room) s m args below meth c D cA N0 6 0 0 (MQ below (z_Qc D cA N0 (fun v T' F' => ∃ r : Int32, v = some (.int r) ∧ T = T' ∧ F = F' ∧ Post r)) args s 0 0 (fun q => N0 ≤ q)) 0 [(0, .ref a0), (1, .int p1), (2, .int p2), (3, .int p3)] [] T F
  refine zr_iconst C 0 dX3_bookingShownAt_0 (by decide) ?_
  refine zr_istore C [(4, .int 0), (0, .ref a0), (1, .int p1), (2, .int p2), (3, .int p3)] dX3_bookingShownAt_1 (by decide) rfl ?_
  obtain ⟨I1, ⟨n3, h048⟩, hI47⟩ := h
  have ky49 : ∀ (n2 : Nat) (y4 : Int32), I1 n2 y4 → z_w p l e ({ frames := 3, cells := 0, slots := 0, locals := 64 } : Room) s m args below meth c D cA N0 6 0 0 (MQ below (z_Qc D cA N0 (fun v T' F' => ∃ r : Int32, v = some (.int r) ∧ T = T' ∧ F = F' ∧ Post r)) args s 0 0 (fun q => N0 ≤ q)) 3 [(0, .ref a0), (1, .int p1), (2, .int p2), (3, .int p3), (4, .int y4)] [] T F := by
    intro n2
    induction n2 using Nat.strongRecOn with
    | _ n2 ih5 =>
      intro y4 hin
      have h := hI47 n2 y4 hin
      refine zr_iload C 4 dX3_bookingShownAt_3 rfl ?_
      refine zr_aload_n C 0 dX3_bookingShownAt_5 rfl rfl ?_
      obtain ⟨hT7, x9, hv8, h⟩ := h
      refine zr_get C fl_X3_12 hT7 hv8 dX3_bookingShownAt_6 ?_
      obtain ⟨hT10, h⟩ := h
      refine zr_callV (As := []) (r := (RJx4a65c, TJx4a65c, 3)) C (k_Jx4a65c_size_8abf5 h) ok_X3_25 zq_112 zq_113 hT10 (by decide) rfl rfl ⟨by decide, (Nat.le_of_ble_eq_true rfl)⟩ ⟨(Nat.le_of_ble_eq_true rfl), (Nat.le_of_ble_eq_true rfl)⟩ (Nat.le_of_ble_eq_true rfl) dX3_bookingShownAt_9 (fun v44 U45 G46 hq => ?_)
      clear h
      · obtain ⟨r11, rfl, rfl, rfl, h⟩ := hq
        obtain ⟨h1, h2⟩ := h
        refine zr_icmp_ge C 75 dX3_bookingShownAt_12 (by decide) (fun hc => ?_) (fun hc => ?_)
        · have h := h1 hc
          clear h1 h2
          refine zr_iconst C (-1) dX3_bookingShownAt_75 (by decide) ?_
          exact zr_iret C rfl ⟨_, rfl, rfl, rfl, h⟩ (Nat.le_of_ble_eq_true rfl) (Nat.le_of_ble_eq_true rfl) dX3_bookingShownAt_76
        · have h := h2 hc
          clear h1 h2
          refine zr_aload_n C 0 dX3_bookingShownAt_15 rfl rfl ?_
          refine zr_get C fl_X3_12 hT7 hv8 dX3_bookingShownAt_16 ?_
          refine zr_iload C 4 dX3_bookingShownAt_19 rfl ?_
          refine zr_callV (As := [.int y4]) (r := (RJx4a65c, TJx4a65c, 3)) C (k_Jx4a65c_get_915e3 h) ok_X3_29 zq_290 zq_291 hT10 (by decide) rfl rfl ⟨by decide, (Nat.le_of_ble_eq_true rfl)⟩ ⟨(Nat.le_of_ble_eq_true rfl), (Nat.le_of_ble_eq_true rfl)⟩ (Nat.le_of_ble_eq_true rfl) dX3_bookingShownAt_21 (fun v41 U42 G43 hq => ?_)
          clear h
          · obtain ⟨r12, rfl, rfl, rfl, h⟩ := hq
            obtain ⟨hT13, h⟩ := h
            refine zr_castS (r := (RX1, TX1, 12)) C hT13 (by decide) rfl zq_402 dX3_bookingShownAt_24 ?_
            refine zr_astore C [(5, .ref r12), (0, .ref a0), (1, .int p1), (2, .int p2), (3, .int p3), (4, .int y4)] dX3_bookingShownAt_27 (by decide) rfl ?_
            refine zr_aload C 0 dX3_bookingShownAt_29 rfl ?_
            refine zr_callV (As := []) (r := (RX1, TX1, 12)) C (k_X1_isOpen h) ok_X3_97 zq_458 zq_459 hT13 (by decide) rfl rfl ⟨by decide, (Nat.le_of_ble_eq_true rfl)⟩ ⟨(Nat.le_of_ble_eq_true rfl), (Nat.le_of_ble_eq_true rfl)⟩ (Nat.le_of_ble_eq_true rfl) dX3_bookingShownAt_31 (fun v38 U39 G40 hq => ?_)
            clear h
            · obtain ⟨r14, rfl, rfl, rfl, h⟩ := hq
              obtain ⟨h1, h2⟩ := h
              refine zr_if_ne C 46 dX3_bookingShownAt_34 (by decide) (fun hc => ?_) (fun hc => ?_)
              · have h := h1 hc
                clear h1 h2
                refine zr_aload C 0 dX3_bookingShownAt_46 rfl ?_
                refine zr_iload_n C 2 dX3_bookingShownAt_48 rfl rfl ?_
                refine zr_iload_n C 3 dX3_bookingShownAt_49 rfl rfl ?_
                refine zr_callV (As := [.int p1, .int p2]) (r := (RX1, TX1, 12)) C (k_X1_isIn h) ok_X3_100 zq_656 zq_657 hT13 (by decide) rfl rfl ⟨by decide, (Nat.le_of_ble_eq_true rfl)⟩ ⟨(Nat.le_of_ble_eq_true rfl), (Nat.le_of_ble_eq_true rfl)⟩ (Nat.le_of_ble_eq_true rfl) dX3_bookingShownAt_50 (fun v22 U23 G24 hq => ?_)
                clear h
                · obtain ⟨r15, rfl, rfl, rfl, h⟩ := hq
                  obtain ⟨h1, h2⟩ := h
                  refine zr_if_eq C 69 dX3_bookingShownAt_53 (by decide) (fun hc => ?_) (fun hc => ?_)
                  · have h := h1 hc
                    clear h1 h2
                    refine zr_iinc C [(4, .int (y4 + 1)), (5, .ref r12), (0, .ref a0), (1, .int p1), (2, .int p2), (3, .int p3)] 5 dX3_bookingShownAt_69 rfl rfl (by decide) rfl ?_
                    refine zr_goto C 3 dX3_bookingShownAt_72 (by decide) ?_
                    obtain ⟨n16, hlt, h⟩ := h
                    exact zr_sub [2, 3, 4, 5, 0] rfl (ih5 n16 hlt (y4 + 1) h)
                  · have h := h2 hc
                    clear h1 h2
                    refine zr_aload C 0 dX3_bookingShownAt_56 rfl ?_
                    refine zr_iload_n C 4 dX3_bookingShownAt_58 rfl rfl ?_
                    refine zr_iload_n C 4 dX3_bookingShownAt_59 rfl rfl ?_
                    refine zr_callV (As := [.int p3, .int p3]) (r := (RX1, TX1, 12)) C (k_X1_hasDayIn h) ok_X3_104 zq_660 zq_661 hT13 (by decide) rfl rfl ⟨by decide, (Nat.le_of_ble_eq_true rfl)⟩ ⟨(Nat.le_of_ble_eq_true rfl), (Nat.le_of_ble_eq_true rfl)⟩ (Nat.le_of_ble_eq_true rfl) dX3_bookingShownAt_60 (fun v19 U20 G21 hq => ?_)
                    clear h
                    · obtain ⟨r17, rfl, rfl, rfl, h⟩ := hq
                      obtain ⟨h1, h2⟩ := h
                      refine zr_if_eq C 69 dX3_bookingShownAt_63 (by decide) (fun hc => ?_) (fun hc => ?_)
                      · have h := h1 hc
                        clear h1 h2
                        refine zr_iinc C [(4, .int (y4 + 1)), (5, .ref r12), (0, .ref a0), (1, .int p1), (2, .int p2), (3, .int p3)] 5 dX3_bookingShownAt_69 rfl rfl (by decide) rfl ?_
                        refine zr_goto C 3 dX3_bookingShownAt_72 (by decide) ?_
                        obtain ⟨n18, hlt, h⟩ := h
                        exact zr_sub [2, 3, 4, 5, 0] rfl (ih5 n18 hlt (y4 + 1) h)
                      · have h := h2 hc
                        clear h1 h2
                        refine zr_iload C 5 dX3_bookingShownAt_66 rfl ?_
                        exact zr_iret C rfl ⟨_, rfl, rfl, rfl, h⟩ (Nat.le_of_ble_eq_true rfl) (Nat.le_of_ble_eq_true rfl) dX3_bookingShownAt_68
              · have h := h2 hc
                clear h1 h2
                refine zr_aload C 0 dX3_bookingShownAt_37 rfl ?_
                obtain ⟨x26, hv25, h⟩ := h
                refine zr_get C fl_X3_94 hT13 hv25 dX3_bookingShownAt_39 ?_
                refine zr_iconst C 2 dX3_bookingShownAt_42 (by decide) ?_
                obtain ⟨h1, h2⟩ := h
                refine zr_icmp_ne C 69 dX3_bookingShownAt_43 (by decide) (fun hc => ?_) (fun hc => ?_)
                · have h := h1 hc
                  clear h1 h2
                  refine zr_iinc C [(4, .int (y4 + 1)), (5, .ref r12), (0, .ref a0), (1, .int p1), (2, .int p2), (3, .int p3)] 5 dX3_bookingShownAt_69 rfl rfl (by decide) rfl ?_
                  refine zr_goto C 3 dX3_bookingShownAt_72 (by decide) ?_
                  obtain ⟨n27, hlt, h⟩ := h
                  exact zr_sub [2, 3, 4, 5, 0] rfl (ih5 n27 hlt (y4 + 1) h)
                · have h := h2 hc
                  clear h1 h2
                  refine zr_aload C 0 dX3_bookingShownAt_46 rfl ?_
                  refine zr_iload_n C 2 dX3_bookingShownAt_48 rfl rfl ?_
                  refine zr_iload_n C 3 dX3_bookingShownAt_49 rfl rfl ?_
                  refine zr_callV (As := [.int p1, .int p2]) (r := (RX1, TX1, 12)) C (k_X1_isIn h) ok_X3_100 zq_656 zq_657 hT13 (by decide) rfl rfl ⟨by decide, (Nat.le_of_ble_eq_true rfl)⟩ ⟨(Nat.le_of_ble_eq_true rfl), (Nat.le_of_ble_eq_true rfl)⟩ (Nat.le_of_ble_eq_true rfl) dX3_bookingShownAt_50 (fun v35 U36 G37 hq => ?_)
                  clear h
                  · obtain ⟨r28, rfl, rfl, rfl, h⟩ := hq
                    obtain ⟨h1, h2⟩ := h
                    refine zr_if_eq C 69 dX3_bookingShownAt_53 (by decide) (fun hc => ?_) (fun hc => ?_)
                    · have h := h1 hc
                      clear h1 h2
                      refine zr_iinc C [(4, .int (y4 + 1)), (5, .ref r12), (0, .ref a0), (1, .int p1), (2, .int p2), (3, .int p3)] 5 dX3_bookingShownAt_69 rfl rfl (by decide) rfl ?_
                      refine zr_goto C 3 dX3_bookingShownAt_72 (by decide) ?_
                      obtain ⟨n29, hlt, h⟩ := h
                      exact zr_sub [2, 3, 4, 5, 0] rfl (ih5 n29 hlt (y4 + 1) h)
                    · have h := h2 hc
                      clear h1 h2
                      refine zr_aload C 0 dX3_bookingShownAt_56 rfl ?_
                      refine zr_iload_n C 4 dX3_bookingShownAt_58 rfl rfl ?_
                      refine zr_iload_n C 4 dX3_bookingShownAt_59 rfl rfl ?_
                      refine zr_callV (As := [.int p3, .int p3]) (r := (RX1, TX1, 12)) C (k_X1_hasDayIn h) ok_X3_104 zq_660 zq_661 hT13 (by decide) rfl rfl ⟨by decide, (Nat.le_of_ble_eq_true rfl)⟩ ⟨(Nat.le_of_ble_eq_true rfl), (Nat.le_of_ble_eq_true rfl)⟩ (Nat.le_of_ble_eq_true rfl) dX3_bookingShownAt_60 (fun v32 U33 G34 hq => ?_)
                      clear h
                      · obtain ⟨r30, rfl, rfl, rfl, h⟩ := hq
                        obtain ⟨h1, h2⟩ := h
                        refine zr_if_eq C 69 dX3_bookingShownAt_63 (by decide) (fun hc => ?_) (fun hc => ?_)
                        · have h := h1 hc
                          clear h1 h2
                          refine zr_iinc C [(4, .int (y4 + 1)), (5, .ref r12), (0, .ref a0), (1, .int p1), (2, .int p2), (3, .int p3)] 5 dX3_bookingShownAt_69 rfl rfl (by decide) rfl ?_
                          refine zr_goto C 3 dX3_bookingShownAt_72 (by decide) ?_
                          obtain ⟨n31, hlt, h⟩ := h
                          exact zr_sub [2, 3, 4, 5, 0] rfl (ih5 n31 hlt (y4 + 1) h)
                        · have h := h2 hc
                          clear h1 h2
                          refine zr_iload C 5 dX3_bookingShownAt_66 rfl ?_
                          exact zr_iret C rfl ⟨_, rfl, rfl, rfl, h⟩ (Nat.le_of_ble_eq_true rfl) (Nat.le_of_ble_eq_true rfl) dX3_bookingShownAt_68
  exact zr_sub [1, 2, 3, 4, 0] rfl (ky49 n3 0 h048)
theorem dX3_countInState_0 : decode cX3_countInState 0 = .ok (.iconst 0, 1) := by decide +kernel
theorem dX3_countInState_1 : decode cX3_countInState 1 = .ok (.istore_n 2, 1) := by decide +kernel
theorem dX3_countInState_2 : decode cX3_countInState 2 = .ok (.iconst 0, 1) := by decide +kernel
theorem dX3_countInState_3 : decode cX3_countInState 3 = .ok (.istore_n 3, 1) := by decide +kernel
theorem dX3_countInState_4 : decode cX3_countInState 4 = .ok (.iload_n 3, 1) := by decide +kernel
theorem dX3_countInState_5 : decode cX3_countInState 5 = .ok (.aload_n 0, 1) := by decide +kernel
theorem dX3_countInState_6 : decode cX3_countInState 6 = .ok (.getfield 12, 3) := by decide +kernel
theorem dX3_countInState_12 : decode cX3_countInState 12 = .ok (.if_icmp .ge 30, 3) := by decide +kernel
theorem dX3_countInState_42 : decode cX3_countInState 42 = .ok (.iload_n 2, 1) := by decide +kernel
theorem dX3_countInState_43 : decode cX3_countInState 43 = .ok (.ireturn, 1) := by decide +kernel
theorem dX3_countInState_15 : decode cX3_countInState 15 = .ok (.aload_n 0, 1) := by decide +kernel
theorem dX3_countInState_16 : decode cX3_countInState 16 = .ok (.getfield 12, 3) := by decide +kernel
theorem dX3_countInState_19 : decode cX3_countInState 19 = .ok (.iload_n 3, 1) := by decide +kernel
theorem dX3_countInState_23 : decode cX3_countInState 23 = .ok (.checkcast 33, 3) := by decide +kernel
theorem dX3_countInState_26 : decode cX3_countInState 26 = .ok (.getfield 94, 3) := by decide +kernel
theorem dX3_countInState_29 : decode cX3_countInState 29 = .ok (.iload_n 1, 1) := by decide +kernel
theorem dX3_countInState_30 : decode cX3_countInState 30 = .ok (.if_icmp .ne 6, 3) := by decide +kernel
theorem dX3_countInState_36 : decode cX3_countInState 36 = .ok (.iinc 3 1, 3) := by decide +kernel
theorem dX3_countInState_39 : decode cX3_countInState 39 = .ok (.goto (-35), 3) := by decide +kernel
theorem dX3_countInState_33 : decode cX3_countInState 33 = .ok (.iinc 2 1, 3) := by decide +kernel
theorem dX3_countInState_20 : decode cX3_countInState 20 = .ok (.invokevirtual 29, 3) := by decide +kernel
theorem dX3_countInState_9 : decode cX3_countInState 9 = .ok (.invokevirtual 25, 3) := by decide +kernel
def v_X3_countInState (a0 : Nat) (p1 : Int32) (T : zT) (F : zF) (Post : Int32 → Prop) : Prop :=
  (∃ I1 : Nat → Int32 → Int32 → Prop, (∃ n3 : Nat, I1 n3 0 0) ∧ (∀ (n2 : Nat) (y4 : Int32) (y5 : Int32), I1 n2 y4 y5 → (T a0 = some (4, 3) ∧ ∃ x10 : Nat, F a0 0 = .ref x10 ∧ T x10 = some (0, 3) ∧ (v_Jx4a65c_size_8abf5 x10 T F (fun (r12 : Int32) => ((r12 ≤ y5 → Post y4) ∧ (¬ r12 ≤ y5 → (v_Jx4a65c_get_915e3 x10 y5 T F (fun (r13 : Nat) => (T r13 = some (2, 12) ∧ ∃ x16 : Int32, F r13 6 = .int x16 ∧ ((¬ x16 = p1 → (∃ n17 : Nat, n17 < n2 ∧ I1 n17 y4 (y5 + 1))) ∧ (x16 = p1 → (∃ n18 : Nat, n18 < n2 ∧ I1 n18 (y4 + 1) (y5 + 1))))))))))))))
set_option maxRecDepth 100000 in
set_option maxHeartbeats 4000000 in
theorem k_X3_countInState {l : Launch} {D : va_G} {cA : Nat → ClassId} {N0 zE : Nat} {a0 : Nat} {p1 : Int32} {T : zT} {F : zF} {Post : Int32 → Prop} (h : v_X3_countInState a0 p1 T F Post) : z_Mt l D cA N0 zE yX3_countInState cX3_countInState 4 (some .int) ({ frames := 3, cells := 0, slots := 0, locals := 64 } : Room) [.ref a0, .int p1] T F (fun v T' F' => ∃ r : Int32, v = some (.int r) ∧ T = T' ∧ F = F' ∧ Post r) := by
  unfold v_X3_countInState at h
  refine z_bodyT (by decide) (Nat.le_of_ble_eq_true rfl) ?_
  intro p e s m args below meth c C hnm
  have C : z_C p l s m args meth c RX3 cX3_countInState 4 (some .int) D cA N0 zE := C
  show z_w p l e ({ frames := 3, cells := 0, slots := 0, locals := 64 } : Room) s m args below meth c D cA N0 4 0 0 (MQ below (z_Qc D cA N0 (fun v T' F' => ∃ r : Int32, v = some (.int r) ∧ T = T' ∧ F = F' ∧ Post r)) args s 0 0 (fun q => N0 ≤ q)) 0 [(0, .ref a0), (1, .int p1)] [] T F
  refine zr_iconst C 0 dX3_countInState_0 (by decide) ?_
  refine zr_istore_n C [(2, .int 0), (0, .ref a0), (1, .int p1)] dX3_countInState_1 rfl (by decide) rfl ?_
  refine zr_iconst C 0 dX3_countInState_2 (by decide) ?_
  refine zr_istore_n C [(3, .int 0), (2, .int 0), (0, .ref a0), (1, .int p1)] dX3_countInState_3 rfl (by decide) rfl ?_
  obtain ⟨I1, ⟨n3, h026⟩, hI25⟩ := h
  have ky27 : ∀ (n2 : Nat) (y4 : Int32) (y5 : Int32), I1 n2 y4 y5 → z_w p l e ({ frames := 3, cells := 0, slots := 0, locals := 64 } : Room) s m args below meth c D cA N0 4 0 0 (MQ below (z_Qc D cA N0 (fun v T' F' => ∃ r : Int32, v = some (.int r) ∧ T = T' ∧ F = F' ∧ Post r)) args s 0 0 (fun q => N0 ≤ q)) 4 [(0, .ref a0), (1, .int p1), (2, .int y4), (3, .int y5)] [] T F := by
    intro n2
    induction n2 using Nat.strongRecOn with
    | _ n2 ih6 =>
      intro y4 y5 hin
      have h := hI25 n2 y4 y5 hin
      refine zr_iload_n C 3 dX3_countInState_4 rfl rfl ?_
      refine zr_aload_n C 0 dX3_countInState_5 rfl rfl ?_
      obtain ⟨hT8, x10, hv9, h⟩ := h
      refine zr_get C fl_X3_12 hT8 hv9 dX3_countInState_6 ?_
      obtain ⟨hT11, h⟩ := h
      refine zr_callV (As := []) (r := (RJx4a65c, TJx4a65c, 3)) C (k_Jx4a65c_size_8abf5 h) ok_X3_25 zq_112 zq_113 hT11 (by decide) rfl rfl ⟨by decide, (Nat.le_of_ble_eq_true rfl)⟩ ⟨(Nat.le_of_ble_eq_true rfl), (Nat.le_of_ble_eq_true rfl)⟩ (Nat.le_of_ble_eq_true rfl) dX3_countInState_9 (fun v22 U23 G24 hq => ?_)
      clear h
      · obtain ⟨r12, rfl, rfl, rfl, h⟩ := hq
        obtain ⟨h1, h2⟩ := h
        refine zr_icmp_ge C 42 dX3_countInState_12 (by decide) (fun hc => ?_) (fun hc => ?_)
        · have h := h1 hc
          clear h1 h2
          refine zr_iload_n C 2 dX3_countInState_42 rfl rfl ?_
          exact zr_iret C rfl ⟨_, rfl, rfl, rfl, h⟩ (Nat.le_of_ble_eq_true rfl) (Nat.le_of_ble_eq_true rfl) dX3_countInState_43
        · have h := h2 hc
          clear h1 h2
          refine zr_aload_n C 0 dX3_countInState_15 rfl rfl ?_
          refine zr_get C fl_X3_12 hT8 hv9 dX3_countInState_16 ?_
          refine zr_iload_n C 3 dX3_countInState_19 rfl rfl ?_
          refine zr_callV (As := [.int y5]) (r := (RJx4a65c, TJx4a65c, 3)) C (k_Jx4a65c_get_915e3 h) ok_X3_29 zq_290 zq_291 hT11 (by decide) rfl rfl ⟨by decide, (Nat.le_of_ble_eq_true rfl)⟩ ⟨(Nat.le_of_ble_eq_true rfl), (Nat.le_of_ble_eq_true rfl)⟩ (Nat.le_of_ble_eq_true rfl) dX3_countInState_20 (fun v19 U20 G21 hq => ?_)
          clear h
          · obtain ⟨r13, rfl, rfl, rfl, h⟩ := hq
            obtain ⟨hT14, h⟩ := h
            refine zr_castS (r := (RX1, TX1, 12)) C hT14 (by decide) rfl zq_402 dX3_countInState_23 ?_
            obtain ⟨x16, hv15, h⟩ := h
            refine zr_get C fl_X3_94 hT14 hv15 dX3_countInState_26 ?_
            refine zr_iload_n C 1 dX3_countInState_29 rfl rfl ?_
            obtain ⟨h1, h2⟩ := h
            refine zr_icmp_ne C 36 dX3_countInState_30 (by decide) (fun hc => ?_) (fun hc => ?_)
            · have h := h1 hc
              clear h1 h2
              refine zr_iinc C [(3, .int (y5 + 1)), (0, .ref a0), (1, .int p1), (2, .int y4)] 3 dX3_countInState_36 rfl rfl (by decide) rfl ?_
              refine zr_goto C 4 dX3_countInState_39 (by decide) ?_
              obtain ⟨n17, hlt, h⟩ := h
              exact zr_sub [1, 2, 3, 0] rfl (ih6 n17 hlt y4 (y5 + 1) h)
            · have h := h2 hc
              clear h1 h2
              refine zr_iinc C [(2, .int (y4 + 1)), (0, .ref a0), (1, .int p1), (3, .int y5)] 2 dX3_countInState_33 rfl rfl (by decide) rfl ?_
              refine zr_iinc C [(3, .int (y5 + 1)), (2, .int (y4 + 1)), (0, .ref a0), (1, .int p1)] 3 dX3_countInState_36 rfl rfl (by decide) rfl ?_
              refine zr_goto C 4 dX3_countInState_39 (by decide) ?_
              obtain ⟨n18, hlt, h⟩ := h
              exact zr_sub [2, 3, 1, 0] rfl (ih6 n18 hlt (y4 + 1) (y5 + 1) h)
  exact zr_sub [2, 3, 1, 0] rfl (ky27 n3 0 0 h026)
theorem dX3_countOn_0 : decode cX3_countOn 0 = .ok (.iconst 0, 1) := by decide +kernel
theorem dX3_countOn_1 : decode cX3_countOn 1 = .ok (.istore_n 1, 1) := by decide +kernel
theorem dX3_countOn_2 : decode cX3_countOn 2 = .ok (.iconst 0, 1) := by decide +kernel
theorem dX3_countOn_3 : decode cX3_countOn 3 = .ok (.istore_n 2, 1) := by decide +kernel
theorem dX3_countOn_4 : decode cX3_countOn 4 = .ok (.iload_n 2, 1) := by decide +kernel
theorem dX3_countOn_5 : decode cX3_countOn 5 = .ok (.aload_n 0, 1) := by decide +kernel
theorem dX3_countOn_6 : decode cX3_countOn 6 = .ok (.getfield 12, 3) := by decide +kernel
theorem dX3_countOn_12 : decode cX3_countOn 12 = .ok (.if_icmp .ge 29, 3) := by decide +kernel
theorem dX3_countOn_41 : decode cX3_countOn 41 = .ok (.iload_n 1, 1) := by decide +kernel
theorem dX3_countOn_42 : decode cX3_countOn 42 = .ok (.ireturn, 1) := by decide +kernel
theorem dX3_countOn_15 : decode cX3_countOn 15 = .ok (.aload_n 0, 1) := by decide +kernel
theorem dX3_countOn_16 : decode cX3_countOn 16 = .ok (.getfield 12, 3) := by decide +kernel
theorem dX3_countOn_19 : decode cX3_countOn 19 = .ok (.iload_n 2, 1) := by decide +kernel
theorem dX3_countOn_23 : decode cX3_countOn 23 = .ok (.checkcast 33, 3) := by decide +kernel
theorem dX3_countOn_26 : decode cX3_countOn 26 = .ok (.getfield 137, 3) := by decide +kernel
theorem dX3_countOn_29 : decode cX3_countOn 29 = .ok (.ifCond .eq 6, 3) := by decide +kernel
theorem dX3_countOn_35 : decode cX3_countOn 35 = .ok (.iinc 2 1, 3) := by decide +kernel
theorem dX3_countOn_38 : decode cX3_countOn 38 = .ok (.goto (-34), 3) := by decide +kernel
theorem dX3_countOn_32 : decode cX3_countOn 32 = .ok (.iinc 1 1, 3) := by decide +kernel
theorem dX3_countOn_20 : decode cX3_countOn 20 = .ok (.invokevirtual 29, 3) := by decide +kernel
theorem dX3_countOn_9 : decode cX3_countOn 9 = .ok (.invokevirtual 25, 3) := by decide +kernel
def v_X3_countOn (a0 : Nat) (T : zT) (F : zF) (Post : Int32 → Prop) : Prop :=
  (∃ I1 : Nat → Int32 → Int32 → Prop, (∃ n3 : Nat, I1 n3 0 0) ∧ (∀ (n2 : Nat) (y4 : Int32) (y5 : Int32), I1 n2 y4 y5 → (T a0 = some (4, 3) ∧ ∃ x10 : Nat, F a0 0 = .ref x10 ∧ T x10 = some (0, 3) ∧ (v_Jx4a65c_size_8abf5 x10 T F (fun (r12 : Int32) => ((r12 ≤ y5 → Post y4) ∧ (¬ r12 ≤ y5 → (v_Jx4a65c_get_915e3 x10 y5 T F (fun (r13 : Nat) => (T r13 = some (2, 12) ∧ ∃ x16 : Int32, F r13 10 = .int x16 ∧ ((x16 = 0 → (∃ n17 : Nat, n17 < n2 ∧ I1 n17 y4 (y5 + 1))) ∧ (¬ x16 = 0 → (∃ n18 : Nat, n18 < n2 ∧ I1 n18 (y4 + 1) (y5 + 1))))))))))))))
set_option maxRecDepth 100000 in
set_option maxHeartbeats 4000000 in
theorem k_X3_countOn {l : Launch} {D : va_G} {cA : Nat → ClassId} {N0 zE : Nat} {a0 : Nat} {T : zT} {F : zF} {Post : Int32 → Prop} (h : v_X3_countOn a0 T F Post) : z_Mt l D cA N0 zE yX3_countOn cX3_countOn 3 (some .int) ({ frames := 3, cells := 0, slots := 0, locals := 64 } : Room) [.ref a0] T F (fun v T' F' => ∃ r : Int32, v = some (.int r) ∧ T = T' ∧ F = F' ∧ Post r) := by
  unfold v_X3_countOn at h
  refine z_bodyT (by decide) (Nat.le_of_ble_eq_true rfl) ?_
  intro p e s m args below meth c C hnm
  have C : z_C p l s m args meth c RX3 cX3_countOn 3 (some .int) D cA N0 zE := C
  show z_w p l e ({ frames := 3, cells := 0, slots := 0, locals := 64 } : Room) s m args below meth c D cA N0 3 0 0 (MQ below (z_Qc D cA N0 (fun v T' F' => ∃ r : Int32, v = some (.int r) ∧ T = T' ∧ F = F' ∧ Post r)) args s 0 0 (fun q => N0 ≤ q)) 0 [(0, .ref a0)] [] T F
  refine zr_iconst C 0 dX3_countOn_0 (by decide) ?_
  refine zr_istore_n C [(1, .int 0), (0, .ref a0)] dX3_countOn_1 rfl (by decide) rfl ?_
  refine zr_iconst C 0 dX3_countOn_2 (by decide) ?_
  refine zr_istore_n C [(2, .int 0), (1, .int 0), (0, .ref a0)] dX3_countOn_3 rfl (by decide) rfl ?_
  obtain ⟨I1, ⟨n3, h026⟩, hI25⟩ := h
  have ky27 : ∀ (n2 : Nat) (y4 : Int32) (y5 : Int32), I1 n2 y4 y5 → z_w p l e ({ frames := 3, cells := 0, slots := 0, locals := 64 } : Room) s m args below meth c D cA N0 3 0 0 (MQ below (z_Qc D cA N0 (fun v T' F' => ∃ r : Int32, v = some (.int r) ∧ T = T' ∧ F = F' ∧ Post r)) args s 0 0 (fun q => N0 ≤ q)) 4 [(0, .ref a0), (1, .int y4), (2, .int y5)] [] T F := by
    intro n2
    induction n2 using Nat.strongRecOn with
    | _ n2 ih6 =>
      intro y4 y5 hin
      have h := hI25 n2 y4 y5 hin
      refine zr_iload_n C 2 dX3_countOn_4 rfl rfl ?_
      refine zr_aload_n C 0 dX3_countOn_5 rfl rfl ?_
      obtain ⟨hT8, x10, hv9, h⟩ := h
      refine zr_get C fl_X3_12 hT8 hv9 dX3_countOn_6 ?_
      obtain ⟨hT11, h⟩ := h
      refine zr_callV (As := []) (r := (RJx4a65c, TJx4a65c, 3)) C (k_Jx4a65c_size_8abf5 h) ok_X3_25 zq_112 zq_113 hT11 (by decide) rfl rfl ⟨by decide, (Nat.le_of_ble_eq_true rfl)⟩ ⟨(Nat.le_of_ble_eq_true rfl), (Nat.le_of_ble_eq_true rfl)⟩ (Nat.le_of_ble_eq_true rfl) dX3_countOn_9 (fun v22 U23 G24 hq => ?_)
      clear h
      · obtain ⟨r12, rfl, rfl, rfl, h⟩ := hq
        obtain ⟨h1, h2⟩ := h
        refine zr_icmp_ge C 41 dX3_countOn_12 (by decide) (fun hc => ?_) (fun hc => ?_)
        · have h := h1 hc
          clear h1 h2
          refine zr_iload_n C 1 dX3_countOn_41 rfl rfl ?_
          exact zr_iret C rfl ⟨_, rfl, rfl, rfl, h⟩ (Nat.le_of_ble_eq_true rfl) (Nat.le_of_ble_eq_true rfl) dX3_countOn_42
        · have h := h2 hc
          clear h1 h2
          refine zr_aload_n C 0 dX3_countOn_15 rfl rfl ?_
          refine zr_get C fl_X3_12 hT8 hv9 dX3_countOn_16 ?_
          refine zr_iload_n C 2 dX3_countOn_19 rfl rfl ?_
          refine zr_callV (As := [.int y5]) (r := (RJx4a65c, TJx4a65c, 3)) C (k_Jx4a65c_get_915e3 h) ok_X3_29 zq_290 zq_291 hT11 (by decide) rfl rfl ⟨by decide, (Nat.le_of_ble_eq_true rfl)⟩ ⟨(Nat.le_of_ble_eq_true rfl), (Nat.le_of_ble_eq_true rfl)⟩ (Nat.le_of_ble_eq_true rfl) dX3_countOn_20 (fun v19 U20 G21 hq => ?_)
          clear h
          · obtain ⟨r13, rfl, rfl, rfl, h⟩ := hq
            obtain ⟨hT14, h⟩ := h
            refine zr_castS (r := (RX1, TX1, 12)) C hT14 (by decide) rfl zq_402 dX3_countOn_23 ?_
            obtain ⟨x16, hv15, h⟩ := h
            refine zr_get C fl_X3_137 hT14 hv15 dX3_countOn_26 ?_
            obtain ⟨h1, h2⟩ := h
            refine zr_if_eq C 35 dX3_countOn_29 (by decide) (fun hc => ?_) (fun hc => ?_)
            · have h := h1 hc
              clear h1 h2
              refine zr_iinc C [(2, .int (y5 + 1)), (0, .ref a0), (1, .int y4)] 2 dX3_countOn_35 rfl rfl (by decide) rfl ?_
              refine zr_goto C 4 dX3_countOn_38 (by decide) ?_
              obtain ⟨n17, hlt, h⟩ := h
              exact zr_sub [1, 2, 0] rfl (ih6 n17 hlt y4 (y5 + 1) h)
            · have h := h2 hc
              clear h1 h2
              refine zr_iinc C [(1, .int (y4 + 1)), (0, .ref a0), (2, .int y5)] 1 dX3_countOn_32 rfl rfl (by decide) rfl ?_
              refine zr_iinc C [(2, .int (y5 + 1)), (1, .int (y4 + 1)), (0, .ref a0)] 2 dX3_countOn_35 rfl rfl (by decide) rfl ?_
              refine zr_goto C 4 dX3_countOn_38 (by decide) ?_
              obtain ⟨n18, hlt, h⟩ := h
              exact zr_sub [2, 1, 0] rfl (ih6 n18 hlt (y4 + 1) (y5 + 1) h)
  exact zr_sub [2, 1, 0] rfl (ky27 n3 0 0 h026)
theorem dX3_costOfAll_0 : decode cX3_costOfAll 0 = .ok (.iconst 0, 1) := by decide +kernel
theorem dX3_costOfAll_1 : decode cX3_costOfAll 1 = .ok (.istore_n 1, 1) := by decide +kernel
theorem dX3_costOfAll_2 : decode cX3_costOfAll 2 = .ok (.iconst 0, 1) := by decide +kernel
theorem dX3_costOfAll_3 : decode cX3_costOfAll 3 = .ok (.istore_n 2, 1) := by decide +kernel
theorem dX3_costOfAll_4 : decode cX3_costOfAll 4 = .ok (.iload_n 2, 1) := by decide +kernel
theorem dX3_costOfAll_5 : decode cX3_costOfAll 5 = .ok (.aload_n 0, 1) := by decide +kernel
theorem dX3_costOfAll_6 : decode cX3_costOfAll 6 = .ok (.getfield 12, 3) := by decide +kernel
theorem dX3_costOfAll_12 : decode cX3_costOfAll 12 = .ok (.if_icmp .ge 26, 3) := by decide +kernel
theorem dX3_costOfAll_38 : decode cX3_costOfAll 38 = .ok (.iload_n 1, 1) := by decide +kernel
theorem dX3_costOfAll_39 : decode cX3_costOfAll 39 = .ok (.ireturn, 1) := by decide +kernel
theorem dX3_costOfAll_15 : decode cX3_costOfAll 15 = .ok (.iload_n 1, 1) := by decide +kernel
theorem dX3_costOfAll_16 : decode cX3_costOfAll 16 = .ok (.aload_n 0, 1) := by decide +kernel
theorem dX3_costOfAll_17 : decode cX3_costOfAll 17 = .ok (.getfield 12, 3) := by decide +kernel
theorem dX3_costOfAll_20 : decode cX3_costOfAll 20 = .ok (.iload_n 2, 1) := by decide +kernel
theorem dX3_costOfAll_24 : decode cX3_costOfAll 24 = .ok (.checkcast 33, 3) := by decide +kernel
theorem dX3_costOfAll_30 : decode cX3_costOfAll 30 = .ok (.iadd, 1) := by decide +kernel
theorem dX3_costOfAll_31 : decode cX3_costOfAll 31 = .ok (.istore_n 1, 1) := by decide +kernel
theorem dX3_costOfAll_32 : decode cX3_costOfAll 32 = .ok (.iinc 2 1, 3) := by decide +kernel
theorem dX3_costOfAll_35 : decode cX3_costOfAll 35 = .ok (.goto (-31), 3) := by decide +kernel
theorem dX3_costOfAll_27 : decode cX3_costOfAll 27 = .ok (.invokevirtual 141, 3) := by decide +kernel
theorem dX3_costOfAll_21 : decode cX3_costOfAll 21 = .ok (.invokevirtual 29, 3) := by decide +kernel
theorem dX3_costOfAll_9 : decode cX3_costOfAll 9 = .ok (.invokevirtual 25, 3) := by decide +kernel
def v_X3_costOfAll (a0 : Nat) (T : zT) (F : zF) (Post : Int32 → Prop) : Prop :=
  (∃ I1 : Nat → Int32 → Int32 → Prop, (∃ n3 : Nat, I1 n3 0 0) ∧ (∀ (n2 : Nat) (y4 : Int32) (y5 : Int32), I1 n2 y4 y5 → (T a0 = some (4, 3) ∧ ∃ x10 : Nat, F a0 0 = .ref x10 ∧ T x10 = some (0, 3) ∧ (v_Jx4a65c_size_8abf5 x10 T F (fun (r12 : Int32) => ((r12 ≤ y5 → Post y4) ∧ (¬ r12 ≤ y5 → (v_Jx4a65c_get_915e3 x10 y5 T F (fun (r13 : Nat) => (T r13 = some (2, 12) ∧ (v_X1_costNow r13 T F (fun (r15 : Int32) => (∃ n16 : Nat, n16 < n2 ∧ I1 n16 (y4 + r15) (y5 + 1))))))))))))))
set_option maxRecDepth 100000 in
set_option maxHeartbeats 4000000 in
theorem k_X3_costOfAll {l : Launch} {D : va_G} {cA : Nat → ClassId} {N0 zE : Nat} {a0 : Nat} {T : zT} {F : zF} {Post : Int32 → Prop} (h : v_X3_costOfAll a0 T F Post) : z_Mt l D cA N0 zE yX3_costOfAll cX3_costOfAll 3 (some .int) ({ frames := 3, cells := 0, slots := 0, locals := 64 } : Room) [.ref a0] T F (fun v T' F' => ∃ r : Int32, v = some (.int r) ∧ T = T' ∧ F = F' ∧ Post r) := by
  unfold v_X3_costOfAll at h
  refine z_bodyT (by decide) (Nat.le_of_ble_eq_true rfl) ?_
  intro p e s m args below meth c C hnm
  have C : z_C p l s m args meth c RX3 cX3_costOfAll 3 (some .int) D cA N0 zE := C
  show z_w p l e ({ frames := 3, cells := 0, slots := 0, locals := 64 } : Room) s m args below meth c D cA N0 3 0 0 (MQ below (z_Qc D cA N0 (fun v T' F' => ∃ r : Int32, v = some (.int r) ∧ T = T' ∧ F = F' ∧ Post r)) args s 0 0 (fun q => N0 ≤ q)) 0 [(0, .ref a0)] [] T F
  refine zr_iconst C 0 dX3_costOfAll_0 (by decide) ?_
  refine zr_istore_n C [(1, .int 0), (0, .ref a0)] dX3_costOfAll_1 rfl (by decide) rfl ?_
  refine zr_iconst C 0 dX3_costOfAll_2 (by decide) ?_
  refine zr_istore_n C [(2, .int 0), (1, .int 0), (0, .ref a0)] dX3_costOfAll_3 rfl (by decide) rfl ?_
  obtain ⟨I1, ⟨n3, h027⟩, hI26⟩ := h
  have ky28 : ∀ (n2 : Nat) (y4 : Int32) (y5 : Int32), I1 n2 y4 y5 → z_w p l e ({ frames := 3, cells := 0, slots := 0, locals := 64 } : Room) s m args below meth c D cA N0 3 0 0 (MQ below (z_Qc D cA N0 (fun v T' F' => ∃ r : Int32, v = some (.int r) ∧ T = T' ∧ F = F' ∧ Post r)) args s 0 0 (fun q => N0 ≤ q)) 4 [(0, .ref a0), (1, .int y4), (2, .int y5)] [] T F := by
    intro n2
    induction n2 using Nat.strongRecOn with
    | _ n2 ih6 =>
      intro y4 y5 hin
      have h := hI26 n2 y4 y5 hin
      refine zr_iload_n C 2 dX3_costOfAll_4 rfl rfl ?_
      refine zr_aload_n C 0 dX3_costOfAll_5 rfl rfl ?_
      obtain ⟨hT8, x10, hv9, h⟩ := h
      refine zr_get C fl_X3_12 hT8 hv9 dX3_costOfAll_6 ?_
      obtain ⟨hT11, h⟩ := h
      refine zr_callV (As := []) (r := (RJx4a65c, TJx4a65c, 3)) C (k_Jx4a65c_size_8abf5 h) ok_X3_25 zq_112 zq_113 hT11 (by decide) rfl rfl ⟨by decide, (Nat.le_of_ble_eq_true rfl)⟩ ⟨(Nat.le_of_ble_eq_true rfl), (Nat.le_of_ble_eq_true rfl)⟩ (Nat.le_of_ble_eq_true rfl) dX3_costOfAll_9 (fun v23 U24 G25 hq => ?_)
      clear h
      · obtain ⟨r12, rfl, rfl, rfl, h⟩ := hq
        obtain ⟨h1, h2⟩ := h
        refine zr_icmp_ge C 38 dX3_costOfAll_12 (by decide) (fun hc => ?_) (fun hc => ?_)
        · have h := h1 hc
          clear h1 h2
          refine zr_iload_n C 1 dX3_costOfAll_38 rfl rfl ?_
          exact zr_iret C rfl ⟨_, rfl, rfl, rfl, h⟩ (Nat.le_of_ble_eq_true rfl) (Nat.le_of_ble_eq_true rfl) dX3_costOfAll_39
        · have h := h2 hc
          clear h1 h2
          refine zr_iload_n C 1 dX3_costOfAll_15 rfl rfl ?_
          refine zr_aload_n C 0 dX3_costOfAll_16 rfl rfl ?_
          refine zr_get C fl_X3_12 hT8 hv9 dX3_costOfAll_17 ?_
          refine zr_iload_n C 2 dX3_costOfAll_20 rfl rfl ?_
          refine zr_callV (As := [.int y5]) (r := (RJx4a65c, TJx4a65c, 3)) C (k_Jx4a65c_get_915e3 h) ok_X3_29 zq_290 zq_291 hT11 (by decide) rfl rfl ⟨by decide, (Nat.le_of_ble_eq_true rfl)⟩ ⟨(Nat.le_of_ble_eq_true rfl), (Nat.le_of_ble_eq_true rfl)⟩ (Nat.le_of_ble_eq_true rfl) dX3_costOfAll_21 (fun v20 U21 G22 hq => ?_)
          clear h
          · obtain ⟨r13, rfl, rfl, rfl, h⟩ := hq
            obtain ⟨hT14, h⟩ := h
            refine zr_castS (r := (RX1, TX1, 12)) C hT14 (by decide) rfl zq_402 dX3_costOfAll_24 ?_
            refine zr_callV (As := []) (r := (RX1, TX1, 12)) C (k_X1_costNow h) ok_X3_141 zq_388 zq_389 hT14 (by decide) rfl rfl ⟨by decide, (Nat.le_of_ble_eq_true rfl)⟩ ⟨(Nat.le_of_ble_eq_true rfl), (Nat.le_of_ble_eq_true rfl)⟩ (Nat.le_of_ble_eq_true rfl) dX3_costOfAll_27 (fun v17 U18 G19 hq => ?_)
            clear h
            · obtain ⟨r15, rfl, rfl, rfl, h⟩ := hq
              refine zr_iadd C dX3_costOfAll_30 ?_
              refine zr_istore_n C [(1, .int (y4 + r15)), (0, .ref a0), (2, .int y5)] dX3_costOfAll_31 rfl (by decide) rfl ?_
              refine zr_iinc C [(2, .int (y5 + 1)), (1, .int (y4 + r15)), (0, .ref a0)] 2 dX3_costOfAll_32 rfl rfl (by decide) rfl ?_
              refine zr_goto C 4 dX3_costOfAll_35 (by decide) ?_
              obtain ⟨n16, hlt, h⟩ := h
              exact zr_sub [2, 1, 0] rfl (ih6 n16 hlt (y4 + r15) (y5 + 1) h)
  exact zr_sub [2, 1, 0] rfl (ky28 n3 0 0 h027)
theorem dX3_copyFrom_0 : decode cX3_copyFrom 0 = .ok (.aload_n 0, 1) := by decide +kernel
theorem dX3_copyFrom_1 : decode cX3_copyFrom 1 = .ok (.aload_n 1, 1) := by decide +kernel
theorem dX3_copyFrom_2 : decode cX3_copyFrom 2 = .ok (.getfield 21, 3) := by decide +kernel
theorem dX3_copyFrom_5 : decode cX3_copyFrom 5 = .ok (.putfield 21, 3) := by decide +kernel
theorem dX3_copyFrom_8 : decode cX3_copyFrom 8 = .ok (.aload_n 0, 1) := by decide +kernel
theorem dX3_copyFrom_9 : decode cX3_copyFrom 9 = .ok (.aload_n 1, 1) := by decide +kernel
theorem dX3_copyFrom_10 : decode cX3_copyFrom 10 = .ok (.getfield 18, 3) := by decide +kernel
theorem dX3_copyFrom_13 : decode cX3_copyFrom 13 = .ok (.putfield 18, 3) := by decide +kernel
theorem dX3_copyFrom_16 : decode cX3_copyFrom 16 = .ok (.iconst 0, 1) := by decide +kernel
theorem dX3_copyFrom_17 : decode cX3_copyFrom 17 = .ok (.istore_n 2, 1) := by decide +kernel
theorem dX3_copyFrom_18 : decode cX3_copyFrom 18 = .ok (.iload_n 2, 1) := by decide +kernel
theorem dX3_copyFrom_19 : decode cX3_copyFrom 19 = .ok (.aload_n 1, 1) := by decide +kernel
theorem dX3_copyFrom_20 : decode cX3_copyFrom 20 = .ok (.getfield 12, 3) := by decide +kernel
theorem dX3_copyFrom_26 : decode cX3_copyFrom 26 = .ok (.if_icmp .ge 66, 3) := by decide +kernel
theorem dX3_copyFrom_92 : decode cX3_copyFrom 92 = .ok (.return_, 1) := by decide +kernel
theorem dX3_copyFrom_29 : decode cX3_copyFrom 29 = .ok (.aload_n 1, 1) := by decide +kernel
theorem dX3_copyFrom_30 : decode cX3_copyFrom 30 = .ok (.getfield 12, 3) := by decide +kernel
theorem dX3_copyFrom_33 : decode cX3_copyFrom 33 = .ok (.iload_n 2, 1) := by decide +kernel
theorem dX3_copyFrom_37 : decode cX3_copyFrom 37 = .ok (.checkcast 33, 3) := by decide +kernel
theorem dX3_copyFrom_40 : decode cX3_copyFrom 40 = .ok (.astore_n 3, 1) := by decide +kernel
theorem dX3_copyFrom_41 : decode cX3_copyFrom 41 = .ok (.iload_n 2, 1) := by decide +kernel
theorem dX3_copyFrom_42 : decode cX3_copyFrom 42 = .ok (.aload_n 0, 1) := by decide +kernel
theorem dX3_copyFrom_43 : decode cX3_copyFrom 43 = .ok (.getfield 12, 3) := by decide +kernel
theorem dX3_copyFrom_49 : decode cX3_copyFrom 49 = .ok (.if_icmp .ge 21, 3) := by decide +kernel
theorem dX3_copyFrom_70 : decode cX3_copyFrom 70 = .ok (.aload_n 0, 1) := by decide +kernel
theorem dX3_copyFrom_71 : decode cX3_copyFrom 71 = .ok (.getfield 12, 3) := by decide +kernel
theorem dX3_copyFrom_74 : decode cX3_copyFrom 74 = .ok (.new 33, 3) := by decide +kernel
theorem dX3_copyFrom_77 : decode cX3_copyFrom 77 = .ok (.dup, 1) := by decide +kernel
theorem dX3_copyFrom_78 : decode cX3_copyFrom 78 = .ok (.aload_n 3, 1) := by decide +kernel
theorem dX3_copyFrom_85 : decode cX3_copyFrom 85 = .ok (.pop, 1) := by decide +kernel
theorem dX3_copyFrom_86 : decode cX3_copyFrom 86 = .ok (.iinc 2 1, 3) := by decide +kernel
theorem dX3_copyFrom_89 : decode cX3_copyFrom 89 = .ok (.goto (-71), 3) := by decide +kernel
theorem dX3_copyFrom_82 : decode cX3_copyFrom 82 = .ok (.invokevirtual 41, 3) := by decide +kernel
theorem dX3_copyFrom_79 : decode cX3_copyFrom 79 = .ok (.invokespecial 39, 3) := by decide +kernel
theorem dX3_copyFrom_52 : decode cX3_copyFrom 52 = .ok (.aload_n 0, 1) := by decide +kernel
theorem dX3_copyFrom_53 : decode cX3_copyFrom 53 = .ok (.getfield 12, 3) := by decide +kernel
theorem dX3_copyFrom_56 : decode cX3_copyFrom 56 = .ok (.iload_n 2, 1) := by decide +kernel
theorem dX3_copyFrom_60 : decode cX3_copyFrom 60 = .ok (.checkcast 33, 3) := by decide +kernel
theorem dX3_copyFrom_63 : decode cX3_copyFrom 63 = .ok (.aload_n 3, 1) := by decide +kernel
theorem dX3_copyFrom_67 : decode cX3_copyFrom 67 = .ok (.goto 19, 3) := by decide +kernel
theorem dX3_copyFrom_64 : decode cX3_copyFrom 64 = .ok (.invokevirtual 35, 3) := by decide +kernel
theorem dX3_copyFrom_57 : decode cX3_copyFrom 57 = .ok (.invokevirtual 29, 3) := by decide +kernel
theorem dX3_copyFrom_46 : decode cX3_copyFrom 46 = .ok (.invokevirtual 25, 3) := by decide +kernel
theorem dX3_copyFrom_34 : decode cX3_copyFrom 34 = .ok (.invokevirtual 29, 3) := by decide +kernel
theorem dX3_copyFrom_23 : decode cX3_copyFrom 23 = .ok (.invokevirtual 25, 3) := by decide +kernel
def v_X3_copyFrom (zE : Nat) (a0 : Nat) (a1 : Nat) (T : zT) (F : zF) (Post : zT → zF → Prop) : Prop :=
  (T a1 = some (4, 3) ∧ ∃ x3 : Int32, F a1 2 = .int x3 ∧ T a0 = some (4, 3) ∧ ∃ x6 : Nat, (zu F a0 2 (.int x3)) a1 1 = .ref x6 ∧ (∃ I8 : Nat → Int32 → zT → zF → Prop, (∃ n10 : Nat, n10 ≤ 16 ∧ I8 n10 0 T (zu (zu F a0 2 (.int x3)) a0 1 (.ref x6))) ∧ (∀ (n9 : Nat) (y11 : Int32) (T12 : zT) (F13 : zF), n9 ≤ 16 → I8 n9 y11 T12 F13 → (T12 a1 = some (4, 3) ∧ ∃ x18 : Nat, F13 a1 0 = .ref x18 ∧ T12 x18 = some (0, 3) ∧ (v_Jx4a65c_size_8abf5 x18 T12 F13 (fun (r20 : Int32) => ((r20 ≤ y11 → Post T12 F13) ∧ (¬ r20 ≤ y11 → (v_Jx4a65c_get_915e3 x18 y11 T12 F13 (fun (r21 : Nat) => (T12 r21 = some (2, 12) ∧ T12 a0 = some (4, 3) ∧ ∃ x25 : Nat, F13 a0 0 = .ref x25 ∧ T12 x25 = some (0, 3) ∧ (v_Jx4a65c_size_8abf5 x25 T12 F13 (fun (r27 : Int32) => ((r27 ≤ y11 → (∀ q28 : Nat, (∀ b, q28 ≤ b → T12 b = none) → (v_X1_init_ q28 r21 (zn T12 q28 (2, 12)) (zm F13 q28 (fun j => defaultValue (tyX1 j))) (fun (F30 : zF) => (zn T12 q28 (2, 12) x25 = some (0, 3) ∧ (v_Jx4a65c_add_9ea2d zE x25 q28 (zn T12 q28 (2, 12)) F30 (fun (r32 : Int32) (T33 : zT) (F34 : zF) => (∃ n35 : Nat, n35 < n9 ∧ I8 n35 (y11 + 1) T33 F34)))))))) ∧ (¬ r27 ≤ y11 → (v_Jx4a65c_get_915e3 x25 y11 T12 F13 (fun (r42 : Nat) => (T12 r42 = some (2, 12) ∧ (v_X1_setTo r42 r21 T12 F13 (fun (F44 : zF) => (∃ n45 : Nat, n45 < n9 ∧ I8 n45 (y11 + 1) T12 F44)))))))))))))))))))))
set_option maxRecDepth 100000 in
set_option maxHeartbeats 4000000 in
theorem k_X3_copyFrom {l : Launch} {D : va_G} {cA : Nat → ClassId} {N0 zE : Nat} {a0 : Nat} {a1 : Nat} {T : zT} {F : zF} {Post : zT → zF → Prop} (h : v_X3_copyFrom zE a0 a1 T F Post) : z_Mt l D cA N0 zE yX3_copyFrom cX3_copyFrom 4 none ({ frames := 7, cells := 51, slots := 1054, locals := 163 } : Room) [.ref a0, .ref a1] T F (fun v T' F' => v = none ∧ Post T' F') := by
  unfold v_X3_copyFrom at h
  refine z_bodyT (by decide) (Nat.le_of_ble_eq_true rfl) ?_
  intro p e s m args below meth c C hnm
  have C : z_C p l s m args meth c RX3 cX3_copyFrom 4 none D cA N0 zE := C
  show z_w p l e ({ frames := 7, cells := 51, slots := 1054, locals := 163 } : Room) s m args below meth c D cA N0 4 0 0 (MQ below (z_Qc D cA N0 (fun v T' F' => v = none ∧ Post T' F')) args s 51 1054 (fun q => N0 ≤ q)) 0 [(0, .ref a0), (1, .ref a1)] [] T F
  refine zr_aload_n C 0 dX3_copyFrom_0 rfl rfl ?_
  refine zr_aload_n C 1 dX3_copyFrom_1 rfl rfl ?_
  obtain ⟨hT1, x3, hv2, h⟩ := h
  refine zr_get C fl_X3_21 hT1 hv2 dX3_copyFrom_2 ?_
  obtain ⟨hT4, h⟩ := h
  refine zr_put C fl_X3_21 hT4 rfl rfl dX3_copyFrom_5 ?_
  refine zr_aload_n C 0 dX3_copyFrom_8 rfl rfl ?_
  refine zr_aload_n C 1 dX3_copyFrom_9 rfl rfl ?_
  obtain ⟨x6, hv5, h⟩ := h
  refine zr_get C fl_X3_18 hT1 hv5 dX3_copyFrom_10 ?_
  refine zr_put C fl_X3_18 hT4 rfl rfl dX3_copyFrom_13 ?_
  refine zr_iconst C 0 dX3_copyFrom_16 (by decide) ?_
  refine zr_istore_n C [(2, .int 0), (0, .ref a0), (1, .ref a1)] dX3_copyFrom_17 rfl (by decide) rfl ?_
  obtain ⟨I8, ⟨n10, hb15, h062⟩, hI61⟩ := h
  have ky63 : ∀ (n9 : Nat) (y11 : Int32) (T12 : zT) (F13 : zF), n9 ≤ 16 → I8 n9 y11 T12 F13 → z_w p l e ({ frames := 7, cells := 51, slots := 1054, locals := 163 } : Room) s m args below meth c D cA N0 4 (0 + (16 - n9) * 3) (0 + (16 - n9) * 62) (MQ below (z_Qc D cA N0 (fun v T' F' => v = none ∧ Post T' F')) args s 51 1054 (fun q => N0 ≤ q)) 18 [(0, .ref a0), (1, .ref a1), (2, .int y11)] [] T12 F13 := by
    intro n9
    induction n9 using Nat.strongRecOn with
    | _ n9 ih14 =>
      intro y11 T12 F13 hb15 hin
      have h := hI61 n9 y11 T12 F13 hb15 hin
      refine zr_iload_n C 2 dX3_copyFrom_18 rfl rfl ?_
      refine zr_aload_n C 1 dX3_copyFrom_19 rfl rfl ?_
      obtain ⟨hT16, x18, hv17, h⟩ := h
      refine zr_get C fl_X3_12 hT16 hv17 dX3_copyFrom_20 ?_
      obtain ⟨hT19, h⟩ := h
      refine zr_callV (As := []) (r := (RJx4a65c, TJx4a65c, 3)) C (k_Jx4a65c_size_8abf5 h) ok_X3_25 zq_112 zq_113 hT19 (by decide) rfl rfl ⟨by decide, (Nat.le_of_ble_eq_true rfl)⟩ ⟨(by show 0 + (16 - n9) * 3 + 0 ≤ 51; omega), (by show 0 + (16 - n9) * 62 + 0 ≤ 1054; omega)⟩ (Nat.le_of_ble_eq_true rfl) dX3_copyFrom_23 (fun v58 U59 G60 hq => ?_)
      clear h
      · obtain ⟨r20, rfl, rfl, rfl, h⟩ := hq
        obtain ⟨h1, h2⟩ := h
        refine zr_icmp_ge C 92 dX3_copyFrom_26 (by decide) (fun hc => ?_) (fun hc => ?_)
        · have h := h1 hc
          clear h1 h2
          exact zr_vret C rfl ⟨rfl, h⟩ (by show 0 + (16 - n9) * 3 + 0 ≤ 51; omega) (by show 0 + (16 - n9) * 62 + 0 ≤ 1054; omega) dX3_copyFrom_92
        · have h := h2 hc
          clear h1 h2
          refine zr_aload_n C 1 dX3_copyFrom_29 rfl rfl ?_
          refine zr_get C fl_X3_12 hT16 hv17 dX3_copyFrom_30 ?_
          refine zr_iload_n C 2 dX3_copyFrom_33 rfl rfl ?_
          refine zr_callV (As := [.int y11]) (r := (RJx4a65c, TJx4a65c, 3)) C (k_Jx4a65c_get_915e3 h) ok_X3_29 zq_290 zq_291 hT19 (by decide) rfl rfl ⟨by decide, (Nat.le_of_ble_eq_true rfl)⟩ ⟨(by show 0 + (16 - n9) * 3 + 0 + 0 ≤ 51; omega), (by show 0 + (16 - n9) * 62 + 0 + 0 ≤ 1054; omega)⟩ (Nat.le_of_ble_eq_true rfl) dX3_copyFrom_34 (fun v55 U56 G57 hq => ?_)
          clear h
          · obtain ⟨r21, rfl, rfl, rfl, h⟩ := hq
            obtain ⟨hT22, h⟩ := h
            refine zr_castS (r := (RX1, TX1, 12)) C hT22 (by decide) rfl zq_402 dX3_copyFrom_37 ?_
            refine zr_astore_n C [(3, .ref r21), (0, .ref a0), (1, .ref a1), (2, .int y11)] dX3_copyFrom_40 rfl (by decide) rfl ?_
            refine zr_iload_n C 3 dX3_copyFrom_41 rfl rfl ?_
            refine zr_aload_n C 1 dX3_copyFrom_42 rfl rfl ?_
            obtain ⟨hT23, x25, hv24, h⟩ := h
            refine zr_get C fl_X3_12 hT23 hv24 dX3_copyFrom_43 ?_
            obtain ⟨hT26, h⟩ := h
            refine zr_callV (As := []) (r := (RJx4a65c, TJx4a65c, 3)) C (k_Jx4a65c_size_8abf5 h) ok_X3_25 zq_112 zq_113 hT26 (by decide) rfl rfl ⟨by decide, (Nat.le_of_ble_eq_true rfl)⟩ ⟨(by show 0 + (16 - n9) * 3 + 0 + 0 + 0 ≤ 51; omega), (by show 0 + (16 - n9) * 62 + 0 + 0 + 0 ≤ 1054; omega)⟩ (Nat.le_of_ble_eq_true rfl) dX3_copyFrom_46 (fun v52 U53 G54 hq => ?_)
            clear h
            · obtain ⟨r27, rfl, rfl, rfl, h⟩ := hq
              obtain ⟨h1, h2⟩ := h
              refine zr_icmp_ge C 70 dX3_copyFrom_49 (by decide) (fun hc => ?_) (fun hc => ?_)
              · have h := h1 hc
                clear h1 h2
                refine zr_aload_n C 1 dX3_copyFrom_70 rfl rfl ?_
                refine zr_get C fl_X3_12 hT23 hv24 dX3_copyFrom_71 ?_
                refine zr_new C nw_X3_33 (by show 0 + (16 - n9) * 3 + 0 + 0 + 0 + 1 ≤ 51; omega) (by show 0 + (16 - n9) * 62 + 0 + 0 + 0 + 12 ≤ 1054; omega) dX3_copyFrom_74 (fun q28 hq29 => ?_)
                have h := h q28 hq29
                refine zr_dup C dX3_copyFrom_77 rfl ?_
                refine zr_aload_n C 0 dX3_copyFrom_78 rfl rfl ?_
                refine zr_callI (As := [.ref r21]) C (k_X1_init_ h) ok_X3_39 zq_564 rfl rfl ⟨by decide, (Nat.le_of_ble_eq_true rfl)⟩ ⟨(by show 0 + (16 - n9) * 3 + 0 + 0 + 0 + 1 + 0 ≤ 51; omega), (by show 0 + (16 - n9) * 62 + 0 + 0 + 0 + 12 + 0 ≤ 1054; omega)⟩ (Nat.le_of_ble_eq_true rfl) dX3_copyFrom_79 (fun v39 U40 G41 hq => ?_)
                clear h
                · obtain ⟨rfl, rfl, h⟩ := hq
                  obtain ⟨hT31, h⟩ := h
                  refine zr_callV (As := [.ref q28]) (r := (RJx4a65c, TJx4a65c, 3)) C (k_Jx4a65c_add_9ea2d h) ok_X3_41 zq_210 zq_211 hT31 (by decide) rfl rfl ⟨by decide, (Nat.le_of_ble_eq_true rfl)⟩ ⟨(by show 0 + (16 - n9) * 3 + 0 + 0 + 0 + 1 + 0 + 2 ≤ 51; omega), (by show 0 + (16 - n9) * 62 + 0 + 0 + 0 + 12 + 0 + 50 ≤ 1054; omega)⟩ (Nat.le_of_ble_eq_true rfl) dX3_copyFrom_82 (fun v36 U37 G38 hq => ?_)
                  clear h
                  · obtain ⟨r32, rfl, h⟩ := hq
                    skip
                    refine zr_pop C dX3_copyFrom_85 rfl ?_
                    refine zr_iinc C [(2, .int (y11 + 1)), (3, .ref r21), (0, .ref a0), (1, .ref a1)] 3 dX3_copyFrom_86 rfl rfl (by decide) rfl ?_
                    refine zr_goto C 18 dX3_copyFrom_89 (by decide) ?_
                    obtain ⟨n35, hlt, h⟩ := h
                    exact zr_widen (by show 0 + (16 - n9) * 3 + 0 + 0 + 0 + 1 + 0 + 2 ≤ 0 + (16 - n35) * 3; omega) (by show 0 + (16 - n9) * 62 + 0 + 0 + 0 + 12 + 0 + 50 ≤ 0 + (16 - n35) * 62; omega) (zr_sub [2, 3, 0] rfl (ih14 n35 hlt (y11 + 1) U37 G38 (by omega) h))
              · have h := h2 hc
                clear h1 h2
                refine zr_aload_n C 1 dX3_copyFrom_52 rfl rfl ?_
                refine zr_get C fl_X3_12 hT23 hv24 dX3_copyFrom_53 ?_
                refine zr_iload_n C 3 dX3_copyFrom_56 rfl rfl ?_
                refine zr_callV (As := [.int y11]) (r := (RJx4a65c, TJx4a65c, 3)) C (k_Jx4a65c_get_915e3 h) ok_X3_29 zq_290 zq_291 hT26 (by decide) rfl rfl ⟨by decide, (Nat.le_of_ble_eq_true rfl)⟩ ⟨(by show 0 + (16 - n9) * 3 + 0 + 0 + 0 + 0 ≤ 51; omega), (by show 0 + (16 - n9) * 62 + 0 + 0 + 0 + 0 ≤ 1054; omega)⟩ (Nat.le_of_ble_eq_true rfl) dX3_copyFrom_57 (fun v49 U50 G51 hq => ?_)
                clear h
                · obtain ⟨r42, rfl, rfl, rfl, h⟩ := hq
                  obtain ⟨hT43, h⟩ := h
                  refine zr_castS (r := (RX1, TX1, 12)) C hT43 (by decide) rfl zq_402 dX3_copyFrom_60 ?_
                  refine zr_aload_n C 0 dX3_copyFrom_63 rfl rfl ?_
                  refine zr_callVN (As := [.ref r21]) (r := (RX1, TX1, 12)) C (k_X1_setTo h) ok_X3_35 zq_560 zq_12 hT43 (by decide) rfl rfl ⟨by decide, (Nat.le_of_ble_eq_true rfl)⟩ ⟨(by show 0 + (16 - n9) * 3 + 0 + 0 + 0 + 0 + 0 ≤ 51; omega), (by show 0 + (16 - n9) * 62 + 0 + 0 + 0 + 0 + 0 ≤ 1054; omega)⟩ (Nat.le_of_ble_eq_true rfl) dX3_copyFrom_64 (fun v46 U47 G48 hq => ?_)
                  clear h
                  · obtain ⟨rfl, rfl, h⟩ := hq
                    refine zr_goto C 86 dX3_copyFrom_67 (by decide) ?_
                    refine zr_iinc C [(2, .int (y11 + 1)), (3, .ref r21), (0, .ref a0), (1, .ref a1)] 3 dX3_copyFrom_86 rfl rfl (by decide) rfl ?_
                    refine zr_goto C 18 dX3_copyFrom_89 (by decide) ?_
                    obtain ⟨n45, hlt, h⟩ := h
                    exact zr_widen (by show 0 + (16 - n9) * 3 + 0 + 0 + 0 + 0 + 0 ≤ 0 + (16 - n45) * 3; omega) (by show 0 + (16 - n9) * 62 + 0 + 0 + 0 + 0 + 0 ≤ 0 + (16 - n45) * 62; omega) (zr_sub [2, 3, 0] rfl (ih14 n45 hlt (y11 + 1) T12 G48 (by omega) h))
  exact zr_widen (by show 0 ≤ 0 + (16 - n10) * 3; omega) (by show 0 ≤ 0 + (16 - n10) * 62; omega) (zr_sub [1, 2, 0] rfl (ky63 n10 0 T (zu (zu F a0 2 (.int x3)) a0 1 (.ref x6)) hb15 h062))
end
