section
-- ===== PART A: goes FIRST, ahead of the names: the tables' words, and 'selects' of the private methods out of them =====
/-- a private method of a class that the tables say can be made, by its rows of tables_1 -/
def lw_okq (q : MethodName × Nat) : Prop := (q.1.cls ≠ "java/lang/invoke/MethodHandle" ∧ q.1.cls ≠ "java/lang/invoke/VarHandle") ∧ Cond.instantiable q.1.cls q.2 ∈ tables_1 ∧ Cond.privateMethod q.1 ∈ tables_1 ∧ Cond.instanceMethod q.1 ∈ tables_1
theorem lw_p0 : lw_okq (⟨"java/lang/Throwable", "fillInStackTrace", "(I)Ljava/lang/Throwable;"⟩, 6) := ⟨⟨by decide +kernel, by decide +kernel⟩, List.mem_of_getElem? (i := 198) (by decide +kernel), List.mem_of_getElem? (i := 196) (by decide +kernel), List.mem_of_getElem? (i := 197) (by decide +kernel)⟩
theorem lw_p1 : lw_okq (⟨"BrandRoom", "assetAt", "(I)LBrandRoom$Asset;"⟩, 4) := ⟨⟨by decide +kernel, by decide +kernel⟩, List.mem_of_getElem? (i := 34) (by decide +kernel), List.mem_of_getElem? (i := 232) (by decide +kernel), List.mem_of_getElem? (i := 233) (by decide +kernel)⟩
theorem lw_p2 : lw_okq (⟨"BrandRoom", "addPiece", "(JI)J"⟩, 4) := ⟨⟨by decide +kernel, by decide +kernel⟩, List.mem_of_getElem? (i := 34) (by decide +kernel), List.mem_of_getElem? (i := 262) (by decide +kernel), List.mem_of_getElem? (i := 263) (by decide +kernel)⟩
theorem lw_p3 : lw_okq (⟨"BrandRoom", "pieceAt", "(I)LBrandRoom$Piece;"⟩, 4) := ⟨⟨by decide +kernel, by decide +kernel⟩, List.mem_of_getElem? (i := 34) (by decide +kernel), List.mem_of_getElem? (i := 270) (by decide +kernel), List.mem_of_getElem? (i := 271) (by decide +kernel)⟩
theorem lw_p4 : lw_okq (⟨"BrandRoom", "addBooking", "(JI)J"⟩, 4) := ⟨⟨by decide +kernel, by decide +kernel⟩, List.mem_of_getElem? (i := 34) (by decide +kernel), List.mem_of_getElem? (i := 338) (by decide +kernel), List.mem_of_getElem? (i := 339) (by decide +kernel)⟩
theorem lw_p5 : lw_okq (⟨"BrandRoom", "bookingAt", "(I)LBrandRoom$Booking;"⟩, 4) := ⟨⟨by decide +kernel, by decide +kernel⟩, List.mem_of_getElem? (i := 34) (by decide +kernel), List.mem_of_getElem? (i := 346) (by decide +kernel), List.mem_of_getElem? (i := 347) (by decide +kernel)⟩
theorem lw_p6 : lw_okq (⟨"BrandRoom$Plan", "isUsedIn", "(ILBrandRoom$Piece;)Z"⟩, 3) := ⟨⟨by decide +kernel, by decide +kernel⟩, List.mem_of_getElem? (i := 71) (by decide +kernel), List.mem_of_getElem? (i := 369) (by decide +kernel), List.mem_of_getElem? (i := 370) (by decide +kernel)⟩
theorem lw_p7 : lw_okq (⟨"BrandRoom", "groupsReached", "(I)I"⟩, 4) := ⟨⟨by decide +kernel, by decide +kernel⟩, List.mem_of_getElem? (i := 34) (by decide +kernel), List.mem_of_getElem? (i := 382) (by decide +kernel), List.mem_of_getElem? (i := 383) (by decide +kernel)⟩
theorem lw_p8 : lw_okq (⟨"BrandRoom", "groupsOf", "(II)I"⟩, 4) := ⟨⟨by decide +kernel, by decide +kernel⟩, List.mem_of_getElem? (i := 34) (by decide +kernel), List.mem_of_getElem? (i := 386) (by decide +kernel), List.mem_of_getElem? (i := 387) (by decide +kernel)⟩
theorem lw_p9 : lw_okq (⟨"BrandRoom$Booking", "setTo", "(LBrandRoom$Booking;)V"⟩, 12) := ⟨⟨by decide +kernel, by decide +kernel⟩, List.mem_of_getElem? (i := 410) (by decide +kernel), List.mem_of_getElem? (i := 408) (by decide +kernel), List.mem_of_getElem? (i := 409) (by decide +kernel)⟩
theorem lw_p10 : lw_okq (⟨"java/util/ArrayList", "add", "(Ljava/lang/Object;[Ljava/lang/Object;I)V"⟩, 3) := ⟨⟨by decide +kernel, by decide +kernel⟩, List.mem_of_getElem? (i := 42) (by decide +kernel), List.mem_of_getElem? (i := 478) (by decide +kernel), List.mem_of_getElem? (i := 479) (by decide +kernel)⟩
theorem lw_p11 : lw_okq (⟨"java/util/ArrayList", "grow", "()[Ljava/lang/Object;"⟩, 3) := ⟨⟨by decide +kernel, by decide +kernel⟩, List.mem_of_getElem? (i := 42) (by decide +kernel), List.mem_of_getElem? (i := 482) (by decide +kernel), List.mem_of_getElem? (i := 483) (by decide +kernel)⟩
theorem lw_p12 : lw_okq (⟨"java/util/ArrayList", "grow", "(I)[Ljava/lang/Object;"⟩, 3) := ⟨⟨by decide +kernel, by decide +kernel⟩, List.mem_of_getElem? (i := 42) (by decide +kernel), List.mem_of_getElem? (i := 486) (by decide +kernel), List.mem_of_getElem? (i := 487) (by decide +kernel)⟩
theorem lw_p13 : lw_okq (⟨"BrandRoom$Plan", "settle", "(LBrandRoom$Booking;LBrandRoom$Piece;)V"⟩, 3) := ⟨⟨by decide +kernel, by decide +kernel⟩, List.mem_of_getElem? (i := 71) (by decide +kernel), List.mem_of_getElem? (i := 549) (by decide +kernel), List.mem_of_getElem? (i := 550) (by decide +kernel)⟩
theorem lw_p14 : lw_okq (⟨"BrandRoom$Asset", "hasLast", "()Z"⟩, 5) := ⟨⟨by decide +kernel, by decide +kernel⟩, List.mem_of_getElem? (i := 609) (by decide +kernel), List.mem_of_getElem? (i := 663) (by decide +kernel), List.mem_of_getElem? (i := 664) (by decide +kernel)⟩
theorem lw_p15 : lw_okq (⟨"BrandRoom", "needOffer", "(III)V"⟩, 4) := ⟨⟨by decide +kernel, by decide +kernel⟩, List.mem_of_getElem? (i := 34) (by decide +kernel), List.mem_of_getElem? (i := 789) (by decide +kernel), List.mem_of_getElem? (i := 790) (by decide +kernel)⟩
def lw_privs_1 : List (MethodName × Nat) := [(⟨"java/lang/Throwable", "fillInStackTrace", "(I)Ljava/lang/Throwable;"⟩, 6), (⟨"BrandRoom", "assetAt", "(I)LBrandRoom$Asset;"⟩, 4), (⟨"BrandRoom", "addPiece", "(JI)J"⟩, 4), (⟨"BrandRoom", "pieceAt", "(I)LBrandRoom$Piece;"⟩, 4), (⟨"BrandRoom", "addBooking", "(JI)J"⟩, 4), (⟨"BrandRoom", "bookingAt", "(I)LBrandRoom$Booking;"⟩, 4), (⟨"BrandRoom$Plan", "isUsedIn", "(ILBrandRoom$Piece;)Z"⟩, 3), (⟨"BrandRoom", "groupsReached", "(I)I"⟩, 4), (⟨"BrandRoom", "groupsOf", "(II)I"⟩, 4), (⟨"BrandRoom$Booking", "setTo", "(LBrandRoom$Booking;)V"⟩, 12), (⟨"java/util/ArrayList", "add", "(Ljava/lang/Object;[Ljava/lang/Object;I)V"⟩, 3), (⟨"java/util/ArrayList", "grow", "()[Ljava/lang/Object;"⟩, 3), (⟨"java/util/ArrayList", "grow", "(I)[Ljava/lang/Object;"⟩, 3), (⟨"BrandRoom$Plan", "settle", "(LBrandRoom$Booking;LBrandRoom$Piece;)V"⟩, 3), (⟨"BrandRoom$Asset", "hasLast", "()Z"⟩, 5), (⟨"BrandRoom", "needOffer", "(III)V"⟩, 4)]
theorem lw_r1 : ∀ q ∈ lw_privs_1, lw_okq q := List.forall_mem_cons.mpr ⟨lw_p0, List.forall_mem_cons.mpr ⟨lw_p1, List.forall_mem_cons.mpr ⟨lw_p2, List.forall_mem_cons.mpr ⟨lw_p3, List.forall_mem_cons.mpr ⟨lw_p4, List.forall_mem_cons.mpr ⟨lw_p5, List.forall_mem_cons.mpr ⟨lw_p6, List.forall_mem_cons.mpr ⟨lw_p7, List.forall_mem_cons.mpr ⟨lw_p8, List.forall_mem_cons.mpr ⟨lw_p9, List.forall_mem_cons.mpr ⟨lw_p10, List.forall_mem_cons.mpr ⟨lw_p11, List.forall_mem_cons.mpr ⟨lw_p12, List.forall_mem_cons.mpr ⟨lw_p13, List.forall_mem_cons.mpr ⟨lw_p14, List.forall_mem_cons.mpr ⟨lw_p15, fun _ h => absurd h List.not_mem_nil⟩⟩⟩⟩⟩⟩⟩⟩⟩⟩⟩⟩⟩⟩⟩⟩
theorem lw_p16 : lw_okq (⟨"BrandRoomModel", "refuse", "(I)I"⟩, 6) := ⟨⟨by decide +kernel, by decide +kernel⟩, List.mem_of_getElem? (i := 895) (by decide +kernel), List.mem_of_getElem? (i := 954) (by decide +kernel), List.mem_of_getElem? (i := 955) (by decide +kernel)⟩
theorem lw_p17 : lw_okq (⟨"BrandRoomModel", "isAsset", "(I)Z"⟩, 6) := ⟨⟨by decide +kernel, by decide +kernel⟩, List.mem_of_getElem? (i := 895) (by decide +kernel), List.mem_of_getElem? (i := 988) (by decide +kernel), List.mem_of_getElem? (i := 989) (by decide +kernel)⟩
theorem lw_p18 : lw_okq (⟨"BrandRoomModel", "isPiece", "(I)Z"⟩, 6) := ⟨⟨by decide +kernel, by decide +kernel⟩, List.mem_of_getElem? (i := 895) (by decide +kernel), List.mem_of_getElem? (i := 1096) (by decide +kernel), List.mem_of_getElem? (i := 1097) (by decide +kernel)⟩
theorem lw_p19 : lw_okq (⟨"BrandRoomModel", "ofPieceNow", "(II)I"⟩, 6) := ⟨⟨by decide +kernel, by decide +kernel⟩, List.mem_of_getElem? (i := 895) (by decide +kernel), List.mem_of_getElem? (i := 1246) (by decide +kernel), List.mem_of_getElem? (i := 1247) (by decide +kernel)⟩
theorem lw_p20 : lw_okq (⟨"BrandRoomModel", "isSpan", "(III)Z"⟩, 6) := ⟨⟨by decide +kernel, by decide +kernel⟩, List.mem_of_getElem? (i := 895) (by decide +kernel), List.mem_of_getElem? (i := 1312) (by decide +kernel), List.mem_of_getElem? (i := 1313) (by decide +kernel)⟩
theorem lw_p21 : lw_okq (⟨"BrandRoomModel", "priceOf", "(III)I"⟩, 6) := ⟨⟨by decide +kernel, by decide +kernel⟩, List.mem_of_getElem? (i := 895) (by decide +kernel), List.mem_of_getElem? (i := 1317) (by decide +kernel), List.mem_of_getElem? (i := 1318) (by decide +kernel)⟩
theorem lw_p22 : lw_okq (⟨"BrandRoomModel", "isBooking", "(I)Z"⟩, 6) := ⟨⟨by decide +kernel, by decide +kernel⟩, List.mem_of_getElem? (i := 895) (by decide +kernel), List.mem_of_getElem? (i := 1404) (by decide +kernel), List.mem_of_getElem? (i := 1405) (by decide +kernel)⟩
theorem lw_p23 : lw_okq (⟨"BrandRoomModel$Book", "mend", "(LBrandRoomModel$Booking;)V"⟩, 3) := ⟨⟨by decide +kernel, by decide +kernel⟩, List.mem_of_getElem? (i := 904) (by decide +kernel), List.mem_of_getElem? (i := 1448) (by decide +kernel), List.mem_of_getElem? (i := 1449) (by decide +kernel)⟩
theorem lw_p24 : lw_okq (⟨"BrandRoomModel", "atNow", "(III)I"⟩, 6) := ⟨⟨by decide +kernel, by decide +kernel⟩, List.mem_of_getElem? (i := 895) (by decide +kernel), List.mem_of_getElem? (i := 1465) (by decide +kernel), List.mem_of_getElem? (i := 1466) (by decide +kernel)⟩
theorem lw_p25 : lw_okq (⟨"BrandRoomModel", "manyNow", "(I)I"⟩, 6) := ⟨⟨by decide +kernel, by decide +kernel⟩, List.mem_of_getElem? (i := 895) (by decide +kernel), List.mem_of_getElem? (i := 1473) (by decide +kernel), List.mem_of_getElem? (i := 1474) (by decide +kernel)⟩
theorem lw_p26 : lw_okq (⟨"BrandRoomModel", "reachNow", "(ILBrandRoomModel$Booking;)I"⟩, 6) := ⟨⟨by decide +kernel, by decide +kernel⟩, List.mem_of_getElem? (i := 895) (by decide +kernel), List.mem_of_getElem? (i := 1497) (by decide +kernel), List.mem_of_getElem? (i := 1498) (by decide +kernel)⟩
theorem lw_p27 : lw_okq (⟨"BrandRoomModel", "offInNow", "(LBrandRoomModel$Booking;)I"⟩, 6) := ⟨⟨by decide +kernel, by decide +kernel⟩, List.mem_of_getElem? (i := 895) (by decide +kernel), List.mem_of_getElem? (i := 1515) (by decide +kernel), List.mem_of_getElem? (i := 1516) (by decide +kernel)⟩
theorem lw_p28 : lw_okq (⟨"BrandRoomModel", "lostInNow", "(I)I"⟩, 6) := ⟨⟨by decide +kernel, by decide +kernel⟩, List.mem_of_getElem? (i := 895) (by decide +kernel), List.mem_of_getElem? (i := 1523) (by decide +kernel), List.mem_of_getElem? (i := 1524) (by decide +kernel)⟩
theorem lw_p29 : lw_okq (⟨"BrandRoomModel", "add", "(I)V"⟩, 6) := ⟨⟨by decide +kernel, by decide +kernel⟩, List.mem_of_getElem? (i := 895) (by decide +kernel), List.mem_of_getElem? (i := 1549) (by decide +kernel), List.mem_of_getElem? (i := 1550) (by decide +kernel)⟩
def lw_privs_2 : List (MethodName × Nat) := [(⟨"BrandRoomModel", "refuse", "(I)I"⟩, 6), (⟨"BrandRoomModel", "isAsset", "(I)Z"⟩, 6), (⟨"BrandRoomModel", "isPiece", "(I)Z"⟩, 6), (⟨"BrandRoomModel", "ofPieceNow", "(II)I"⟩, 6), (⟨"BrandRoomModel", "isSpan", "(III)Z"⟩, 6), (⟨"BrandRoomModel", "priceOf", "(III)I"⟩, 6), (⟨"BrandRoomModel", "isBooking", "(I)Z"⟩, 6), (⟨"BrandRoomModel$Book", "mend", "(LBrandRoomModel$Booking;)V"⟩, 3), (⟨"BrandRoomModel", "atNow", "(III)I"⟩, 6), (⟨"BrandRoomModel", "manyNow", "(I)I"⟩, 6), (⟨"BrandRoomModel", "reachNow", "(ILBrandRoomModel$Booking;)I"⟩, 6), (⟨"BrandRoomModel", "offInNow", "(LBrandRoomModel$Booking;)I"⟩, 6), (⟨"BrandRoomModel", "lostInNow", "(I)I"⟩, 6), (⟨"BrandRoomModel", "add", "(I)V"⟩, 6)]
theorem lw_r2 : ∀ q ∈ lw_privs_2, lw_okq q := List.forall_mem_cons.mpr ⟨lw_p16, List.forall_mem_cons.mpr ⟨lw_p17, List.forall_mem_cons.mpr ⟨lw_p18, List.forall_mem_cons.mpr ⟨lw_p19, List.forall_mem_cons.mpr ⟨lw_p20, List.forall_mem_cons.mpr ⟨lw_p21, List.forall_mem_cons.mpr ⟨lw_p22, List.forall_mem_cons.mpr ⟨lw_p23, List.forall_mem_cons.mpr ⟨lw_p24, List.forall_mem_cons.mpr ⟨lw_p25, List.forall_mem_cons.mpr ⟨lw_p26, List.forall_mem_cons.mpr ⟨lw_p27, List.forall_mem_cons.mpr ⟨lw_p28, List.forall_mem_cons.mpr ⟨lw_p29, fun _ h => absurd h List.not_mem_nil⟩⟩⟩⟩⟩⟩⟩⟩⟩⟩⟩⟩⟩⟩
def lw_privs : List (MethodName × Nat) := lw_privs_1 ++ (lw_privs_2)
def lw_tbl : List Cond := k2_sels lw_privs ++ tables_1
theorem lw_privs_ok : ∀ q ∈ lw_privs, lw_okq q := by
  show ∀ q ∈ lw_privs_1 ++ (lw_privs_2), lw_okq q
  exact List.forall_mem_append.mpr ⟨lw_r1, lw_r2⟩
/-- the streams that the claim lets the run draw from -/
abbrev lw_cs : List Choice := [Jvm.Choice.named "NaN.bits"]
theorem lw_bits : nanBits ∈ lw_cs := by first | decide | exact List.mem_cons_self | simp [lw_cs, nanBits]
end
section
/-! ===== BEGIN words of one list among another's, by their places ===== -/
theorem goodIn_r {big : List Cond} (ws : List Cond) (ps : List Nat) (hp : ws = ps.filterMap (fun i => big[i]?)) (h : ws.all goodWord = true) : GoodIn big ws := by
  intro w hw
  have h1 := List.all_eq_true.mp h w hw
  rw [hp] at hw
  obtain ⟨i, -, hi⟩ := List.mem_filterMap.mp hw
  have hm : w ∈ big := by first | exact List.mem_of_getElem? hi | exact List.getElem?_mem hi
  exact ⟨hm, good_of_word h1⟩
theorem goodIn_app {big a b : List Cond} (ha : GoodIn big a) (hb : GoodIn big b) : GoodIn big (a ++ b) := fun w h => (List.mem_append.mp h).elim (ha w) (hb w)
theorem goodIn_ca {big a b : List Cond} {c : Cond} (ha : GoodIn big (c :: a)) (hb : GoodIn big b) : GoodIn big (c :: (a ++ b)) := fun w h => (List.mem_cons.mp h).elim (fun e => ha w (List.mem_cons.mpr (Or.inl e))) (fun h => (List.mem_append.mp h).elim (fun h => ha w (List.mem_cons.mpr (Or.inr h))) (hb w))
theorem goodIn_sub {big ws : List Cond} (hm : ∀ w ∈ ws, w ∈ big) (h : ws.all goodWord = true) : GoodIn big ws := fun w hw => ⟨hm w hw, good_of_word (List.all_eq_true.mp h w hw)⟩
/-! ===== END ===== -/


/-! ===== BEGIN exceptions that leave a method, and their catching by the caller (launches without stack traces) ===== -/
section VXA
/-! The laws vx_back, vx_callV, vx_callS, vx_callSW, vx_throw0, vx_throwS follow proofs of the library, with one case more: JvmDerived/Free/Laws.lean (Back.of_free), Shelf42/LK1.lean (callV, callS), Shelf/KitTraced.lean (throwNew0V, throwNewS). -/
/-- where a method has thrown q: the class by its name, the cell, what was written, the world -/
def vx_T (XC : String → State → State → Prop) (st : State) (q : Addr) (t : State) (mc ms : Nat) (free : Addr → Prop) : Prop :=
  ∃ (E : String) (ce : Cell) (L : List Loc), XC E st t ∧ t.heap[q]? = some ce ∧ ce.vm = .none ∧ st.vm.findClass E = some ce.cls ∧ st.WarmedH t.vm ∧ st.sameButNew ({ t with vm := st.vm } : State) L mc ms ∧ ∀ z ∈ L, free z.base
def vx_Q (Qc : Array Value → State → Outcome → State → Prop) (XC : String → State → State → Prop) (mc ms : Nat) (free : Addr → Prop) : Array Value → State → Outcome → State → Prop := fun a st o t =>
  (Qc a st o t ∧ ∃ L, FrameEnd st o t L mc ms ∧ ∀ q ∈ L, free q.base) ∨ ∃ q, o = .threw q ∧ vx_T XC st q t mc ms free
/-- a callee that returns or throws -/
def vx_Met (l : Launch) (y : MethodName) (ws : List Cond) (rm : Room) (Pc : Array Value → State → Prop) (Qc : Array Value → State → Outcome → State → Prop) (XC : String → State → State → Prop) (mc ms : Nat) (free : Addr → Prop) : Prop :=
  MetFree l y (headSpec ws rm) Pc (fun _ _ _ _ _ => True) (vx_Q Qc XC mc ms free)
def vx_Post (XC : String → State → State → Prop) (mc ms : Nat) (free : Addr → Prop) : Pt → Array Value → Addr → Pt → Prop := fun A a q B =>
  ∃ (g : JFrame) (mk : MethodId) (t : State) (L : List Loc) (E : String) (ce : Cell), B.U.heap = t.heap ∧ B.U.vm = t.vm ∧ XC E (A.U.calling g mk a) t ∧ t.heap[q]? = some ce ∧ ce.vm = .none ∧ A.U.vm.findClass E = some ce.cls ∧ B.locs = A.locs ++ L ∧ (∀ z ∈ L, free z.base) ∧ B.cells = A.cells + mc ∧ B.slots = A.slots + ms
def vx_Back (l : Launch) (R : Room) (p : Program) (e : Env) (below : List Frame) (s : State) (sargs : Array Value) (y : MethodName) (len W9 : Nat)
    (Pre : Pt → Array Value → Prop) (Post : Pt → Array Value → Option Value → Pt → Prop) (PostX : Pt → Array Value → Addr → Pt → Prop) : Prop :=
  ∀ (m : MethodId) (meth : Method) (c : Code) (A : Pt) (g : JFrame) (ig : Instr) (mk : MethodId) (a : Array Value),
    Stand p l e R s m sargs below meth c A.U A.locs A.cells A.slots → g.method = m → g.locals.size = c.maxLocals → decode c.code g.pc = .ok (ig, len) →
    2 * g.monitorRoom + (g.stack.map fun v => v.category).sum ≤ W9 → A.U.methodNamed? y = some mk → Pre A a →
    (∃ (v : Option Value) (B : Pt), Stand p l e R s m sargs below meth c B.U B.locs B.cells B.slots ∧ Post A a v B ∧
      Steps p.tables e below (doInvoke e (A.U.setTop g) [] mk a).1 (B.U.setTop { g with pc := g.pc + len, stack := v.toList ++ g.stack })) ∨
    (∃ (q : Addr) (B : Pt), Stand p l e R s m sargs below meth c B.U B.locs B.cells B.slots ∧ PostX A a q B ∧
      Steps p.tables e below (doInvoke e (A.U.setTop g) [] mk a).1 ((B.U.setTop g).pushFrame (.throwing q)))
section Payer
variable {l : Launch} {R : Room} {p : Program} {e : Env} {below : List Frame} {s : State} {sargs : Array Value} {y : MethodName} {len W9 : Nat}
theorem vx_back {ws : List Cond} {rm : Room} {Pc : Array Value → State → Prop} {Qc : Array Value → State → Outcome → State → Prop} {XC : String → State → State → Prop} {mc ms : Nat} {free : Addr → Prop} {bytes : ByteArray} {maxL : Nat} {ret : Option FieldType}
    (hM : vx_Met l y ws rm Pc Qc XC mc ms free) (hblind : FrameBlind Pc) (hrc : rm.cells = mc) (hrs : rm.slots = ms)
    (hframes : rm.frames + 1 ≤ R.frames) (hlocals : W9 + (maxL + 11) + rm.locals ≤ R.locals)
    (hws : ∀ w ∈ ws, ∀ a' U, s.WarmedH U.vm → w.before a' U = true) (hcode : Cond.code y bytes maxL ret ∈ ws) (hinit : ∀ a' U, s.WarmedH U.vm → (Cond.initialized y.cls).before a' U = true) :
    vx_Back l R p e below s sargs y len W9 (PreOf R mc ms Pc) (PostOf Qc mc ms free) (vx_Post XC mc ms free) := by
  intro m meth c A g ig mk a X hg hsize hdg hW hn hp
  have h1 : (headSpec ws rm).pre.before a A.U = true := atoms_intro fun w hw => hws w hw _ _ X.warmed
  have h2 : (Cond.code y bytes maxL ret).before a A.U = true := hws _ hcode _ _ X.warmed
  have h3 : (Cond.initialized y.cls).before a A.U = true := hinit _ _ X.warmed
  have h4 : A.cells + (headSpec ws rm).room.cells ≤ R.cells := by rw [show (headSpec ws rm).room.cells = mc from hrc]; exact hp.1
  have h5 : A.slots + (headSpec ws rm).room.slots ≤ R.slots := by rw [show (headSpec ws rm).room.slots = ms from hrs]; exact hp.2.1
  have hPc : Pc a (A.U.calling g mk a) := hblind _ _ _ _ hp.2.2
  obtain ⟨U, Ls, c0, s0⟩ := A
  dsimp only [Pt.U, Pt.locs, Pt.cells, Pt.slots] at h1 h2 h3 h4 h5 X hn hPc ⊢
  obtain ⟨methY, cY, hmY, hcY, -, hlY, -, -, -, -⟩ := Cond.code_spec hn h2
  obtain ⟨kY, hkY, -⟩ := className_of_methodNamed hn
  have hinitY : kY.init = .initialized := Cond.initialized_spec (findClass_of_methodNamed hn) hkY h3
  have h : At U g.method c below := by rw [hg]; exact X.here
  have hlocals9 : W9 + (maxL + 11) + (headSpec ws rm).room.locals ≤ R.locals := hlocals
  have happ : (headSpec ws rm).appliesLoose y e.platform (U.calling g mk a) = true :=
    Spec.appliesLoose_calling (g := g) h hdg hn hkY hinitY
      (X.room_calling (g := g) (R' := (headSpec ws rm).room) hsize hmY hcY hframes (by rw [hlY]; omega) h4 h5) h1
  obtain ⟨mid, hmid⟩ := h.above
  have hfr : (U.setTop g).frames = (.java g :: mid) ++ below := by rw [State.frames_setTop' g h.top, hmid]; rfl
  obtain ⟨o, s₂, hsteps, -, hend, hq⟩ := Steps.callFree hM p X.admits X.cas X.clock (acts := []) hfr happ hPc trivial
  have hq' : vx_Q Qc XC mc ms free a (U.calling g mk a) o s₂ := hq
  rw [State.frames_setTop' g h.top] at hend
  obtain ⟨g₀, hg0⟩ := Option.isSome_iff_exists.mp h.top
  obtain ⟨r, hr⟩ := State.topJava?_eq_some.mp hg0
  have hr' : (({ U with heap := s₂.heap, slotsUsed := s₂.slotsUsed } : State).setVm s₂.vm).frames = .java g₀ :: r := hr
  rcases hq' with ⟨hqc, L, hfe, hL⟩ | ⟨q, rfl, E, ce, L, hx, hce, hcv, hcl, hW₂, hsm, hL⟩
  · obtain ⟨⟨v, rfl⟩, hW₂, e2, q2, q3, q4, q5, q6⟩ := id hfe
    have e3 : s₂ = ({ (U.calling g mk a).setFrames s₂.frames with heap := s₂.heap, slotsUsed := s₂.slotsUsed } : State).setVm s₂.vm := by
      have : s₂ = ({ s₂ with vm := (U.calling g mk a).vm } : State).setVm s₂.vm := rfl
      rw [e2] at this
      exact this
    obtain ⟨c₂, i₂, len₂, hc₂, hd₂, hf₂⟩ := hend
    have hW' : U.WarmedH s₂.vm := hW₂
    have hcc : c₂ = c := by
      have h1 : s₂.code? g.method = U.code? g.method := by
        rw [State.code?_eq, State.code?_eq, hW'.alike.method?]
      exact Option.some.inj (hc₂.symm.trans (h1.trans h.code))
    subst hcc
    have hlen : len₂ = len := by rw [hdg] at hd₂; cases hd₂; rfl
    subst hlen
    have hs₂ : s₂ = (({ U with heap := s₂.heap, slotsUsed := s₂.slotsUsed } : State).setVm s₂.vm).setTop { g with pc := g.pc + len₂, stack := v.toList ++ g.stack } := by
      refine e3.trans ?_
      rw [hf₂, State.calling_eq h.top, State.setFrames_setFrames, State.setTop_of_frames _ hr', hr]
      rfl
    have hsame : U.sameButNew ({ U with heap := s₂.heap, slotsUsed := s₂.slotsUsed } : State) L mc ms := by
      refine ⟨?_, q2, q3, q4, q5, q6⟩
      obtain ⟨t, ht, -⟩ := State.frames_cons hr
      show ({ U with heap := s₂.heap, slotsUsed := s₂.slotsUsed } : State) = { U.setFrames U.frames with heap := s₂.heap, slotsUsed := s₂.slotsUsed }
      rw [State.setFrames_self ht]
    subst hg
    refine Or.inl ⟨v, ⟨(({ U with heap := s₂.heap, slotsUsed := s₂.slotsUsed } : State).setVm s₂.vm), Ls ++ L, c0 + mc, s0 + ms⟩,
      ⟨X.admits, X.cas, X.clock, X.frames, X.room, X.hears, X.method, X.code, (X.here.setHeapUsed s₂.heap s₂.slotsUsed).setVm hW'.alike, X.tail, State.WarmedH.trans X.warmed hW', X.limits, X.bytes, X.same.trans (hsame.setVm s.vm)⟩,
      ⟨g, mk, s₂, L, rfl, rfl, hqc, rfl, hL, rfl, rfl⟩, ?_⟩
    show Steps p.tables e below _ ((({ U with heap := s₂.heap, slotsUsed := s₂.slotsUsed } : State).setVm s₂.vm).setTop { g with pc := g.pc + len₂, stack := v.toList ++ g.stack })
    rw [← hs₂]
    exact hsteps
  · obtain ⟨e2, q2, q3, q4, q5, q6⟩ := id hsm
    have e3 : s₂ = ({ (U.calling g mk a).setFrames s₂.frames with heap := s₂.heap, slotsUsed := s₂.slotsUsed } : State).setVm s₂.vm := by
      have : s₂ = ({ s₂ with vm := (U.calling g mk a).vm } : State).setVm s₂.vm := rfl
      rw [e2] at this
      exact this
    have hf₂ : s₂.frames = .throwing q :: .java g :: U.frames.tail := hend
    have hW' : U.WarmedH s₂.vm := hW₂
    have hs₂ : s₂ = ((({ U with heap := s₂.heap, slotsUsed := s₂.slotsUsed } : State).setVm s₂.vm).setTop g).pushFrame (.throwing q) := by
      refine e3.trans ?_
      rw [hf₂, State.calling_eq h.top, State.setFrames_setFrames, State.pushFrame, State.frames_setTop _ hr', State.setTop_of_frames _ hr', State.setFrames_setFrames, hr]
      rfl
    have hsame : U.sameButNew ({ U with heap := s₂.heap, slotsUsed := s₂.slotsUsed } : State) L mc ms := by
      refine ⟨?_, q2, q3, q4, q5, q6⟩
      obtain ⟨t, ht, -⟩ := State.frames_cons hr
      show ({ U with heap := s₂.heap, slotsUsed := s₂.slotsUsed } : State) = { U.setFrames U.frames with heap := s₂.heap, slotsUsed := s₂.slotsUsed }
      rw [State.setFrames_self ht]
    subst hg
    refine Or.inr ⟨q, ⟨(({ U with heap := s₂.heap, slotsUsed := s₂.slotsUsed } : State).setVm s₂.vm), Ls ++ L, c0 + mc, s0 + ms⟩,
      ⟨X.admits, X.cas, X.clock, X.frames, X.room, X.hears, X.method, X.code, (X.here.setHeapUsed s₂.heap s₂.slotsUsed).setVm hW'.alike, X.tail, State.WarmedH.trans X.warmed hW', X.limits, X.bytes, X.same.trans (hsame.setVm s.vm)⟩,
      ⟨g, mk, s₂, L, E, ce, rfl, rfl, hx, hce, hcv, hcl, rfl, hL, rfl, rfl⟩, ?_⟩
    show Steps p.tables e below _ (((({ U with heap := s₂.heap, slotsUsed := s₂.slotsUsed } : State).setVm s₂.vm).setTop g).pushFrame (.throwing q))
    rw [← hs₂]
    exact hsteps
end Payer
section Calls
variable {p : Program} {l : Launch} {e : Env} {R : Room} {s : State} {m : MethodId} {args : Array Value} {below : List Frame} {meth : Method} {c : Code} {T : State} {locs : List Loc} {cells slots : Nat}
theorem vx_callV (X : Stand p l e R s m args below meth c T locs cells slots) (hexec : p.tables.exec = Jvm.exec) {own C : String} {index : Nat} {y : MethodName} {bytes : ByteArray} {maxL : Nat} {ret : Option FieldType}
    (hown : s.vm.findClass own = some m.cls) (hlink : (Cond.methodLink own index y).before args s = true) (hinst : (Cond.instanceMethod y).before args s = true) (hsel : (Cond.selects C y y).before args s = true)
    (hcode : (Cond.code y bytes maxL ret).before args s = true) (hy : y.cls ≠ "java/lang/invoke/MethodHandle" ∧ y.cls ≠ "java/lang/invoke/VarHandle")
    {W9 : Nat} {Pre : Pt → Array Value → Prop} {Post : Pt → Array Value → Option Value → Pt → Prop} {PostX : Pt → Array Value → Addr → Pt → Prop} (hK : vx_Back l R p e below s args y 3 W9 Pre Post PostX)
    {b : Addr} {cellB : Cell} (hcell : T.heap[b]? = some cellB) (hobj : cellB.vm.isStatics = false) (hcls : s.vm.findClass C = some cellB.cls)
    {g : JFrame} (hg : g.method = m) (hsize : g.locals.size = c.maxLocals) {argsL rest : List Value} (hlen : ∀ sig, parseMethodDescriptor y.desc = some sig → argsL.length = sig.parameters.length)
    (hstack : g.stack = argsL.reverse ++ .ref b :: rest) (hW : 2 * g.monitorRoom + (rest.map fun v => v.category).sum ≤ W9) (hdg : decode c.code g.pc = .ok (.invokevirtual index, 3))
    (hpre : ∀ vm₁, s.WarmedH vm₁ → Pre ⟨T.setVm vm₁, locs, cells, slots⟩ (Value.ref b :: argsL).toArray) :
    (∃ (v : Option Value) (vm₁ : Vm) (B : Pt), s.WarmedH vm₁ ∧ Stand p l e R s m args below meth c B.U B.locs B.cells B.slots ∧ Post ⟨T.setVm vm₁, locs, cells, slots⟩ (Value.ref b :: argsL).toArray v B ∧
      ∀ target, Steps p.tables e below (B.U.setTop { g with pc := g.pc + 3, stack := v.toList ++ rest }) target → Steps p.tables e below (T.setTop g) target) ∨
    (∃ (q : Addr) (vm₁ : Vm) (B : Pt), s.WarmedH vm₁ ∧ Stand p l e R s m args below meth c B.U B.locs B.cells B.slots ∧ PostX ⟨T.setVm vm₁, locs, cells, slots⟩ (Value.ref b :: argsL).toArray q B ∧
      Steps p.tables e below (T.setTop g) ((B.U.setTop { g with stack := rest }).pushFrame (.throwing q))) := by
  obtain ⟨mk, methM, hnamed, hmethM, hstM, habM⟩ := Cond.instanceMethod_spec hinst
  obtain ⟨methM', cM, hmethM', -, -, -, -, -, -, hsigM⟩ := Cond.code_spec hnamed hcode
  cases hmethM.symm.trans hmethM'
  obtain ⟨c2, r2, m2, q1, q2, q3, q4, kP, hkP, hkPi⟩ := Cond.selects_spec hsel
  cases hcls.symm.trans q1
  cases (State.methodFound?_of_named hnamed hy).symm.trans q2
  cases hnamed.symm.trans q3
  have hselP : selectMethod e.platform s.vm cellB.cls mk = .method mk := by rw [Launch.admits_selectMethod X.admits]; exact q4
  obtain ⟨vm₁, X₁, hstep₁⟩ := X.invokevirtual hexec hown hlink hnamed hmethM hstM hkP hkPi hy (a := b) (cell := cellB) hcell
    (fun z h => by rw [h] at hobj; cases hobj) hselP hmethM habM hkP hkPi (g := g) hg (argsL := argsL) (rest := rest) (hlen _ hsigM) hstack hdg
  rcases hK m meth c ⟨T.setVm vm₁, locs, cells, slots⟩ { g with stack := rest } (.invokevirtual index) mk (Value.ref b :: argsL).toArray X₁ hg hsize hdg hW (X₁.named hnamed) (hpre vm₁ X₁.warmed) with ⟨v, B, X', hpost, hsteps⟩ | ⟨q, B, X', hpost, hsteps⟩
  · exact Or.inl ⟨v, vm₁, B, X₁.warmed, X', hpost, fun target h => hstep₁ _ fun acts => by rw [doInvoke_state]; exact hsteps.trans h⟩
  · exact Or.inr ⟨q, vm₁, B, X₁.warmed, X', hpost, hstep₁ _ fun acts => by rw [doInvoke_state]; exact hsteps⟩
theorem vx_callS (X : Stand p l e R s m args below meth c T locs cells slots) (hexec : p.tables.exec = Jvm.exec) {own : String} {index : Nat} {y : MethodName} {bytes : ByteArray} {maxL : Nat} {ret : Option FieldType}
    (hown : s.vm.findClass own = some m.cls) (hlink : (Cond.methodLink own index y).before args s = true) (hstat : (Cond.static y).before args s = true) (hinit : (Cond.initialized y.cls).before args s = true)
    (hcode : (Cond.code y bytes maxL ret).before args s = true) (hy : y.cls ≠ "java/lang/invoke/MethodHandle" ∧ y.cls ≠ "java/lang/invoke/VarHandle")
    {W9 : Nat} {Pre : Pt → Array Value → Prop} {Post : Pt → Array Value → Option Value → Pt → Prop} {PostX : Pt → Array Value → Addr → Pt → Prop} (hK : vx_Back l R p e below s args y 3 W9 Pre Post PostX)
    {g : JFrame} (hg : g.method = m) (hsize : g.locals.size = c.maxLocals) {argsL rest : List Value} (hlen : ∀ sig, parseMethodDescriptor y.desc = some sig → argsL.length = sig.parameters.length)
    (hstack : g.stack = argsL.reverse ++ rest) (hW : 2 * g.monitorRoom + (rest.map fun v => v.category).sum ≤ W9) (hdg : decode c.code g.pc = .ok (.invokestatic index, 3))
    (hpre : ∀ vm₁, s.WarmedH vm₁ → Pre ⟨T.setVm vm₁, locs, cells, slots⟩ argsL.toArray) :
    (∃ (v : Option Value) (vm₁ : Vm) (B : Pt), s.WarmedH vm₁ ∧ Stand p l e R s m args below meth c B.U B.locs B.cells B.slots ∧ Post ⟨T.setVm vm₁, locs, cells, slots⟩ argsL.toArray v B ∧
      ∀ target, Steps p.tables e below (B.U.setTop { g with pc := g.pc + 3, stack := v.toList ++ rest }) target → Steps p.tables e below (T.setTop g) target) ∨
    (∃ (q : Addr) (vm₁ : Vm) (B : Pt), s.WarmedH vm₁ ∧ Stand p l e R s m args below meth c B.U B.locs B.cells B.slots ∧ PostX ⟨T.setVm vm₁, locs, cells, slots⟩ argsL.toArray q B ∧
      Steps p.tables e below (T.setTop g) ((B.U.setTop { g with stack := rest }).pushFrame (.throwing q))) := by
  obtain ⟨mk, hnamed⟩ := Cond.code_named hcode
  obtain ⟨methM, cM, hmethM, -, -, -, -, -, -, hsigM⟩ := Cond.code_spec hnamed hcode
  have hstatic : methM.isStatic = true := Cond.static_spec hnamed hmethM hstat
  obtain ⟨kP, hkP, -⟩ := className_of_methodNamed hnamed
  have hinitP : kP.init = .initialized := Cond.initialized_spec (findClass_of_methodNamed hnamed) hkP hinit
  obtain ⟨vm₁, X₁, hstep₁⟩ := X.invokestatic hexec hown hlink hnamed hmethM hstatic hkP hinitP hy (g := g) hg (argsL := argsL) (rest := rest) (hlen _ hsigM) hstack hdg
  rcases hK m meth c ⟨T.setVm vm₁, locs, cells, slots⟩ { g with stack := rest } (.invokestatic index) mk argsL.toArray X₁ hg hsize hdg hW (X₁.named hnamed) (hpre vm₁ X₁.warmed) with ⟨v, B, X', hpost, hsteps⟩ | ⟨q, B, X', hpost, hsteps⟩
  · exact Or.inl ⟨v, vm₁, B, X₁.warmed, X', hpost, fun target h => hstep₁ _ fun acts => by rw [doInvoke_state]; exact hsteps.trans h⟩
  · exact Or.inr ⟨q, vm₁, B, X₁.warmed, X', hpost, hstep₁ _ fun acts => by rw [doInvoke_state]; exact hsteps⟩
end Calls
theorem vx_cls {s : State} {T : State} {vm₁ : Vm} {E : String} {k : ClassId} (hW : s.WarmedH vm₁) (h : (T.setVm vm₁).vm.findClass E = some k) : s.vm.findClass E = some k := by
  have h1 : vm₁.findClass E = some k := h
  rw [hW.alike.findClass] at h1
  exact h1
/-- the method's frame g, with q thrown over it -/
def vx_W (p : Program) (l : Launch) (e : Env) (R : Room) (s : State) (m : MethodId) (args : Array Value) (below : List Frame) (meth : Method) (c : Code) (H : Heap) (locs : List Loc) (cells slots : Nat) (Q : State → Prop) (g : JFrame) (q : Addr) : Prop :=
  ∀ T : State, T.heap = H → Stand p l e R s m args below meth c T locs cells slots → ∃ t, Steps p.tables e below ((T.setTop g).pushFrame (.throwing q)) t ∧ Q t
def vx_Run (p : Program) (l : Launch) (e : Env) (R : Room) (s : State) (m : MethodId) (args : Array Value) (below : List Frame) (meth : Method) (c : Code) (H : Heap) (locs : List Loc) (cells slots mc ms : Nat) (g : JFrame) (rest : List Value) (Qa : State → Outcome → State → Prop) (XC : String → State → State → Prop) (free : Addr → Prop) : Prop :=
  ∀ T : State, T.heap = H → Stand p l e R s m args below meth c T locs cells slots →
    (∃ (v : Option Value) (st₀ t T' : State) (L : List Loc), st₀.heap = H ∧ Stand p l e R s m args below meth c T' (locs ++ L) (cells + mc) (slots + ms) ∧ (∀ q ∈ L, free q.base) ∧ T'.heap = t.heap ∧ T'.vm = t.vm ∧ Qa st₀ (.returned v) t ∧
      Goes p e below T g T' { g with pc := g.pc + 3, stack := v.toList ++ rest }) ∨
    (∃ (q : Addr) (st₀ t T' : State) (L : List Loc) (E : String) (ce : Cell), st₀.heap = H ∧ Stand p l e R s m args below meth c T' (locs ++ L) (cells + mc) (slots + ms) ∧ (∀ z ∈ L, free z.base) ∧ T'.heap = t.heap ∧ T'.vm = t.vm ∧ XC E st₀ t ∧ t.heap[q]? = some ce ∧ ce.vm = .none ∧ s.vm.findClass E = some ce.cls ∧
      Steps p.tables e below (T.setTop g) ((T'.setTop { g with stack := rest }).pushFrame (.throwing q)))
def vx_X {S : Type} (px : S → Prop) (B : String → S → State → Prop) (A : Nat → Prop) : String → State → State → Prop := fun E st t => ∃ u : S, px u ∧ B E u t ∧ va_F A st t
section Runs
variable {p : Program} {l : Launch} {e : Env} {R : Room} {s : State} {m : MethodId} {args : Array Value} {below : List Frame} {meth : Method} {c : Code} {H : Heap} {locs : List Loc} {cells slots : Nat}
variable {y : MethodName} {bytes cc : ByteArray} {maxL nL mc ms n index : Nat} {ret : Option FieldType} {ws : List Cond} {rm : Room} {Pc : Array Value → State → Prop} {Qc : Array Value → State → Outcome → State → Prop} {XC : String → State → State → Prop} {free : Addr → Prop} {Ts : List Cond} {own C : String} {b : Addr} {As rest : List Value} {g : JFrame}
theorem vx_callBack (cb : CallB R s args own index y bytes maxL ret ws rm mc ms n) (hM : vx_Met l y ws rm Pc Qc XC mc ms free) (hbl : FrameBlind Pc) : vx_Back l R p e below s args y 3 8 (PreOf R mc ms Pc) (PostOf Qc mc ms free) (vx_Post XC mc ms free) := by
  obtain ⟨hrc, hrs, hfr, hlo, hws, hcw, -, hini, -⟩ := cb
  exact vx_back (bytes := bytes) (maxL := maxL) (ret := ret) hM hbl hrc hrs hfr hlo hws hcw (fun a' U hW => word_at hW (Or.inl (by first | rfl | simp [Cond.onTables, Cond.keeps, Cond.steady])) hini)
theorem vx_runV (S : CallFix p m c cc nL s args Ts own) (hM : vx_Met l y ws rm Pc Qc XC mc ms free) (cw : CallW R s args own C index y bytes maxL ret ws rm mc ms n) (hp : PreV s H C b Pc As)
    (hg : g.method = m) (hn : As.length = n) (hsize : g.locals.size = nL) (hstack : g.stack = As.reverse ++ .ref b :: rest) (hW : 2 * g.monitorRoom + (rest.map fun v => v.category).sum ≤ 8) (hdg : decode cc g.pc = .ok (.invokevirtual index, 3)) (hf : cells + mc ≤ R.cells ∧ slots + ms ≤ R.slots) :
    vx_Run p l e R s m args below meth c H locs cells slots mc ms g rest (Qc (Value.ref b :: As).toArray) XC free := by
  have hK : vx_Back l R p e below s args y 3 8 (PreOf R mc ms Pc) (PostOf Qc mc ms free) (vx_Post XC mc ms free) := vx_callBack cw.1 hM hp.1
  obtain ⟨⟨-, -, -, -, -, -, hcode, -, hy, hlen, hl⟩, hin, hse⟩ := cw
  obtain ⟨hx, hb, hml, ho, -⟩ := S
  obtain ⟨-, ⟨cellB, hcB, hoB, hclB⟩, hPc⟩ := hp
  intro T hT X
  rcases vx_callV X hx (C := C) (bytes := bytes) (maxL := maxL) (ret := ret) ho hl hin hse hcode hy hK (by rw [hT]; exact hcB) hoB hclB hg (hsize.trans hml.symm) (argsL := As) (rest := rest) (fun sig h => hn.trans (hlen sig h)) hstack hW (by rw [hb]; exact hdg)
    (fun vm₁ hW₁ => ⟨hf.1, hf.2, hPc (T.setVm vm₁) hT hW₁⟩) with ⟨v, vm₁, ⟨U', l2, c2, s2⟩, hW₁, X', ⟨g', mk, t, L, e1, e2, hq, h1, hL, h2, h3⟩, st⟩ | ⟨q, vm₁, ⟨U', l2, c2, s2⟩, hW₁, X', ⟨g', mk, t, L, E, ce, e1, e2, hq, hce, hcv, hcl, h1, hL, h2, h3⟩, st⟩
  · dsimp only [Pt.U, Pt.locs, Pt.cells, Pt.slots] at X' e1 e2 h1 h2 h3 st
    subst h1; subst h2; subst h3
    exact Or.inl ⟨v, (T.setVm vm₁).calling g' mk (Value.ref b :: As).toArray, t, U', L, hT, X', hL, e1, e2, hq, st⟩
  · dsimp only [Pt.U, Pt.locs, Pt.cells, Pt.slots] at X' e1 e2 h1 h2 h3 st hcl
    subst h1; subst h2; subst h3
    exact Or.inr ⟨q, (T.setVm vm₁).calling g' mk (Value.ref b :: As).toArray, t, U', L, E, ce, hT, X', hL, e1, e2, hq, hce, hcv, vx_cls hW₁ hcl, st⟩
theorem vx_runS (S : CallFix p m c cc nL s args Ts own) (hM : vx_Met l y ws rm Pc Qc XC mc ms free) (cw : CallB R s args own index y bytes maxL ret ws rm mc ms n ∧ (Cond.static y).before args s = true) (hp : PreS s H Pc As)
    (hg : g.method = m) (hn : As.length = n) (hsize : g.locals.size = nL) (hstack : g.stack = As.reverse ++ rest) (hW : 2 * g.monitorRoom + (rest.map fun v => v.category).sum ≤ 8) (hdg : decode cc g.pc = .ok (.invokestatic index, 3)) (hf : cells + mc ≤ R.cells ∧ slots + ms ≤ R.slots) :
    vx_Run p l e R s m args below meth c H locs cells slots mc ms g rest (Qc As.toArray) XC free := by
  have hK : vx_Back l R p e below s args y 3 8 (PreOf R mc ms Pc) (PostOf Qc mc ms free) (vx_Post XC mc ms free) := vx_callBack cw.1 hM hp.1
  obtain ⟨⟨-, -, -, -, -, -, hcode, hini, hy, hlen, hl⟩, hstt⟩ := cw
  obtain ⟨hx, hb, hml, ho, -⟩ := S
  intro T hT X
  rcases vx_callS X hx (bytes := bytes) (maxL := maxL) (ret := ret) ho hl hstt hini hcode hy hK hg (hsize.trans hml.symm) (argsL := As) (rest := rest) (fun sig h => hn.trans (hlen sig h)) hstack hW (by rw [hb]; exact hdg)
    (fun vm₁ hW₁ => ⟨hf.1, hf.2, hp.2 (T.setVm vm₁) hT hW₁⟩) with ⟨v, vm₁, ⟨U', l2, c2, s2⟩, hW₁, X', ⟨g', mk, t, L, e1, e2, hq, h1, hL, h2, h3⟩, st⟩ | ⟨q, vm₁, ⟨U', l2, c2, s2⟩, hW₁, X', ⟨g', mk, t, L, E, ce, e1, e2, hq, hce, hcv, hcl, h1, hL, h2, h3⟩, st⟩
  · dsimp only [Pt.U, Pt.locs, Pt.cells, Pt.slots] at X' e1 e2 h1 h2 h3 st
    subst h1; subst h2; subst h3
    exact Or.inl ⟨v, (T.setVm vm₁).calling g' mk As.toArray, t, U', L, hT, X', hL, e1, e2, hq, st⟩
  · dsimp only [Pt.U, Pt.locs, Pt.cells, Pt.slots] at X' e1 e2 h1 h2 h3 st hcl
    subst h1; subst h2; subst h3
    exact Or.inr ⟨q, (T.setVm vm₁).calling g' mk As.toArray, t, U', L, E, ce, hT, X', hL, e1, e2, hq, hce, hcv, vx_cls hW₁ hcl, st⟩
end Runs
section Rows
variable {p : Program} {l : Launch} {e : Env} {R : Room} {s : State} {m : MethodId} {args : Array Value} {below : List Frame} {meth : Method} {c : Code} {H : Heap} {locs : List Loc} {cells slots : Nat} {Q : State → Prop}
variable {mc ms : Nat} {free : Addr → Prop} {A0 A1 : Nat → Prop} {H0 : Heap} {a : Array Value} {pc : Nat} {ls : Array Slot} {st0 rest : List Value}
theorem vx_keep {st₀ t T' : State} {L : List Loc} (h0 : st₀.heap = H) (e1 : T'.heap = t.heap) (hS : va_S A0 H0 H locs) (hA : ∀ q, q < H.size → A1 q → A0 q) (hf : ∀ q, free q → A0 q) (hL : ∀ q ∈ L, free q.base) (hF : va_F A1 st₀ t) :
    H.size ≤ T'.heap.size ∧ (∀ q : Nat, q < H.size → ¬ A1 q → T'.heap[q]? = H[q]?) ∧ va_S A0 H0 T'.heap (locs ++ L) := by
  obtain ⟨hz, hk⟩ := hF
  rw [h0] at hz hk
  exact ⟨by rw [e1]; exact hz, fun q h1 h2 => by rw [e1]; exact hk q h1 h2,
    ⟨Nat.le_trans hS.1 (by rw [e1]; exact hz), fun q h1 h2 => by rw [e1, hk q (Nat.lt_of_lt_of_le h1 hS.1) (fun z => h2 (hA q (Nat.lt_of_lt_of_le h1 hS.1) z))]; exact hS.2.1 q h1 h2, fun q hq => by
      rcases List.mem_append.mp hq with h | h
      · exact hS.2.2 q h
      · exact hf _ (hL q h)⟩⟩
theorem vx_calli {S SX : Type} {post : Int32 → S → Prop} {px : SX → Prop} {B : S → State → Prop} {BX : String → SX → State → Prop} {AX : Nat → Prop} (hr : vx_Run p l e R s m args below meth c H locs cells slots mc ms (F0 m pc ls st0) rest (va_Qi post B A1 a) (vx_X px BX AX) free) (hS : va_S A0 H0 H locs) (hA : ∀ q, q < H.size → A1 q → A0 q) (hf : ∀ q, free q → A0 q) (hAX : ∀ q, q < H.size → AX q → A0 q)
    (kx : ∀ (E : String) (ce : Cell) (q9 : Addr) (u : SX) (t : State) (H1 : Heap) (locs1 : List Loc), t.heap = H1 → s.vm.Alike t.vm → px u → BX E u t → H.size ≤ H1.size → (∀ q : Nat, q < H.size → ¬ AX q → H1[q]? = H[q]?) → va_S A0 H0 H1 locs1 → H1[q9]? = some ce → ce.vm = .none → s.vm.findClass E = some ce.cls → vx_W p l e R s m args below meth c H1 locs1 (cells + mc) (slots + ms) Q (F0 m pc ls rest) q9)
    (kk : ∀ (r : Int32) (u : S) (t : State) (H1 : Heap) (locs1 : List Loc), t.heap = H1 → s.vm.Alike t.vm → post r u → B u t → H.size ≤ H1.size → (∀ q : Nat, q < H.size → ¬ A1 q → H1[q]? = H[q]?) → va_S A0 H0 H1 locs1 → W p l e R s m args below meth c H1 locs1 (cells + mc) (slots + ms) Q (F0 m (pc + 3) ls (.int r :: rest))) : W p l e R s m args below meth c H locs cells slots Q (F0 m pc ls st0) := by
  intro T hT X
  rcases hr T hT X with ⟨v, st₀, t, T', L, h0, X', hL, e1, e2, ⟨⟨r, u, hv, hp, hb⟩, hF⟩, st⟩ | ⟨q, st₀, t, T', L, E, ce, h0, X', hL, e1, e2, ⟨u, hp, hb, hF⟩, hce, hcv, hcl, st⟩
  · cases hv
    obtain ⟨k1, k2, k3⟩ := vx_keep h0 e1 hS hA hf hL hF
    obtain ⟨t2, a1, b1⟩ := kk r u t T'.heap (locs ++ L) e1.symm (by rw [← e2]; exact X'.warmed.alike) hp hb k1 k2 k3 T' rfl X'
    exact ⟨t2, st t2 a1, b1⟩
  · obtain ⟨k1, k2, k3⟩ := vx_keep h0 e1 hS hAX hf hL hF
    obtain ⟨t2, a1, b1⟩ := kx E ce q u t T'.heap (locs ++ L) e1.symm (by rw [← e2]; exact X'.warmed.alike) hp hb k1 k2 k3 (by rw [e1]; exact hce) hcv hcl T' rfl X'
    exact ⟨t2, st.trans a1, b1⟩
theorem vx_calll {S SX : Type} {post : Int64 → S → Prop} {px : SX → Prop} {B : S → State → Prop} {BX : String → SX → State → Prop} {AX : Nat → Prop} (hr : vx_Run p l e R s m args below meth c H locs cells slots mc ms (F0 m pc ls st0) rest (va_Ql post B A1 a) (vx_X px BX AX) free) (hS : va_S A0 H0 H locs) (hA : ∀ q, q < H.size → A1 q → A0 q) (hf : ∀ q, free q → A0 q) (hAX : ∀ q, q < H.size → AX q → A0 q)
    (kx : ∀ (E : String) (ce : Cell) (q9 : Addr) (u : SX) (t : State) (H1 : Heap) (locs1 : List Loc), t.heap = H1 → s.vm.Alike t.vm → px u → BX E u t → H.size ≤ H1.size → (∀ q : Nat, q < H.size → ¬ AX q → H1[q]? = H[q]?) → va_S A0 H0 H1 locs1 → H1[q9]? = some ce → ce.vm = .none → s.vm.findClass E = some ce.cls → vx_W p l e R s m args below meth c H1 locs1 (cells + mc) (slots + ms) Q (F0 m pc ls rest) q9)
    (kk : ∀ (r : Int64) (u : S) (t : State) (H1 : Heap) (locs1 : List Loc), t.heap = H1 → s.vm.Alike t.vm → post r u → B u t → H.size ≤ H1.size → (∀ q : Nat, q < H.size → ¬ A1 q → H1[q]? = H[q]?) → va_S A0 H0 H1 locs1 → W p l e R s m args below meth c H1 locs1 (cells + mc) (slots + ms) Q (F0 m (pc + 3) ls (.long r :: rest))) : W p l e R s m args below meth c H locs cells slots Q (F0 m pc ls st0) := by
  intro T hT X
  rcases hr T hT X with ⟨v, st₀, t, T', L, h0, X', hL, e1, e2, ⟨⟨r, u, hv, hp, hb⟩, hF⟩, st⟩ | ⟨q, st₀, t, T', L, E, ce, h0, X', hL, e1, e2, ⟨u, hp, hb, hF⟩, hce, hcv, hcl, st⟩
  · cases hv
    obtain ⟨k1, k2, k3⟩ := vx_keep h0 e1 hS hA hf hL hF
    obtain ⟨t2, a1, b1⟩ := kk r u t T'.heap (locs ++ L) e1.symm (by rw [← e2]; exact X'.warmed.alike) hp hb k1 k2 k3 T' rfl X'
    exact ⟨t2, st t2 a1, b1⟩
  · obtain ⟨k1, k2, k3⟩ := vx_keep h0 e1 hS hAX hf hL hF
    obtain ⟨t2, a1, b1⟩ := kx E ce q u t T'.heap (locs ++ L) e1.symm (by rw [← e2]; exact X'.warmed.alike) hp hb k1 k2 k3 (by rw [e1]; exact hce) hcv hcl T' rfl X'
    exact ⟨t2, st.trans a1, b1⟩
theorem vx_callf {S SX : Type} {post : UInt32 → S → Prop} {px : SX → Prop} {B : S → State → Prop} {BX : String → SX → State → Prop} {AX : Nat → Prop} (hr : vx_Run p l e R s m args below meth c H locs cells slots mc ms (F0 m pc ls st0) rest (va_Qf post B A1 a) (vx_X px BX AX) free) (hS : va_S A0 H0 H locs) (hA : ∀ q, q < H.size → A1 q → A0 q) (hf : ∀ q, free q → A0 q) (hAX : ∀ q, q < H.size → AX q → A0 q)
    (kx : ∀ (E : String) (ce : Cell) (q9 : Addr) (u : SX) (t : State) (H1 : Heap) (locs1 : List Loc), t.heap = H1 → s.vm.Alike t.vm → px u → BX E u t → H.size ≤ H1.size → (∀ q : Nat, q < H.size → ¬ AX q → H1[q]? = H[q]?) → va_S A0 H0 H1 locs1 → H1[q9]? = some ce → ce.vm = .none → s.vm.findClass E = some ce.cls → vx_W p l e R s m args below meth c H1 locs1 (cells + mc) (slots + ms) Q (F0 m pc ls rest) q9)
    (kk : ∀ (r : UInt32) (u : S) (t : State) (H1 : Heap) (locs1 : List Loc), t.heap = H1 → s.vm.Alike t.vm → post r u → B u t → H.size ≤ H1.size → (∀ q : Nat, q < H.size → ¬ A1 q → H1[q]? = H[q]?) → va_S A0 H0 H1 locs1 → W p l e R s m args below meth c H1 locs1 (cells + mc) (slots + ms) Q (F0 m (pc + 3) ls (.float r :: rest))) : W p l e R s m args below meth c H locs cells slots Q (F0 m pc ls st0) := by
  intro T hT X
  rcases hr T hT X with ⟨v, st₀, t, T', L, h0, X', hL, e1, e2, ⟨⟨r, u, hv, hp, hb⟩, hF⟩, st⟩ | ⟨q, st₀, t, T', L, E, ce, h0, X', hL, e1, e2, ⟨u, hp, hb, hF⟩, hce, hcv, hcl, st⟩
  · cases hv
    obtain ⟨k1, k2, k3⟩ := vx_keep h0 e1 hS hA hf hL hF
    obtain ⟨t2, a1, b1⟩ := kk r u t T'.heap (locs ++ L) e1.symm (by rw [← e2]; exact X'.warmed.alike) hp hb k1 k2 k3 T' rfl X'
    exact ⟨t2, st t2 a1, b1⟩
  · obtain ⟨k1, k2, k3⟩ := vx_keep h0 e1 hS hAX hf hL hF
    obtain ⟨t2, a1, b1⟩ := kx E ce q u t T'.heap (locs ++ L) e1.symm (by rw [← e2]; exact X'.warmed.alike) hp hb k1 k2 k3 (by rw [e1]; exact hce) hcv hcl T' rfl X'
    exact ⟨t2, st.trans a1, b1⟩
theorem vx_calld {S SX : Type} {post : UInt64 → S → Prop} {px : SX → Prop} {B : S → State → Prop} {BX : String → SX → State → Prop} {AX : Nat → Prop} (hr : vx_Run p l e R s m args below meth c H locs cells slots mc ms (F0 m pc ls st0) rest (va_Qd post B A1 a) (vx_X px BX AX) free) (hS : va_S A0 H0 H locs) (hA : ∀ q, q < H.size → A1 q → A0 q) (hf : ∀ q, free q → A0 q) (hAX : ∀ q, q < H.size → AX q → A0 q)
    (kx : ∀ (E : String) (ce : Cell) (q9 : Addr) (u : SX) (t : State) (H1 : Heap) (locs1 : List Loc), t.heap = H1 → s.vm.Alike t.vm → px u → BX E u t → H.size ≤ H1.size → (∀ q : Nat, q < H.size → ¬ AX q → H1[q]? = H[q]?) → va_S A0 H0 H1 locs1 → H1[q9]? = some ce → ce.vm = .none → s.vm.findClass E = some ce.cls → vx_W p l e R s m args below meth c H1 locs1 (cells + mc) (slots + ms) Q (F0 m pc ls rest) q9)
    (kk : ∀ (r : UInt64) (u : S) (t : State) (H1 : Heap) (locs1 : List Loc), t.heap = H1 → s.vm.Alike t.vm → post r u → B u t → H.size ≤ H1.size → (∀ q : Nat, q < H.size → ¬ A1 q → H1[q]? = H[q]?) → va_S A0 H0 H1 locs1 → W p l e R s m args below meth c H1 locs1 (cells + mc) (slots + ms) Q (F0 m (pc + 3) ls (.double r :: rest))) : W p l e R s m args below meth c H locs cells slots Q (F0 m pc ls st0) := by
  intro T hT X
  rcases hr T hT X with ⟨v, st₀, t, T', L, h0, X', hL, e1, e2, ⟨⟨r, u, hv, hp, hb⟩, hF⟩, st⟩ | ⟨q, st₀, t, T', L, E, ce, h0, X', hL, e1, e2, ⟨u, hp, hb, hF⟩, hce, hcv, hcl, st⟩
  · cases hv
    obtain ⟨k1, k2, k3⟩ := vx_keep h0 e1 hS hA hf hL hF
    obtain ⟨t2, a1, b1⟩ := kk r u t T'.heap (locs ++ L) e1.symm (by rw [← e2]; exact X'.warmed.alike) hp hb k1 k2 k3 T' rfl X'
    exact ⟨t2, st t2 a1, b1⟩
  · obtain ⟨k1, k2, k3⟩ := vx_keep h0 e1 hS hAX hf hL hF
    obtain ⟨t2, a1, b1⟩ := kx E ce q u t T'.heap (locs ++ L) e1.symm (by rw [← e2]; exact X'.warmed.alike) hp hb k1 k2 k3 (by rw [e1]; exact hce) hcv hcl T' rfl X'
    exact ⟨t2, st.trans a1, b1⟩
theorem vx_callv {S SX : Type} {post : S → Prop} {px : SX → Prop} {B : S → State → Prop} {BX : String → SX → State → Prop} {AX : Nat → Prop} (hr : vx_Run p l e R s m args below meth c H locs cells slots mc ms (F0 m pc ls st0) rest (va_Qv post B A1 a) (vx_X px BX AX) free) (hS : va_S A0 H0 H locs) (hA : ∀ q, q < H.size → A1 q → A0 q) (hf : ∀ q, free q → A0 q) (hAX : ∀ q, q < H.size → AX q → A0 q)
    (kx : ∀ (E : String) (ce : Cell) (q9 : Addr) (u : SX) (t : State) (H1 : Heap) (locs1 : List Loc), t.heap = H1 → s.vm.Alike t.vm → px u → BX E u t → H.size ≤ H1.size → (∀ q : Nat, q < H.size → ¬ AX q → H1[q]? = H[q]?) → va_S A0 H0 H1 locs1 → H1[q9]? = some ce → ce.vm = .none → s.vm.findClass E = some ce.cls → vx_W p l e R s m args below meth c H1 locs1 (cells + mc) (slots + ms) Q (F0 m pc ls rest) q9)
    (kk : ∀ (u : S) (t : State) (H1 : Heap) (locs1 : List Loc), t.heap = H1 → s.vm.Alike t.vm → post u → B u t → H.size ≤ H1.size → (∀ q : Nat, q < H.size → ¬ A1 q → H1[q]? = H[q]?) → va_S A0 H0 H1 locs1 → W p l e R s m args below meth c H1 locs1 (cells + mc) (slots + ms) Q (F0 m (pc + 3) ls (rest))) : W p l e R s m args below meth c H locs cells slots Q (F0 m pc ls st0) := by
  intro T hT X
  rcases hr T hT X with ⟨v, st₀, t, T', L, h0, X', hL, e1, e2, ⟨⟨u, hv, hp, hb⟩, hF⟩, st⟩ | ⟨q, st₀, t, T', L, E, ce, h0, X', hL, e1, e2, ⟨u, hp, hb, hF⟩, hce, hcv, hcl, st⟩
  · cases hv
    obtain ⟨k1, k2, k3⟩ := vx_keep h0 e1 hS hA hf hL hF
    obtain ⟨t2, a1, b1⟩ := kk u t T'.heap (locs ++ L) e1.symm (by rw [← e2]; exact X'.warmed.alike) hp hb k1 k2 k3 T' rfl X'
    exact ⟨t2, st t2 a1, b1⟩
  · obtain ⟨k1, k2, k3⟩ := vx_keep h0 e1 hS hAX hf hL hF
    obtain ⟨t2, a1, b1⟩ := kx E ce q u t T'.heap (locs ++ L) e1.symm (by rw [← e2]; exact X'.warmed.alike) hp hb k1 k2 k3 (by rw [e1]; exact hce) hcv hcl T' rfl X'
    exact ⟨t2, st.trans a1, b1⟩
/-- caught by the row x of this method's table; the rows ahead don't take it -/
theorem vx_catch {own name : String} {E : String} {ce : Cell} {q : Addr} (hown : s.vm.findClass own = some m.cls) (pre : List ExceptionTableEntry) (x : ExceptionTableEntry) (suf : List ExceptionTableEntry) (hsplit : c.exceptionTable.toList = pre ++ x :: suf)
    (hpass : ∀ z ∈ pre, covers z pc = false ∨ (z.catchType ≠ 0 ∧ ∃ nm : String, (Cond.classLink own z.catchType nm).before args s = true ∧ va_Nc E nm s)) (hx : covers x pc = true) (h0 : x.catchType ≠ 0)
    (hlink : (Cond.classLink own x.catchType name).before args s = true) (hcast : (Cond.castable E name).before args s = true) (hcell : H[q]? = some ce) (hv : ce.vm = .none) (hcl : s.vm.findClass E = some ce.cls)
    (kk : W p l e R s m args below meth c H locs cells slots Q (F0 m x.handlerPc ls [.ref q])) : vx_W p l e R s m args below meth c H locs cells slots Q (F0 m pc ls rest) q := by
  intro T hT X
  have hpl : e.platform.magicAccessors = ({} : Platform).magicAccessors := by rw [X.admits.platform]
  obtain ⟨c3, c4, hc3, hc4, hasg⟩ := Cond.castable_spec hcast
  cases Option.some.inj (hc3.symm.trans hcl)
  obtain ⟨c5, hc5, hcl5⟩ := Cond.classLink_spec hown hlink e.platform hpl
  cases Option.some.inj (hc4.symm.trans hc5)
  obtain ⟨vm', X', st⟩ := X.thenCaughtThrough q (g := F0 m pc ls rest) rfl (Steps.refl _) (by rw [hT]; exact hcell) (by rw [hv]; rfl) (by obtain ⟨k9, h9, -⟩ := Vm.findClass_spec hcl; exact ⟨k9, h9⟩) pre x suf hsplit
    (fun z hz => by
      rcases hpass z hz with h | ⟨hz0, nm, hl1, hn1⟩
      · exact Or.inl h
      · obtain ⟨c6, hc6, hcl6⟩ := Cond.classLink_spec hown hl1 e.platform hpl
        obtain ⟨a8, b8, h1, h2, h3⟩ := hn1
        cases Option.some.inj (h1.symm.trans hcl)
        cases Option.some.inj (h2.symm.trans hc6)
        exact Or.inr ⟨hz0, _, hcl6, h3⟩) hx (Or.inr ⟨h0, c4, hcl5, hasg⟩)
  obtain ⟨t, a1, b1⟩ := kk (T.setVm vm') hT X'
  exact ⟨t, st.trans a1, b1⟩
end Rows
section Ends
variable {p : Program} {l : Launch} {e : Env} {R : Room} {s : State} {m : MethodId} {args : Array Value} {below : List Frame} {meth : Method} {c : Code} {H : Heap} {locs : List Loc} {cells slots : Nat} {Q : State → Prop}
variable {mc ms : Nat} {free : Addr → Prop} {A0 A1 : Nat → Prop} {H0 : Heap} {a : Array Value} {ls : Array Slot} {st0 rest : List Value}
variable {Qc : Array Value → State → Outcome → State → Prop} {XC : String → State → State → Prop}
/-- what a body that may throw owes at its end -/
def vx_MQ (below : List Frame) (Qc : Array Value → State → Outcome → State → Prop) (XC : String → State → State → Prop) (a : Array Value) (s : State) (mc ms : Nat) (free : Addr → Prop) : State → Prop := fun t =>
  ∃ o, t.status = .running ∧ Ended t below o ∧ vx_Q Qc XC mc ms free a s o t
theorem vx_ret {g : JFrame} {mc ms : Nat} (k : W p l e R s m args below meth c H locs cells slots (MQ below Qc args s mc ms free) g) : W p l e R s m args below meth c H locs cells slots (vx_MQ below Qc XC args s mc ms free) g := by
  intro T hT X
  obtain ⟨t, a1, o, b1, b2, b3, b4⟩ := k T hT X
  exact ⟨t, a1, o, b1, b2, Or.inl ⟨b3, b4⟩⟩
/-- not caught here: it goes on to the caller -/
theorem vx_widen {g : JFrame} {q : Addr} {k n : Nat} (h1 : cells ≤ k) (h2 : slots ≤ n) (kk : vx_W p l e R s m args below meth c H locs k n Q g q) : vx_W p l e R s m args below meth c H locs cells slots Q g q := fun T hT X => kk T hT (stand_widen X h1 h2)
theorem vx_out {pc : Nat} {E : String} {ce : Cell} {q : Addr} {mc ms : Nat} (hout : ∀ x ∈ c.exceptionTable.toList, covers x pc = false) (hlocks : meth.locks = false) (hcell : H[q]? = some ce) (hv : ce.vm = .none) (hcl : s.vm.findClass E = some ce.cls)
    (hx : ∀ t : State, t.heap = H → s.vm.Alike t.vm → XC E s t) (hf : ∀ z ∈ locs, free z.base) (hc : cells ≤ mc) (hs : slots ≤ ms) :
    vx_W p l e R s m args below meth c H locs cells slots (vx_MQ below Qc XC args s mc ms free) (F0 m pc ls rest) q := by
  intro T hT X
  obtain ⟨st1, hrun, hend, hW, hsm⟩ := X.leaveThrown q (g := F0 m pc ls rest) rfl rfl rfl hout hlocks
  have hcell9 : (T.setFrames (.throwing q :: below)).heap[q]? = some ce := by
    show T.heap[q]? = some ce
    rw [hT]; exact hcell
  exact ⟨_, st1, .threw q, hrun, hend, Or.inr ⟨q, rfl, E, ce, locs, hx _ hT hW.alike, hcell9, hv, hcl, hW, hsm.mono hc hs, hf⟩⟩
theorem vx_frame {U : State} {k n : Nat} (h : s.sameButNew ({ U with vm := s.vm } : State) locs k n) : s.heap.size ≤ U.heap.size ∧ ∀ q : Nat, q < s.heap.size → (∀ z ∈ locs, z.base ≠ q) → U.heap[q]? = s.heap[q]? := by
  obtain ⟨-, h2, -, -, -, h6⟩ := h
  refine ⟨h2, fun q hq hz => ?_⟩
  obtain ⟨c9, e1, e2, e3, e4⟩ := h6 q _ (Array.getElem?_eq_getElem hq)
  have hs : c9.slots = (s.heap[q]).slots := Array.ext_getElem? fun i => e4 i fun hm => hz _ hm rfl
  have h9 : c9 = s.heap[q] := by
    rw [hs] at e2
    exact e2
  have e5 : U.heap[q]? = some c9 := e1
  rw [e5, h9, Array.getElem?_eq_getElem hq]
/-- the words of a throw but the four that speak of the heap -/
def vx_no (w : Cond) : Bool := decide (w ≠ .isRef (.static Bundle.tN "UNASSIGNED_STACK" Bundle.steD)) && decide (w ≠ .isRef (.static Bundle.tN "SUPPRESSED_SENTINEL" Bundle.listD)) && decide (w ≠ .laysStatic Bundle.tN "UNASSIGNED_STACK" Bundle.steD) && decide (w ≠ .laysStatic Bundle.tN "SUPPRESSED_SENTINEL" Bundle.listD)
def vx_at0 (own : String) (ic : Nat) (X : String) (names : List String) : List Cond := (Bundle.ownAtoms0 own ic X names).filter vx_no
def vx_atS (own : String) (ic : Nat) (X : String) (names : List String) : List Cond := (Bundle.ownAtoms own ic X names).filter vx_no
/-- a word that the tables alone decide, or a good one -/
def vx_ot (w : Cond) : Bool := w.onTables || goodWord w
theorem vx_ot_at {args a' : Array Value} {s U : State} {w : Cond} (hW : s.WarmedH U.vm) (hvm : s.vm = U.vm) (hg : vx_ot w = true) (h : w.before args s = true) : w.before a' U = true := by
  simp only [vx_ot, Bool.or_eq_true] at hg
  rcases hg with hg | hg
  · exact va_tabs hg hvm h
  · exact word_at hW (good_of_word hg) h
/-- a list's words: the good ones out of the method's own list, the others by premises of their own -/
theorem vx_hat {args : Array Value} {s : State} {L B : List Cond} (h1 : ∀ w ∈ L.filter goodWord, w.before args s = true) (h2 : ∀ w ∈ L.filter (fun w => !goodWord w), w ∈ B) (h3 : ∀ w ∈ B, w.before args s = true) : ∀ w ∈ L, w.before args s = true := by
  intro w hw
  by_cases g : goodWord w = true
  · exact h1 w (List.mem_filter.mpr ⟨hw, g⟩)
  · refine h3 w (h2 w (List.mem_filter.mpr ⟨hw, ?_⟩))
    show (!goodWord w) = true
    cases hgw : goodWord w
    · rfl
    · exact absurd hgw g
theorem vx_c {args : Array Value} {s : State} {w : Cond} {B : List Cond} (h : w.before args s = true) (t : ∀ w ∈ B, w.before args s = true) : ∀ w' ∈ w :: B, w'.before args s = true := fun w' h' => (List.mem_cons.mp h').elim (fun e => by rw [e]; exact h) (t w')
theorem vx_n {args : Array Value} {s : State} : ∀ w ∈ ([] : List Cond), w.before args s = true := fun _ h => nomatch h
theorem vx_own {args : Array Value} {s : State} {L : List Cond} (h1 : ∀ w ∈ L.filter vx_no, w.before args s = true)
    (hU : (Cond.isRef (.static Bundle.tN "UNASSIGNED_STACK" Bundle.steD)).before args s = true) (hN : (Cond.isRef (.static Bundle.tN "SUPPRESSED_SENTINEL" Bundle.listD)).before args s = true)
    (lU : (Cond.laysStatic Bundle.tN "UNASSIGNED_STACK" Bundle.steD).before args s = true) (lN : (Cond.laysStatic Bundle.tN "SUPPRESSED_SENTINEL" Bundle.listD).before args s = true) : ∀ w ∈ L, w.before args s = true := by
  intro w hw
  by_cases e1 : w = .isRef (.static Bundle.tN "UNASSIGNED_STACK" Bundle.steD)
  · rw [e1]; exact hU
  · by_cases e2 : w = .isRef (.static Bundle.tN "SUPPRESSED_SENTINEL" Bundle.listD)
    · rw [e2]; exact hN
    · by_cases e3 : w = .laysStatic Bundle.tN "UNASSIGNED_STACK" Bundle.steD
      · rw [e3]; exact lU
      · by_cases e4 : w = .laysStatic Bundle.tN "SUPPRESSED_SENTINEL" Bundle.listD
        · rw [e4]; exact lN
        · exact h1 w (List.mem_filter.mpr ⟨hw, by unfold vx_no; rw [decide_eq_true e1, decide_eq_true e2, decide_eq_true e3, decide_eq_true e4]; rfl⟩)
/-- where a static field lies, its class's statics cell in H -/
def vx_L (C n d : String) (A : Nat → Prop) (U : State) (H : Heap) : Prop := ∃ (c : ClassId) (k : Class) (i : Nat) (f : Field) (a : Nat) (cell : Cell), U.vm.findClass C = some c ∧ U.fieldFound? C n d = some (c, k, i, f) ∧ f.isStatic = true ∧ k.statics = some a ∧ H[a]? = some cell ∧ cell.vm.isStatics = true ∧ cell.cls = c ∧ f.slot < cell.slots.size ∧ k.staticTypes[f.slot]? = some f.type ∧ ¬ A a
theorem vx_L.moved {C n d : String} {A : Nat → Prop} {u U : State} {H : Heap} (hvm : u.vm.Alike U.vm) (h : vx_L C n d A u H) : vx_L C n d A U H := by
  obtain ⟨c, k, i, f, a, cell, h1, h2, h3, h4, h5, h6, h7, h8, h9, h10⟩ := h
  obtain ⟨k', hi', he⟩ := State.fieldFound?_setVm hvm h2
  exact ⟨c, k', i, f, a, cell, by rw [hvm.findClass]; exact h1, hi', h3, by rw [he]; exact h4, h5, h6, h7, h8, by rw [he]; exact h9, h10⟩
theorem vx_L.kept {C n d : String} {A : Nat → Prop} {U : State} {H H1 : Heap} (h : vx_L C n d A U H) (hq : ∀ a : Nat, a < H.size → ¬ A a → H1[a]? = H[a]?) : vx_L C n d A U H1 := by
  obtain ⟨c, k, i, f, a, cell, h1, h2, h3, h4, h5, h6, h7, h8, h9, h10⟩ := h
  exact ⟨c, k, i, f, a, cell, h1, h2, h3, h4, by rw [hq a (Array.getElem?_eq_some_iff.mp h5).1 h10]; exact h5, h6, h7, h8, h9, h10⟩
theorem vx_L.narrow {C n d : String} {A B : Nat → Prop} {U : State} {H : Heap} (h : vx_L C n d A U H) (hAB : ∀ q, B q → A q) : vx_L C n d B U H := by
  obtain ⟨c, k, i, f, a, cell, h1, h2, h3, h4, h5, h6, h7, h8, h9, h10⟩ := h
  exact ⟨c, k, i, f, a, cell, h1, h2, h3, h4, h5, h6, h7, h8, h9, fun z => h10 (hAB _ z)⟩
theorem vx_L.word {C n d : String} {A : Nat → Prop} {s : State} {args : Array Value} (h : vx_L C n d A s s.heap) : (Cond.laysStatic C n d).before args s = true := by
  obtain ⟨c, k, i, f, a, cell, h1, h2, h3, h4, h5, h6, h7, h8, h9, -⟩ := h
  show (Cond.laysStatic C n d).holds args s none s [] = true
  exact Cond.laysStatic_of h1 h2 h3 h4 h5 h6 h7 h8 h9
/-- .. and what it holds: null or some reference -/
def vx_Zq (C n d : String) (A : Nat → Prop) (U : State) (H : Heap) : Prop := va_Zq C n d A U H ∧ vx_L C n d A U H
theorem vx_Zq.moved {C n d : String} {A : Nat → Prop} {u U : State} {H : Heap} (hvm : u.vm.Alike U.vm) (h : vx_Zq C n d A u H) : vx_Zq C n d A U H := ⟨va_Zq.moved hvm h.1, vx_L.moved hvm h.2⟩
theorem vx_Zq.kept {C n d : String} {A : Nat → Prop} {U : State} {H H1 : Heap} (h : vx_Zq C n d A U H) (hq : ∀ a : Nat, a < H.size → ¬ A a → H1[a]? = H[a]?) : vx_Zq C n d A U H1 := ⟨va_Zq.kept h.1 hq, vx_L.kept h.2 hq⟩
theorem vx_Zq.narrow {C n d : String} {A B : Nat → Prop} {U : State} {H : Heap} (h : vx_Zq C n d A U H) (hAB : ∀ q, B q → A q) : vx_Zq C n d B U H := ⟨va_Zq.narrow h.1 hAB, vx_L.narrow h.2 hAB⟩
theorem vx_Zqof {args : Array Value} {s : State} {C n d : String} {A : Nat → Prop} (hl : (Cond.laysStatic C n d).before args s = true) (hini : (Cond.initialized C).before args s = true) (h : (Cond.isRef (.static C n d)).before args s = true) (hA : ∀ a : Nat, a < s.heap.size → ¬ A a) : vx_Zq C n d A s s.heap := by
  refine ⟨va_Zqof hl hini h hA, ?_⟩
  obtain ⟨c, k, i, f, a, cell, h1, h2, h3, h4, h5, h6, h7, h8, h9⟩ := Cond.laysStatic_spec hl
  exact ⟨c, k, i, f, a, cell, h1, h2, h3, h4, h5, h6, h7, h8, h9, hA a (Array.getElem?_eq_some_iff.mp h5).1⟩
theorem vx_isRef {C n d : String} {v : Value} {A : Nat → Prop} {s : State} {args : Array Value} (h : va_Z C n d v A s s.heap) (hv : v.isRef = true) : (Cond.isRef (.static C n d)).before args s = true := by
  obtain ⟨cf, kf, fi, f, a, cell, h1, h2, h3, h4, h5, h6, h7, -⟩ := h
  have he : (Term.static C n d).eval args s none [] s = some v := by
    simp [Term.eval, State.fieldNamed?, h1, h2, h4, h5, h6, h7]
  simp only [Cond.before, Cond.holds, Cond.value, he]
  cases v <;> simp_all [Value.isRef]
theorem vx_isRefq {C n d : String} {A : Nat → Prop} {s : State} {args : Array Value} (h : va_Zq C n d A s s.heap) : (Cond.isRef (.static C n d)).before args s = true := by
  rcases h with h | ⟨t, h⟩
  · exact vx_isRef h rfl
  · exact vx_isRef h rfl
/-- the same frame, seen from here: as if the method were called anew in this heap -/
theorem vx_rebase {T : State} (X : Stand p l e R s m args below meth c T locs cells slots) {R' : Room} (hf : R'.frames ≤ R.frames) (hl : R'.locals ≤ R.locals) (hc : cells + R'.cells ≤ R.cells) (hs : slots + R'.slots ≤ R.slots) :
    Stand p l e R' ((T.setVm s.vm).setFrames (.invoking m args :: below)) m args below meth c T [] 0 0 := by
  have htop : (T.setVm s.vm).topJava?.isSome := X.here.top
  have hF : ((T.setVm s.vm).setFrames (.invoking m args :: below)).frames = .invoking m args :: below := State.frames_setFrames _ (State.cur_lt_of_top htop)
  obtain ⟨g₀, hg0⟩ := Option.isSome_iff_exists.mp htop
  obtain ⟨r, hr⟩ := State.topJava?_eq_some.mp hg0
  have hl9 : e.platform.stackLimits (T.setVm s.vm).me = e.platform.stackLimits s.me := X.limits
  have hb9 : (T.setVm s.vm).me.stackBytes = s.me.stackBytes := X.bytes
  refine ⟨X.admits, X.cas, X.clock, hF, ?_, X.hears, X.method, X.code, X.here, X.tail, X.warmed, ?_, ?_, ?_⟩
  · have h := X.room
    have hU : ((T.setVm s.vm).setFrames (.invoking m args :: below)).localsInUse = s.localsInUse := by
      rw [State.localsInUse_invoking hF (meth := meth) (c := c) X.method X.code, State.localsInUse_invoking X.frames X.method X.code]
    simp only [State.hasRoom, Bool.and_eq_true, decide_eq_true_eq] at h ⊢
    obtain ⟨⟨⟨⟨h1, h2, h3, h4, h5, h6⟩, h7⟩, h8⟩, h9⟩ := h
    rw [X.frames, List.length_cons] at h2 h3
    have q1 := X.heapSize
    have q2 := X.used
    simp only [hF, hU, List.length_cons, State.stackLimits_setFrames, State.stackBytes_setFrames, hl9, hb9]
    refine ⟨⟨⟨⟨by omega, by omega, by omega, by omega, by omega, h6⟩, ?_⟩, ?_⟩, X.book⟩
    · show T.heap.size + R'.cells ≤ e.platform.maxCells
      omega
    · show T.slotsUsed + R'.slots ≤ e.platform.maxSlots
      omega
  · rw [State.stackLimits_setFrames]; rfl
  · rw [State.stackBytes_setFrames]; rfl
  · refine ⟨?_, Nat.le_refl _, Nat.le_refl _, ?_, ?_, fun a c9 h9 => ⟨c9, h9, rfl, rfl, fun _ _ => rfl⟩⟩
    · obtain ⟨t, ht, -⟩ := State.frames_cons hr
      show T.setVm s.vm = { ((T.setVm s.vm).setFrames (.invoking m args :: below)).setFrames (T.setVm s.vm).frames with heap := T.heap, slotsUsed := T.slotsUsed }
      rw [State.setFrames_setFrames, State.setFrames_self ht]
      rfl
    · show T.slotsUsed = T.slotsUsed + ((T.heap.toList.drop T.heap.size).map (·.slots.size)).sum
      rw [List.drop_eq_nil_of_le (Nat.le_of_eq Array.length_toList)]
      rfl
    · show ((T.heap.toList.drop T.heap.size).map (·.slots.size)).sum ≤ 0
      rw [List.drop_eq_nil_of_le (Nat.le_of_eq Array.length_toList)]
      exact Nat.le_refl _
/-- 'throw new E()': new; dup; invokespecial; athrow -/
theorem vx_throw0 {cc : ByteArray} {pc : Nat} (hexec : p.tables.exec = Jvm.exec) (hb : c.code = cc) (hl : l.stackTraces = false) {own cls : String} {names : List String} {ik ic mc ms : Nat} {A : Nat → Prop}
    (hown : s.vm.findClass own = some m.cls) (hcls : Bundle.fit cls = true) (hnames : ∀ n ∈ names, Bundle.fit n = true)
    (hk : (Cond.classLink own ik cls).before args s = true) (hini : (Cond.initialized cls).before args s = true) (hat : ∀ w ∈ vx_at0 own ic cls names, w.before args s = true)
    (hgood : ∀ w ∈ Cond.classLink own ik cls :: Cond.initialized cls :: vx_at0 own ic cls names, vx_ot w = true)
    (hU : vx_Zq Bundle.tN "UNASSIGNED_STACK" Bundle.steD A s s.heap) (hN : vx_Zq Bundle.tN "SUPPRESSED_SENTINEL" Bundle.listD A s s.heap) (hS : va_S A s.heap H locs) (hsize : ls.size = c.maxLocals)
    (d0 : decode cc pc = .ok (.new ik, 3)) (d3 : decode cc (pc + 3) = .ok (.dup, 1)) (d4 : decode cc (pc + 4) = .ok (.invokespecial ic, 3)) (d7 : decode cc (pc + 7) = .ok (.athrow, 1))
    (hout : ∀ x ∈ c.exceptionTable.toList, covers x (pc + 7) = false)
    (hRframes : names.length + 3 < R.frames) (hRlocals : (rest.map fun v => v.category).sum + (13 * (names.length + 1) + 42) ≤ R.locals) (hRcells : cells + 1 ≤ R.cells) (hRslots : slots + 6 ≤ R.slots) (hlocks : meth.locks = false)
    (hx : ∀ t : State, s.vm.Alike t.vm → H.size ≤ t.heap.size → (∀ q : Nat, q < H.size → t.heap[q]? = H[q]?) → XC cls s t)
    (hf : ∀ z ∈ locs, free z.base) (hc : cells + 1 ≤ mc) (hs : slots + 6 ≤ ms) :
    W p l e R s m args below meth c H locs cells slots (vx_MQ below Qc XC args s mc ms free) (F0 m pc ls rest) := by
  intro T hT X
  have htr : e.platform.stackTraces = false := (show e.platform.stackTraces = l.stackTraces by rw [X.admits.platform]).trans hl
  have Y := vx_rebase X (R' := { frames := R.frames, locals := R.locals, cells := 1, slots := 6 }) (Nat.le_refl _) (Nat.le_refl _) hRcells hRslots
  obtain ⟨s', hA⟩ : ∃ z, z = (T.setVm s.vm).setFrames (.invoking m args :: below) := ⟨_, rfl⟩
  rw [← hA] at Y
  have hvm : s'.vm = s.vm := by rw [hA]; rfl
  have hhp : s'.heap = H := by rw [hA]; exact hT
  have hW0 : s.WarmedH s'.vm := by rw [hvm]; exact State.WarmedH.refl s
  have hat' : ∀ w ∈ vx_at0 own ic cls names, w.before args s' = true := fun w hw => vx_ot_at hW0 hvm.symm (hgood w (List.mem_cons_of_mem _ (List.mem_cons_of_mem _ hw))) (hat w hw)
  have hk' : (Cond.classLink own ik cls).before args s' = true := vx_ot_at hW0 hvm.symm (hgood _ List.mem_cons_self) hk
  have hini' : (Cond.initialized cls).before args s' = true := vx_ot_at hW0 hvm.symm (hgood _ (List.mem_cons_of_mem _ List.mem_cons_self)) hini
  have hU' : vx_Zq Bundle.tN "UNASSIGNED_STACK" Bundle.steD A s' s'.heap := by rw [hhp]; exact vx_Zq.moved hW0.alike (hU.kept hS.2.1)
  have hN' : vx_Zq Bundle.tN "SUPPRESSED_SENTINEL" Bundle.listD A s' s'.heap := by rw [hhp]; exact vx_Zq.moved hW0.alike (hN.kept hS.2.1)
  have h : ∀ w ∈ Bundle.ownAtoms0 own ic cls names, w.before args s' = true := vx_own hat' (vx_isRefq hU'.1) (vx_isRefq hN'.1) hU'.2.word hN'.2.word
  have hown' : s'.vm.findClass own = some m.cls := by rw [hvm]; exact hown
  have hins : (Cond.instantiable cls 6).before args s' = true := h _ (by simp [Bundle.ownAtoms0])
  obtain ⟨vm₁, cX, kX, hfX, hkX, -, -, X₁, st1⟩ := Y.newCold hexec (own := own) (C := cls) (index := ik) (n := 6) hown' hk' hins hini'
    (g := F0 m pc ls rest) rfl (by rw [hb]; exact d0) (Nat.le_refl _) (Nat.le_refl _)
  generalize hT1 : (T.setVm vm₁).pushCell { cls := cX, slots := kX.instanceTypes.map defaultValue, vm := .none } = T1 at X₁ st1
  have hcat : (Value.ref T.heap.size).category = 1 := rfl
  have hcellA : T1.heap[T.heap.size]? = some (freshCell cX kX) := by rw [← hT1]; exact State.heap_pushCell_size _ _
  have d3' : decode c.code (pc + 3) = .ok (.dup, 1) := by rw [hb]; exact d3
  obtain ⟨U, hsteps, hrun, hend, hW, hsame, ce, hce, hO⟩ := X₁.ctorThrow0 hexec htr (own := own) (cls := cls) (names := names) (ic := ic) hown' hcls hnames h (fun x hx => nomatch hx) hfX hkX hcellA (by rw [hhp, hT]; exact Nat.le_refl _)
    (g := { method := m, pc := pc + 4, locals := ls, stack := .ref T.heap.size :: .ref T.heap.size :: rest, locked := none }) rfl hsize rfl rfl (rest := rest) rfl
    (by rw [hb]; exact d4) (by rw [hb]; exact d7) hout hRframes (by simp only [List.map_cons, List.sum_cons, hcat]; omega) hlocks
  obtain ⟨f1, f2⟩ := vx_frame hsame
  rw [hhp] at f1 f2
  have hWs : s.WarmedH U.vm := State.WarmedH.trans hW0 hW
  have hcl : s.vm.findClass cls = some ce.cls := by
    have h9 := hO.cls
    rw [hvm] at h9
    exact h9
  have hall : s.sameButNew ({ U with vm := s.vm } : State) locs mc ms := by
    subst hA
    obtain ⟨e1, e2⟩ := hsame
    rw [State.setFrames_setFrames] at e1
    have h2 : (T.setVm s.vm).sameButNew ({ U with vm := s.vm } : State) [] (0 + 1) (0 + 6) := ⟨e1, e2⟩
    have h3 := X.same.trans h2
    rw [List.append_nil] at h3
    exact h3.mono hc hs
  refine ⟨U, ?_, .threw T.heap.size, hrun, hend, Or.inr ⟨T.heap.size, rfl, cls, ce, locs, hx U hWs.alike f1 (fun q hq => f2 q hq (fun z hz => nomatch hz)), hce, hO.vm, hcl, hWs, hall, hf⟩⟩
  refine st1 _ ?_
  show Steps p.tables e below (T1.setTop { method := m, pc := pc + 3, locals := ls, stack := .ref T.heap.size :: rest, locked := none }) _
  jvm_step X₁.here [X₁.here.top, hexec, d3', Value.category]
  exact hsteps
/-- 'throw new E("text")': new; dup; ldc; invokespecial; athrow -/
theorem vx_throwS {cc : ByteArray} {pc : Nat} (hexec : p.tables.exec = Jvm.exec) (hb : c.code = cc) (hl : l.stackTraces = false) {own cls text : String} {names : List String} {ik is ic mc ms sa : Nat} {A : Nat → Prop}
    (hown : s.vm.findClass own = some m.cls) (hcls : Bundle.fit cls = true) (hnames : ∀ n ∈ names, Bundle.fit n = true)
    (hk : (Cond.classLink own ik cls).before args s = true) (hini : (Cond.initialized cls).before args s = true) (hstr : vk_R own is text sa s) (hat : ∀ w ∈ vx_atS own ic cls names, w.before args s = true)
    (hgood : ∀ w ∈ Cond.classLink own ik cls :: Cond.initialized cls :: vx_atS own ic cls names, vx_ot w = true)
    (hU : vx_Zq Bundle.tN "UNASSIGNED_STACK" Bundle.steD A s s.heap) (hN : vx_Zq Bundle.tN "SUPPRESSED_SENTINEL" Bundle.listD A s s.heap) (hS : va_S A s.heap H locs) (hsize : ls.size = c.maxLocals)
    (d0 : decode cc pc = .ok (.new ik, 3)) (d3 : decode cc (pc + 3) = .ok (.dup, 1)) (d4 : decode cc (pc + 4) = .ok (.ldc is, 2)) (d6 : decode cc (pc + 6) = .ok (.invokespecial ic, 3)) (d9 : decode cc (pc + 9) = .ok (.athrow, 1))
    (hout : ∀ x ∈ c.exceptionTable.toList, covers x (pc + 9) = false)
    (hRframes : names.length + 3 < R.frames) (hRlocals : (rest.map fun v => v.category).sum + (13 * (names.length + 1) + 43) ≤ R.locals) (hRcells : cells + 1 ≤ R.cells) (hRslots : slots + 6 ≤ R.slots) (hlocks : meth.locks = false)
    (hx : ∀ t : State, s.vm.Alike t.vm → H.size ≤ t.heap.size → (∀ q : Nat, q < H.size → t.heap[q]? = H[q]?) → XC cls s t)
    (hf : ∀ z ∈ locs, free z.base) (hc : cells + 1 ≤ mc) (hs : slots + 6 ≤ ms) :
    W p l e R s m args below meth c H locs cells slots (vx_MQ below Qc XC args s mc ms free) (F0 m pc ls rest) := by
  intro T hT X
  have htr : e.platform.stackTraces = false := (show e.platform.stackTraces = l.stackTraces by rw [X.admits.platform]).trans hl
  have Y := vx_rebase X (R' := { frames := R.frames, locals := R.locals, cells := 1, slots := 6 }) (Nat.le_refl _) (Nat.le_refl _) hRcells hRslots
  obtain ⟨s', hA⟩ : ∃ z, z = (T.setVm s.vm).setFrames (.invoking m args :: below) := ⟨_, rfl⟩
  rw [← hA] at Y
  have hvm : s'.vm = s.vm := by rw [hA]; rfl
  have hhp : s'.heap = H := by rw [hA]; exact hT
  have hW0 : s.WarmedH s'.vm := by rw [hvm]; exact State.WarmedH.refl s
  have hat' : ∀ w ∈ vx_atS own ic cls names, w.before args s' = true := fun w hw => vx_ot_at hW0 hvm.symm (hgood w (List.mem_cons_of_mem _ (List.mem_cons_of_mem _ hw))) (hat w hw)
  have hk' : (Cond.classLink own ik cls).before args s' = true := vx_ot_at hW0 hvm.symm (hgood _ List.mem_cons_self) hk
  have hini' : (Cond.initialized cls).before args s' = true := vx_ot_at hW0 hvm.symm (hgood _ (List.mem_cons_of_mem _ List.mem_cons_self)) hini
  have hU' : vx_Zq Bundle.tN "UNASSIGNED_STACK" Bundle.steD A s' s'.heap := by rw [hhp]; exact vx_Zq.moved hW0.alike (hU.kept hS.2.1)
  have hN' : vx_Zq Bundle.tN "SUPPRESSED_SENTINEL" Bundle.listD A s' s'.heap := by rw [hhp]; exact vx_Zq.moved hW0.alike (hN.kept hS.2.1)
  have h : ∀ w ∈ Bundle.ownAtoms own ic cls names, w.before args s' = true := vx_own hat' (vx_isRefq hU'.1) (vx_isRefq hN'.1) hU'.2.word hN'.2.word
  have hown' : s'.vm.findClass own = some m.cls := by rw [hvm]; exact hown
  have hins : (Cond.instantiable cls 6).before args s' = true := h _ (by simp [Bundle.ownAtoms])
  obtain ⟨vm₁, cX, kX, hfX, hkX, -, -, X₁, st1⟩ := Y.newCold hexec (own := own) (C := cls) (index := ik) (n := 6) hown' hk' hins hini'
    (g := F0 m pc ls rest) rfl (by rw [hb]; exact d0) (Nat.le_refl _) (Nat.le_refl _)
  generalize hT1 : (T.setVm vm₁).pushCell { cls := cX, slots := kX.instanceTypes.map defaultValue, vm := .none } = T1 at X₁ st1
  have hcat : (Value.ref T.heap.size).category = 1 := rfl
  have hcellA : T1.heap[T.heap.size]? = some (freshCell cX kX) := by rw [← hT1]; exact State.heap_pushCell_size _ _
  have d3' : decode c.code (pc + 3) = .ok (.dup, 1) := by rw [hb]; exact d3
  have d4' : decode c.code (pc + 4) = .ok (.ldc is, 2) := by rw [hb]; exact d4
  have hstr' : vk_R own is text sa s' := vk_R.warm hW0 hstr
  obtain ⟨U, hsteps, hrun, hend, hW, hsame, ce, hce, hO⟩ := X₁.ctorThrowS hexec htr (own := own) (cls := cls) (names := names) (ic := ic) hown' hcls hnames h (fun x hx => nomatch hx) hfX hkX hcellA (by rw [hhp, hT]; exact Nat.le_refl _) (msg := .ref sa) rfl
    (g := { method := m, pc := pc + 6, locals := ls, stack := .ref sa :: .ref T.heap.size :: .ref T.heap.size :: rest, locked := none }) rfl hsize rfl rfl (rest := rest) rfl
    (by rw [hb]; exact d6) (by rw [hb]; exact d9) hout hRframes (by simp only [List.map_cons, List.sum_cons, hcat]; omega) hlocks
  obtain ⟨f1, f2⟩ := vx_frame hsame
  rw [hhp] at f1 f2
  have hWs : s.WarmedH U.vm := State.WarmedH.trans hW0 hW
  have hcl : s.vm.findClass cls = some ce.cls := by
    have h9 := hO.cls
    rw [hvm] at h9
    exact h9
  have hall : s.sameButNew ({ U with vm := s.vm } : State) locs mc ms := by
    subst hA
    obtain ⟨e1, e2⟩ := hsame
    rw [State.setFrames_setFrames] at e1
    have h2 : (T.setVm s.vm).sameButNew ({ U with vm := s.vm } : State) [] (0 + 1) (0 + 6) := ⟨e1, e2⟩
    have h3 := X.same.trans h2
    rw [List.append_nil] at h3
    exact h3.mono hc hs
  refine ⟨U, ?_, .threw T.heap.size, hrun, hend, Or.inr ⟨T.heap.size, rfl, cls, ce, locs, hx U hWs.alike f1 (fun q hq => f2 q hq (fun z hz => nomatch hz)), hce, hO.vm, hcl, hWs, hall, hf⟩⟩
  refine st1 _ ?_
  show Steps p.tables e below (T1.setTop { method := m, pc := pc + 3, locals := ls, stack := .ref T.heap.size :: rest, locked := none }) _
  jvm_step X₁.here [X₁.here.top, hexec, d3', Value.category]
  exact X₁.ldcString hexec (own := own) (text := text) (index := is) (a := sa) hown' hstr'.1 hstr'.2
    (g := { method := m, pc := pc + 4, locals := ls, stack := .ref T.heap.size :: .ref T.heap.size :: rest, locked := none }) rfl d4' _ hsteps
/-- 'throw new E("text")', the text by a wide index -/
theorem vx_throwSW {cc : ByteArray} {pc : Nat} (hexec : p.tables.exec = Jvm.exec) (hb : c.code = cc) (hl : l.stackTraces = false) {own cls text : String} {names : List String} {ik is ic mc ms sa : Nat} {A : Nat → Prop}
    (hown : s.vm.findClass own = some m.cls) (hcls : Bundle.fit cls = true) (hnames : ∀ n ∈ names, Bundle.fit n = true)
    (hk : (Cond.classLink own ik cls).before args s = true) (hini : (Cond.initialized cls).before args s = true) (hstr : vk_R own is text sa s) (hat : ∀ w ∈ vx_atS own ic cls names, w.before args s = true)
    (hgood : ∀ w ∈ Cond.classLink own ik cls :: Cond.initialized cls :: vx_atS own ic cls names, vx_ot w = true)
    (hU : vx_Zq Bundle.tN "UNASSIGNED_STACK" Bundle.steD A s s.heap) (hN : vx_Zq Bundle.tN "SUPPRESSED_SENTINEL" Bundle.listD A s s.heap) (hS : va_S A s.heap H locs) (hsize : ls.size = c.maxLocals)
    (d0 : decode cc pc = .ok (.new ik, 3)) (d3 : decode cc (pc + 3) = .ok (.dup, 1)) (d4 : decode cc (pc + 4) = .ok (.ldc_w is, 3)) (d7 : decode cc (pc + 7) = .ok (.invokespecial ic, 3)) (d10 : decode cc (pc + 10) = .ok (.athrow, 1))
    (hout : ∀ x ∈ c.exceptionTable.toList, covers x (pc + 10) = false)
    (hRframes : names.length + 3 < R.frames) (hRlocals : (rest.map fun v => v.category).sum + (13 * (names.length + 1) + 43) ≤ R.locals) (hRcells : cells + 1 ≤ R.cells) (hRslots : slots + 6 ≤ R.slots) (hlocks : meth.locks = false)
    (hx : ∀ t : State, s.vm.Alike t.vm → H.size ≤ t.heap.size → (∀ q : Nat, q < H.size → t.heap[q]? = H[q]?) → XC cls s t)
    (hf : ∀ z ∈ locs, free z.base) (hc : cells + 1 ≤ mc) (hs : slots + 6 ≤ ms) :
    W p l e R s m args below meth c H locs cells slots (vx_MQ below Qc XC args s mc ms free) (F0 m pc ls rest) := by
  intro T hT X
  have htr : e.platform.stackTraces = false := (show e.platform.stackTraces = l.stackTraces by rw [X.admits.platform]).trans hl
  have Y := vx_rebase X (R' := { frames := R.frames, locals := R.locals, cells := 1, slots := 6 }) (Nat.le_refl _) (Nat.le_refl _) hRcells hRslots
  obtain ⟨s', hA⟩ : ∃ z, z = (T.setVm s.vm).setFrames (.invoking m args :: below) := ⟨_, rfl⟩
  rw [← hA] at Y
  have hvm : s'.vm = s.vm := by rw [hA]; rfl
  have hhp : s'.heap = H := by rw [hA]; exact hT
  have hW0 : s.WarmedH s'.vm := by rw [hvm]; exact State.WarmedH.refl s
  have hat' : ∀ w ∈ vx_atS own ic cls names, w.before args s' = true := fun w hw => vx_ot_at hW0 hvm.symm (hgood w (List.mem_cons_of_mem _ (List.mem_cons_of_mem _ hw))) (hat w hw)
  have hk' : (Cond.classLink own ik cls).before args s' = true := vx_ot_at hW0 hvm.symm (hgood _ List.mem_cons_self) hk
  have hini' : (Cond.initialized cls).before args s' = true := vx_ot_at hW0 hvm.symm (hgood _ (List.mem_cons_of_mem _ List.mem_cons_self)) hini
  have hU' : vx_Zq Bundle.tN "UNASSIGNED_STACK" Bundle.steD A s' s'.heap := by rw [hhp]; exact vx_Zq.moved hW0.alike (hU.kept hS.2.1)
  have hN' : vx_Zq Bundle.tN "SUPPRESSED_SENTINEL" Bundle.listD A s' s'.heap := by rw [hhp]; exact vx_Zq.moved hW0.alike (hN.kept hS.2.1)
  have h : ∀ w ∈ Bundle.ownAtoms own ic cls names, w.before args s' = true := vx_own hat' (vx_isRefq hU'.1) (vx_isRefq hN'.1) hU'.2.word hN'.2.word
  have hown' : s'.vm.findClass own = some m.cls := by rw [hvm]; exact hown
  have hins : (Cond.instantiable cls 6).before args s' = true := h _ (by simp [Bundle.ownAtoms])
  obtain ⟨vm₁, cX, kX, hfX, hkX, -, -, X₁, st1⟩ := Y.newCold hexec (own := own) (C := cls) (index := ik) (n := 6) hown' hk' hins hini'
    (g := F0 m pc ls rest) rfl (by rw [hb]; exact d0) (Nat.le_refl _) (Nat.le_refl _)
  generalize hT1 : (T.setVm vm₁).pushCell { cls := cX, slots := kX.instanceTypes.map defaultValue, vm := .none } = T1 at X₁ st1
  have hcat : (Value.ref T.heap.size).category = 1 := rfl
  have hcellA : T1.heap[T.heap.size]? = some (freshCell cX kX) := by rw [← hT1]; exact State.heap_pushCell_size _ _
  have d3' : decode c.code (pc + 3) = .ok (.dup, 1) := by rw [hb]; exact d3
  have d4' : decode c.code (pc + 4) = .ok (.ldc_w is, 3) := by rw [hb]; exact d4
  have hstr' : vk_R own is text sa s' := vk_R.warm hW0 hstr
  obtain ⟨U, hsteps, hrun, hend, hW, hsame, ce, hce, hO⟩ := X₁.ctorThrowS hexec htr (own := own) (cls := cls) (names := names) (ic := ic) hown' hcls hnames h (fun x hx => nomatch hx) hfX hkX hcellA (by rw [hhp, hT]; exact Nat.le_refl _) (msg := .ref sa) rfl
    (g := { method := m, pc := pc + 7, locals := ls, stack := .ref sa :: .ref T.heap.size :: .ref T.heap.size :: rest, locked := none }) rfl hsize rfl rfl (rest := rest) rfl
    (by rw [hb]; exact d7) (by rw [hb]; exact d10) hout hRframes (by simp only [List.map_cons, List.sum_cons, hcat]; omega) hlocks
  obtain ⟨f1, f2⟩ := vx_frame hsame
  rw [hhp] at f1 f2
  have hWs : s.WarmedH U.vm := State.WarmedH.trans hW0 hW
  have hcl : s.vm.findClass cls = some ce.cls := by
    have h9 := hO.cls
    rw [hvm] at h9
    exact h9
  have hall : s.sameButNew ({ U with vm := s.vm } : State) locs mc ms := by
    subst hA
    obtain ⟨e1, e2⟩ := hsame
    rw [State.setFrames_setFrames] at e1
    have h2 : (T.setVm s.vm).sameButNew ({ U with vm := s.vm } : State) [] (0 + 1) (0 + 6) := ⟨e1, e2⟩
    have h3 := X.same.trans h2
    rw [List.append_nil] at h3
    exact h3.mono hc hs
  refine ⟨U, ?_, .threw T.heap.size, hrun, hend, Or.inr ⟨T.heap.size, rfl, cls, ce, locs, hx U hWs.alike f1 (fun q hq => f2 q hq (fun z hz => nomatch hz)), hce, hO.vm, hcl, hWs, hall, hf⟩⟩
  refine st1 _ ?_
  show Steps p.tables e below (T1.setTop { method := m, pc := pc + 3, locals := ls, stack := .ref T.heap.size :: rest, locked := none }) _
  jvm_step X₁.here [X₁.here.top, hexec, d3', Value.category]
  exact X₁.ldcStringW hexec (own := own) (text := text) (index := is) (a := sa) hown' hstr'.1 hstr'.2
    (g := { method := m, pc := pc + 4, locals := ls, stack := .ref T.heap.size :: .ref T.heap.size :: rest, locked := none }) rfl d4' _ hsteps
end Ends
section Bodies
variable {l : Launch}
theorem vx_ofW {y : MethodName} {ws ws' : List Cond} {rm : Room} {Pc : Array Value → State → Prop} {Qc : Array Value → State → Outcome → State → Prop} {XC : String → State → State → Prop} {mc ms : Nat} {free : Addr → Prop} {cc : ByteArray} {maxL : Nat} {ret : Option FieldType}
    (hy : plainName y.cls = true) (hw : ws = Cond.code y cc maxL ret :: ws')
    (body : ∀ p e s m args below meth c s₁, BodyLoose p l y (headSpec ws rm) cc maxL ret e s m args below meth c s₁ → c.maxLocals = maxL → (∀ x ∈ c.exceptionTable.toList, False) → Pc args s →
      W p l e (headSpec ws rm).room s m args below meth c s.heap [] 0 0 (vx_MQ below Qc XC args s mc ms free) (entryFrame m args maxL)) : vx_Met l y ws rm Pc Qc XC mc ms free := by
  refine MetFree.of_bodyS (code := cc) (maxLocals := maxL) (ret := ret) hy ?_ ?_
  · intro args s m h hn
    obtain ⟨meth, c, h1, h2, h3, h4, h5, h6, -, -⟩ := Cond.code_spec hn (atoms_spec (ws := ws) h _ (by rw [hw]; exact List.mem_cons_self))
    exact ⟨meth, c, h1, h2, h3, h4, h5, h6⟩
  · intro p e s m args below meth c s₁ B hml hP _
    have hh0 : s₁.heap = s.heap := by rw [B.state]; rfl
    have ht : ∀ x ∈ c.exceptionTable.toList, False := by
      obtain ⟨meth9, c9, h1, h2, -, -, -, -, h7, -⟩ := Cond.code_spec B.named (atoms_spec (ws := ws) B.pre _ (by rw [hw]; exact List.mem_cons_self))
      cases Option.some.inj (h1.symm.trans B.method)
      cases Option.some.inj (h2.symm.trans (Stand.of_body B).code)
      intro x hx
      rw [Array.isEmpty_iff.mp h7] at hx
      cases hx
    obtain ⟨t, a1, o, b1, b2, b3⟩ := body p e s m args below meth c s₁ B hml ht hP s₁ hh0 (Stand.of_body B)
    exact ⟨t, o, a1, b1, b2, b3⟩
/-- the table of a body with handlers -/
theorem vx_table {p : Program} {x y : MethodName} {S : Spec} {cc bytes : ByteArray} {maxL maxL' : Nat} {ret ret' : Option FieldType} {e : Env} {s s₁ : State} {m : MethodId} {args : Array Value} {below : List Frame} {meth : Method} {c : Code} {hh : List (Nat × Nat × Nat × Nat)}
    (B : BodyLoose p l y S cc maxL ret e s m args below meth c s₁) (h : (Cond.codeWith y bytes maxL' ret' hh).before args s = true) : c.exceptionTable.toList = tableOf hh := by
  obtain ⟨m9, meth9, c9, hn9, h1, h2, -, -, h6, -⟩ := Cond.codeWith_spec h
  cases Option.some.inj (hn9.symm.trans B.named)
  cases Option.some.inj (h1.symm.trans B.method)
  cases Option.some.inj (h2.symm.trans (Stand.of_body B).code)
  rw [← h6, table_eq]
end Bodies
end VXA
/-! ===== END ===== -/
/-! ===== BEGIN a static call of a method with an exception table ===== -/
section VXS
variable {p : Program} {l : Launch} {e : Env} {R : Room} {s : State} {m : MethodId} {args : Array Value} {below : List Frame} {meth : Method} {c : Code} {T : State} {H : Heap} {locs : List Loc} {cells slots : Nat}
abbrev vx_CSW (R : Room) (s : State) (args : Array Value) (own : String) (index : Nat) (y : MethodName) (bytes : ByteArray) (maxL : Nat) (ret : Option FieldType) (hh : List (Nat × Nat × Nat × Nat)) (ws : List Cond) (rm : Room) (mc ms n : Nat) : Prop :=
  (rm.cells = mc ∧ rm.slots = ms ∧ rm.frames + 1 ≤ R.frames ∧ 8 + (maxL + 11) + rm.locals ≤ R.locals ∧ (∀ w ∈ ws, ∀ (a' : Array Value) (U : State), s.WarmedH U.vm → w.before a' U = true) ∧ Cond.codeWith y bytes maxL ret hh ∈ ws) ∧
  (Cond.codeWith y bytes maxL ret hh).before args s = true ∧ (Cond.initialized y.cls).before args s = true ∧ (y.cls ≠ "java/lang/invoke/MethodHandle" ∧ y.cls ≠ "java/lang/invoke/VarHandle") ∧
  (∀ sig, parseMethodDescriptor y.desc = some sig → n = sig.parameters.length) ∧ (Cond.methodLink own index y).before args s = true ∧ (Cond.static y).before args s = true
theorem vx_cwSW {own : String} {index maxL mc ms : Nat} {y : MethodName} {bytes : ByteArray} {ret : Option FieldType} {hh : List (Nat × Nat × Nat × Nat)} {Ts ws ws' : List Cond} {rm : Room} (n : Nat) (ht : ∀ w ∈ Ts, w.before args s = true) (hT : GoodIn Ts (va_wsS own index y ws)) (hw : ws = Cond.codeWith y bytes maxL ret hh :: ws') (hrc : rm.cells = mc) (hrs : rm.slots = ms)
    (hd : y.cls ≠ "java/lang/invoke/MethodHandle" ∧ y.cls ≠ "java/lang/invoke/VarHandle" ∧ (parseMethodDescriptor y.desc).map (fun d => d.parameters.length) = some n) (hR : rm.frames + 1 ≤ R.frames ∧ 8 + (maxL + 11) + rm.locals ≤ R.locals) :
    vx_CSW R s args own index y bytes maxL ret hh ws rm mc ms n := by
  have ok : ∀ w ∈ va_wsS own index y ws, w.before args s = true := fun w h => ht w (hT w h).1
  have hG : GoodIn Ts ws := fun w h => hT w (by unfold va_wsS; exact List.mem_append_right _ h)
  have hc : Cond.codeWith y bytes maxL ret hh ∈ ws := by rw [hw]; exact List.mem_cons_self
  refine ⟨⟨hrc, hrs, hR.1, hR.2, pay_in ht hG, hc⟩, ht _ (hG _ hc).1, ok _ (by simp [va_wsS]), ⟨hd.1, hd.2.1⟩, fun sig h => ?_, ok _ (by simp [va_wsS]), ok _ (by simp [va_wsS])⟩
  have h2 := hd.2.2
  rw [h] at h2
  exact (Option.some.inj h2).symm
theorem vx_callSW (X : Stand p l e R s m args below meth c T locs cells slots) (hexec : p.tables.exec = Jvm.exec) {own : String} {index : Nat} {y : MethodName} {bytes : ByteArray} {maxL : Nat} {ret : Option FieldType} {hh : List (Nat × Nat × Nat × Nat)}
    (hown : s.vm.findClass own = some m.cls) (hlink : (Cond.methodLink own index y).before args s = true) (hstat : (Cond.static y).before args s = true) (hinit : (Cond.initialized y.cls).before args s = true)
    (hcode : (Cond.codeWith y bytes maxL ret hh).before args s = true) (hy : y.cls ≠ "java/lang/invoke/MethodHandle" ∧ y.cls ≠ "java/lang/invoke/VarHandle")
    {W9 : Nat} {Pre : Pt → Array Value → Prop} {Post : Pt → Array Value → Option Value → Pt → Prop} (hK : Back l R p e below s args y 3 W9 Pre Post)
    {g : JFrame} (hg : g.method = m) (hsize : g.locals.size = c.maxLocals) {argsL rest : List Value} (hlen : ∀ sig, parseMethodDescriptor y.desc = some sig → argsL.length = sig.parameters.length)
    (hstack : g.stack = argsL.reverse ++ rest) (hW : 2 * g.monitorRoom + (rest.map fun v => v.category).sum ≤ W9) (hdg : decode c.code g.pc = .ok (.invokestatic index, 3))
    (hpre : ∀ vm₁, s.WarmedH vm₁ → Pre ⟨T.setVm vm₁, locs, cells, slots⟩ argsL.toArray) :
    ∃ (v : Option Value) (vm₁ : Vm) (B : Pt), s.WarmedH vm₁ ∧ Stand p l e R s m args below meth c B.U B.locs B.cells B.slots ∧ Post ⟨T.setVm vm₁, locs, cells, slots⟩ argsL.toArray v B ∧
      ∀ target, Steps p.tables e below (B.U.setTop { g with pc := g.pc + 3, stack := v.toList ++ rest }) target → Steps p.tables e below (T.setTop g) target := by
  obtain ⟨mk, methM, cM, hnamed, hmethM, -, -, -, -, -, -, hsigM⟩ := Cond.codeWith_spec hcode
  have hstatic : methM.isStatic = true := Cond.static_spec hnamed hmethM hstat
  obtain ⟨kP, hkP, -⟩ := className_of_methodNamed hnamed
  have hinitP : kP.init = .initialized := Cond.initialized_spec (findClass_of_methodNamed hnamed) hkP hinit
  obtain ⟨vm₁, X₁, hstep₁⟩ := X.invokestatic hexec hown hlink hnamed hmethM hstatic hkP hinitP hy (g := g) hg (argsL := argsL) (rest := rest) (hlen _ hsigM) hstack hdg
  obtain ⟨v, B, X', hpost, hsteps⟩ := hK m meth c ⟨T.setVm vm₁, locs, cells, slots⟩ { g with stack := rest } (.invokestatic index) mk argsL.toArray X₁ hg hsize hdg hW (X₁.named hnamed) (hpre vm₁ X₁.warmed)
  exact ⟨v, vm₁, B, X₁.warmed, X', hpost, fun target h => hstep₁ _ fun acts => by rw [doInvoke_state]; exact hsteps.trans h⟩
theorem vx_runSW {y : MethodName} {bytes cc : ByteArray} {maxL nL mc ms n index : Nat} {ret : Option FieldType} {hh : List (Nat × Nat × Nat × Nat)} {ws : List Cond} {rm : Room} {Pc : Array Value → State → Prop} {Qc : Array Value → State → Outcome → State → Prop} {free : Addr → Prop} {Ts : List Cond} {own : String} {As rest : List Value} {g : JFrame}
    (S : CallFix p m c cc nL s args Ts own) (hM : Met l y ws rm Pc Qc mc ms free) (cw : vx_CSW R s args own index y bytes maxL ret hh ws rm mc ms n) (hp : PreS s H Pc As)
    (hg : g.method = m) (hn : As.length = n) (hsize : g.locals.size = nL) (hstack : g.stack = As.reverse ++ rest) (hW : 2 * g.monitorRoom + (rest.map fun v => v.category).sum ≤ 8) (hdg : decode cc g.pc = .ok (.invokestatic index, 3)) (hf : cells + mc ≤ R.cells ∧ slots + ms ≤ R.slots) :
    va_Run p l e R s m args below meth c H locs cells slots mc ms g rest (Qc As.toArray) (free) := by
  obtain ⟨⟨hrc, hrs, hfr, hlo, hws, hcw⟩, hcode, hini, hy, hlen, hl, hstt⟩ := cw
  have hK : Back l R p e below s args y 3 8 (PreOf R mc ms Pc) (PostOf Qc mc ms free) := va_backW (hh := hh) (bytes := bytes) (maxL := maxL) (ret := ret) hM hp.1 hrc hrs hfr hlo hws hcw (fun a' U hW => word_at hW (Or.inl (by first | rfl | simp [Cond.onTables, Cond.keeps, Cond.steady])) hini)
  obtain ⟨hx, hb, hml, ho, -⟩ := S
  intro T hT X
  obtain ⟨v, vm₁, ⟨U', l2, c2, s2⟩, hW₁, X', ⟨g', mk, t, L, e1, e2, hq, h1, hL, h2, h3⟩, st⟩ := vx_callSW X hx (hh := hh) (bytes := bytes) (maxL := maxL) (ret := ret) ho hl hstt hini hcode hy hK hg (hsize.trans hml.symm) (argsL := As) (rest := rest) (fun sig h => hn.trans (hlen sig h)) hstack hW (by rw [hb]; exact hdg)
    (fun vm₁ hW₁ => ⟨hf.1, hf.2, hp.2 (T.setVm vm₁) hT hW₁⟩)
  dsimp only [Pt.U, Pt.locs, Pt.cells, Pt.slots] at X' e1 e2 h1 h2 h3 st
  subst h1; subst h2; subst h3
  exact ⟨v, (T.setVm vm₁).calling g' mk As.toArray, t, U', L, hT, X', hL, e1, e2, hq, st⟩
/-- not caught here, past rows that name other classes: it goes on to the caller -/
theorem vx_outP {p : Program} {l : Launch} {e : Env} {R : Room} {s : State} {m : MethodId} {args : Array Value} {below : List Frame} {meth : Method} {c : Code} {H : Heap} {locs : List Loc} {cells slots : Nat} {free : Addr → Prop} {ls : Array Slot} {rest : List Value} {Qc : Array Value → State → Outcome → State → Prop} {XC : String → State → State → Prop}
    {pc : Nat} {own E : String} {ce : Cell} {q : Addr} {mc ms : Nat} (hown : s.vm.findClass own = some m.cls) (hlocks : meth.locks = false)
    (hpass : ∀ z ∈ c.exceptionTable.toList, covers z pc = false ∨ (z.catchType ≠ 0 ∧ ∃ nm : String, (Cond.classLink own z.catchType nm).before args s = true ∧ va_Nc E nm s)) (hcell : H[q]? = some ce) (hv : ce.vm = .none) (hcl : s.vm.findClass E = some ce.cls)
    (hx : ∀ t : State, t.heap = H → s.vm.Alike t.vm → XC E s t) (hf : ∀ z ∈ locs, free z.base) (hc : cells ≤ mc) (hs : slots ≤ ms) :
    vx_W p l e R s m args below meth c H locs cells slots (vx_MQ below Qc XC args s mc ms free) (F0 m pc ls rest) q := by
  intro T hT X
  have hpl : e.platform.magicAccessors = ({} : Platform).magicAccessors := by rw [X.admits.platform]
  obtain ⟨vm', hW', X', st⟩ := X.outThrough hlocks q (g := F0 m pc ls rest) rfl rfl rfl (cell := ce) (by rw [hT]; exact hcell) (by rw [hv]; rfl)
    (by obtain ⟨k9, h9, -⟩ := Vm.findClass_spec hcl; exact ⟨k9, h9⟩) (fun z hz => by
      rcases hpass z hz with h | ⟨hz0, nm, hl1, hn1⟩
      · exact Or.inl h
      · obtain ⟨c6, hc6, hcl6⟩ := Cond.classLink_spec hown hl1 e.platform hpl
        obtain ⟨a8, b8, h1, h2, h3⟩ := hn1
        cases Option.some.inj (h1.symm.trans hcl)
        cases Option.some.inj (h2.symm.trans hc6)
        exact Or.inr ⟨hz0, _, hcl6, h3⟩)
  obtain ⟨g₀, hfr⟩ := X'.frames_eq
  have hcell9 : ((T.setVm vm').setFrames (.throwing q :: below)).heap[q]? = some ce := by
    show T.heap[q]? = some ce
    rw [hT]; exact hcell
  have hend : Ended ((T.setVm vm').setFrames (.throwing q :: below)) below (.threw q) := State.frames_setFrames _ (State.cur_lt_of_frames hfr)
  refine ⟨(T.setVm vm').setFrames (.throwing q :: below), ?_, .threw q, X'.here.running, hend, Or.inr ⟨q, rfl, E, ce, locs, hx _ hT (X'.ends _).1.alike, hcell9, hv, hcl, (X'.ends _).1, (X'.ends _).2.mono hc hs, hf⟩⟩
  rw [X.pushThrowing_eq]
  exact st
/-- a thing of a world lies in the heap -/
theorem vx_lt {D : va_G} {cl : List vw_C} {ws : va_W} {H1 : Heap} (h : va_P D cl ws H1) {k : Nat} {q : Nat × va_E} (hk : ws[k]? = some q) : q.1 < H1.size := (h k q hk).lt
end VXS
/-! ===== END ===== -/
/-! ===== BEGIN methods with a table of their own: called by a name, returning or throwing ===== -/
section VXH
/-! vx_backW, vx_callVX, vx_callSX, vx_callVW, vx_runVW, vx_runVX, vx_runSX, vx_ofWH follow the same proofs as their sisters above (Free/Laws.lean, Shelf42/LK1.lean); vx_outP calls Shelf42/NT130.lean (outThrough). -/
section
variable {l : Launch} {R : Room} {p : Program} {e : Env} {below : List Frame} {s : State} {sargs : Array Value} {y : MethodName} {len W9 : Nat}
theorem vx_backW {ws : List Cond} {rm : Room} {Pc : Array Value → State → Prop} {Qc : Array Value → State → Outcome → State → Prop} {XC : String → State → State → Prop} {mc ms : Nat} {free : Addr → Prop} {bytes : ByteArray} {maxL : Nat} {ret : Option FieldType} {hh : List (Nat × Nat × Nat × Nat)}
    (hM : vx_Met l y ws rm Pc Qc XC mc ms free) (hblind : FrameBlind Pc) (hrc : rm.cells = mc) (hrs : rm.slots = ms)
    (hframes : rm.frames + 1 ≤ R.frames) (hlocals : W9 + (maxL + 11) + rm.locals ≤ R.locals)
    (hws : ∀ w ∈ ws, ∀ a' U, s.WarmedH U.vm → w.before a' U = true) (hcode : Cond.codeWith y bytes maxL ret hh ∈ ws) (hinit : ∀ a' U, s.WarmedH U.vm → (Cond.initialized y.cls).before a' U = true) :
    vx_Back l R p e below s sargs y len W9 (PreOf R mc ms Pc) (PostOf Qc mc ms free) (vx_Post XC mc ms free) := by
  intro m meth c A g ig mk a X hg hsize hdg hW hn hp
  have h1 : (headSpec ws rm).pre.before a A.U = true := atoms_intro fun w hw => hws w hw _ _ X.warmed
  have h2 : (Cond.codeWith y bytes maxL ret hh).before a A.U = true := hws _ hcode _ _ X.warmed
  have h3 : (Cond.initialized y.cls).before a A.U = true := hinit _ _ X.warmed
  have h4 : A.cells + (headSpec ws rm).room.cells ≤ R.cells := by rw [show (headSpec ws rm).room.cells = mc from hrc]; exact hp.1
  have h5 : A.slots + (headSpec ws rm).room.slots ≤ R.slots := by rw [show (headSpec ws rm).room.slots = ms from hrs]; exact hp.2.1
  have hPc : Pc a (A.U.calling g mk a) := hblind _ _ _ _ hp.2.2
  obtain ⟨U, Ls, c0, s0⟩ := A
  dsimp only [Pt.U, Pt.locs, Pt.cells, Pt.slots] at h1 h2 h3 h4 h5 X hn hPc ⊢
  obtain ⟨m9, methY, cY, hn9, hmY, hcY, -, hlY, -⟩ := Cond.codeWith_spec h2
  cases Option.some.inj (hn9.symm.trans hn)
  obtain ⟨kY, hkY, -⟩ := className_of_methodNamed hn
  have hinitY : kY.init = .initialized := Cond.initialized_spec (findClass_of_methodNamed hn) hkY h3
  have h : At U g.method c below := by rw [hg]; exact X.here
  have hlocals9 : W9 + (maxL + 11) + (headSpec ws rm).room.locals ≤ R.locals := hlocals
  have happ : (headSpec ws rm).appliesLoose y e.platform (U.calling g mk a) = true :=
    Spec.appliesLoose_calling (g := g) h hdg hn hkY hinitY
      (X.room_calling (g := g) (R' := (headSpec ws rm).room) hsize hmY hcY hframes (by rw [hlY]; omega) h4 h5) h1
  obtain ⟨mid, hmid⟩ := h.above
  have hfr : (U.setTop g).frames = (.java g :: mid) ++ below := by rw [State.frames_setTop' g h.top, hmid]; rfl
  obtain ⟨o, s₂, hsteps, -, hend, hq⟩ := Steps.callFree hM p X.admits X.cas X.clock (acts := []) hfr happ hPc trivial
  have hq' : vx_Q Qc XC mc ms free a (U.calling g mk a) o s₂ := hq
  rw [State.frames_setTop' g h.top] at hend
  obtain ⟨g₀, hg0⟩ := Option.isSome_iff_exists.mp h.top
  obtain ⟨r, hr⟩ := State.topJava?_eq_some.mp hg0
  have hr' : (({ U with heap := s₂.heap, slotsUsed := s₂.slotsUsed } : State).setVm s₂.vm).frames = .java g₀ :: r := hr
  rcases hq' with ⟨hqc, L, hfe, hL⟩ | ⟨q, rfl, E, ce, L, hx, hce, hcv, hcl, hW₂, hsm, hL⟩
  · obtain ⟨⟨v, rfl⟩, hW₂, e2, q2, q3, q4, q5, q6⟩ := id hfe
    have e3 : s₂ = ({ (U.calling g mk a).setFrames s₂.frames with heap := s₂.heap, slotsUsed := s₂.slotsUsed } : State).setVm s₂.vm := by
      have : s₂ = ({ s₂ with vm := (U.calling g mk a).vm } : State).setVm s₂.vm := rfl
      rw [e2] at this
      exact this
    obtain ⟨c₂, i₂, len₂, hc₂, hd₂, hf₂⟩ := hend
    have hW' : U.WarmedH s₂.vm := hW₂
    have hcc : c₂ = c := by
      have h1 : s₂.code? g.method = U.code? g.method := by
        rw [State.code?_eq, State.code?_eq, hW'.alike.method?]
      exact Option.some.inj (hc₂.symm.trans (h1.trans h.code))
    subst hcc
    have hlen : len₂ = len := by rw [hdg] at hd₂; cases hd₂; rfl
    subst hlen
    have hs₂ : s₂ = (({ U with heap := s₂.heap, slotsUsed := s₂.slotsUsed } : State).setVm s₂.vm).setTop { g with pc := g.pc + len₂, stack := v.toList ++ g.stack } := by
      refine e3.trans ?_
      rw [hf₂, State.calling_eq h.top, State.setFrames_setFrames, State.setTop_of_frames _ hr', hr]
      rfl
    have hsame : U.sameButNew ({ U with heap := s₂.heap, slotsUsed := s₂.slotsUsed } : State) L mc ms := by
      refine ⟨?_, q2, q3, q4, q5, q6⟩
      obtain ⟨t, ht, -⟩ := State.frames_cons hr
      show ({ U with heap := s₂.heap, slotsUsed := s₂.slotsUsed } : State) = { U.setFrames U.frames with heap := s₂.heap, slotsUsed := s₂.slotsUsed }
      rw [State.setFrames_self ht]
    subst hg
    refine Or.inl ⟨v, ⟨(({ U with heap := s₂.heap, slotsUsed := s₂.slotsUsed } : State).setVm s₂.vm), Ls ++ L, c0 + mc, s0 + ms⟩,
      ⟨X.admits, X.cas, X.clock, X.frames, X.room, X.hears, X.method, X.code, (X.here.setHeapUsed s₂.heap s₂.slotsUsed).setVm hW'.alike, X.tail, State.WarmedH.trans X.warmed hW', X.limits, X.bytes, X.same.trans (hsame.setVm s.vm)⟩,
      ⟨g, mk, s₂, L, rfl, rfl, hqc, rfl, hL, rfl, rfl⟩, ?_⟩
    show Steps p.tables e below _ ((({ U with heap := s₂.heap, slotsUsed := s₂.slotsUsed } : State).setVm s₂.vm).setTop { g with pc := g.pc + len₂, stack := v.toList ++ g.stack })
    rw [← hs₂]
    exact hsteps
  · obtain ⟨e2, q2, q3, q4, q5, q6⟩ := id hsm
    have e3 : s₂ = ({ (U.calling g mk a).setFrames s₂.frames with heap := s₂.heap, slotsUsed := s₂.slotsUsed } : State).setVm s₂.vm := by
      have : s₂ = ({ s₂ with vm := (U.calling g mk a).vm } : State).setVm s₂.vm := rfl
      rw [e2] at this
      exact this
    have hf₂ : s₂.frames = .throwing q :: .java g :: U.frames.tail := hend
    have hW' : U.WarmedH s₂.vm := hW₂
    have hs₂ : s₂ = ((({ U with heap := s₂.heap, slotsUsed := s₂.slotsUsed } : State).setVm s₂.vm).setTop g).pushFrame (.throwing q) := by
      refine e3.trans ?_
      rw [hf₂, State.calling_eq h.top, State.setFrames_setFrames, State.pushFrame, State.frames_setTop _ hr', State.setTop_of_frames _ hr', State.setFrames_setFrames, hr]
      rfl
    have hsame : U.sameButNew ({ U with heap := s₂.heap, slotsUsed := s₂.slotsUsed } : State) L mc ms := by
      refine ⟨?_, q2, q3, q4, q5, q6⟩
      obtain ⟨t, ht, -⟩ := State.frames_cons hr
      show ({ U with heap := s₂.heap, slotsUsed := s₂.slotsUsed } : State) = { U.setFrames U.frames with heap := s₂.heap, slotsUsed := s₂.slotsUsed }
      rw [State.setFrames_self ht]
    subst hg
    refine Or.inr ⟨q, ⟨(({ U with heap := s₂.heap, slotsUsed := s₂.slotsUsed } : State).setVm s₂.vm), Ls ++ L, c0 + mc, s0 + ms⟩,
      ⟨X.admits, X.cas, X.clock, X.frames, X.room, X.hears, X.method, X.code, (X.here.setHeapUsed s₂.heap s₂.slotsUsed).setVm hW'.alike, X.tail, State.WarmedH.trans X.warmed hW', X.limits, X.bytes, X.same.trans (hsame.setVm s.vm)⟩,
      ⟨g, mk, s₂, L, E, ce, rfl, rfl, hx, hce, hcv, hcl, rfl, hL, rfl, rfl⟩, ?_⟩
    show Steps p.tables e below _ (((({ U with heap := s₂.heap, slotsUsed := s₂.slotsUsed } : State).setVm s₂.vm).setTop g).pushFrame (.throwing q))
    rw [← hs₂]
    exact hsteps
end
variable {p : Program} {l : Launch} {e : Env} {R : Room} {s : State} {m : MethodId} {args : Array Value} {below : List Frame} {meth : Method} {c : Code} {T : State} {H : Heap} {locs : List Loc} {cells slots : Nat}
theorem vx_callVX (X : Stand p l e R s m args below meth c T locs cells slots) (hexec : p.tables.exec = Jvm.exec) {own C : String} {index : Nat} {y : MethodName} {bytes : ByteArray} {maxL : Nat} {ret : Option FieldType} {hh : List (Nat × Nat × Nat × Nat)}
    (hown : s.vm.findClass own = some m.cls) (hlink : (Cond.methodLink own index y).before args s = true) (hinst : (Cond.instanceMethod y).before args s = true) (hsel : (Cond.selects C y y).before args s = true)
    (hcode : (Cond.codeWith y bytes maxL ret hh).before args s = true) (hy : y.cls ≠ "java/lang/invoke/MethodHandle" ∧ y.cls ≠ "java/lang/invoke/VarHandle")
    {W9 : Nat} {Pre : Pt → Array Value → Prop} {Post : Pt → Array Value → Option Value → Pt → Prop} {PostX : Pt → Array Value → Addr → Pt → Prop} (hK : vx_Back l R p e below s args y 3 W9 Pre Post PostX)
    {b : Addr} {cellB : Cell} (hcell : T.heap[b]? = some cellB) (hobj : cellB.vm.isStatics = false) (hcls : s.vm.findClass C = some cellB.cls)
    {g : JFrame} (hg : g.method = m) (hsize : g.locals.size = c.maxLocals) {argsL rest : List Value} (hlen : ∀ sig, parseMethodDescriptor y.desc = some sig → argsL.length = sig.parameters.length)
    (hstack : g.stack = argsL.reverse ++ .ref b :: rest) (hW : 2 * g.monitorRoom + (rest.map fun v => v.category).sum ≤ W9) (hdg : decode c.code g.pc = .ok (.invokevirtual index, 3))
    (hpre : ∀ vm₁, s.WarmedH vm₁ → Pre ⟨T.setVm vm₁, locs, cells, slots⟩ (Value.ref b :: argsL).toArray) :
    (∃ (v : Option Value) (vm₁ : Vm) (B : Pt), s.WarmedH vm₁ ∧ Stand p l e R s m args below meth c B.U B.locs B.cells B.slots ∧ Post ⟨T.setVm vm₁, locs, cells, slots⟩ (Value.ref b :: argsL).toArray v B ∧
      ∀ target, Steps p.tables e below (B.U.setTop { g with pc := g.pc + 3, stack := v.toList ++ rest }) target → Steps p.tables e below (T.setTop g) target) ∨
    (∃ (q : Addr) (vm₁ : Vm) (B : Pt), s.WarmedH vm₁ ∧ Stand p l e R s m args below meth c B.U B.locs B.cells B.slots ∧ PostX ⟨T.setVm vm₁, locs, cells, slots⟩ (Value.ref b :: argsL).toArray q B ∧
      Steps p.tables e below (T.setTop g) ((B.U.setTop { g with stack := rest }).pushFrame (.throwing q))) := by
  obtain ⟨mk, methM, hnamed, hmethM, hstM, habM⟩ := Cond.instanceMethod_spec hinst
  obtain ⟨m8, methM', cM, hn8, hmethM', -, -, -, -, -, -, hsigM⟩ := Cond.codeWith_spec hcode
  cases Option.some.inj (hn8.symm.trans hnamed)
  cases hmethM.symm.trans hmethM'
  obtain ⟨c2, r2, m2, q1, q2, q3, q4, kP, hkP, hkPi⟩ := Cond.selects_spec hsel
  cases hcls.symm.trans q1
  cases (State.methodFound?_of_named hnamed hy).symm.trans q2
  cases hnamed.symm.trans q3
  have hselP : selectMethod e.platform s.vm cellB.cls mk = .method mk := by rw [Launch.admits_selectMethod X.admits]; exact q4
  obtain ⟨vm₁, X₁, hstep₁⟩ := X.invokevirtual hexec hown hlink hnamed hmethM hstM hkP hkPi hy (a := b) (cell := cellB) hcell
    (fun z h => by rw [h] at hobj; cases hobj) hselP hmethM habM hkP hkPi (g := g) hg (argsL := argsL) (rest := rest) (hlen _ hsigM) hstack hdg
  rcases hK m meth c ⟨T.setVm vm₁, locs, cells, slots⟩ { g with stack := rest } (.invokevirtual index) mk (Value.ref b :: argsL).toArray X₁ hg hsize hdg hW (X₁.named hnamed) (hpre vm₁ X₁.warmed) with ⟨v, B, X', hpost, hsteps⟩ | ⟨q, B, X', hpost, hsteps⟩
  · exact Or.inl ⟨v, vm₁, B, X₁.warmed, X', hpost, fun target h => hstep₁ _ fun acts => by rw [doInvoke_state]; exact hsteps.trans h⟩
  · exact Or.inr ⟨q, vm₁, B, X₁.warmed, X', hpost, hstep₁ _ fun acts => by rw [doInvoke_state]; exact hsteps⟩
theorem vx_callSX (X : Stand p l e R s m args below meth c T locs cells slots) (hexec : p.tables.exec = Jvm.exec) {own : String} {index : Nat} {y : MethodName} {bytes : ByteArray} {maxL : Nat} {ret : Option FieldType} {hh : List (Nat × Nat × Nat × Nat)}
    (hown : s.vm.findClass own = some m.cls) (hlink : (Cond.methodLink own index y).before args s = true) (hstat : (Cond.static y).before args s = true) (hinit : (Cond.initialized y.cls).before args s = true)
    (hcode : (Cond.codeWith y bytes maxL ret hh).before args s = true) (hy : y.cls ≠ "java/lang/invoke/MethodHandle" ∧ y.cls ≠ "java/lang/invoke/VarHandle")
    {W9 : Nat} {Pre : Pt → Array Value → Prop} {Post : Pt → Array Value → Option Value → Pt → Prop} {PostX : Pt → Array Value → Addr → Pt → Prop} (hK : vx_Back l R p e below s args y 3 W9 Pre Post PostX)
    {g : JFrame} (hg : g.method = m) (hsize : g.locals.size = c.maxLocals) {argsL rest : List Value} (hlen : ∀ sig, parseMethodDescriptor y.desc = some sig → argsL.length = sig.parameters.length)
    (hstack : g.stack = argsL.reverse ++ rest) (hW : 2 * g.monitorRoom + (rest.map fun v => v.category).sum ≤ W9) (hdg : decode c.code g.pc = .ok (.invokestatic index, 3))
    (hpre : ∀ vm₁, s.WarmedH vm₁ → Pre ⟨T.setVm vm₁, locs, cells, slots⟩ argsL.toArray) :
    (∃ (v : Option Value) (vm₁ : Vm) (B : Pt), s.WarmedH vm₁ ∧ Stand p l e R s m args below meth c B.U B.locs B.cells B.slots ∧ Post ⟨T.setVm vm₁, locs, cells, slots⟩ argsL.toArray v B ∧
      ∀ target, Steps p.tables e below (B.U.setTop { g with pc := g.pc + 3, stack := v.toList ++ rest }) target → Steps p.tables e below (T.setTop g) target) ∨
    (∃ (q : Addr) (vm₁ : Vm) (B : Pt), s.WarmedH vm₁ ∧ Stand p l e R s m args below meth c B.U B.locs B.cells B.slots ∧ PostX ⟨T.setVm vm₁, locs, cells, slots⟩ argsL.toArray q B ∧
      Steps p.tables e below (T.setTop g) ((B.U.setTop { g with stack := rest }).pushFrame (.throwing q))) := by
  obtain ⟨mk, methM, cM, hnamed, hmethM, -, -, -, -, -, -, hsigM⟩ := Cond.codeWith_spec hcode
  have hstatic : methM.isStatic = true := Cond.static_spec hnamed hmethM hstat
  obtain ⟨kP, hkP, -⟩ := className_of_methodNamed hnamed
  have hinitP : kP.init = .initialized := Cond.initialized_spec (findClass_of_methodNamed hnamed) hkP hinit
  obtain ⟨vm₁, X₁, hstep₁⟩ := X.invokestatic hexec hown hlink hnamed hmethM hstatic hkP hinitP hy (g := g) hg (argsL := argsL) (rest := rest) (hlen _ hsigM) hstack hdg
  rcases hK m meth c ⟨T.setVm vm₁, locs, cells, slots⟩ { g with stack := rest } (.invokestatic index) mk argsL.toArray X₁ hg hsize hdg hW (X₁.named hnamed) (hpre vm₁ X₁.warmed) with ⟨v, B, X', hpost, hsteps⟩ | ⟨q, B, X', hpost, hsteps⟩
  · exact Or.inl ⟨v, vm₁, B, X₁.warmed, X', hpost, fun target h => hstep₁ _ fun acts => by rw [doInvoke_state]; exact hsteps.trans h⟩
  · exact Or.inr ⟨q, vm₁, B, X₁.warmed, X', hpost, hstep₁ _ fun acts => by rw [doInvoke_state]; exact hsteps⟩
theorem vx_callVW (X : Stand p l e R s m args below meth c T locs cells slots) (hexec : p.tables.exec = Jvm.exec) {own C : String} {index : Nat} {y : MethodName} {bytes : ByteArray} {maxL : Nat} {ret : Option FieldType} {hh : List (Nat × Nat × Nat × Nat)}
    (hown : s.vm.findClass own = some m.cls) (hlink : (Cond.methodLink own index y).before args s = true) (hinst : (Cond.instanceMethod y).before args s = true) (hsel : (Cond.selects C y y).before args s = true)
    (hcode : (Cond.codeWith y bytes maxL ret hh).before args s = true) (hy : y.cls ≠ "java/lang/invoke/MethodHandle" ∧ y.cls ≠ "java/lang/invoke/VarHandle")
    {W9 : Nat} {Pre : Pt → Array Value → Prop} {Post : Pt → Array Value → Option Value → Pt → Prop} (hK : Back l R p e below s args y 3 W9 Pre Post)
    {b : Addr} {cellB : Cell} (hcell : T.heap[b]? = some cellB) (hobj : cellB.vm.isStatics = false) (hcls : s.vm.findClass C = some cellB.cls)
    {g : JFrame} (hg : g.method = m) (hsize : g.locals.size = c.maxLocals) {argsL rest : List Value} (hlen : ∀ sig, parseMethodDescriptor y.desc = some sig → argsL.length = sig.parameters.length)
    (hstack : g.stack = argsL.reverse ++ .ref b :: rest) (hW : 2 * g.monitorRoom + (rest.map fun v => v.category).sum ≤ W9) (hdg : decode c.code g.pc = .ok (.invokevirtual index, 3))
    (hpre : ∀ vm₁, s.WarmedH vm₁ → Pre ⟨T.setVm vm₁, locs, cells, slots⟩ (Value.ref b :: argsL).toArray) :
    ∃ (v : Option Value) (vm₁ : Vm) (B : Pt), s.WarmedH vm₁ ∧ Stand p l e R s m args below meth c B.U B.locs B.cells B.slots ∧ Post ⟨T.setVm vm₁, locs, cells, slots⟩ (Value.ref b :: argsL).toArray v B ∧
      ∀ target, Steps p.tables e below (B.U.setTop { g with pc := g.pc + 3, stack := v.toList ++ rest }) target → Steps p.tables e below (T.setTop g) target := by
  obtain ⟨mk, methM, hnamed, hmethM, hstM, habM⟩ := Cond.instanceMethod_spec hinst
  obtain ⟨m8, methM', cM, hn8, hmethM', -, -, -, -, -, -, hsigM⟩ := Cond.codeWith_spec hcode
  cases Option.some.inj (hn8.symm.trans hnamed)
  cases hmethM.symm.trans hmethM'
  obtain ⟨c2, r2, m2, q1, q2, q3, q4, kP, hkP, hkPi⟩ := Cond.selects_spec hsel
  cases hcls.symm.trans q1
  cases (State.methodFound?_of_named hnamed hy).symm.trans q2
  cases hnamed.symm.trans q3
  have hselP : selectMethod e.platform s.vm cellB.cls mk = .method mk := by rw [Launch.admits_selectMethod X.admits]; exact q4
  obtain ⟨vm₁, X₁, hstep₁⟩ := X.invokevirtual hexec hown hlink hnamed hmethM hstM hkP hkPi hy (a := b) (cell := cellB) hcell
    (fun z h => by rw [h] at hobj; cases hobj) hselP hmethM habM hkP hkPi (g := g) hg (argsL := argsL) (rest := rest) (hlen _ hsigM) hstack hdg
  obtain ⟨v, B, X', hpost, hsteps⟩ := hK m meth c ⟨T.setVm vm₁, locs, cells, slots⟩ { g with stack := rest } (.invokevirtual index) mk (Value.ref b :: argsL).toArray X₁ hg hsize hdg hW (X₁.named hnamed) (hpre vm₁ X₁.warmed)
  exact ⟨v, vm₁, B, X₁.warmed, X', hpost, fun target h => hstep₁ _ fun acts => by rw [doInvoke_state]; exact hsteps.trans h⟩
abbrev vx_CVW (R : Room) (s : State) (args : Array Value) (own C : String) (index : Nat) (y : MethodName) (bytes : ByteArray) (maxL : Nat) (ret : Option FieldType) (hh : List (Nat × Nat × Nat × Nat)) (ws : List Cond) (rm : Room) (mc ms n : Nat) : Prop :=
  (rm.cells = mc ∧ rm.slots = ms ∧ rm.frames + 1 ≤ R.frames ∧ 8 + (maxL + 11) + rm.locals ≤ R.locals ∧ (∀ w ∈ ws, ∀ (a' : Array Value) (U : State), s.WarmedH U.vm → w.before a' U = true) ∧ Cond.codeWith y bytes maxL ret hh ∈ ws) ∧
  (Cond.codeWith y bytes maxL ret hh).before args s = true ∧ (Cond.initialized y.cls).before args s = true ∧ (y.cls ≠ "java/lang/invoke/MethodHandle" ∧ y.cls ≠ "java/lang/invoke/VarHandle") ∧
  (∀ sig, parseMethodDescriptor y.desc = some sig → n = sig.parameters.length) ∧ (Cond.methodLink own index y).before args s = true ∧ (Cond.instanceMethod y).before args s = true ∧ (Cond.selects C y y).before args s = true
theorem vx_cwVW {own C : String} {index maxL mc ms : Nat} {y : MethodName} {bytes : ByteArray} {ret : Option FieldType} {hh : List (Nat × Nat × Nat × Nat)} {Ts ws ws' : List Cond} {rm : Room} (n : Nat) (ht : ∀ w ∈ Ts, w.before args s = true) (hT : GoodIn Ts (wsV own index C y ws)) (hw : ws = Cond.codeWith y bytes maxL ret hh :: ws') (hrc : rm.cells = mc) (hrs : rm.slots = ms)
    (hd : y.cls = C ∧ y.cls ≠ "java/lang/invoke/MethodHandle" ∧ y.cls ≠ "java/lang/invoke/VarHandle" ∧ (parseMethodDescriptor y.desc).map (fun d => d.parameters.length) = some n) (hR : rm.frames + 1 ≤ R.frames ∧ 8 + (maxL + 11) + rm.locals ≤ R.locals) :
    vx_CVW R s args own C index y bytes maxL ret hh ws rm mc ms n := by
  obtain ⟨hC, hd⟩ := hd
  subst hC
  have ok : ∀ w ∈ wsV own index y.cls y ws, w.before args s = true := fun w h => ht w (hT w h).1
  have hG : GoodIn Ts ws := fun w h => hT w (by unfold wsV; exact List.mem_append_right _ h)
  have hc : Cond.codeWith y bytes maxL ret hh ∈ ws := by rw [hw]; exact List.mem_cons_self
  refine ⟨⟨hrc, hrs, hR.1, hR.2, pay_in ht hG, hc⟩, ht _ (hG _ hc).1, ok _ (by simp [wsV]), ⟨hd.1, hd.2.1⟩, fun sig h => ?_, ok _ (by simp [wsV]), ok _ (by simp [wsV]), ok _ (by simp [wsV])⟩
  have h2 := hd.2.2
  rw [h] at h2
  exact (Option.some.inj h2).symm
theorem vx_runVW {y : MethodName} {bytes cc : ByteArray} {maxL nL mc ms n index : Nat} {ret : Option FieldType} {hh : List (Nat × Nat × Nat × Nat)} {ws : List Cond} {rm : Room} {Pc : Array Value → State → Prop} {Qc : Array Value → State → Outcome → State → Prop} {free : Addr → Prop} {Ts : List Cond} {own C : String} {b : Addr} {As rest : List Value} {g : JFrame}
    (S : CallFix p m c cc nL s args Ts own) (hM : Met l y ws rm Pc Qc mc ms free) (cw : vx_CVW R s args own C index y bytes maxL ret hh ws rm mc ms n) (hp : PreV s H C b Pc As)
    (hg : g.method = m) (hn : As.length = n) (hsize : g.locals.size = nL) (hstack : g.stack = As.reverse ++ .ref b :: rest) (hW : 2 * g.monitorRoom + (rest.map fun v => v.category).sum ≤ 8) (hdg : decode cc g.pc = .ok (.invokevirtual index, 3)) (hf : cells + mc ≤ R.cells ∧ slots + ms ≤ R.slots) :
    va_Run p l e R s m args below meth c H locs cells slots mc ms g rest (Qc (Value.ref b :: As).toArray) free := by
  obtain ⟨⟨hrc, hrs, hfr, hlo, hws, hcw⟩, hcode, hini, hy, hlen, hl, hin, hse⟩ := cw
  have hK : Back l R p e below s args y 3 8 (PreOf R mc ms Pc) (PostOf Qc mc ms free) := va_backW (hh := hh) (bytes := bytes) (maxL := maxL) (ret := ret) hM hp.1 hrc hrs hfr hlo hws hcw (fun a' U hW => word_at hW (Or.inl (by first | rfl | simp [Cond.onTables, Cond.keeps, Cond.steady])) hini)
  obtain ⟨hx, hb, hml, ho, -⟩ := S
  obtain ⟨-, ⟨cellB, hcB, hoB, hclB⟩, hPc⟩ := hp
  intro T hT X
  obtain ⟨v, vm₁, ⟨U', l2, c2, s2⟩, hW₁, X', ⟨g', mk, t, L, e1, e2, hq, h1, hL, h2, h3⟩, st⟩ := vx_callVW X hx (C := C) (hh := hh) (bytes := bytes) (maxL := maxL) (ret := ret) ho hl hin hse hcode hy hK (by rw [hT]; exact hcB) hoB hclB hg (hsize.trans hml.symm) (argsL := As) (rest := rest) (fun sig h => hn.trans (hlen sig h)) hstack hW (by rw [hb]; exact hdg)
    (fun vm₁ hW₁ => ⟨hf.1, hf.2, hPc (T.setVm vm₁) hT hW₁⟩)
  dsimp only [Pt.U, Pt.locs, Pt.cells, Pt.slots] at X' e1 e2 h1 h2 h3 st
  subst h1; subst h2; subst h3
  exact ⟨v, (T.setVm vm₁).calling g' mk (Value.ref b :: As).toArray, t, U', L, hT, X', hL, e1, e2, hq, st⟩
section
variable {y : MethodName} {bytes cc : ByteArray} {maxL nL mc ms n index : Nat} {ret : Option FieldType} {ws : List Cond} {rm : Room} {Pc : Array Value → State → Prop} {Qc : Array Value → State → Outcome → State → Prop} {XC : String → State → State → Prop} {free : Addr → Prop} {Ts : List Cond} {own C : String} {b : Addr} {As rest : List Value} {g : JFrame}
theorem vx_runVX {hh : List (Nat × Nat × Nat × Nat)} (S : CallFix p m c cc nL s args Ts own) (hM : vx_Met l y ws rm Pc Qc XC mc ms free) (cw : vx_CVW R s args own C index y bytes maxL ret hh ws rm mc ms n) (hp : PreV s H C b Pc As)
    (hg : g.method = m) (hn : As.length = n) (hsize : g.locals.size = nL) (hstack : g.stack = As.reverse ++ .ref b :: rest) (hW : 2 * g.monitorRoom + (rest.map fun v => v.category).sum ≤ 8) (hdg : decode cc g.pc = .ok (.invokevirtual index, 3)) (hf : cells + mc ≤ R.cells ∧ slots + ms ≤ R.slots) :
    vx_Run p l e R s m args below meth c H locs cells slots mc ms g rest (Qc (Value.ref b :: As).toArray) XC free := by
  obtain ⟨⟨hrc, hrs, hfr, hlo, hws, hcw⟩, hcode, hini, hy, hlen, hl, hin, hse⟩ := cw
  have hK : vx_Back l R p e below s args y 3 8 (PreOf R mc ms Pc) (PostOf Qc mc ms free) (vx_Post XC mc ms free) := vx_backW (hh := hh) (bytes := bytes) (maxL := maxL) (ret := ret) hM hp.1 hrc hrs hfr hlo hws hcw (fun a' U hW => word_at hW (Or.inl (by first | rfl | simp [Cond.onTables, Cond.keeps, Cond.steady])) hini)
  obtain ⟨hx, hb, hml, ho, -⟩ := S
  obtain ⟨-, ⟨cellB, hcB, hoB, hclB⟩, hPc⟩ := hp
  intro T hT X
  rcases vx_callVX X hx (C := C) (hh := hh) (bytes := bytes) (maxL := maxL) (ret := ret) ho hl hin hse hcode hy hK (by rw [hT]; exact hcB) hoB hclB hg (hsize.trans hml.symm) (argsL := As) (rest := rest) (fun sig h => hn.trans (hlen sig h)) hstack hW (by rw [hb]; exact hdg)
    (fun vm₁ hW₁ => ⟨hf.1, hf.2, hPc (T.setVm vm₁) hT hW₁⟩) with ⟨v, vm₁, ⟨U', l2, c2, s2⟩, hW₁, X', ⟨g', mk, t, L, e1, e2, hq, h1, hL, h2, h3⟩, st⟩ | ⟨q, vm₁, ⟨U', l2, c2, s2⟩, hW₁, X', ⟨g', mk, t, L, E, ce, e1, e2, hq, hce, hcv, hcl, h1, hL, h2, h3⟩, st⟩
  · dsimp only [Pt.U, Pt.locs, Pt.cells, Pt.slots] at X' e1 e2 h1 h2 h3 st
    subst h1; subst h2; subst h3
    exact Or.inl ⟨v, (T.setVm vm₁).calling g' mk (Value.ref b :: As).toArray, t, U', L, hT, X', hL, e1, e2, hq, st⟩
  · dsimp only [Pt.U, Pt.locs, Pt.cells, Pt.slots] at X' e1 e2 h1 h2 h3 st hcl
    subst h1; subst h2; subst h3
    exact Or.inr ⟨q, (T.setVm vm₁).calling g' mk (Value.ref b :: As).toArray, t, U', L, E, ce, hT, X', hL, e1, e2, hq, hce, hcv, vx_cls hW₁ hcl, st⟩
theorem vx_runSX {hh : List (Nat × Nat × Nat × Nat)} (S : CallFix p m c cc nL s args Ts own) (hM : vx_Met l y ws rm Pc Qc XC mc ms free) (cw : vx_CSW R s args own index y bytes maxL ret hh ws rm mc ms n) (hp : PreS s H Pc As)
    (hg : g.method = m) (hn : As.length = n) (hsize : g.locals.size = nL) (hstack : g.stack = As.reverse ++ rest) (hW : 2 * g.monitorRoom + (rest.map fun v => v.category).sum ≤ 8) (hdg : decode cc g.pc = .ok (.invokestatic index, 3)) (hf : cells + mc ≤ R.cells ∧ slots + ms ≤ R.slots) :
    vx_Run p l e R s m args below meth c H locs cells slots mc ms g rest (Qc As.toArray) XC free := by
  obtain ⟨⟨hrc, hrs, hfr, hlo, hws, hcw⟩, hcode, hini, hy, hlen, hl, hstt⟩ := cw
  have hK : vx_Back l R p e below s args y 3 8 (PreOf R mc ms Pc) (PostOf Qc mc ms free) (vx_Post XC mc ms free) := vx_backW (hh := hh) (bytes := bytes) (maxL := maxL) (ret := ret) hM hp.1 hrc hrs hfr hlo hws hcw (fun a' U hW => word_at hW (Or.inl (by first | rfl | simp [Cond.onTables, Cond.keeps, Cond.steady])) hini)
  obtain ⟨hx, hb, hml, ho, -⟩ := S
  intro T hT X
  rcases vx_callSX X hx (hh := hh) (bytes := bytes) (maxL := maxL) (ret := ret) ho hl hstt hini hcode hy hK hg (hsize.trans hml.symm) (argsL := As) (rest := rest) (fun sig h => hn.trans (hlen sig h)) hstack hW (by rw [hb]; exact hdg)
    (fun vm₁ hW₁ => ⟨hf.1, hf.2, hp.2 (T.setVm vm₁) hT hW₁⟩) with ⟨v, vm₁, ⟨U', l2, c2, s2⟩, hW₁, X', ⟨g', mk, t, L, e1, e2, hq, h1, hL, h2, h3⟩, st⟩ | ⟨q, vm₁, ⟨U', l2, c2, s2⟩, hW₁, X', ⟨g', mk, t, L, E, ce, e1, e2, hq, hce, hcv, hcl, h1, hL, h2, h3⟩, st⟩
  · dsimp only [Pt.U, Pt.locs, Pt.cells, Pt.slots] at X' e1 e2 h1 h2 h3 st
    subst h1; subst h2; subst h3
    exact Or.inl ⟨v, (T.setVm vm₁).calling g' mk As.toArray, t, U', L, hT, X', hL, e1, e2, hq, st⟩
  · dsimp only [Pt.U, Pt.locs, Pt.cells, Pt.slots] at X' e1 e2 h1 h2 h3 st hcl
    subst h1; subst h2; subst h3
    exact Or.inr ⟨q, (T.setVm vm₁).calling g' mk As.toArray, t, U', L, E, ce, hT, X', hL, e1, e2, hq, hce, hcv, vx_cls hW₁ hcl, st⟩
end
end VXH
theorem vx_ofWH {l : Launch} {y : MethodName} {ws ws' : List Cond} {rm : Room} {Pc : Array Value → State → Prop} {Qc : Array Value → State → Outcome → State → Prop} {XC : String → State → State → Prop} {mc ms : Nat} {free : Addr → Prop} {cc : ByteArray} {maxL : Nat} {ret : Option FieldType} {hh : List (Nat × Nat × Nat × Nat)}
    (hy : plainName y.cls = true) (hw : ws = Cond.codeWith y cc maxL ret hh :: ws')
    (body : ∀ p e s m args below meth c s₁, BodyLoose p l y (headSpec ws rm) cc maxL ret e s m args below meth c s₁ → c.maxLocals = maxL → Pc args s →
      W p l e (headSpec ws rm).room s m args below meth c s.heap [] 0 0 (vx_MQ below Qc XC args s mc ms free) (entryFrame m args maxL)) : vx_Met l y ws rm Pc Qc XC mc ms free := by
  refine MetFree.of_bodyS (code := cc) (maxLocals := maxL) (ret := ret) hy ?_ ?_
  · intro args s m h hn
    obtain ⟨m9, meth, c, hn9, h1, h2, h3, h4, -, h5, h6, -⟩ := Cond.codeWith_spec (atoms_spec (ws := ws) h _ (by rw [hw]; exact List.mem_cons_self))
    cases hn.symm.trans hn9
    exact ⟨meth, c, h1, h2, h3, h4, h5, h6⟩
  · intro p e s m args below meth c s₁ B hml hP _
    have hh0 : s₁.heap = s.heap := by rw [B.state]; rfl
    obtain ⟨t, a1, o, b1, b2, b3⟩ := body p e s m args below meth c s₁ B hml hP s₁ hh0 (Stand.of_body B)
    exact ⟨t, o, a1, b1, b2, b3⟩
/-! ===== END ===== -/

/-! names (out of the printed text) -/
def RX0 : String := "BrandRoom$Asset"
def TX0 : u_T := fun k => match k with
  | 0 => ("BrandRoom$Asset", "comes", "[I", true)
  | 1 => ("BrandRoom$Asset", "versions", "I", false)
  | 2 => ("BrandRoom$Asset", "lands", "I", false)
  | 3 => ("BrandRoom$Asset", "from", "I", false)
  | _ => ("BrandRoom$Asset", "to", "I", false)
def tyX0 : Nat → FieldType := fun k => match k with
  | 0 => .array .int
  | 1 => .int
  | 2 => .int
  | 3 => .int
  | _ => .int
theorem nmX0 : ∀ a, a < 5 → ∀ b, b < 5 → a ≠ b → (TX0 a).2.1 ≠ (TX0 b).2.1 := by decide +kernel
theorem tyX0_ok : ∀ k, k < 5 → parseFieldDescriptor (TX0 k).2.2.1 = some (tyX0 k) := by decide +kernel
abbrev cX0_init : ByteArray := prog_2_method_1_code
def yX0_init : MethodName := ⟨RX0, "<init>", "()V"⟩
abbrev cX0_addVersion : ByteArray := prog_2_method_2_code
def yX0_addVersion : MethodName := ⟨RX0, "addVersion", "(I)I"⟩
abbrev cX0_lastComes : ByteArray := prog_2_method_3_code
def yX0_lastComes : MethodName := ⟨RX0, "lastComes", "()I"⟩
abbrev cX0_putLast : ByteArray := prog_2_method_4_code
def yX0_putLast : MethodName := ⟨RX0, "putLast", "(I)V"⟩
abbrev cX0_hasLast : ByteArray := prog_2_method_5_code
def yX0_hasLast : MethodName := ⟨RX0, "hasLast", "()Z"⟩
abbrev cX0_versionAt : ByteArray := prog_2_method_6_code
def yX0_versionAt : MethodName := ⟨RX0, "versionAt", "(I)I"⟩
abbrev cX0_firstComes : ByteArray := prog_2_method_7_code
def yX0_firstComes : MethodName := ⟨RX0, "firstComes", "()I"⟩
abbrev cX0_grant : ByteArray := prog_2_method_8_code
def yX0_grant : MethodName := ⟨RX0, "grant", "(III)V"⟩
abbrev cX0_isGranted : ByteArray := prog_2_method_9_code
def yX0_isGranted : MethodName := ⟨RX0, "isGranted", "(III)Z"⟩
def RX1 : String := "BrandRoom$Booking"
def TX1 : u_T := fun k => match k with
  | 0 => ("BrandRoom$Booking", "piece", "LBrandRoom$Piece;", false)
  | 1 => ("BrandRoom$Booking", "land", "I", false)
  | 2 => ("BrandRoom$Booking", "medium", "I", false)
  | 3 => ("BrandRoom$Booking", "from", "I", false)
  | 4 => ("BrandRoom$Booking", "to", "I", false)
  | 5 => ("BrandRoom$Booking", "price", "I", false)
  | 6 => ("BrandRoom$Booking", "state", "I", false)
  | 7 => ("BrandRoom$Booking", "moved", "I", false)
  | 8 => ("BrandRoom$Booking", "pulled", "I", false)
  | 9 => ("BrandRoom$Booking", "swapped", "I", false)
  | 10 => ("BrandRoom$Booking", "on", "Z", false)
  | _ => ("BrandRoom$Booking", "free", "Z", false)
def tyX1 : Nat → FieldType := fun k => match k with
  | 0 => .object "BrandRoom$Piece"
  | 1 => .int
  | 2 => .int
  | 3 => .int
  | 4 => .int
  | 5 => .int
  | 6 => .int
  | 7 => .int
  | 8 => .int
  | 9 => .int
  | 10 => .boolean
  | _ => .boolean
theorem nmX1 : ∀ a, a < 12 → ∀ b, b < 12 → a ≠ b → (TX1 a).2.1 ≠ (TX1 b).2.1 := by decide +kernel
theorem tyX1_ok : ∀ k, k < 12 → parseFieldDescriptor (TX1 k).2.2.1 = some (tyX1 k) := by decide +kernel
abbrev cX1_init : ByteArray := prog_3_method_1_code
def yX1_init : MethodName := ⟨RX1, "<init>", "(LBrandRoom$Piece;IIIII)V"⟩
abbrev cX1_init_ : ByteArray := prog_3_method_2_code
def yX1_init_ : MethodName := ⟨RX1, "<init>", "(LBrandRoom$Booking;)V"⟩
abbrev cX1_setTo : ByteArray := prog_3_method_3_code
def yX1_setTo : MethodName := ⟨RX1, "setTo", "(LBrandRoom$Booking;)V"⟩
abbrev cX1_isOpen : ByteArray := prog_3_method_4_code
def yX1_isOpen : MethodName := ⟨RX1, "isOpen", "()Z"⟩
abbrev cX1_isIn : ByteArray := prog_3_method_5_code
def yX1_isIn : MethodName := ⟨RX1, "isIn", "(II)Z"⟩
abbrev cX1_hasDayIn : ByteArray := prog_3_method_6_code
def yX1_hasDayIn : MethodName := ⟨RX1, "hasDayIn", "(II)Z"⟩
abbrev cX1_costNow : ByteArray := prog_3_method_7_code
def yX1_costNow : MethodName := ⟨RX1, "costNow", "()I"⟩
abbrev cX1_giveUp : ByteArray := prog_3_method_8_code
def yX1_giveUp : MethodName := ⟨RX1, "giveUp", "()V"⟩
abbrev cX1_takePiece : ByteArray := prog_3_method_9_code
def yX1_takePiece : MethodName := ⟨RX1, "takePiece", "(LBrandRoom$Piece;)V"⟩
abbrev cX1_missesDeadline : ByteArray := prog_3_method_10_code
def yX1_missesDeadline : MethodName := ⟨RX1, "missesDeadline", "(I)Z"⟩
abbrev cX1_mayMove : ByteArray := prog_3_method_11_code
def yX1_mayMove : MethodName := ⟨RX1, "mayMove", "()Z"⟩
abbrev cX1_moveOn : ByteArray := prog_3_method_12_code
def yX1_moveOn : MethodName := ⟨RX1, "moveOn", "()V"⟩
abbrev cX1_endIfPast : ByteArray := prog_3_method_13_code
def yX1_endIfPast : MethodName := ⟨RX1, "endIfPast", "(I)V"⟩
abbrev cX1_startIfDue : ByteArray := prog_3_method_14_code
def yX1_startIfDue : MethodName := ⟨RX1, "startIfDue", "(I)V"⟩
abbrev cX1_showOrPull : ByteArray := prog_3_method_15_code
def yX1_showOrPull : MethodName := ⟨RX1, "showOrPull", "(I)V"⟩
def RX2 : String := "BrandRoom$Piece"
def TX2 : u_T := fun k => match k with
  | 0 => ("BrandRoom$Piece", "number", "I", true)
  | 1 => ("BrandRoom$Piece", "format", "I", true)
  | 2 => ("BrandRoom$Piece", "assetSet", "I", true)
  | 3 => ("BrandRoom$Piece", "parts", "Ljava/util/ArrayList;", true)
  | _ => ("BrandRoom$Piece", "approved", "[[I", true)
def tyX2 : Nat → FieldType := fun k => match k with
  | 0 => .int
  | 1 => .int
  | 2 => .int
  | 3 => .object "java/util/ArrayList"
  | _ => .array (.array .int)
theorem nmX2 : ∀ a, a < 5 → ∀ b, b < 5 → a ≠ b → (TX2 a).2.1 ≠ (TX2 b).2.1 := by decide +kernel
theorem tyX2_ok : ∀ k, k < 5 → parseFieldDescriptor (TX2 k).2.2.1 = some (tyX2 k) := by decide +kernel
abbrev cX2_init : ByteArray := prog_4_method_1_code
def yX2_init : MethodName := ⟨RX2, "<init>", "(III)V"⟩
abbrev cX2_isLaidOn : ByteArray := prog_4_method_2_code
def yX2_isLaidOn : MethodName := ⟨RX2, "isLaidOn", "(I)Z"⟩
abbrev cX2_isFitOn : ByteArray := prog_4_method_3_code
def yX2_isFitOn : MethodName := ⟨RX2, "isFitOn", "(II)Z"⟩
abbrev cX2_isGrantedOn : ByteArray := prog_4_method_4_code
def yX2_isGrantedOn : MethodName := ⟨RX2, "isGrantedOn", "(III)Z"⟩
abbrev cX2_reasonOn : ByteArray := prog_4_method_5_code
def yX2_reasonOn : MethodName := ⟨RX2, "reasonOn", "(II)I"⟩
abbrev cX2_approveLook : ByteArray := prog_4_method_6_code
def yX2_approveLook : MethodName := ⟨RX2, "approveLook", "(II)V"⟩
abbrev cX2_dropApproval : ByteArray := prog_4_method_7_code
def yX2_dropApproval : MethodName := ⟨RX2, "dropApproval", "(I)V"⟩
abbrev cX2_landsFitOn : ByteArray := prog_4_method_8_code
def yX2_landsFitOn : MethodName := ⟨RX2, "landsFitOn", "(I)I"⟩
abbrev cX2_firstLaidDay : ByteArray := prog_4_method_9_code
def yX2_firstLaidDay : MethodName := ⟨RX2, "firstLaidDay", "()I"⟩
def RX3 : String := "BrandRoom$Plan"
def TX3 : u_T := fun k => match k with
  | 0 => ("BrandRoom$Plan", "bookings", "Ljava/util/ArrayList;", true)
  | 1 => ("BrandRoom$Plan", "pieces", "Ljava/util/ArrayList;", false)
  | _ => ("BrandRoom$Plan", "today", "I", false)
def tyX3 : Nat → FieldType := fun k => match k with
  | 0 => .object "java/util/ArrayList"
  | 1 => .object "java/util/ArrayList"
  | _ => .int
theorem nmX3 : ∀ a, a < 3 → ∀ b, b < 3 → a ≠ b → (TX3 a).2.1 ≠ (TX3 b).2.1 := by decide +kernel
theorem tyX3_ok : ∀ k, k < 3 → parseFieldDescriptor (TX3 k).2.2.1 = some (tyX3 k) := by decide +kernel
abbrev cX3_init : ByteArray := prog_5_method_1_code
def yX3_init : MethodName := ⟨RX3, "<init>", "()V"⟩
abbrev cX3_copyFrom : ByteArray := prog_5_method_2_code
def yX3_copyFrom : MethodName := ⟨RX3, "copyFrom", "(LBrandRoom$Plan;)V"⟩
abbrev cX3_beginDay : ByteArray := prog_5_method_3_code
def yX3_beginDay : MethodName := ⟨RX3, "beginDay", "()I"⟩
abbrev cX3_settle : ByteArray := prog_5_method_4_code
def yX3_settle : MethodName := ⟨RX3, "settle", "(LBrandRoom$Booking;LBrandRoom$Piece;)V"⟩
abbrev cX3_isTaken : ByteArray := prog_5_method_5_code
def yX3_isTaken : MethodName := ⟨RX3, "isTaken", "(IIIILBrandRoom$Booking;)Z"⟩
abbrev cX3_firstSwap : ByteArray := prog_5_method_6_code
def yX3_firstSwap : MethodName := ⟨RX3, "firstSwap", "(LBrandRoom$Booking;)LBrandRoom$Piece;"⟩
abbrev cX3_canSwap : ByteArray := prog_5_method_7_code
def yX3_canSwap : MethodName := ⟨RX3, "canSwap", "(LBrandRoom$Booking;LBrandRoom$Piece;)Z"⟩
abbrev cX3_isUsedIn : ByteArray := prog_5_method_8_code
def yX3_isUsedIn : MethodName := ⟨RX3, "isUsedIn", "(ILBrandRoom$Piece;)Z"⟩
abbrev cX3_openBookingsOf : ByteArray := prog_5_method_9_code
def yX3_openBookingsOf : MethodName := ⟨RX3, "openBookingsOf", "(LBrandRoom$Piece;)I"⟩
abbrev cX3_bookingShownAt : ByteArray := prog_5_method_10_code
def yX3_bookingShownAt : MethodName := ⟨RX3, "bookingShownAt", "(III)I"⟩
abbrev cX3_priceToday : ByteArray := prog_5_method_11_code
def yX3_priceToday : MethodName := ⟨RX3, "priceToday", "(III)I"⟩
abbrev cX3_countInState : ByteArray := prog_5_method_12_code
def yX3_countInState : MethodName := ⟨RX3, "countInState", "(I)I"⟩
abbrev cX3_countOn : ByteArray := prog_5_method_13_code
def yX3_countOn : MethodName := ⟨RX3, "countOn", "()I"⟩
abbrev cX3_costOfAll : ByteArray := prog_5_method_14_code
def yX3_costOfAll : MethodName := ⟨RX3, "costOfAll", "()I"⟩
abbrev cX3_sumOfPrices : ByteArray := prog_5_method_15_code
def yX3_sumOfPrices : MethodName := ⟨RX3, "sumOfPrices", "()I"⟩
def RX4 : String := "BrandRoom"
def TX4 : u_T := fun k => match k with
  | 0 => ("BrandRoom", "assets", "Ljava/util/ArrayList;", true)
  | 1 => ("BrandRoom", "groupSets", "[I", true)
  | 2 => ("BrandRoom", "plan", "LBrandRoom$Plan;", true)
  | _ => ("BrandRoom", "trial", "LBrandRoom$Plan;", true)
def tyX4 : Nat → FieldType := fun k => match k with
  | 0 => .object "java/util/ArrayList"
  | 1 => .array .int
  | 2 => .object "BrandRoom$Plan"
  | _ => .object "BrandRoom$Plan"
theorem nmX4 : ∀ a, a < 4 → ∀ b, b < 4 → a ≠ b → (TX4 a).2.1 ≠ (TX4 b).2.1 := by decide +kernel
theorem tyX4_ok : ∀ k, k < 4 → parseFieldDescriptor (TX4 k).2.2.1 = some (tyX4 k) := by decide +kernel
abbrev cX4_init : ByteArray := prog_1_method_1_code
def yX4_init : MethodName := ⟨RX4, "<init>", "()V"⟩
abbrev cX4_asset : ByteArray := prog_1_method_2_code
def yX4_asset : MethodName := ⟨RX4, "asset", "()I"⟩
abbrev cX4_version : ByteArray := prog_1_method_3_code
def yX4_version : MethodName := ⟨RX4, "version", "(II)I"⟩
abbrev cX4_late : ByteArray := prog_1_method_4_code
def yX4_late : MethodName := ⟨RX4, "late", "(II)I"⟩
abbrev cX4_rights : ByteArray := prog_1_method_5_code
def yX4_rights : MethodName := ⟨RX4, "rights", "(IIII)I"⟩
abbrev cX4_versionOn : ByteArray := prog_1_method_6_code
def yX4_versionOn : MethodName := ⟨RX4, "versionOn", "(II)I"⟩
abbrev cX4_hasRights : ByteArray := prog_1_method_7_code
def yX4_hasRights : MethodName := ⟨RX4, "hasRights", "(III)Z"⟩
abbrev cX4_piece : ByteArray := prog_1_method_8_code
def yX4_piece : MethodName := ⟨RX4, "piece", "(II)I"⟩
abbrev cX4_approve : ByteArray := prog_1_method_9_code
def yX4_approve : MethodName := ⟨RX4, "approve", "(II)Z"⟩
abbrev cX4_hold : ByteArray := prog_1_method_10_code
def yX4_hold : MethodName := ⟨RX4, "hold", "(II)Z"⟩
abbrev cX4_reason : ByteArray := prog_1_method_11_code
def yX4_reason : MethodName := ⟨RX4, "reason", "(III)I"⟩
abbrev cX4_isFit : ByteArray := prog_1_method_12_code
def yX4_isFit : MethodName := ⟨RX4, "isFit", "(III)Z"⟩
abbrev cX4_ofPiece : ByteArray := prog_1_method_13_code
def yX4_ofPiece : MethodName := ⟨RX4, "ofPiece", "(II)I"⟩
abbrev cX4_book : ByteArray := prog_1_method_14_code
def yX4_book : MethodName := ⟨RX4, "book", "(IIIIII)I"⟩
abbrev cX4_cancel : ByteArray := prog_1_method_15_code
def yX4_cancel : MethodName := ⟨RX4, "cancel", "(I)I"⟩
abbrev cX4_swap : ByteArray := prog_1_method_16_code
def yX4_swap : MethodName := ⟨RX4, "swap", "(II)I"⟩
abbrev cX4_ofBooking : ByteArray := prog_1_method_17_code
def yX4_ofBooking : MethodName := ⟨RX4, "ofBooking", "(II)I"⟩
abbrev cX4_day : ByteArray := prog_1_method_18_code
def yX4_day : MethodName := ⟨RX4, "day", "()I"⟩
abbrev cX4_at : ByteArray := prog_1_method_19_code
def yX4_at : MethodName := ⟨RX4, "at", "(III)I"⟩
abbrev cX4_many : ByteArray := prog_1_method_20_code
def yX4_many : MethodName := ⟨RX4, "many", "(I)I"⟩
abbrev cX4_meanPrice : ByteArray := prog_1_method_21_code
def yX4_meanPrice : MethodName := ⟨RX4, "meanPrice", "()D"⟩
abbrev cX4_groups : ByteArray := prog_1_method_22_code
def yX4_groups : MethodName := ⟨RX4, "groups", "(III)I"⟩
abbrev cX4_reach : ByteArray := prog_1_method_23_code
def yX4_reach : MethodName := ⟨RX4, "reach", "(I)I"⟩
abbrev cX4_price : ByteArray := prog_1_method_24_code
def yX4_price : MethodName := ⟨RX4, "price", "(III)I"⟩
abbrev cX4_swapFor : ByteArray := prog_1_method_25_code
def yX4_swapFor : MethodName := ⟨RX4, "swapFor", "(I)I"⟩
abbrev cX4_offIn : ByteArray := prog_1_method_26_code
def yX4_offIn : MethodName := ⟨RX4, "offIn", "(I)I"⟩
abbrev cX4_lostIn : ByteArray := prog_1_method_27_code
def yX4_lostIn : MethodName := ⟨RX4, "lostIn", "(I)I"⟩
abbrev cX4_reachWith : ByteArray := prog_1_method_28_code
def yX4_reachWith : MethodName := ⟨RX4, "reachWith", "(I)I"⟩
abbrev cX4_digest : ByteArray := prog_1_method_29_code
def yX4_digest : MethodName := ⟨RX4, "digest", "()J"⟩
abbrev cX4_addPiece : ByteArray := prog_1_method_30_code
def yX4_addPiece : MethodName := ⟨RX4, "addPiece", "(JI)J"⟩
abbrev cX4_addBooking : ByteArray := prog_1_method_31_code
def yX4_addBooking : MethodName := ⟨RX4, "addBooking", "(JI)J"⟩
abbrev cX4_groupsReached : ByteArray := prog_1_method_32_code
def yX4_groupsReached : MethodName := ⟨RX4, "groupsReached", "(I)I"⟩
abbrev cX4_groupsOf : ByteArray := prog_1_method_33_code
def yX4_groupsOf : MethodName := ⟨RX4, "groupsOf", "(II)I"⟩
abbrev cX4_assetAt : ByteArray := prog_1_method_34_code
def yX4_assetAt : MethodName := ⟨RX4, "assetAt", "(I)LBrandRoom$Asset;"⟩
abbrev cX4_pieceAt : ByteArray := prog_1_method_35_code
def yX4_pieceAt : MethodName := ⟨RX4, "pieceAt", "(I)LBrandRoom$Piece;"⟩
abbrev cX4_bookingAt : ByteArray := prog_1_method_36_code
def yX4_bookingAt : MethodName := ⟨RX4, "bookingAt", "(I)LBrandRoom$Booking;"⟩
abbrev cX4_needOffer : ByteArray := prog_1_method_37_code
def yX4_needOffer : MethodName := ⟨RX4, "needOffer", "(III)V"⟩
abbrev cX4_needLand : ByteArray := prog_1_method_38_code
def yX4_needLand : MethodName := ⟨RX4, "needLand", "(I)V"⟩
abbrev cX4_needMedium : ByteArray := prog_1_method_39_code
def yX4_needMedium : MethodName := ⟨RX4, "needMedium", "(I)V"⟩
abbrev cX4_needDay : ByteArray := prog_1_method_40_code
def yX4_needDay : MethodName := ⟨RX4, "needDay", "(I)V"⟩
abbrev cX4_isLand : ByteArray := prog_1_method_41_code
def yX4_isLand : MethodName := ⟨RX4, "isLand", "(I)Z"⟩
abbrev cX4_isMedium : ByteArray := prog_1_method_42_code
def yX4_isMedium : MethodName := ⟨RX4, "isMedium", "(I)Z"⟩
def RX5 : String := "BrandRoomModel$Asset"
def TX5 : u_T := fun k => match k with
  | 0 => ("BrandRoomModel$Asset", "comes", "Ljava/util/ArrayList;", true)
  | 1 => ("BrandRoomModel$Asset", "lands", "I", false)
  | 2 => ("BrandRoomModel$Asset", "from", "I", false)
  | _ => ("BrandRoomModel$Asset", "to", "I", false)
def tyX5 : Nat → FieldType := fun k => match k with
  | 0 => .object "java/util/ArrayList"
  | 1 => .int
  | 2 => .int
  | _ => .int
theorem nmX5 : ∀ a, a < 4 → ∀ b, b < 4 → a ≠ b → (TX5 a).2.1 ≠ (TX5 b).2.1 := by decide +kernel
theorem tyX5_ok : ∀ k, k < 4 → parseFieldDescriptor (TX5 k).2.2.1 = some (tyX5 k) := by decide +kernel
abbrev cX5_init : ByteArray := prog_8_method_1_code
def yX5_init : MethodName := ⟨RX5, "<init>", "()V"⟩
abbrev cX5_versionOn : ByteArray := prog_8_method_2_code
def yX5_versionOn : MethodName := ⟨RX5, "versionOn", "(I)I"⟩
abbrev cX5_hasRights : ByteArray := prog_8_method_3_code
def yX5_hasRights : MethodName := ⟨RX5, "hasRights", "(II)Z"⟩
def RX6 : String := "BrandRoomModel$Book"
def TX6 : u_T := fun k => match k with
  | 0 => ("BrandRoomModel$Book", "bookings", "Ljava/util/ArrayList;", true)
  | 1 => ("BrandRoomModel$Book", "today", "I", false)
  | _ => ("BrandRoomModel$Book", "this$0", "LBrandRoomModel;", true)
def tyX6 : Nat → FieldType := fun k => match k with
  | 0 => .object "java/util/ArrayList"
  | 1 => .int
  | _ => .object "BrandRoomModel"
theorem nmX6 : ∀ a, a < 3 → ∀ b, b < 3 → a ≠ b → (TX6 a).2.1 ≠ (TX6 b).2.1 := by decide +kernel
theorem tyX6_ok : ∀ k, k < 3 → parseFieldDescriptor (TX6 k).2.2.1 = some (tyX6 k) := by decide +kernel
abbrev cX6_init : ByteArray := prog_9_method_1_code
def yX6_init : MethodName := ⟨RX6, "<init>", "(LBrandRoomModel;)V"⟩
abbrev cX6_copy : ByteArray := prog_9_method_2_code
def yX6_copy : MethodName := ⟨RX6, "copy", "()LBrandRoomModel$Book;"⟩
abbrev cX6_isTaken : ByteArray := prog_9_method_3_code
def yX6_isTaken : MethodName := ⟨RX6, "isTaken", "(LBrandRoomModel$Booking;II)Z"⟩
abbrev cX6_canSwap : ByteArray := prog_9_method_4_code
def yX6_canSwap : MethodName := ⟨RX6, "canSwap", "(LBrandRoomModel$Booking;I)Z"⟩
abbrev cX6_swapFor : ByteArray := prog_9_method_5_code
def yX6_swapFor : MethodName := ⟨RX6, "swapFor", "(LBrandRoomModel$Booking;)I"⟩
abbrev cX6_swap : ByteArray := prog_9_method_6_code
def yX6_swap : MethodName := ⟨RX6, "swap", "(LBrandRoomModel$Booking;I)V"⟩
abbrev cX6_mend : ByteArray := prog_9_method_7_code
def yX6_mend : MethodName := ⟨RX6, "mend", "(LBrandRoomModel$Booking;)V"⟩
abbrev cX6_next : ByteArray := prog_9_method_8_code
def yX6_next : MethodName := ⟨RX6, "next", "()I"⟩
abbrev cX6_inState : ByteArray := prog_9_method_9_code
def yX6_inState : MethodName := ⟨RX6, "inState", "(I)I"⟩
def RX7 : String := "BrandRoomModel$Booking"
def TX7 : u_T := fun k => match k with
  | 0 => ("BrandRoomModel$Booking", "piece", "I", false)
  | 1 => ("BrandRoomModel$Booking", "land", "I", true)
  | 2 => ("BrandRoomModel$Booking", "medium", "I", true)
  | 3 => ("BrandRoomModel$Booking", "from", "I", false)
  | 4 => ("BrandRoomModel$Booking", "to", "I", false)
  | 5 => ("BrandRoomModel$Booking", "price", "I", false)
  | 6 => ("BrandRoomModel$Booking", "state", "I", false)
  | 7 => ("BrandRoomModel$Booking", "moved", "I", false)
  | 8 => ("BrandRoomModel$Booking", "pulled", "I", false)
  | 9 => ("BrandRoomModel$Booking", "isOn", "Z", false)
  | 10 => ("BrandRoomModel$Booking", "swapped", "I", false)
  | _ => ("BrandRoomModel$Booking", "isFree", "Z", false)
def tyX7 : Nat → FieldType := fun k => match k with
  | 0 => .int
  | 1 => .int
  | 2 => .int
  | 3 => .int
  | 4 => .int
  | 5 => .int
  | 6 => .int
  | 7 => .int
  | 8 => .int
  | 9 => .boolean
  | 10 => .int
  | _ => .boolean
theorem nmX7 : ∀ a, a < 12 → ∀ b, b < 12 → a ≠ b → (TX7 a).2.1 ≠ (TX7 b).2.1 := by decide +kernel
theorem tyX7_ok : ∀ k, k < 12 → parseFieldDescriptor (TX7 k).2.2.1 = some (tyX7 k) := by decide +kernel
abbrev cX7_init : ByteArray := prog_10_method_1_code
def yX7_init : MethodName := ⟨RX7, "<init>", "(IIIIII)V"⟩
abbrev cX7_copy : ByteArray := prog_10_method_2_code
def yX7_copy : MethodName := ⟨RX7, "copy", "()LBrandRoomModel$Booking;"⟩
abbrev cX7_isThere : ByteArray := prog_10_method_3_code
def yX7_isThere : MethodName := ⟨RX7, "isThere", "()Z"⟩
abbrev cX7_days : ByteArray := prog_10_method_4_code
def yX7_days : MethodName := ⟨RX7, "days", "()I"⟩
abbrev cX7_cost : ByteArray := prog_10_method_5_code
def yX7_cost : MethodName := ⟨RX7, "cost", "()I"⟩
abbrev cX7_meets : ByteArray := prog_10_method_6_code
def yX7_meets : MethodName := ⟨RX7, "meets", "(LBrandRoomModel$Booking;II)Z"⟩
def RX8 : String := "BrandRoomModel$Piece"
def TX8 : u_T := fun k => match k with
  | 0 => ("BrandRoomModel$Piece", "format", "I", true)
  | 1 => ("BrandRoomModel$Piece", "set", "I", true)
  | 2 => ("BrandRoomModel$Piece", "approved", "[[I", true)
  | _ => ("BrandRoomModel$Piece", "this$0", "LBrandRoomModel;", true)
def tyX8 : Nat → FieldType := fun k => match k with
  | 0 => .int
  | 1 => .int
  | 2 => .array (.array .int)
  | _ => .object "BrandRoomModel"
theorem nmX8 : ∀ a, a < 4 → ∀ b, b < 4 → a ≠ b → (TX8 a).2.1 ≠ (TX8 b).2.1 := by decide +kernel
theorem tyX8_ok : ∀ k, k < 4 → parseFieldDescriptor (TX8 k).2.2.1 = some (tyX8 k) := by decide +kernel
abbrev cX8_init : ByteArray := prog_11_method_1_code
def yX8_init : MethodName := ⟨RX8, "<init>", "(LBrandRoomModel;II)V"⟩
abbrev cX8_look : ByteArray := prog_11_method_2_code
def yX8_look : MethodName := ⟨RX8, "look", "(I)[I"⟩
abbrev cX8_hasRights : ByteArray := prog_11_method_3_code
def yX8_hasRights : MethodName := ⟨RX8, "hasRights", "(II)Z"⟩
abbrev cX8_isFit : ByteArray := prog_11_method_4_code
def yX8_isFit : MethodName := ⟨RX8, "isFit", "(II)Z"⟩
abbrev cX8_reason : ByteArray := prog_11_method_5_code
def yX8_reason : MethodName := ⟨RX8, "reason", "(II)I"⟩
abbrev cX8_firstDay : ByteArray := prog_11_method_6_code
def yX8_firstDay : MethodName := ⟨RX8, "firstDay", "()I"⟩
def RX9 : String := "BrandRoomModel"
def TX9 : u_T := fun k => match k with
  | 0 => ("BrandRoomModel", "thrown", "I", false)
  | 1 => ("BrandRoomModel", "assets", "Ljava/util/ArrayList;", true)
  | 2 => ("BrandRoomModel", "pieces", "Ljava/util/ArrayList;", true)
  | 3 => ("BrandRoomModel", "groups", "[[I", true)
  | 4 => ("BrandRoomModel", "book", "LBrandRoomModel$Book;", false)
  | _ => ("BrandRoomModel", "sum", "J", false)
def tyX9 : Nat → FieldType := fun k => match k with
  | 0 => .int
  | 1 => .object "java/util/ArrayList"
  | 2 => .object "java/util/ArrayList"
  | 3 => .array (.array .int)
  | 4 => .object "BrandRoomModel$Book"
  | _ => .long
theorem nmX9 : ∀ a, a < 6 → ∀ b, b < 6 → a ≠ b → (TX9 a).2.1 ≠ (TX9 b).2.1 := by decide +kernel
theorem tyX9_ok : ∀ k, k < 6 → parseFieldDescriptor (TX9 k).2.2.1 = some (tyX9 k) := by decide +kernel
abbrev cX9_init : ByteArray := prog_7_method_1_code
def yX9_init : MethodName := ⟨RX9, "<init>", "()V"⟩
abbrev cX9_thrown : ByteArray := prog_7_method_2_code
def yX9_thrown : MethodName := ⟨RX9, "thrown", "()I"⟩
abbrev cX9_refuse : ByteArray := prog_7_method_3_code
def yX9_refuse : MethodName := ⟨RX9, "refuse", "(I)I"⟩
abbrev cX9_is : ByteArray := prog_7_method_4_code
def yX9_is : MethodName := ⟨RX9, "is", "(III)Z"⟩
abbrev cX9_has : ByteArray := prog_7_method_5_code
def yX9_has : MethodName := ⟨RX9, "has", "(II)Z"⟩
abbrev cX9_isAsset : ByteArray := prog_7_method_6_code
def yX9_isAsset : MethodName := ⟨RX9, "isAsset", "(I)Z"⟩
abbrev cX9_isPiece : ByteArray := prog_7_method_7_code
def yX9_isPiece : MethodName := ⟨RX9, "isPiece", "(I)Z"⟩
abbrev cX9_isLand : ByteArray := prog_7_method_8_code
def yX9_isLand : MethodName := ⟨RX9, "isLand", "(I)Z"⟩
abbrev cX9_isMedium : ByteArray := prog_7_method_9_code
def yX9_isMedium : MethodName := ⟨RX9, "isMedium", "(I)Z"⟩
abbrev cX9_isDay : ByteArray := prog_7_method_10_code
def yX9_isDay : MethodName := ⟨RX9, "isDay", "(I)Z"⟩
abbrev cX9_isBooking : ByteArray := prog_7_method_11_code
def yX9_isBooking : MethodName := ⟨RX9, "isBooking", "(I)Z"⟩
abbrev cX9_asset : ByteArray := prog_7_method_12_code
def yX9_asset : MethodName := ⟨RX9, "asset", "()I"⟩
abbrev cX9_version : ByteArray := prog_7_method_13_code
def yX9_version : MethodName := ⟨RX9, "version", "(II)I"⟩
abbrev cX9_late : ByteArray := prog_7_method_14_code
def yX9_late : MethodName := ⟨RX9, "late", "(II)I"⟩
abbrev cX9_rights : ByteArray := prog_7_method_15_code
def yX9_rights : MethodName := ⟨RX9, "rights", "(IIII)I"⟩
abbrev cX9_versionOn : ByteArray := prog_7_method_16_code
def yX9_versionOn : MethodName := ⟨RX9, "versionOn", "(II)I"⟩
abbrev cX9_hasRights : ByteArray := prog_7_method_17_code
def yX9_hasRights : MethodName := ⟨RX9, "hasRights", "(III)Z"⟩
abbrev cX9_piece : ByteArray := prog_7_method_18_code
def yX9_piece : MethodName := ⟨RX9, "piece", "(II)I"⟩
abbrev cX9_approve : ByteArray := prog_7_method_19_code
def yX9_approve : MethodName := ⟨RX9, "approve", "(II)Z"⟩
abbrev cX9_hold : ByteArray := prog_7_method_20_code
def yX9_hold : MethodName := ⟨RX9, "hold", "(II)Z"⟩
abbrev cX9_reason : ByteArray := prog_7_method_21_code
def yX9_reason : MethodName := ⟨RX9, "reason", "(III)I"⟩
abbrev cX9_isFit : ByteArray := prog_7_method_22_code
def yX9_isFit : MethodName := ⟨RX9, "isFit", "(III)Z"⟩
abbrev cX9_ofPieceNow : ByteArray := prog_7_method_23_code
def yX9_ofPieceNow : MethodName := ⟨RX9, "ofPieceNow", "(II)I"⟩
abbrev cX9_ofPiece : ByteArray := prog_7_method_24_code
def yX9_ofPiece : MethodName := ⟨RX9, "ofPiece", "(II)I"⟩
abbrev cX9_isSpan : ByteArray := prog_7_method_25_code
def yX9_isSpan : MethodName := ⟨RX9, "isSpan", "(III)Z"⟩
abbrev cX9_priceOf : ByteArray := prog_7_method_26_code
def yX9_priceOf : MethodName := ⟨RX9, "priceOf", "(III)I"⟩
abbrev cX9_book : ByteArray := prog_7_method_27_code
def yX9_book : MethodName := ⟨RX9, "book", "(IIIIII)I"⟩
abbrev cX9_cancel : ByteArray := prog_7_method_28_code
def yX9_cancel : MethodName := ⟨RX9, "cancel", "(I)I"⟩
abbrev cX9_swap : ByteArray := prog_7_method_29_code
def yX9_swap : MethodName := ⟨RX9, "swap", "(II)I"⟩
abbrev cX9_ofBookingNow : ByteArray := prog_7_method_30_code
def yX9_ofBookingNow : MethodName := ⟨RX9, "ofBookingNow", "(LBrandRoomModel$Booking;I)I"⟩
abbrev cX9_ofBooking : ByteArray := prog_7_method_31_code
def yX9_ofBooking : MethodName := ⟨RX9, "ofBooking", "(II)I"⟩
abbrev cX9_day : ByteArray := prog_7_method_32_code
def yX9_day : MethodName := ⟨RX9, "day", "()I"⟩
abbrev cX9_atNow : ByteArray := prog_7_method_33_code
def yX9_atNow : MethodName := ⟨RX9, "atNow", "(III)I"⟩
abbrev cX9_at : ByteArray := prog_7_method_34_code
def yX9_at : MethodName := ⟨RX9, "at", "(III)I"⟩
abbrev cX9_manyNow : ByteArray := prog_7_method_35_code
def yX9_manyNow : MethodName := ⟨RX9, "manyNow", "(I)I"⟩
abbrev cX9_many : ByteArray := prog_7_method_36_code
def yX9_many : MethodName := ⟨RX9, "many", "(I)I"⟩
abbrev cX9_meanPrice : ByteArray := prog_7_method_37_code
def yX9_meanPrice : MethodName := ⟨RX9, "meanPrice", "()D"⟩
abbrev cX9_groups : ByteArray := prog_7_method_38_code
def yX9_groups : MethodName := ⟨RX9, "groups", "(III)I"⟩
abbrev cX9_reachNow : ByteArray := prog_7_method_39_code
def yX9_reachNow : MethodName := ⟨RX9, "reachNow", "(ILBrandRoomModel$Booking;)I"⟩
abbrev cX9_reach : ByteArray := prog_7_method_40_code
def yX9_reach : MethodName := ⟨RX9, "reach", "(I)I"⟩
abbrev cX9_price : ByteArray := prog_7_method_41_code
def yX9_price : MethodName := ⟨RX9, "price", "(III)I"⟩
abbrev cX9_swapFor : ByteArray := prog_7_method_42_code
def yX9_swapFor : MethodName := ⟨RX9, "swapFor", "(I)I"⟩
abbrev cX9_offInNow : ByteArray := prog_7_method_43_code
def yX9_offInNow : MethodName := ⟨RX9, "offInNow", "(LBrandRoomModel$Booking;)I"⟩
abbrev cX9_offIn : ByteArray := prog_7_method_44_code
def yX9_offIn : MethodName := ⟨RX9, "offIn", "(I)I"⟩
abbrev cX9_lostInNow : ByteArray := prog_7_method_45_code
def yX9_lostInNow : MethodName := ⟨RX9, "lostInNow", "(I)I"⟩
abbrev cX9_lostIn : ByteArray := prog_7_method_46_code
def yX9_lostIn : MethodName := ⟨RX9, "lostIn", "(I)I"⟩
abbrev cX9_reachWith : ByteArray := prog_7_method_47_code
def yX9_reachWith : MethodName := ⟨RX9, "reachWith", "(I)I"⟩
abbrev cX9_add : ByteArray := prog_7_method_48_code
def yX9_add : MethodName := ⟨RX9, "add", "(I)V"⟩
abbrev cX9_digest : ByteArray := prog_7_method_49_code
def yX9_digest : MethodName := ⟨RX9, "digest", "()J"⟩
def RJx145de : String := "java/io/Serializable"
def TJx145de : u_T := fun k => match k with
  | _ => ("", "", "", false)
def tyJx145de : Nat → FieldType := fun k => match k with
  | _ => .int
theorem nmJx145de : ∀ a, a < 0 → ∀ b, b < 0 → a ≠ b → (TJx145de a).2.1 ≠ (TJx145de b).2.1 := by decide +kernel
theorem tyJx145de_ok : ∀ k, k < 0 → parseFieldDescriptor (TJx145de k).2.2.1 = some (tyJx145de k) := by decide +kernel
def RJx8e188 : String := "java/lang/Cloneable"
def TJx8e188 : u_T := fun k => match k with
  | _ => ("", "", "", false)
def tyJx8e188 : Nat → FieldType := fun k => match k with
  | _ => .int
theorem nmJx8e188 : ∀ a, a < 0 → ∀ b, b < 0 → a ≠ b → (TJx8e188 a).2.1 ≠ (TJx8e188 b).2.1 := by decide +kernel
theorem tyJx8e188_ok : ∀ k, k < 0 → parseFieldDescriptor (TJx8e188 k).2.2.1 = some (tyJx8e188 k) := by decide +kernel
def RJxb160c : String := "java/lang/Comparable"
def TJxb160c : u_T := fun k => match k with
  | _ => ("", "", "", false)
def tyJxb160c : Nat → FieldType := fun k => match k with
  | _ => .int
theorem nmJxb160c : ∀ a, a < 0 → ∀ b, b < 0 → a ≠ b → (TJxb160c a).2.1 ≠ (TJxb160c b).2.1 := by decide +kernel
theorem tyJxb160c_ok : ∀ k, k < 0 → parseFieldDescriptor (TJxb160c k).2.2.1 = some (tyJxb160c k) := by decide +kernel
def RJxabbfe : String := "java/lang/Integer$IntegerCache"
def TJxabbfe : u_T := fun k => match k with
  | _ => ("", "", "", false)
def tyJxabbfe : Nat → FieldType := fun k => match k with
  | _ => .int
theorem nmJxabbfe : ∀ a, a < 0 → ∀ b, b < 0 → a ≠ b → (TJxabbfe a).2.1 ≠ (TJxabbfe b).2.1 := by decide +kernel
theorem tyJxabbfe_ok : ∀ k, k < 0 → parseFieldDescriptor (TJxabbfe k).2.2.1 = some (tyJxabbfe k) := by decide +kernel
def RJ6 : String := "java/lang/Integer"
def TJ6 : u_T := fun k => match k with
  | _ => ("java/lang/Integer", "value", "I", true)
def tyJ6 : Nat → FieldType := fun k => match k with
  | _ => .int
theorem nmJ6 : ∀ a, a < 1 → ∀ b, b < 1 → a ≠ b → (TJ6 a).2.1 ≠ (TJ6 b).2.1 := by decide +kernel
theorem tyJ6_ok : ∀ k, k < 1 → parseFieldDescriptor (TJ6 k).2.2.1 = some (tyJ6 k) := by decide +kernel
abbrev cJ6_valueOf_2dffe : ByteArray := prog_19_method_22_code
def yJ6_valueOf_2dffe : MethodName := ⟨RJ6, "valueOf", "(I)Ljava/lang/Integer;"⟩
abbrev cJ6_init_d00df : ByteArray := prog_19_method_23_code
def yJ6_init_d00df : MethodName := ⟨RJ6, "<init>", "(I)V"⟩
abbrev cJ6_intValue_8abf5 : ByteArray := prog_19_method_27_code
def yJ6_intValue_8abf5 : MethodName := ⟨RJ6, "intValue", "()I"⟩
abbrev cJ6_numberOfLeadingZeros_0f7a4 : ByteArray := prog_19_method_47_code
def yJ6_numberOfLeadingZeros_0f7a4 : MethodName := ⟨RJ6, "numberOfLeadingZeros", "(I)I"⟩
abbrev cJ6_numberOfTrailingZeros_0f7a4 : ByteArray := prog_19_method_48_code
def yJ6_numberOfTrailingZeros_0f7a4 : MethodName := ⟨RJ6, "numberOfTrailingZeros", "(I)I"⟩
abbrev cJ6_bitCount_0f7a4 : ByteArray := prog_19_method_49_code
def yJ6_bitCount_0f7a4 : MethodName := ⟨RJ6, "bitCount", "(I)I"⟩
def RJxab1ab : String := "java/lang/Iterable"
def TJxab1ab : u_T := fun k => match k with
  | _ => ("", "", "", false)
def tyJxab1ab : Nat → FieldType := fun k => match k with
  | _ => .int
theorem nmJxab1ab : ∀ a, a < 0 → ∀ b, b < 0 → a ≠ b → (TJxab1ab a).2.1 ≠ (TJxab1ab b).2.1 := by decide +kernel
theorem tyJxab1ab_ok : ∀ k, k < 0 → parseFieldDescriptor (TJxab1ab k).2.2.1 = some (tyJxab1ab k) := by decide +kernel
def RJ13 : String := "java/lang/Long"
def TJ13 : u_T := fun k => match k with
  | _ => ("", "", "", false)
def tyJ13 : Nat → FieldType := fun k => match k with
  | _ => .int
theorem nmJ13 : ∀ a, a < 0 → ∀ b, b < 0 → a ≠ b → (TJ13 a).2.1 ≠ (TJ13 b).2.1 := by decide +kernel
theorem tyJ13_ok : ∀ k, k < 0 → parseFieldDescriptor (TJ13 k).2.2.1 = some (tyJ13 k) := by decide +kernel
abbrev cJ13_numberOfLeadingZeros_95d88 : ByteArray := prog_22_method_48_code
def yJ13_numberOfLeadingZeros_95d88 : MethodName := ⟨RJ13, "numberOfLeadingZeros", "(J)I"⟩
abbrev cJ13_numberOfTrailingZeros_95d88 : ByteArray := prog_22_method_49_code
def yJ13_numberOfTrailingZeros_95d88 : MethodName := ⟨RJ13, "numberOfTrailingZeros", "(J)I"⟩
def RJ9 : String := "java/lang/Math"
def TJ9 : u_T := fun k => match k with
  | _ => ("", "", "", false)
def tyJ9 : Nat → FieldType := fun k => match k with
  | _ => .int
theorem nmJ9 : ∀ a, a < 0 → ∀ b, b < 0 → a ≠ b → (TJ9 a).2.1 ≠ (TJ9 b).2.1 := by decide +kernel
theorem tyJ9_ok : ∀ k, k < 0 → parseFieldDescriptor (TJ9 k).2.2.1 = some (tyJ9 k) := by decide +kernel
abbrev cJ9_max_7cf53 : ByteArray := prog_23_method_65_code
def yJ9_max_7cf53 : MethodName := ⟨RJ9, "max", "(II)I"⟩
abbrev cJ9_min_7cf53 : ByteArray := prog_23_method_69_code
def yJ9_min_7cf53 : MethodName := ⟨RJ9, "min", "(II)I"⟩
def RJxd2413 : String := "java/lang/Number"
def TJxd2413 : u_T := fun k => match k with
  | _ => ("", "", "", false)
def tyJxd2413 : Nat → FieldType := fun k => match k with
  | _ => .int
theorem nmJxd2413 : ∀ a, a < 0 → ∀ b, b < 0 → a ≠ b → (TJxd2413 a).2.1 ≠ (TJxd2413 b).2.1 := by decide +kernel
theorem tyJxd2413_ok : ∀ k, k < 0 → parseFieldDescriptor (TJxd2413 k).2.2.1 = some (tyJxd2413 k) := by decide +kernel
abbrev cJxd2413_init_da8c8 : ByteArray := prog_24_method_1_code
def yJxd2413_init_da8c8 : MethodName := ⟨RJxd2413, "<init>", "()V"⟩
def RJ0 : String := "java/lang/String"
def TJ0 : u_T := fun k => match k with
  | _ => ("", "", "", false)
def tyJ0 : Nat → FieldType := fun k => match k with
  | _ => .int
theorem nmJ0 : ∀ a, a < 0 → ∀ b, b < 0 → a ≠ b → (TJ0 a).2.1 ≠ (TJ0 b).2.1 := by decide +kernel
theorem tyJ0_ok : ∀ k, k < 0 → parseFieldDescriptor (TJ0 k).2.2.1 = some (tyJ0 k) := by decide +kernel
def RJ10 : String := "java/lang/System"
def TJ10 : u_T := fun k => match k with
  | _ => ("", "", "", false)
def tyJ10 : Nat → FieldType := fun k => match k with
  | _ => .int
theorem nmJ10 : ∀ a, a < 0 → ∀ b, b < 0 → a ≠ b → (TJ10 a).2.1 ≠ (TJ10 b).2.1 := by decide +kernel
theorem tyJ10_ok : ∀ k, k < 0 → parseFieldDescriptor (TJ10 k).2.2.1 = some (tyJ10 k) := by decide +kernel
def RJxfd54e : String := "java/lang/constant/Constable"
def TJxfd54e : u_T := fun k => match k with
  | _ => ("", "", "", false)
def tyJxfd54e : Nat → FieldType := fun k => match k with
  | _ => .int
theorem nmJxfd54e : ∀ a, a < 0 → ∀ b, b < 0 → a ≠ b → (TJxfd54e a).2.1 ≠ (TJxfd54e b).2.1 := by decide +kernel
theorem tyJxfd54e_ok : ∀ k, k < 0 → parseFieldDescriptor (TJxfd54e k).2.2.1 = some (tyJxfd54e k) := by decide +kernel
def RJx3cf43 : String := "java/lang/constant/ConstantDesc"
def TJx3cf43 : u_T := fun k => match k with
  | _ => ("", "", "", false)
def tyJx3cf43 : Nat → FieldType := fun k => match k with
  | _ => .int
theorem nmJx3cf43 : ∀ a, a < 0 → ∀ b, b < 0 → a ≠ b → (TJx3cf43 a).2.1 ≠ (TJx3cf43 b).2.1 := by decide +kernel
theorem tyJx3cf43_ok : ∀ k, k < 0 → parseFieldDescriptor (TJx3cf43 k).2.2.1 = some (tyJx3cf43 k) := by decide +kernel
def RJxa1e45 : String := "java/util/AbstractCollection"
def TJxa1e45 : u_T := fun k => match k with
  | _ => ("", "", "", false)
def tyJxa1e45 : Nat → FieldType := fun k => match k with
  | _ => .int
theorem nmJxa1e45 : ∀ a, a < 0 → ∀ b, b < 0 → a ≠ b → (TJxa1e45 a).2.1 ≠ (TJxa1e45 b).2.1 := by decide +kernel
theorem tyJxa1e45_ok : ∀ k, k < 0 → parseFieldDescriptor (TJxa1e45 k).2.2.1 = some (tyJxa1e45 k) := by decide +kernel
abbrev cJxa1e45_init_da8c8 : ByteArray := prog_31_method_1_code
def yJxa1e45_init_da8c8 : MethodName := ⟨RJxa1e45, "<init>", "()V"⟩
def RJxc12de : String := "java/util/AbstractList"
def TJxc12de : u_T := fun k => match k with
  | _ => ("", "", "", false)
def tyJxc12de : Nat → FieldType := fun k => match k with
  | _ => .int
theorem nmJxc12de : ∀ a, a < 0 → ∀ b, b < 0 → a ≠ b → (TJxc12de a).2.1 ≠ (TJxc12de b).2.1 := by decide +kernel
theorem tyJxc12de_ok : ∀ k, k < 0 → parseFieldDescriptor (TJxc12de k).2.2.1 = some (tyJxc12de k) := by decide +kernel
abbrev cJxc12de_init_da8c8 : ByteArray := prog_32_method_1_code
def yJxc12de_init_da8c8 : MethodName := ⟨RJxc12de, "<init>", "()V"⟩
def RJx35411 : String := "java/util/ArrayList$Itr"
def TJx35411 : u_T := fun k => match k with
  | 0 => ("java/util/ArrayList$Itr", "cursor", "I", false)
  | 1 => ("java/util/ArrayList$Itr", "lastRet", "I", false)
  | 2 => ("java/util/ArrayList$Itr", "expectedModCount", "I", false)
  | _ => ("java/util/ArrayList$Itr", "this$0", "Ljava/util/ArrayList;", true)
def tyJx35411 : Nat → FieldType := fun k => match k with
  | 0 => .int
  | 1 => .int
  | 2 => .int
  | _ => .object "java/util/ArrayList"
theorem nmJx35411 : ∀ a, a < 4 → ∀ b, b < 4 → a ≠ b → (TJx35411 a).2.1 ≠ (TJx35411 b).2.1 := by decide +kernel
theorem tyJx35411_ok : ∀ k, k < 4 → parseFieldDescriptor (TJx35411 k).2.2.1 = some (tyJx35411 k) := by decide +kernel
abbrev cJx35411_init_45d68 : ByteArray := prog_34_method_1_code
def yJx35411_init_45d68 : MethodName := ⟨RJx35411, "<init>", "(Ljava/util/ArrayList;)V"⟩
abbrev cJx35411_hasNext_aae02 : ByteArray := prog_34_method_2_code
def yJx35411_hasNext_aae02 : MethodName := ⟨RJx35411, "hasNext", "()Z"⟩
abbrev cJx35411_next_0502b : ByteArray := prog_34_method_3_code
def yJx35411_next_0502b : MethodName := ⟨RJx35411, "next", "()Ljava/lang/Object;"⟩
abbrev cJx35411_checkForComodification_da8c8 : ByteArray := prog_34_method_6_code
def yJx35411_checkForComodification_da8c8 : MethodName := ⟨RJx35411, "checkForComodification", "()V"⟩
def RJx4a65c : String := "java/util/ArrayList"
def TJx4a65c : u_T := fun k => match k with
  | 0 => ("java/util/AbstractList", "modCount", "I", false)
  | 1 => ("java/util/ArrayList", "elementData", "[Ljava/lang/Object;", false)
  | _ => ("java/util/ArrayList", "size", "I", false)
def tyJx4a65c : Nat → FieldType := fun k => match k with
  | 0 => .int
  | 1 => .array (.object "java/lang/Object")
  | _ => .int
theorem nmJx4a65c : ∀ a, a < 3 → ∀ b, b < 3 → a ≠ b → (TJx4a65c a).2.1 ≠ (TJx4a65c b).2.1 := by decide +kernel
theorem tyJx4a65c_ok : ∀ k, k < 3 → parseFieldDescriptor (TJx4a65c k).2.2.1 = some (tyJx4a65c k) := by decide +kernel
abbrev cJx4a65c_init_da8c8 : ByteArray := prog_33_method_2_code
def yJx4a65c_init_da8c8 : MethodName := ⟨RJx4a65c, "<init>", "()V"⟩
abbrev cJx4a65c_grow_92f84 : ByteArray := prog_33_method_6_code
def yJx4a65c_grow_92f84 : MethodName := ⟨RJx4a65c, "grow", "(I)[Ljava/lang/Object;"⟩
abbrev cJx4a65c_grow_d5877 : ByteArray := prog_33_method_7_code
def yJx4a65c_grow_d5877 : MethodName := ⟨RJx4a65c, "grow", "()[Ljava/lang/Object;"⟩
abbrev cJx4a65c_size_8abf5 : ByteArray := prog_33_method_8_code
def yJx4a65c_size_8abf5 : MethodName := ⟨RJx4a65c, "size", "()I"⟩
abbrev cJx4a65c_isEmpty_aae02 : ByteArray := prog_33_method_9_code
def yJx4a65c_isEmpty_aae02 : MethodName := ⟨RJx4a65c, "isEmpty", "()Z"⟩
abbrev cJx4a65c_elementData_915e3 : ByteArray := prog_33_method_18_code
def yJx4a65c_elementData_915e3 : MethodName := ⟨RJx4a65c, "elementData", "(I)Ljava/lang/Object;"⟩
abbrev cJx4a65c_get_915e3 : ByteArray := prog_33_method_20_code
def yJx4a65c_get_915e3 : MethodName := ⟨RJx4a65c, "get", "(I)Ljava/lang/Object;"⟩
abbrev cJx4a65c_set_bcc79 : ByteArray := prog_33_method_23_code
def yJx4a65c_set_bcc79 : MethodName := ⟨RJx4a65c, "set", "(ILjava/lang/Object;)Ljava/lang/Object;"⟩
abbrev cJx4a65c_add_72be8 : ByteArray := prog_33_method_24_code
def yJx4a65c_add_72be8 : MethodName := ⟨RJx4a65c, "add", "(Ljava/lang/Object;[Ljava/lang/Object;I)V"⟩
abbrev cJx4a65c_add_9ea2d : ByteArray := prog_33_method_25_code
def yJx4a65c_add_9ea2d : MethodName := ⟨RJx4a65c, "add", "(Ljava/lang/Object;)Z"⟩
abbrev cJx4a65c_iterator_32c93 : ByteArray := prog_33_method_55_code
def yJx4a65c_iterator_32c93 : MethodName := ⟨RJx4a65c, "iterator", "()Ljava/util/Iterator;"⟩
def RJ7 : String := "java/util/Arrays"
def TJ7 : u_T := fun k => match k with
  | _ => ("", "", "", false)
def tyJ7 : Nat → FieldType := fun k => match k with
  | _ => .int
theorem nmJ7 : ∀ a, a < 0 → ∀ b, b < 0 → a ≠ b → (TJ7 a).2.1 ≠ (TJ7 b).2.1 := by decide +kernel
theorem tyJ7_ok : ∀ k, k < 0 → parseFieldDescriptor (TJ7 k).2.2.1 = some (tyJ7 k) := by decide +kernel
abbrev cJ7_equals_bbcde : ByteArray := prog_35_method_83_code
def yJ7_equals_bbcde : MethodName := ⟨RJ7, "equals", "([I[I)Z"⟩
abbrev cJ7_fill_53178 : ByteArray := prog_35_method_103_code
def yJ7_fill_53178 : MethodName := ⟨RJ7, "fill", "([II)V"⟩
abbrev cJ7_copyOf_1904c : ByteArray := prog_35_method_119_code
def yJ7_copyOf_1904c : MethodName := ⟨RJ7, "copyOf", "([Ljava/lang/Object;I)[Ljava/lang/Object;"⟩
abbrev cJ7_copyOf_6403c : ByteArray := prog_35_method_120_code
def yJ7_copyOf_6403c : MethodName := ⟨RJ7, "copyOf", "([Ljava/lang/Object;ILjava/lang/Class;)[Ljava/lang/Object;"⟩
def RJx5ef63 : String := "java/util/Collection"
def TJx5ef63 : u_T := fun k => match k with
  | _ => ("", "", "", false)
def tyJx5ef63 : Nat → FieldType := fun k => match k with
  | _ => .int
theorem nmJx5ef63 : ∀ a, a < 0 → ∀ b, b < 0 → a ≠ b → (TJx5ef63 a).2.1 ≠ (TJx5ef63 b).2.1 := by decide +kernel
theorem tyJx5ef63_ok : ∀ k, k < 0 → parseFieldDescriptor (TJx5ef63 k).2.2.1 = some (tyJx5ef63 k) := by decide +kernel
def RJx4d0d8 : String := "java/util/Iterator"
def TJx4d0d8 : u_T := fun k => match k with
  | _ => ("", "", "", false)
def tyJx4d0d8 : Nat → FieldType := fun k => match k with
  | _ => .int
theorem nmJx4d0d8 : ∀ a, a < 0 → ∀ b, b < 0 → a ≠ b → (TJx4d0d8 a).2.1 ≠ (TJx4d0d8 b).2.1 := by decide +kernel
theorem tyJx4d0d8_ok : ∀ k, k < 0 → parseFieldDescriptor (TJx4d0d8 k).2.2.1 = some (tyJx4d0d8 k) := by decide +kernel
def RJxbd725 : String := "java/util/List"
def TJxbd725 : u_T := fun k => match k with
  | _ => ("", "", "", false)
def tyJxbd725 : Nat → FieldType := fun k => match k with
  | _ => .int
theorem nmJxbd725 : ∀ a, a < 0 → ∀ b, b < 0 → a ≠ b → (TJxbd725 a).2.1 ≠ (TJxbd725 b).2.1 := by decide +kernel
theorem tyJxbd725_ok : ∀ k, k < 0 → parseFieldDescriptor (TJxbd725 k).2.2.1 = some (tyJxbd725 k) := by decide +kernel
def RJ15 : String := "java/util/Objects"
def TJ15 : u_T := fun k => match k with
  | _ => ("", "", "", false)
def tyJ15 : Nat → FieldType := fun k => match k with
  | _ => .int
theorem nmJ15 : ∀ a, a < 0 → ∀ b, b < 0 → a ≠ b → (TJ15 a).2.1 ≠ (TJ15 b).2.1 := by decide +kernel
theorem tyJ15_ok : ∀ k, k < 0 → parseFieldDescriptor (TJ15 k).2.2.1 = some (tyJ15 k) := by decide +kernel
abbrev cJ15_checkIndex_7cf53 : ByteArray := prog_39_method_17_code
def yJ15_checkIndex_7cf53 : MethodName := ⟨RJ15, "checkIndex", "(II)I"⟩
def RJxf0a74 : String := "java/util/RandomAccess"
def TJxf0a74 : u_T := fun k => match k with
  | _ => ("", "", "", false)
def tyJxf0a74 : Nat → FieldType := fun k => match k with
  | _ => .int
theorem nmJxf0a74 : ∀ a, a < 0 → ∀ b, b < 0 → a ≠ b → (TJxf0a74 a).2.1 ≠ (TJxf0a74 b).2.1 := by decide +kernel
theorem tyJxf0a74_ok : ∀ k, k < 0 → parseFieldDescriptor (TJxf0a74 k).2.2.1 = some (tyJxf0a74 k) := by decide +kernel
def RJxa66e6 : String := "java/util/SequencedCollection"
def TJxa66e6 : u_T := fun k => match k with
  | _ => ("", "", "", false)
def tyJxa66e6 : Nat → FieldType := fun k => match k with
  | _ => .int
theorem nmJxa66e6 : ∀ a, a < 0 → ∀ b, b < 0 → a ≠ b → (TJxa66e6 a).2.1 ≠ (TJxa66e6 b).2.1 := by decide +kernel
theorem tyJxa66e6_ok : ∀ k, k < 0 → parseFieldDescriptor (TJxa66e6 k).2.2.1 = some (tyJxa66e6 k) := by decide +kernel
def RJx9a822 : String := "jdk/internal/misc/Unsafe"
def TJx9a822 : u_T := fun k => match k with
  | _ => ("", "", "", false)
def tyJx9a822 : Nat → FieldType := fun k => match k with
  | _ => .int
theorem nmJx9a822 : ∀ a, a < 0 → ∀ b, b < 0 → a ≠ b → (TJx9a822 a).2.1 ≠ (TJx9a822 b).2.1 := by decide +kernel
theorem tyJx9a822_ok : ∀ k, k < 0 → parseFieldDescriptor (TJx9a822 k).2.2.1 = some (tyJx9a822 k) := by decide +kernel
abbrev cJx9a822_getLongUnaligned_f02c6 : ByteArray := prog_42_method_334_code
def yJx9a822_getLongUnaligned_f02c6 : MethodName := ⟨RJx9a822, "getLongUnaligned", "(Ljava/lang/Object;J)J"⟩
abbrev cJx9a822_getIntUnaligned_25a47 : ByteArray := prog_42_method_336_code
def yJx9a822_getIntUnaligned_25a47 : MethodName := ⟨RJx9a822, "getIntUnaligned", "(Ljava/lang/Object;J)I"⟩
abbrev cJx9a822_pickPos_7cf53 : ByteArray := prog_42_method_350_code
def yJx9a822_pickPos_7cf53 : MethodName := ⟨RJx9a822, "pickPos", "(II)I"⟩
abbrev cJx9a822_makeLong_0477f : ByteArray := prog_42_method_351_code
def yJx9a822_makeLong_0477f : MethodName := ⟨RJx9a822, "makeLong", "(BBBBBBBB)J"⟩
abbrev cJx9a822_makeLong_4b46d : ByteArray := prog_42_method_352_code
def yJx9a822_makeLong_4b46d : MethodName := ⟨RJx9a822, "makeLong", "(SSSS)J"⟩
abbrev cJx9a822_makeLong_a216e : ByteArray := prog_42_method_353_code
def yJx9a822_makeLong_a216e : MethodName := ⟨RJx9a822, "makeLong", "(II)J"⟩
abbrev cJx9a822_makeInt_4e28c : ByteArray := prog_42_method_354_code
def yJx9a822_makeInt_4e28c : MethodName := ⟨RJx9a822, "makeInt", "(SS)I"⟩
abbrev cJx9a822_makeInt_86272 : ByteArray := prog_42_method_355_code
def yJx9a822_makeInt_86272 : MethodName := ⟨RJx9a822, "makeInt", "(BBBB)I"⟩
abbrev cJx9a822_toUnsignedInt_4d018 : ByteArray := prog_42_method_366_code
def yJx9a822_toUnsignedInt_4d018 : MethodName := ⟨RJx9a822, "toUnsignedInt", "(B)I"⟩
abbrev cJx9a822_toUnsignedInt_f1ed4 : ByteArray := prog_42_method_367_code
def yJx9a822_toUnsignedInt_f1ed4 : MethodName := ⟨RJx9a822, "toUnsignedInt", "(S)I"⟩
abbrev cJx9a822_toUnsignedLong_c5be9 : ByteArray := prog_42_method_368_code
def yJx9a822_toUnsignedLong_c5be9 : MethodName := ⟨RJx9a822, "toUnsignedLong", "(B)J"⟩
abbrev cJx9a822_toUnsignedLong_51cfc : ByteArray := prog_42_method_369_code
def yJx9a822_toUnsignedLong_51cfc : MethodName := ⟨RJx9a822, "toUnsignedLong", "(S)J"⟩
abbrev cJx9a822_toUnsignedLong_3e8ac : ByteArray := prog_42_method_370_code
def yJx9a822_toUnsignedLong_3e8ac : MethodName := ⟨RJx9a822, "toUnsignedLong", "(I)J"⟩
def RJxf92f9 : String := "jdk/internal/misc/UnsafeConstants"
def TJxf92f9 : u_T := fun k => match k with
  | _ => ("", "", "", false)
def tyJxf92f9 : Nat → FieldType := fun k => match k with
  | _ => .int
theorem nmJxf92f9 : ∀ a, a < 0 → ∀ b, b < 0 → a ≠ b → (TJxf92f9 a).2.1 ≠ (TJxf92f9 b).2.1 := by decide +kernel
theorem tyJxf92f9_ok : ∀ k, k < 0 → parseFieldDescriptor (TJxf92f9 k).2.2.1 = some (tyJxf92f9 k) := by decide +kernel
def RJ8 : String := "jdk/internal/util/ArraysSupport"
def TJ8 : u_T := fun k => match k with
  | _ => ("", "", "", false)
def tyJ8 : Nat → FieldType := fun k => match k with
  | _ => .int
theorem nmJ8 : ∀ a, a < 0 → ∀ b, b < 0 → a ≠ b → (TJ8 a).2.1 ≠ (TJ8 b).2.1 := by decide +kernel
theorem tyJ8_ok : ∀ k, k < 0 → parseFieldDescriptor (TJ8 k).2.2.1 = some (tyJ8 k) := by decide +kernel
abbrev cJ8_vectorizedMismatch_456ae : ByteArray := prog_44_method_3_code
def yJ8_vectorizedMismatch_456ae : MethodName := ⟨RJ8, "vectorizedMismatch", "(Ljava/lang/Object;JLjava/lang/Object;JII)I"⟩
abbrev cJ8_mismatch_05dfe : ByteArray := prog_44_method_19_code
def yJ8_mismatch_05dfe : MethodName := ⟨RJ8, "mismatch", "([I[II)I"⟩
abbrev cJ8_newLength_cabcc : ByteArray := prog_44_method_27_code
def yJ8_newLength_cabcc : MethodName := ⟨RJ8, "newLength", "(III)I"⟩
abbrev cJ8_hugeLength_7cf53 : ByteArray := prog_44_method_28_code
def yJ8_hugeLength_7cf53 : MethodName := ⟨RJ8, "hugeLength", "(II)I"⟩
def RJ3 : String := "jdk/internal/util/Preconditions"
def TJ3 : u_T := fun k => match k with
  | _ => ("", "", "", false)
def tyJ3 : Nat → FieldType := fun k => match k with
  | _ => .int
theorem nmJ3 : ∀ a, a < 0 → ∀ b, b < 0 → a ≠ b → (TJ3 a).2.1 ≠ (TJ3 b).2.1 := by decide +kernel
theorem tyJ3_ok : ∀ k, k < 0 → parseFieldDescriptor (TJ3 k).2.2.1 = some (tyJ3 k) := by decide +kernel
abbrev cJ3_checkIndex_8e157 : ByteArray := prog_45_method_11_code
def yJ3_checkIndex_8e157 : MethodName := ⟨RJ3, "checkIndex", "(IILjava/util/function/BiFunction;)I"⟩
def RL : String := "BrandRoomLaw"
abbrev cL_asset : ByteArray := method_3_code
def yL_asset : MethodName := ⟨RL, "asset", "(LBrandRoom;[J)I"⟩
abbrev cL_version : ByteArray := method_4_code
def yL_version : MethodName := ⟨RL, "version", "(LBrandRoom;II[J)I"⟩
abbrev cL_late : ByteArray := method_5_code
def yL_late : MethodName := ⟨RL, "late", "(LBrandRoom;II[J)I"⟩
abbrev cL_rights : ByteArray := method_6_code
def yL_rights : MethodName := ⟨RL, "rights", "(LBrandRoom;IIII[J)I"⟩
abbrev cL_versionOn : ByteArray := method_7_code
def yL_versionOn : MethodName := ⟨RL, "versionOn", "(LBrandRoom;II[J)I"⟩
abbrev cL_hasRights : ByteArray := method_8_code
def yL_hasRights : MethodName := ⟨RL, "hasRights", "(LBrandRoom;III[J)I"⟩
abbrev cL_piece : ByteArray := method_9_code
def yL_piece : MethodName := ⟨RL, "piece", "(LBrandRoom;II[J)I"⟩
abbrev cL_approve : ByteArray := method_10_code
def yL_approve : MethodName := ⟨RL, "approve", "(LBrandRoom;II[J)I"⟩
abbrev cL_hold : ByteArray := method_11_code
def yL_hold : MethodName := ⟨RL, "hold", "(LBrandRoom;II[J)I"⟩
abbrev cL_reason : ByteArray := method_12_code
def yL_reason : MethodName := ⟨RL, "reason", "(LBrandRoom;III[J)I"⟩
abbrev cL_isFit : ByteArray := method_13_code
def yL_isFit : MethodName := ⟨RL, "isFit", "(LBrandRoom;III[J)I"⟩
abbrev cL_ofPiece : ByteArray := method_14_code
def yL_ofPiece : MethodName := ⟨RL, "ofPiece", "(LBrandRoom;II[J)I"⟩
abbrev cL_book : ByteArray := method_15_code
def yL_book : MethodName := ⟨RL, "book", "(LBrandRoom;IIIIII[J)I"⟩
abbrev cL_cancel : ByteArray := method_16_code
def yL_cancel : MethodName := ⟨RL, "cancel", "(LBrandRoom;I[J)I"⟩
abbrev cL_swap : ByteArray := method_17_code
def yL_swap : MethodName := ⟨RL, "swap", "(LBrandRoom;II[J)I"⟩
abbrev cL_ofBooking : ByteArray := method_18_code
def yL_ofBooking : MethodName := ⟨RL, "ofBooking", "(LBrandRoom;II[J)I"⟩
abbrev cL_day : ByteArray := method_19_code
def yL_day : MethodName := ⟨RL, "day", "(LBrandRoom;[J)I"⟩
abbrev cL_at : ByteArray := method_20_code
def yL_at : MethodName := ⟨RL, "at", "(LBrandRoom;III[J)I"⟩
abbrev cL_many : ByteArray := method_21_code
def yL_many : MethodName := ⟨RL, "many", "(LBrandRoom;I[J)I"⟩
abbrev cL_groups : ByteArray := method_22_code
def yL_groups : MethodName := ⟨RL, "groups", "(LBrandRoom;III[J)I"⟩
abbrev cL_reach : ByteArray := method_23_code
def yL_reach : MethodName := ⟨RL, "reach", "(LBrandRoom;I[J)I"⟩
abbrev cL_price : ByteArray := method_24_code
def yL_price : MethodName := ⟨RL, "price", "(LBrandRoom;III[J)I"⟩
abbrev cL_swapFor : ByteArray := method_25_code
def yL_swapFor : MethodName := ⟨RL, "swapFor", "(LBrandRoom;I[J)I"⟩
abbrev cL_offIn : ByteArray := method_26_code
def yL_offIn : MethodName := ⟨RL, "offIn", "(LBrandRoom;I[J)I"⟩
abbrev cL_lostIn : ByteArray := method_27_code
def yL_lostIn : MethodName := ⟨RL, "lostIn", "(LBrandRoom;I[J)I"⟩
abbrev cL_reachWith : ByteArray := method_28_code
def yL_reachWith : MethodName := ⟨RL, "reachWith", "(LBrandRoom;I[J)I"⟩
abbrev cL_law : ByteArray := code
def yL_law : MethodName := ⟨RL, "law", "([I)Z"⟩
abbrev vwCl : List vw_C := [(RJ6, TJ6, 1), (RJx35411, TJx35411, 4), (RJx4a65c, TJx4a65c, 3), (RX0, TX0, 5), (RX1, TX1, 12), (RX2, TX2, 5), (RX3, TX3, 3), (RX4, TX4, 4), (RX5, TX5, 4), (RX6, TX6, 3), (RX7, TX7, 12), (RX8, TX8, 4), (RX9, TX9, 6)]
/-- the types of the arrays that the worlds hold -/
def z_tys : List FieldType := [.int, .object "java/lang/Object", .array .int, .long, .int]
/-- the texts of exceptions -/
def z_strs : List (String × Nat × String) := [("BrandRoom", 279, "what is not 0 to 10"), ("BrandRoom", 357, "no such asset"), ("BrandRoom", 373, "a day is not 0 to 99"), ("BrandRoom", 359, "no such piece"), ("BrandRoom", 171, "what is not 0 to 4"), ("BrandRoom", 369, "no such land"), ("BrandRoom", 361, "no such booking"), ("BrandRoom", 260, "what is not 0 to 11"), ("BrandRoom", 301, "days is not 1 to 30"), ("BrandRoom", 36, "there are 16 assets"), ("BrandRoom", 58, "day is not today to 99"), ("BrandRoom", 65, "there are 5 versions"), ("BrandRoom", 67, "days is not 1 to 20"), ("BrandRoom", 72, "no version is still to come"), ("BrandRoom", 84, "lands is not 0 to 15"), ("BrandRoom", 89, "to is below from"), ("BrandRoom", 108, "format is not 0 to 2"), ("BrandRoom", 110, "assets is empty, or has one that there is not"), ("BrandRoom", 115, "there are 12 pieces"), ("BrandRoom", 139, "the piece is not laid"), ("BrandRoom", 371, "no such medium"), ("BrandRoom", 363, "from is not above today"), ("BrandRoom", 365, "to is not from to 99"), ("BrandRoom", 367, "base is not 1 to 999"), ("BrandRoom", 182, "there were 16 bookings"), ("BrandRoom", 188, "another booking has one of these days"), ("BrandRoom", 207, "the booking is neither booked nor running"), ("BrandRoom", 222, "the piece cannot be swapped for that of the booking"), ("BrandRoom", 262, "today is 99"), ("BrandRoom", 284, "groups is not 0 to 1023")]
/-- classes of exceptions that are not of one another -/
def z_ncs : List (String × String) := [("java/lang/IndexOutOfBoundsException", "java/lang/IllegalStateException"), ("java/lang/IllegalArgumentException", "java/lang/IllegalStateException"), ("java/lang/IllegalStateException", "java/lang/IndexOutOfBoundsException"), ("java/lang/IllegalArgumentException", "java/lang/IndexOutOfBoundsException"), ("java/lang/IllegalStateException", "java/lang/IllegalArgumentException"), ("java/lang/IndexOutOfBoundsException", "java/lang/IllegalArgumentException")]
/-- what is called through an interface -/
def z_ifs : List (String × MethodName × MethodName) := [("java/util/ArrayList$Itr", ⟨"java/util/Iterator", "hasNext", "()Z"⟩, ⟨"java/util/ArrayList$Itr", "hasNext", "()Z"⟩), ("java/util/ArrayList$Itr", ⟨"java/util/Iterator", "next", "()Ljava/lang/Object;"⟩, ⟨"java/util/ArrayList$Itr", "next", "()Ljava/lang/Object;"⟩)]
theorem z_ifs_ok : ∀ q ∈ z_ifs, q.2.1.cls ≠ "java/lang/invoke/MethodHandle" ∧ q.2.1.cls ≠ "java/lang/invoke/VarHandle" := by decide +kernel
end
section
/-! THE LAYER (own rows): one world for all methods. A heap is seen as two functions: zT: address to (kind, size); zF: address and place to value. Kinds below 100: a class's place in vwCl; 100 + j: arrays of the j-th type of zw_tys. A method's contract speaks of any two such functions; what it does is said by a predicate transformer. -/
abbrev zT : Type := Nat → Option (Nat × Nat)
abbrev zF : Type := Nat → Nat → Value
def zu (F : zF) (a k : Nat) (v : Value) : zF := fun b j => if b = a ∧ j = k then v else F b j
def zn (T : zT) (a : Nat) (t : Nat × Nat) : zT := fun b => if b = a then some t else T b
def zm (F : zF) (a : Nat) (V : Nat → Value) : zF := fun b j => if b = a then V j else F b j
/-- the words that all methods need: all of the law's tables that stay true as classes warm -/
def zw_gw : Cond → Bool
  | .fieldLinkNest .. => true
  | .methodLinkNest .. => true
  | .arrayOver (.object _) => true
  | .castable .. => true
  | .declares _ => true
  | w => goodWord w
def zG : List Cond := lw_tbl.filter zw_gw
theorem zG_of {w : Cond} (i : Nat) (h : lw_tbl[i]? = some w) (g : zw_gw w = true) : w ∈ zG := List.mem_filter.mpr ⟨List.mem_of_getElem? h, g⟩
theorem zw_move {w : Cond} (g : zw_gw w = true) {a a' : Array Value} {s U : State} (hW : s.WarmedH U.vm) (h : w.before a s = true) : w.before a' U = true := by
  have base : goodWord w = true → w.before a' U = true := fun g => word_at hW (good_of_word g) h
  cases w <;> first | exact base g | skip
  case fieldLinkNest => exact va_Nw.use rfl (va_Nw.warmF hW (va_Nw.of rfl h))
  case methodLinkNest => exact va_Nw.use rfl (va_Nw.warmM hW (va_Nw.of rfl h))
  case arrayOver ty => 
    cases ty <;> first | exact va_AO.use (va_AO.moved hW.alike (va_AO.of h)) | exact base g
  case castable => exact va_Nw.use rfl (va_Nw.warmC hW (va_Nw.of rfl h))
  case declares x => 
    have h1 : (Cond.declares x).before a (s.setVm U.vm) = true := by rw [Cond.declares_setVm hW.alike]; exact h
    exact va_tabs (u := s.setVm U.vm) (A := a) rfl rfl h1
/-! the world -/
def z_at (D : va_G) (cA : Nat → ClassId) (a : Nat) (t : Nat × Nat) (V : Nat → Value) (H : Heap) : Prop :=
  if t.1 < 100 then ∃ r : vw_C, vwCl[t.1]? = some r ∧ t.2 = r.2.2 ∧ t_OB a (D.1 t.1) r.2.2 (D.2 t.1) H V
  else H[a]? = some (arrV (cA (t.1 - 100)) t.2 V)
theorem z_at.kept {D : va_G} {cA : Nat → ClassId} {a : Nat} {t : Nat × Nat} {V : Nat → Value} {H H1 : Heap} (h : z_at D cA a t V H) (hq : H1[a]? = H[a]?) : z_at D cA a t V H1 := by
  unfold z_at at h ⊢
  split at h
  · next g =>
    rw [if_pos g]
    obtain ⟨r, h1, h2, h3⟩ := h
    exact ⟨r, h1, h2, h3.kept hq⟩
  · next g =>
    rw [if_neg g, hq]
    exact h
theorem z_at.lt {D : va_G} {cA : Nat → ClassId} {a : Nat} {t : Nat × Nat} {V : Nat → Value} {H : Heap} (h : z_at D cA a t V H) : a < H.size := by
  unfold z_at at h
  split at h
  · obtain ⟨r, h1, h2, cell, h3, -⟩ := h
    exact (Array.getElem?_eq_some_iff.mp h3).1
  · exact (Array.getElem?_eq_some_iff.mp h).1
def z_P (D : va_G) (cA : Nat → ClassId) (N0 : Nat) (T : zT) (F : zF) (H : Heap) : Prop := ∀ (a : Nat) (t : Nat × Nat), T a = some t → (N0 ≤ a ∨ (t.2 = 0 ∧ 100 ≤ t.1) ∨ t.1 = 104) ∧ z_at D cA a t (F a) H
theorem z_P.kept {D : va_G} {cA : Nat → ClassId} {N0 : Nat} {T : zT} {F : zF} {H H1 : Heap} (h : z_P D cA N0 T F H) (hq : ∀ a : Nat, a < H.size → H1[a]? = H[a]?) : z_P D cA N0 T F H1 := fun a t ht => ⟨(h a t ht).1, (h a t ht).2.kept (hq a (h a t ht).2.lt)⟩
theorem z_P.set {D : va_G} {cA : Nat → ClassId} {N0 : Nat} {T : zT} {F : zF} {H H1 : Heap} {a k : Nat} {t : Nat × Nat} {v : Value} (h : z_P D cA N0 T F H) (hT : T a = some t) (he : z_at D cA a t (fun j => if j = k then v else F a j) H1) (oq : ∀ q : Nat, q ≠ a → H1[q]? = H[q]?) : z_P D cA N0 T (zu F a k v) H1 := by
  intro b t' hb
  by_cases g : b = a
  · subst g
    cases hT.symm.trans hb
    refine ⟨(h b t hT).1, ?_⟩
    have e : (zu F b k v) b = (fun j => if j = k then v else F b j) := by funext j; simp [zu]
    rw [e]; exact he
  · refine ⟨(h b t' hb).1, ?_⟩
    have e : (zu F a k v) b = F b := by funext j; simp [zu, g]
    rw [e]; exact (h b t' hb).2.kept (oq b g)
theorem z_P.push {D : va_G} {cA : Nat → ClassId} {N0 : Nat} {T : zT} {F : zF} {H H1 : Heap} {t : Nat × Nat} {V : Nat → Value} (h : z_P D cA N0 T F H) (hN : N0 ≤ H.size) (he : z_at D cA H.size t V H1) (oq : ∀ q : Nat, q < H.size → H1[q]? = H[q]?) : T H.size = none ∧ z_P D cA N0 (zn T H.size t) (zm F H.size V) H1 := by
  refine ⟨?_, fun b t' hb => ?_⟩
  · cases g : T H.size with
    | none => rfl
    | some t' => exact absurd (h _ _ g).2.lt (Nat.lt_irrefl _)
  · by_cases g : b = H.size
    · subst g
      have : t = t' := by simpa [zn] using hb
      subst this
      refine ⟨Or.inl hN, ?_⟩
      have e : (zm F H.size V) H.size = V := by funext j; simp [zm]
      rw [e]; exact he
    · have hb' : T b = some t' := by simpa [zn, g] using hb
      refine ⟨(h b t' hb').1, ?_⟩
      have e : (zm F H.size V) b = F b := by funext j; simp [zm, g]
      rw [e]; exact (h b t' hb').2.kept (oq b (h b t' hb').2.lt)
theorem z_P.none {D : va_G} {cA : Nat → ClassId} {N0 : Nat} {T : zT} {F : zF} {H : Heap} (h : z_P D cA N0 T F H) : T H.size = none := by
  cases g : T H.size with
  | none => rfl
  | some t' => exact absurd (h _ _ g).2.lt (Nat.lt_irrefl _)
/-- the array class over an array type stands in the machine's tables -/
def z_AA (ty : FieldType) (U : State) : Prop := ∃ (comp cA : ClassId) (k : Class), U.vm.findClass (FieldType.array ty).toString = some comp ∧ (U.vm.classes.findIdx? fun (x : Class) => match x.kind with | .array component _ => component == comp | _ => false) = some cA ∧ U.vm.classes[cA]? = some k ∧ k.kind = .array comp (.array ty) ∧ U.vm.findClass ("[" ++ (FieldType.array ty).toString) = some cA
theorem z_AA.of {ty : FieldType} {A : Array Value} {U : State} (h : (Cond.arrayOver (.array ty)).before A U = true) : z_AA ty U := by
  simp only [Cond.before, Cond.holds, Cond.value, beq_iff_eq] at h
  rw [Option.bind_eq_some_iff] at h
  obtain ⟨comp, hcomp, h⟩ := h
  rw [Option.bind_eq_some_iff] at h
  obtain ⟨cA, hi, h⟩ := h
  cases hk : U.vm.classes[cA]? with
  | none => rw [hk] at h; simp at h
  | some k =>
    rw [hk, Option.map_some] at h
    cases hkind : k.kind with
    | array component t2 =>
      rw [hkind] at h
      simp at h
      have hp := (Array.findIdx?_eq_some_iff_getElem.mp hi)
      obtain ⟨hlt, hp, -⟩ := hp
      have e : U.vm.classes[cA] = k := by
        have := (Array.getElem?_eq_some_iff.mp hk).2
        exact this
      rw [e, hkind] at hp
      simp at hp
      exact ⟨comp, cA, k, hcomp, hi, hk, by rw [hkind, hp, h.1], h.2⟩
    | _ => rw [hkind] at h; simp at h
theorem z_AA.moved {ty : FieldType} {u U : State} (hvm : u.vm.Alike U.vm) (h : z_AA ty u) : z_AA ty U := by
  obtain ⟨comp, c, k, h1, h2, h3, h4, h5⟩ := h
  obtain ⟨k', hk', he⟩ := hvm.2.2 _ _ h3
  have hi : (U.vm.classes.findIdx? fun (x : Class) => match x.kind with | .array component _ => component == comp | _ => false) = some c := by
    have a1 := va_idx_bare U.vm comp
    have a2 := va_idx_bare u.vm comp
    have a3 : U.vm.bare = u.vm.bare := by first | exact hvm.bare_eq | exact hvm.bare_eq.symm
    rw [a3] at a1
    exact (a1.symm.trans a2).trans h2
  exact ⟨comp, c, k', by rw [hvm.findClass]; exact h1, hi, hk', by rw [he]; exact h4, by rw [hvm.findClass]; exact h5⟩
theorem z_AA.use {ty : FieldType} {A : Array Value} {U : State} (h : z_AA ty U) : (Cond.arrayOver (.array ty)).before A U = true := by
  obtain ⟨comp, c, k, h1, h2, h3, h4, h5⟩ := h
  unfold Cond.before Cond.holds
  simp only [Cond.value]
  rw [h1, Option.bind_some]
  refine (congrArg (fun o : Option Nat => (o.bind (fun c => (U.vm.classes[c]?).map fun (k : Class) => match k.kind with | .array _ t2 => decide (t2 = FieldType.array ty) && decide (U.vm.findClass ("[" ++ (FieldType.array ty).toString) = some c) | _ => false) == some true)) h2).trans ?_
  simp [h3, h4, h5]
/-- what stands outside the cells that a method may change -/
def z_K (l : Launch) (D : va_G) (cA : Nat → ClassId) (N0 zE : Nat) (U : State) : Prop :=
  l.stackTraces = false ∧ N0 ≤ U.heap.size ∧ va_K D vwCl [] U ∧ (∀ (j : Nat) (ty : FieldType), z_tys[j]? = some ty → ArrOfT U (cA j) ty ∧ va_RA U (cA j) ty) ∧
  va_Z "java/util/ArrayList" "DEFAULTCAPACITY_EMPTY_ELEMENTDATA" "[Ljava/lang/Object;" (.ref zE) (fun q => N0 ≤ q) U U.heap ∧
  vx_Zq Bundle.tN "UNASSIGNED_STACK" Bundle.steD (fun q => N0 ≤ q) U U.heap ∧ vx_Zq Bundle.tN "SUPPRESSED_SENTINEL" Bundle.listD (fun q => N0 ≤ q) U U.heap ∧
  (∀ q ∈ z_strs, ∃ sa : Nat, vk_R q.1 q.2.1 q.2.2 sa U) ∧ (∀ q ∈ z_ncs, va_Nc q.1 q.2 U) ∧ (∀ q ∈ z_ifs, va_Fw q.1 q.2.1 q.2.2 U) ∧ z_AA .int U
theorem z_K.move {l : Launch} {D : va_G} {cA : Nat → ClassId} {N0 zE : Nat} {s U : State} (h : z_K l D cA N0 zE s) (hW : s.WarmedH U.vm) (hz : s.heap.size ≤ U.heap.size) (hk : ∀ a : Nat, a < s.heap.size → ¬ N0 ≤ a → U.heap[a]? = s.heap[a]?) : z_K l D cA N0 zE U := by
  obtain ⟨h0, h1, h2, h3, h4, h5, h6, h7, h8, h9, h10⟩ := h
  exact ⟨h0, Nat.le_trans h1 hz, va_K.moved hW.alike h2, fun j ty e => ⟨arrOfT_moved hW.alike (h3 j ty e).1, (h3 j ty e).2.moved hW.alike⟩, va_Z.moved hW.alike (h4.kept hk), vx_Zq.moved hW.alike (h5.kept hk), vx_Zq.moved hW.alike (h6.kept hk), fun q hq => (h7 q hq).imp fun sa g => vk_R.warm hW g, fun q hq => va_Nc.moved hW.alike (h8 q hq), fun q hq => va_Fw.moved (z_ifs_ok q hq) hW.alike (h9 q hq), h10.moved hW.alike⟩
def z_C (p : Program) (l : Launch) (s : State) (m : MethodId) (args : Array Value) (meth : Method) (c : Code) (own : String) (cc : ByteArray) (nL : Nat) (ret : Option FieldType) (D : va_G) (cA : Nat → ClassId) (N0 zE : Nat) : Prop :=
  p.tables.exec = Jvm.exec ∧ c.code = cc ∧ c.maxLocals = nL ∧ s.vm.findClass own = some m.cls ∧ (∀ w ∈ zG, w.before args s = true) ∧ z_K l D cA N0 zE s ∧ meth.locks = false ∧ meth.sig.returnType = ret
def z_w (p : Program) (l : Launch) (e : Env) (R : Room) (s : State) (m : MethodId) (args : Array Value) (below : List Frame) (meth : Method) (c : Code) (D : va_G) (cA : Nat → ClassId) (N0 nL : Nat) (cells slots : Nat) (Q : State → Prop) (pc : Nat) (lo : List (Nat × Value)) (st : List Value) (T : zT) (F : zF) : Prop :=
  ∀ (H : Heap) (locs : List Loc) (ls : Array Slot), z_P D cA N0 T F H → va_S (fun q => N0 ≤ q) s.heap H locs → lv_has ls nL lo → W p l e R s m args below meth c H locs cells slots Q (F0 m pc ls st)
/-- an exception q of the class E stands over the frame -/
def z_x (p : Program) (l : Launch) (e : Env) (R : Room) (s : State) (m : MethodId) (args : Array Value) (below : List Frame) (meth : Method) (c : Code) (D : va_G) (cA : Nat → ClassId) (N0 nL : Nat) (cells slots : Nat) (Q : State → Prop) (pc : Nat) (lo : List (Nat × Value)) (st : List Value) (E : String) (T : zT) (F : zF) : Prop :=
  ∀ (H : Heap) (locs : List Loc) (ls : Array Slot) (ce : Cell) (q : Addr), z_P D cA N0 T F H → va_S (fun q => N0 ≤ q) s.heap H locs → lv_has ls nL lo → H[q]? = some ce → ce.vm = .none → s.vm.findClass E = some ce.cls → vx_W p l e R s m args below meth c H locs cells slots Q (F0 m pc ls st) q
/-! contracts -/
def z_Pc (l : Launch) (D : va_G) (cA : Nat → ClassId) (N0 zE : Nat) (as : List Value) (T : zT) (F : zF) : Array Value → State → Prop := fun v U => v = as.toArray ∧ z_P D cA N0 T F U.heap ∧ z_K l D cA N0 zE U
def z_Qc (D : va_G) (cA : Nat → ClassId) (N0 : Nat) (Post : Option Value → zT → zF → Prop) : Array Value → State → Outcome → State → Prop := fun _ st oc t => ∃ (v : Option Value) (T : zT) (F : zF), oc = .returned v ∧ Post v T F ∧ z_P D cA N0 T F t.heap ∧ va_F (fun q => N0 ≤ q) st t
def z_XC (D : va_G) (cA : Nat → ClassId) (N0 : Nat) (PX : String → zT → zF → Prop) : String → State → State → Prop := fun E st t => ∃ (T : zT) (F : zF), PX E T F ∧ z_P D cA N0 T F t.heap ∧ va_F (fun q => N0 ≤ q) st t
def z_Met (l : Launch) (D : va_G) (cA : Nat → ClassId) (N0 zE : Nat) (y : MethodName) (cc : ByteArray) (maxL : Nat) (ret : Option FieldType) (rm : Room) (as : List Value) (T : zT) (F : zF) (Post : Option Value → zT → zF → Prop) (PX : String → zT → zF → Prop) : Prop :=
  vx_Met l y (Cond.code y cc maxL ret :: zG) rm (z_Pc l D cA N0 zE as T F) (z_Qc D cA N0 Post) (z_XC D cA N0 PX) rm.cells rm.slots (fun q => N0 ≤ q)
/-- a body that is walked: its contract -/
theorem z_body {l : Launch} {D : va_G} {cA : Nat → ClassId} {N0 zE : Nat} {y : MethodName} {cc : ByteArray} {maxL : Nat} {ret : Option FieldType} {rm : Room} {as : List Value} {T : zT} {F : zF} {Post : Option Value → zT → zF → Prop} {PX : String → zT → zF → Prop} (hy : plainName y.cls = true) (hn : (lg_sl as).length ≤ maxL)
    (body : ∀ (p : Program) (e : Env) (s : State) (m : MethodId) (args : Array Value) (below : List Frame) (meth : Method) (c : Code), z_C p l s m args meth c y.cls cc maxL ret D cA N0 zE → (∀ x ∈ c.exceptionTable.toList, False) → meth.name = y.name →
      z_w p l e rm s m args below meth c D cA N0 maxL 0 0 (vx_MQ below (z_Qc D cA N0 Post) (z_XC D cA N0 PX) args s rm.cells rm.slots (fun q => N0 ≤ q)) 0 (lv_args 0 as) [] T F) : z_Met l D cA N0 zE y cc maxL ret rm as T F Post PX := by
  refine vx_ofW (cc := cc) (maxL := maxL) (ret := ret) hy rfl ?_
  intro p e s m args below meth c s₁ B hml hxt hv
  obtain ⟨rfl, hP, hK⟩ := hv
  have hts := atoms_spec (ws := Cond.code y cc maxL ret :: zG) B.pre
  have hC : z_C p l s m as.toArray meth c y.cls cc maxL ret D cA N0 zE := ⟨B.exec, B.bytes, hml, findClass_of_methodNamed B.named, fun w hw => hts w (List.mem_cons_of_mem _ hw), hK, B.notSynchronized, B.returns⟩
  have hl := lv_entry as (n := maxL) hn
  rw [lg_entry_eq]
  exact body p e s m as.toArray below meth c hC hxt (name_of_methodNamed B.named B.method).1 s.heap [] _ hP va_S.rf hl
section ZR
variable {p : Program} {l : Launch} {e : Env} {R : Room} {s : State} {m : MethodId} {args : Array Value} {below : List Frame} {meth : Method} {c : Code} {Q : State → Prop}
variable {D : va_G} {cA : Nat → ClassId} {N0 zE nL cells slots pc : Nat} {own : String} {cc : ByteArray} {ret : Option FieldType} {T : zT} {F : zF} {lo lo' : List (Nat × Value)} {st : List Value}
theorem zr_iconst (C : z_C p l s m args meth c own cc nL ret D cA N0 zE) {n : Int} (v : Int32) (hdg : decode cc pc = .ok (.iconst n, 1)) (hv : Int32.ofInt n = v) (k : z_w p l e R s m args below meth c D cA N0 nL cells slots Q (pc + 1) lo (.int v :: st) T F) : z_w p l e R s m args below meth c D cA N0 nL cells slots Q pc lo st T F :=
  fun H locs ls hP hS hL => lv_iconst C.1 C.2.1 hdg hv (k H locs ls hP hS hL)
theorem zr_bipush (C : z_C p l s m args meth c own cc nL ret D cA N0 zE) {n : Int} (v : Int32) (hdg : decode cc pc = .ok (.bipush n, 2)) (hv : (Int8.ofInt n).toInt32 = v) (k : z_w p l e R s m args below meth c D cA N0 nL cells slots Q (pc + 2) lo (.int v :: st) T F) : z_w p l e R s m args below meth c D cA N0 nL cells slots Q pc lo st T F :=
  fun H locs ls hP hS hL => lv_bipush C.1 C.2.1 hdg hv (k H locs ls hP hS hL)
theorem zr_sipush (C : z_C p l s m args meth c own cc nL ret D cA N0 zE) {n : Int} (v : Int32) (hdg : decode cc pc = .ok (.sipush n, 3)) (hv : (Int16.ofInt n).toInt32 = v) (k : z_w p l e R s m args below meth c D cA N0 nL cells slots Q (pc + 3) lo (.int v :: st) T F) : z_w p l e R s m args below meth c D cA N0 nL cells slots Q pc lo st T F :=
  fun H locs ls hP hS hL => lv_sipush C.1 C.2.1 hdg hv (k H locs ls hP hS hL)
theorem zr_iload_n (C : z_C p l s m args meth c own cc nL ret D cA N0 zE) {n : Fin 4} {x : Int32} (j : Nat) {i : Nat} (hdg : decode cc pc = .ok (.iload_n n, 1)) (hi : (n : Nat) = i) (hl : lo[j]? = some (i, .int x)) (k : z_w p l e R s m args below meth c D cA N0 nL cells slots Q (pc + 1) lo (.int x :: st) T F) : z_w p l e R s m args below meth c D cA N0 nL cells slots Q pc lo st T F :=
  fun H locs ls hP hS hL => lv_iload_n C.1 C.2.1 hdg hi (lv_at hL j hl) (k H locs ls hP hS hL)
theorem zr_iload (C : z_C p l s m args meth c own cc nL ret D cA N0 zE) {x : Int32} (j : Nat) {i : Nat} (hdg : decode cc pc = .ok (.iload i, 2)) (hl : lo[j]? = some (i, .int x)) (k : z_w p l e R s m args below meth c D cA N0 nL cells slots Q (pc + 2) lo (.int x :: st) T F) : z_w p l e R s m args below meth c D cA N0 nL cells slots Q pc lo st T F :=
  fun H locs ls hP hS hL => lv_iload C.1 C.2.1 hdg (lv_at hL j hl) (k H locs ls hP hS hL)
theorem zr_lload_n (C : z_C p l s m args meth c own cc nL ret D cA N0 zE) {n : Fin 4} {x : Int64} (j : Nat) {i : Nat} (hdg : decode cc pc = .ok (.lload_n n, 1)) (hi : (n : Nat) = i) (hl : lo[j]? = some (i, .long x)) (k : z_w p l e R s m args below meth c D cA N0 nL cells slots Q (pc + 1) lo (.long x :: st) T F) : z_w p l e R s m args below meth c D cA N0 nL cells slots Q pc lo st T F :=
  fun H locs ls hP hS hL => lv_lload_n C.1 C.2.1 hdg hi (lv_at hL j hl) (k H locs ls hP hS hL)
theorem zr_lload (C : z_C p l s m args meth c own cc nL ret D cA N0 zE) {x : Int64} (j : Nat) {i : Nat} (hdg : decode cc pc = .ok (.lload i, 2)) (hl : lo[j]? = some (i, .long x)) (k : z_w p l e R s m args below meth c D cA N0 nL cells slots Q (pc + 2) lo (.long x :: st) T F) : z_w p l e R s m args below meth c D cA N0 nL cells slots Q pc lo st T F :=
  fun H locs ls hP hS hL => lv_lload C.1 C.2.1 hdg (lv_at hL j hl) (k H locs ls hP hS hL)
theorem zr_aload_n (C : z_C p l s m args meth c own cc nL ret D cA N0 zE) {n : Fin 4} {x : Nat} (j : Nat) {i : Nat} (hdg : decode cc pc = .ok (.aload_n n, 1)) (hi : (n : Nat) = i) (hl : lo[j]? = some (i, .ref x)) (k : z_w p l e R s m args below meth c D cA N0 nL cells slots Q (pc + 1) lo (.ref x :: st) T F) : z_w p l e R s m args below meth c D cA N0 nL cells slots Q pc lo st T F :=
  fun H locs ls hP hS hL => lv_aload_n C.1 C.2.1 hdg hi (lv_at hL j hl) (k H locs ls hP hS hL)
theorem zr_aload (C : z_C p l s m args meth c own cc nL ret D cA N0 zE) {x : Nat} (j : Nat) {i : Nat} (hdg : decode cc pc = .ok (.aload i, 2)) (hl : lo[j]? = some (i, .ref x)) (k : z_w p l e R s m args below meth c D cA N0 nL cells slots Q (pc + 2) lo (.ref x :: st) T F) : z_w p l e R s m args below meth c D cA N0 nL cells slots Q pc lo st T F :=
  fun H locs ls hP hS hL => lv_aload C.1 C.2.1 hdg (lv_at hL j hl) (k H locs ls hP hS hL)
theorem zr_aload_nN (C : z_C p l s m args meth c own cc nL ret D cA N0 zE) {n : Fin 4} (j : Nat) {i : Nat} (hdg : decode cc pc = .ok (.aload_n n, 1)) (hi : (n : Nat) = i) (hl : lo[j]? = some (i, .null)) (k : z_w p l e R s m args below meth c D cA N0 nL cells slots Q (pc + 1) lo (.null :: st) T F) : z_w p l e R s m args below meth c D cA N0 nL cells slots Q pc lo st T F :=
  fun H locs ls hP hS hL => lv_aload_nN C.1 C.2.1 hdg hi (lv_at hL j hl) (k H locs ls hP hS hL)
theorem zr_aloadN (C : z_C p l s m args meth c own cc nL ret D cA N0 zE) (j : Nat) {i : Nat} (hdg : decode cc pc = .ok (.aload i, 2)) (hl : lo[j]? = some (i, .null)) (k : z_w p l e R s m args below meth c D cA N0 nL cells slots Q (pc + 2) lo (.null :: st) T F) : z_w p l e R s m args below meth c D cA N0 nL cells slots Q pc lo st T F :=
  fun H locs ls hP hS hL => lv_aloadN C.1 C.2.1 hdg (lv_at hL j hl) (k H locs ls hP hS hL)
theorem zr_istore_n (C : z_C p l s m args meth c own cc nL ret D cA N0 zE) (lo' : List (Nat × Value)) {n : Fin 4} {i : Nat} {x : Int32} (hdg : decode cc pc = .ok (.istore_n n, 1)) (hi : (n : Nat) = i) (hn : i < nL) (hl : (i, Value.int x) :: lo.filter (fun q => !(q.1 == i) && !(q.1 + 1 == i && q.2.category == 2)) = lo') (k : z_w p l e R s m args below meth c D cA N0 nL cells slots Q (pc + 1) lo' st T F) : z_w p l e R s m args below meth c D cA N0 nL cells slots Q pc lo (.int x :: st) T F :=
  fun H locs ls hP hS hL => lv_istore_n C.1 C.2.1 hdg hi hL hn hl (fun ls hl => k H locs ls hP hS hl)
theorem zr_istore (C : z_C p l s m args meth c own cc nL ret D cA N0 zE) (lo' : List (Nat × Value)) {i : Nat} {x : Int32} (hdg : decode cc pc = .ok (.istore i, 2)) (hn : i < nL) (hl : (i, Value.int x) :: lo.filter (fun q => !(q.1 == i) && !(q.1 + 1 == i && q.2.category == 2)) = lo') (k : z_w p l e R s m args below meth c D cA N0 nL cells slots Q (pc + 2) lo' st T F) : z_w p l e R s m args below meth c D cA N0 nL cells slots Q pc lo (.int x :: st) T F :=
  fun H locs ls hP hS hL => lv_istore C.1 C.2.1 hdg hL hn hl (fun ls hl => k H locs ls hP hS hl)
theorem zr_lstore_n (C : z_C p l s m args meth c own cc nL ret D cA N0 zE) (lo' : List (Nat × Value)) {n : Fin 4} {i : Nat} {x : Int64} (hdg : decode cc pc = .ok (.lstore_n n, 1)) (hi : (n : Nat) = i) (hn : i + 1 < nL) (hl : (i, Value.long x) :: lo.filter (fun q => !(q.1 == i) && (!(q.1 == i + 1) && !(q.1 + 1 == i && q.2.category == 2))) = lo') (k : z_w p l e R s m args below meth c D cA N0 nL cells slots Q (pc + 1) lo' st T F) : z_w p l e R s m args below meth c D cA N0 nL cells slots Q pc lo (.long x :: st) T F :=
  fun H locs ls hP hS hL => lv_lstore_n C.1 C.2.1 hdg hi hL hn hl (fun ls hl => k H locs ls hP hS hl)
theorem zr_lstore (C : z_C p l s m args meth c own cc nL ret D cA N0 zE) (lo' : List (Nat × Value)) {i : Nat} {x : Int64} (hdg : decode cc pc = .ok (.lstore i, 2)) (hn : i + 1 < nL) (hl : (i, Value.long x) :: lo.filter (fun q => !(q.1 == i) && (!(q.1 == i + 1) && !(q.1 + 1 == i && q.2.category == 2))) = lo') (k : z_w p l e R s m args below meth c D cA N0 nL cells slots Q (pc + 2) lo' st T F) : z_w p l e R s m args below meth c D cA N0 nL cells slots Q pc lo (.long x :: st) T F :=
  fun H locs ls hP hS hL => lv_lstore C.1 C.2.1 hdg hL hn hl (fun ls hl => k H locs ls hP hS hl)
theorem zr_astore_n (C : z_C p l s m args meth c own cc nL ret D cA N0 zE) (lo' : List (Nat × Value)) {n : Fin 4} {i x : Nat} (hdg : decode cc pc = .ok (.astore_n n, 1)) (hi : (n : Nat) = i) (hn : i < nL) (hl : (i, Value.ref x) :: lo.filter (fun q => !(q.1 == i) && !(q.1 + 1 == i && q.2.category == 2)) = lo') (k : z_w p l e R s m args below meth c D cA N0 nL cells slots Q (pc + 1) lo' st T F) : z_w p l e R s m args below meth c D cA N0 nL cells slots Q pc lo (.ref x :: st) T F :=
  fun H locs ls hP hS hL => lv_astore_n C.1 C.2.1 hdg hi hL hn hl (fun ls hl => k H locs ls hP hS hl)
theorem zr_astore (C : z_C p l s m args meth c own cc nL ret D cA N0 zE) (lo' : List (Nat × Value)) {i x : Nat} (hdg : decode cc pc = .ok (.astore i, 2)) (hn : i < nL) (hl : (i, Value.ref x) :: lo.filter (fun q => !(q.1 == i) && !(q.1 + 1 == i && q.2.category == 2)) = lo') (k : z_w p l e R s m args below meth c D cA N0 nL cells slots Q (pc + 2) lo' st T F) : z_w p l e R s m args below meth c D cA N0 nL cells slots Q pc lo (.ref x :: st) T F :=
  fun H locs ls hP hS hL => lv_astore C.1 C.2.1 hdg hL hn hl (fun ls hl => k H locs ls hP hS hl)
theorem zr_iinc (C : z_C p l s m args meth c own cc nL ret D cA N0 zE) (lo' : List (Nat × Value)) (j : Nat) {i : Nat} {n : Int} {x v : Int32} (hdg : decode cc pc = .ok (.iinc i n, 3)) (hk : lo[j]? = some (i, .int x)) (hv : x + Int32.ofInt n = v) (hn : i < nL) (hl : (i, Value.int v) :: lo.filter (fun q => !(q.1 == i) && !(q.1 + 1 == i && q.2.category == 2)) = lo') (k : z_w p l e R s m args below meth c D cA N0 nL cells slots Q (pc + 3) lo' st T F) : z_w p l e R s m args below meth c D cA N0 nL cells slots Q pc lo st T F :=
  fun H locs ls hP hS hL => lv_iinc C.1 C.2.1 hdg hL hk hv hn hl (fun ls hl => k H locs ls hP hS hl)
theorem z_ueq {F : zF} {a k : Nat} {v : Value} : zu F a k v a k = v := if_pos ⟨rfl, rfl⟩
theorem z_une {F : zF} {a b k j : Nat} {v x : Value} (h : F b j = x) (hne : ¬ j = k) : zu F a k v b j = x := (if_neg (fun g => hne g.2)).trans h
theorem z_nq {T : zT} {q : Nat} {t : Nat × Nat} : zn T q t q = some t := if_pos rfl
theorem z_nb {v : Int32} (h : v = 0 ∨ v = 1) : narrow .boolean (.int v) = .int v := by rcases h with rfl | rfl <;> rfl
theorem z_fb {v : Int32} (h : v = 0 ∨ v = 1) : fits .boolean (.int v) = true := by rcases h with rfl | rfl <;> rfl
/-- an object of one of the classes of vwCl, which may stand in an Object[] -/
def z_ob (T : zT) (v : Nat) : Prop := ∃ (ci n : Nat) (r : vw_C), T v = some (ci, n) ∧ ci < 100 ∧ vwCl[ci]? = some r ∧ Cond.castable r.1 "java/lang/Object" ∈ zG
theorem z_sw {x : Int32} (hi : Nat) (h : ¬ (x.toInt < 0 ∨ (hi : Int) < x.toInt)) : ∃ j : Nat, j ≤ hi ∧ x = nI j := by
  refine ⟨x.toInt.toNat, by omega, ?_⟩
  have e : ((x.toInt.toNat : Nat) : Int) = x.toInt := by omega
  show x = Int32.ofNat x.toInt.toNat
  rw [← Int32.ofInt_eq_ofNat, e, Int32.ofInt_toInt]
theorem zr_iadd (C : z_C p l s m args meth c own cc nL ret D cA N0 zE) {x y : Int32} (hdg : decode cc pc = .ok (.iadd, 1)) (k : z_w p l e R s m args below meth c D cA N0 nL cells slots Q (pc + 1) lo (.int (x + y) :: st) T F) : z_w p l e R s m args below meth c D cA N0 nL cells slots Q pc lo (.int y :: .int x :: st) T F :=
  fun H locs ls hP hS hL => lv_iadd C.1 C.2.1 hdg (k H locs ls hP hS hL)
theorem zr_isub (C : z_C p l s m args meth c own cc nL ret D cA N0 zE) {x y : Int32} (hdg : decode cc pc = .ok (.isub, 1)) (k : z_w p l e R s m args below meth c D cA N0 nL cells slots Q (pc + 1) lo (.int (x - y) :: st) T F) : z_w p l e R s m args below meth c D cA N0 nL cells slots Q pc lo (.int y :: .int x :: st) T F :=
  fun H locs ls hP hS hL => lv_isub C.1 C.2.1 hdg (k H locs ls hP hS hL)
theorem zr_imul (C : z_C p l s m args meth c own cc nL ret D cA N0 zE) {x y : Int32} (hdg : decode cc pc = .ok (.imul, 1)) (k : z_w p l e R s m args below meth c D cA N0 nL cells slots Q (pc + 1) lo (.int (x * y) :: st) T F) : z_w p l e R s m args below meth c D cA N0 nL cells slots Q pc lo (.int y :: .int x :: st) T F :=
  fun H locs ls hP hS hL => lv_imul C.1 C.2.1 hdg (k H locs ls hP hS hL)
theorem zr_iand (C : z_C p l s m args meth c own cc nL ret D cA N0 zE) {x y : Int32} (hdg : decode cc pc = .ok (.iand, 1)) (k : z_w p l e R s m args below meth c D cA N0 nL cells slots Q (pc + 1) lo (.int (x &&& y) :: st) T F) : z_w p l e R s m args below meth c D cA N0 nL cells slots Q pc lo (.int y :: .int x :: st) T F :=
  fun H locs ls hP hS hL => lv_iand C.1 C.2.1 hdg (k H locs ls hP hS hL)
theorem zr_ior (C : z_C p l s m args meth c own cc nL ret D cA N0 zE) {x y : Int32} (hdg : decode cc pc = .ok (.ior, 1)) (k : z_w p l e R s m args below meth c D cA N0 nL cells slots Q (pc + 1) lo (.int (x ||| y) :: st) T F) : z_w p l e R s m args below meth c D cA N0 nL cells slots Q pc lo (.int y :: .int x :: st) T F :=
  fun H locs ls hP hS hL => lv_ior C.1 C.2.1 hdg (k H locs ls hP hS hL)
theorem zr_ixor (C : z_C p l s m args meth c own cc nL ret D cA N0 zE) {x y : Int32} (hdg : decode cc pc = .ok (.ixor, 1)) (k : z_w p l e R s m args below meth c D cA N0 nL cells slots Q (pc + 1) lo (.int (x ^^^ y) :: st) T F) : z_w p l e R s m args below meth c D cA N0 nL cells slots Q pc lo (.int y :: .int x :: st) T F :=
  fun H locs ls hP hS hL => lv_ixor C.1 C.2.1 hdg (k H locs ls hP hS hL)
theorem zr_ishl (C : z_C p l s m args meth c own cc nL ret D cA N0 zE) {x y : Int32} (hdg : decode cc pc = .ok (.ishl, 1)) (k : z_w p l e R s m args below meth c D cA N0 nL cells slots Q (pc + 1) lo (.int (x <<< (y &&& 31)) :: st) T F) : z_w p l e R s m args below meth c D cA N0 nL cells slots Q pc lo (.int y :: .int x :: st) T F :=
  fun H locs ls hP hS hL => lv_ishl C.1 C.2.1 hdg (k H locs ls hP hS hL)
theorem zr_ishr (C : z_C p l s m args meth c own cc nL ret D cA N0 zE) {x y : Int32} (hdg : decode cc pc = .ok (.ishr, 1)) (k : z_w p l e R s m args below meth c D cA N0 nL cells slots Q (pc + 1) lo (.int (x >>> (y &&& 31)) :: st) T F) : z_w p l e R s m args below meth c D cA N0 nL cells slots Q pc lo (.int y :: .int x :: st) T F :=
  fun H locs ls hP hS hL => lv_ishr C.1 C.2.1 hdg (k H locs ls hP hS hL)
theorem zr_iushr (C : z_C p l s m args meth c own cc nL ret D cA N0 zE) {x y : Int32} (hdg : decode cc pc = .ok (.iushr, 1)) (k : z_w p l e R s m args below meth c D cA N0 nL cells slots Q (pc + 1) lo (.int ((x.toUInt32 >>> (y.toUInt32 &&& Int32.toUInt32 31)).toInt32) :: st) T F) : z_w p l e R s m args below meth c D cA N0 nL cells slots Q pc lo (.int y :: .int x :: st) T F :=
  fun H locs ls hP hS hL => lv_iushr C.1 C.2.1 hdg rfl (k H locs ls hP hS hL)
theorem zr_idiv (C : z_C p l s m args meth c own cc nL ret D cA N0 zE) {x y : Int32} (hdg : decode cc pc = .ok (.idiv, 1)) (hne : ¬ y = 0) (k : z_w p l e R s m args below meth c D cA N0 nL cells slots Q (pc + 1) lo (.int (x / y) :: st) T F) : z_w p l e R s m args below meth c D cA N0 nL cells slots Q pc lo (.int y :: .int x :: st) T F :=
  fun H locs ls hP hS hL => lv_idiv C.1 C.2.1 hdg hne (k H locs ls hP hS hL)
theorem zr_irem (C : z_C p l s m args meth c own cc nL ret D cA N0 zE) {x y : Int32} (hdg : decode cc pc = .ok (.irem, 1)) (hne : ¬ y = 0) (k : z_w p l e R s m args below meth c D cA N0 nL cells slots Q (pc + 1) lo (.int (x - x / y * y) :: st) T F) : z_w p l e R s m args below meth c D cA N0 nL cells slots Q pc lo (.int y :: .int x :: st) T F :=
  fun H locs ls hP hS hL => lv_irem C.1 C.2.1 hdg hne (k H locs ls hP hS hL)
theorem zr_ladd (C : z_C p l s m args meth c own cc nL ret D cA N0 zE) {x y : Int64} (hdg : decode cc pc = .ok (.ladd, 1)) (k : z_w p l e R s m args below meth c D cA N0 nL cells slots Q (pc + 1) lo (.long (x + y) :: st) T F) : z_w p l e R s m args below meth c D cA N0 nL cells slots Q pc lo (.long y :: .long x :: st) T F :=
  fun H locs ls hP hS hL => lv_ladd C.1 C.2.1 hdg (k H locs ls hP hS hL)
theorem zr_lsub (C : z_C p l s m args meth c own cc nL ret D cA N0 zE) {x y : Int64} (hdg : decode cc pc = .ok (.lsub, 1)) (k : z_w p l e R s m args below meth c D cA N0 nL cells slots Q (pc + 1) lo (.long (x - y) :: st) T F) : z_w p l e R s m args below meth c D cA N0 nL cells slots Q pc lo (.long y :: .long x :: st) T F :=
  fun H locs ls hP hS hL => lv_lsub C.1 C.2.1 hdg (k H locs ls hP hS hL)
theorem zr_lmul (C : z_C p l s m args meth c own cc nL ret D cA N0 zE) {x y : Int64} (hdg : decode cc pc = .ok (.lmul, 1)) (k : z_w p l e R s m args below meth c D cA N0 nL cells slots Q (pc + 1) lo (.long (x * y) :: st) T F) : z_w p l e R s m args below meth c D cA N0 nL cells slots Q pc lo (.long y :: .long x :: st) T F :=
  fun H locs ls hP hS hL => lv_lmul C.1 C.2.1 hdg (k H locs ls hP hS hL)
theorem zr_ineg (C : z_C p l s m args meth c own cc nL ret D cA N0 zE) {x : Int32} (hdg : decode cc pc = .ok (.ineg, 1)) (k : z_w p l e R s m args below meth c D cA N0 nL cells slots Q (pc + 1) lo (.int (-x) :: st) T F) : z_w p l e R s m args below meth c D cA N0 nL cells slots Q pc lo (.int x :: st) T F :=
  fun H locs ls hP hS hL => lv_ineg C.1 C.2.1 hdg (k H locs ls hP hS hL)
theorem zr_i2l (C : z_C p l s m args meth c own cc nL ret D cA N0 zE) {x : Int32} (hdg : decode cc pc = .ok (.i2l, 1)) (k : z_w p l e R s m args below meth c D cA N0 nL cells slots Q (pc + 1) lo (.long x.toInt64 :: st) T F) : z_w p l e R s m args below meth c D cA N0 nL cells slots Q pc lo (.int x :: st) T F :=
  fun H locs ls hP hS hL => lv_i2l C.1 C.2.1 hdg rfl (k H locs ls hP hS hL)
theorem zr_lcmp (C : z_C p l s m args meth c own cc nL ret D cA N0 zE) {x y : Int64} (hdg : decode cc pc = .ok (.lcmp, 1)) (k : z_w p l e R s m args below meth c D cA N0 nL cells slots Q (pc + 1) lo (.int (lg_cmp x y) :: st) T F) : z_w p l e R s m args below meth c D cA N0 nL cells slots Q pc lo (.long y :: .long x :: st) T F :=
  fun H locs ls hP hS hL => W.lcmp C.1 C.2.1 hdg (k H locs ls hP hS hL)
theorem zr_lconst (C : z_C p l s m args meth c own cc nL ret D cA N0 zE) {n : Fin 2} (v : Int64) (hdg : decode cc pc = .ok (.lconst n, 1)) (hv : Int64.ofNat (n : Nat) = v) (k : z_w p l e R s m args below meth c D cA N0 nL cells slots Q (pc + 1) lo (.long v :: st) T F) : z_w p l e R s m args below meth c D cA N0 nL cells slots Q pc lo st T F :=
  fun H locs ls hP hS hL => lv_lconst C.1 C.2.1 hdg hv (k H locs ls hP hS hL)
theorem zr_dup (C : z_C p l s m args meth c own cc nL ret D cA N0 zE) {v : Value} (hdg : decode cc pc = .ok (.dup, 1)) (hv : v.category = 1) (k : z_w p l e R s m args below meth c D cA N0 nL cells slots Q (pc + 1) lo (v :: v :: st) T F) : z_w p l e R s m args below meth c D cA N0 nL cells slots Q pc lo (v :: st) T F :=
  fun H locs ls hP hS hL => lv_dup C.1 C.2.1 hdg hv (k H locs ls hP hS hL)
theorem zr_pop (C : z_C p l s m args meth c own cc nL ret D cA N0 zE) {v : Value} (hdg : decode cc pc = .ok (.pop, 1)) (hv : v.category = 1) (k : z_w p l e R s m args below meth c D cA N0 nL cells slots Q (pc + 1) lo st T F) : z_w p l e R s m args below meth c D cA N0 nL cells slots Q pc lo (v :: st) T F :=
  fun H locs ls hP hS hL => lv_pop C.1 C.2.1 hdg hv (k H locs ls hP hS hL)
theorem zr_dup_x1 (C : z_C p l s m args meth c own cc nL ret D cA N0 zE) {v w : Value} (hdg : decode cc pc = .ok (.dup_x1, 1)) (hv : v.category = 1) (hw : w.category = 1) (k : z_w p l e R s m args below meth c D cA N0 nL cells slots Q (pc + 1) lo (v :: w :: v :: st) T F) : z_w p l e R s m args below meth c D cA N0 nL cells slots Q pc lo (v :: w :: st) T F :=
  fun H locs ls hP hS hL => lv_dup_x1 C.1 C.2.1 hdg hv hw (k H locs ls hP hS hL)
theorem zr_dup2 (C : z_C p l s m args meth c own cc nL ret D cA N0 zE) {v w : Value} (hdg : decode cc pc = .ok (.dup2, 1)) (hv : v.category = 1) (hw : w.category = 1) (k : z_w p l e R s m args below meth c D cA N0 nL cells slots Q (pc + 1) lo (v :: w :: v :: w :: st) T F) : z_w p l e R s m args below meth c D cA N0 nL cells slots Q pc lo (v :: w :: st) T F :=
  fun H locs ls hP hS hL => lv_dup2_11 C.1 C.2.1 hdg hv hw (k H locs ls hP hS hL)
theorem zr_null (C : z_C p l s m args meth c own cc nL ret D cA N0 zE) (hdg : decode cc pc = .ok (.aconst_null, 1)) (k : z_w p l e R s m args below meth c D cA N0 nL cells slots Q (pc + 1) lo (.null :: st) T F) : z_w p l e R s m args below meth c D cA N0 nL cells slots Q pc lo st T F :=
  fun H locs ls hP hS hL => lv_null C.1 C.2.1 hdg (k H locs ls hP hS hL)
theorem zr_ldc (C : z_C p l s m args meth c own cc nL ret D cA N0 zE) {index : Nat} (v : Int32) (hdg : decode cc pc = .ok (.ldc index, 2)) (hw : Cond.constant own index v ∈ zG) (k : z_w p l e R s m args below meth c D cA N0 nL cells slots Q (pc + 2) lo (.int v :: st) T F) : z_w p l e R s m args below meth c D cA N0 nL cells slots Q pc lo st T F :=
  fun H locs ls hP hS hL => lv_ldc C.1 C.2.1 C.2.2.2.1 (C.2.2.2.2.1 _ hw) hdg (k H locs ls hP hS hL)
theorem zr_ldcw (C : z_C p l s m args meth c own cc nL ret D cA N0 zE) {index : Nat} (v : Int32) (hdg : decode cc pc = .ok (.ldc_w index, 3)) (hw : Cond.constant own index v ∈ zG) (k : z_w p l e R s m args below meth c D cA N0 nL cells slots Q (pc + 3) lo (.int v :: st) T F) : z_w p l e R s m args below meth c D cA N0 nL cells slots Q pc lo st T F :=
  fun H locs ls hP hS hL => lv_ldcw C.1 C.2.1 C.2.2.2.1 (C.2.2.2.2.1 _ hw) hdg (k H locs ls hP hS hL)
theorem zr_ldc2 (C : z_C p l s m args meth c own cc nL ret D cA N0 zE) {index : Nat} (v : Int64) (hdg : decode cc pc = .ok (.ldc2_w index, 3)) (hw : Cond.constantLong own index v ∈ zG) (k : z_w p l e R s m args below meth c D cA N0 nL cells slots Q (pc + 3) lo (.long v :: st) T F) : z_w p l e R s m args below meth c D cA N0 nL cells slots Q pc lo st T F :=
  fun H locs ls hP hS hL => lv_ldc2 C.1 C.2.1 C.2.2.2.1 (C.2.2.2.2.1 _ hw) hdg (k H locs ls hP hS hL)
theorem zr_if_eq (C : z_C p l s m args meth c own cc nL ret D cA N0 zE) {x : Int32} {off : Int} (tgt : Nat) (hdg : decode cc pc = .ok (.ifCond .eq off, 3)) (ht : (pc : Int) + off = (tgt : Int)) (kt : x = 0 → z_w p l e R s m args below meth c D cA N0 nL cells slots Q tgt lo st T F) (kf : ¬ x = 0 → z_w p l e R s m args below meth c D cA N0 nL cells slots Q (pc + 3) lo st T F) : z_w p l e R s m args below meth c D cA N0 nL cells slots Q pc lo (.int x :: st) T F :=
  fun H locs ls hP hS hL => lv_if_eq C.1 C.2.1 hdg ht (fun h => kt h H locs ls hP hS hL) (fun h => kf h H locs ls hP hS hL)
theorem zr_icmp_eq (C : z_C p l s m args meth c own cc nL ret D cA N0 zE) {x y : Int32} {off : Int} (tgt : Nat) (hdg : decode cc pc = .ok (.if_icmp .eq off, 3)) (ht : (pc : Int) + off = (tgt : Int)) (kt : x = y → z_w p l e R s m args below meth c D cA N0 nL cells slots Q tgt lo st T F) (kf : ¬ x = y → z_w p l e R s m args below meth c D cA N0 nL cells slots Q (pc + 3) lo st T F) : z_w p l e R s m args below meth c D cA N0 nL cells slots Q pc lo (.int y :: .int x :: st) T F :=
  fun H locs ls hP hS hL => lv_icmp_eq C.1 C.2.1 hdg ht (fun h => kt h H locs ls hP hS hL) (fun h => kf h H locs ls hP hS hL)
theorem zr_if_ne (C : z_C p l s m args meth c own cc nL ret D cA N0 zE) {x : Int32} {off : Int} (tgt : Nat) (hdg : decode cc pc = .ok (.ifCond .ne off, 3)) (ht : (pc : Int) + off = (tgt : Int)) (kt : ¬ x = 0 → z_w p l e R s m args below meth c D cA N0 nL cells slots Q tgt lo st T F) (kf : x = 0 → z_w p l e R s m args below meth c D cA N0 nL cells slots Q (pc + 3) lo st T F) : z_w p l e R s m args below meth c D cA N0 nL cells slots Q pc lo (.int x :: st) T F :=
  fun H locs ls hP hS hL => lv_if_ne C.1 C.2.1 hdg ht (fun h => kt h H locs ls hP hS hL) (fun h => kf h H locs ls hP hS hL)
theorem zr_icmp_ne (C : z_C p l s m args meth c own cc nL ret D cA N0 zE) {x y : Int32} {off : Int} (tgt : Nat) (hdg : decode cc pc = .ok (.if_icmp .ne off, 3)) (ht : (pc : Int) + off = (tgt : Int)) (kt : ¬ x = y → z_w p l e R s m args below meth c D cA N0 nL cells slots Q tgt lo st T F) (kf : x = y → z_w p l e R s m args below meth c D cA N0 nL cells slots Q (pc + 3) lo st T F) : z_w p l e R s m args below meth c D cA N0 nL cells slots Q pc lo (.int y :: .int x :: st) T F :=
  fun H locs ls hP hS hL => lv_icmp_ne C.1 C.2.1 hdg ht (fun h => kt h H locs ls hP hS hL) (fun h => kf h H locs ls hP hS hL)
theorem zr_if_lt (C : z_C p l s m args meth c own cc nL ret D cA N0 zE) {x : Int32} {off : Int} (tgt : Nat) (hdg : decode cc pc = .ok (.ifCond .lt off, 3)) (ht : (pc : Int) + off = (tgt : Int)) (kt : x < 0 → z_w p l e R s m args below meth c D cA N0 nL cells slots Q tgt lo st T F) (kf : ¬ x < 0 → z_w p l e R s m args below meth c D cA N0 nL cells slots Q (pc + 3) lo st T F) : z_w p l e R s m args below meth c D cA N0 nL cells slots Q pc lo (.int x :: st) T F :=
  fun H locs ls hP hS hL => lv_if_lt C.1 C.2.1 hdg ht (fun h => kt h H locs ls hP hS hL) (fun h => kf h H locs ls hP hS hL)
theorem zr_icmp_lt (C : z_C p l s m args meth c own cc nL ret D cA N0 zE) {x y : Int32} {off : Int} (tgt : Nat) (hdg : decode cc pc = .ok (.if_icmp .lt off, 3)) (ht : (pc : Int) + off = (tgt : Int)) (kt : x < y → z_w p l e R s m args below meth c D cA N0 nL cells slots Q tgt lo st T F) (kf : ¬ x < y → z_w p l e R s m args below meth c D cA N0 nL cells slots Q (pc + 3) lo st T F) : z_w p l e R s m args below meth c D cA N0 nL cells slots Q pc lo (.int y :: .int x :: st) T F :=
  fun H locs ls hP hS hL => lv_icmp_lt C.1 C.2.1 hdg ht (fun h => kt h H locs ls hP hS hL) (fun h => kf h H locs ls hP hS hL)
theorem zr_if_ge (C : z_C p l s m args meth c own cc nL ret D cA N0 zE) {x : Int32} {off : Int} (tgt : Nat) (hdg : decode cc pc = .ok (.ifCond .ge off, 3)) (ht : (pc : Int) + off = (tgt : Int)) (kt : 0 ≤ x → z_w p l e R s m args below meth c D cA N0 nL cells slots Q tgt lo st T F) (kf : ¬ 0 ≤ x → z_w p l e R s m args below meth c D cA N0 nL cells slots Q (pc + 3) lo st T F) : z_w p l e R s m args below meth c D cA N0 nL cells slots Q pc lo (.int x :: st) T F :=
  fun H locs ls hP hS hL => lv_if_ge C.1 C.2.1 hdg ht (fun h => kt h H locs ls hP hS hL) (fun h => kf h H locs ls hP hS hL)
theorem zr_icmp_ge (C : z_C p l s m args meth c own cc nL ret D cA N0 zE) {x y : Int32} {off : Int} (tgt : Nat) (hdg : decode cc pc = .ok (.if_icmp .ge off, 3)) (ht : (pc : Int) + off = (tgt : Int)) (kt : y ≤ x → z_w p l e R s m args below meth c D cA N0 nL cells slots Q tgt lo st T F) (kf : ¬ y ≤ x → z_w p l e R s m args below meth c D cA N0 nL cells slots Q (pc + 3) lo st T F) : z_w p l e R s m args below meth c D cA N0 nL cells slots Q pc lo (.int y :: .int x :: st) T F :=
  fun H locs ls hP hS hL => lv_icmp_ge C.1 C.2.1 hdg ht (fun h => kt h H locs ls hP hS hL) (fun h => kf h H locs ls hP hS hL)
theorem zr_if_gt (C : z_C p l s m args meth c own cc nL ret D cA N0 zE) {x : Int32} {off : Int} (tgt : Nat) (hdg : decode cc pc = .ok (.ifCond .gt off, 3)) (ht : (pc : Int) + off = (tgt : Int)) (kt : 0 < x → z_w p l e R s m args below meth c D cA N0 nL cells slots Q tgt lo st T F) (kf : ¬ 0 < x → z_w p l e R s m args below meth c D cA N0 nL cells slots Q (pc + 3) lo st T F) : z_w p l e R s m args below meth c D cA N0 nL cells slots Q pc lo (.int x :: st) T F :=
  fun H locs ls hP hS hL => lv_if_gt C.1 C.2.1 hdg ht (fun h => kt h H locs ls hP hS hL) (fun h => kf h H locs ls hP hS hL)
theorem zr_icmp_gt (C : z_C p l s m args meth c own cc nL ret D cA N0 zE) {x y : Int32} {off : Int} (tgt : Nat) (hdg : decode cc pc = .ok (.if_icmp .gt off, 3)) (ht : (pc : Int) + off = (tgt : Int)) (kt : y < x → z_w p l e R s m args below meth c D cA N0 nL cells slots Q tgt lo st T F) (kf : ¬ y < x → z_w p l e R s m args below meth c D cA N0 nL cells slots Q (pc + 3) lo st T F) : z_w p l e R s m args below meth c D cA N0 nL cells slots Q pc lo (.int y :: .int x :: st) T F :=
  fun H locs ls hP hS hL => lv_icmp_gt C.1 C.2.1 hdg ht (fun h => kt h H locs ls hP hS hL) (fun h => kf h H locs ls hP hS hL)
theorem zr_if_le (C : z_C p l s m args meth c own cc nL ret D cA N0 zE) {x : Int32} {off : Int} (tgt : Nat) (hdg : decode cc pc = .ok (.ifCond .le off, 3)) (ht : (pc : Int) + off = (tgt : Int)) (kt : x ≤ 0 → z_w p l e R s m args below meth c D cA N0 nL cells slots Q tgt lo st T F) (kf : ¬ x ≤ 0 → z_w p l e R s m args below meth c D cA N0 nL cells slots Q (pc + 3) lo st T F) : z_w p l e R s m args below meth c D cA N0 nL cells slots Q pc lo (.int x :: st) T F :=
  fun H locs ls hP hS hL => lv_if_le C.1 C.2.1 hdg ht (fun h => kt h H locs ls hP hS hL) (fun h => kf h H locs ls hP hS hL)
theorem zr_icmp_le (C : z_C p l s m args meth c own cc nL ret D cA N0 zE) {x y : Int32} {off : Int} (tgt : Nat) (hdg : decode cc pc = .ok (.if_icmp .le off, 3)) (ht : (pc : Int) + off = (tgt : Int)) (kt : x ≤ y → z_w p l e R s m args below meth c D cA N0 nL cells slots Q tgt lo st T F) (kf : ¬ x ≤ y → z_w p l e R s m args below meth c D cA N0 nL cells slots Q (pc + 3) lo st T F) : z_w p l e R s m args below meth c D cA N0 nL cells slots Q pc lo (.int y :: .int x :: st) T F :=
  fun H locs ls hP hS hL => lv_icmp_le C.1 C.2.1 hdg ht (fun h => kt h H locs ls hP hS hL) (fun h => kf h H locs ls hP hS hL)
theorem zr_acmp_eq (C : z_C p l s m args meth c own cc nL ret D cA N0 zE) {rx ry : Option Nat} {off : Int} (tgt : Nat) (hdg : decode cc pc = .ok (.if_acmp .eq off, 3)) (ht : (pc : Int) + off = (tgt : Int)) (kt : rx = ry → z_w p l e R s m args below meth c D cA N0 nL cells slots Q tgt lo st T F) (kf : ¬ rx = ry → z_w p l e R s m args below meth c D cA N0 nL cells slots Q (pc + 3) lo st T F) : z_w p l e R s m args below meth c D cA N0 nL cells slots Q pc lo (va_rf ry :: va_rf rx :: st) T F :=
  fun H locs ls hP hS hL => lv_acmp_eq C.1 C.2.1 hdg ht (fun h => kt h H locs ls hP hS hL) (fun h => kf h H locs ls hP hS hL)
theorem zr_acmp_ne (C : z_C p l s m args meth c own cc nL ret D cA N0 zE) {rx ry : Option Nat} {off : Int} (tgt : Nat) (hdg : decode cc pc = .ok (.if_acmp .ne off, 3)) (ht : (pc : Int) + off = (tgt : Int)) (kt : ¬ rx = ry → z_w p l e R s m args below meth c D cA N0 nL cells slots Q tgt lo st T F) (kf : rx = ry → z_w p l e R s m args below meth c D cA N0 nL cells slots Q (pc + 3) lo st T F) : z_w p l e R s m args below meth c D cA N0 nL cells slots Q pc lo (va_rf ry :: va_rf rx :: st) T F :=
  fun H locs ls hP hS hL => lv_acmp_ne C.1 C.2.1 hdg ht (fun h => kt h H locs ls hP hS hL) (fun h => kf h H locs ls hP hS hL)
theorem zr_goto (C : z_C p l s m args meth c own cc nL ret D cA N0 zE) {off : Int} (tgt : Nat) (hdg : decode cc pc = .ok (.goto off, 3)) (ht : (pc : Int) + off = (tgt : Int)) (k : z_w p l e R s m args below meth c D cA N0 nL cells slots Q tgt lo st T F) : z_w p l e R s m args below meth c D cA N0 nL cells slots Q pc lo st T F :=
  fun H locs ls hP hS hL => lv_goto C.1 C.2.1 hdg ht (k H locs ls hP hS hL)
theorem zr_ifnull (C : z_C p l s m args meth c own cc nL ret D cA N0 zE) {x : Nat} {off : Int} (hdg : decode cc pc = .ok (.ifnull off, 3)) (k : z_w p l e R s m args below meth c D cA N0 nL cells slots Q (pc + 3) lo st T F) : z_w p l e R s m args below meth c D cA N0 nL cells slots Q pc lo (.ref x :: st) T F :=
  fun H locs ls hP hS hL => lv_ifnull C.1 C.2.1 hdg (k H locs ls hP hS hL)
theorem zr_ifnullN (C : z_C p l s m args meth c own cc nL ret D cA N0 zE) {off : Int} (tgt : Nat) (hdg : decode cc pc = .ok (.ifnull off, 3)) (ht : (pc : Int) + off = (tgt : Int)) (k : z_w p l e R s m args below meth c D cA N0 nL cells slots Q tgt lo st T F) : z_w p l e R s m args below meth c D cA N0 nL cells slots Q pc lo (.null :: st) T F :=
  fun H locs ls hP hS hL => lv_ifnullN C.1 C.2.1 hdg ht (k H locs ls hP hS hL)
theorem zr_ifnonnull (C : z_C p l s m args meth c own cc nL ret D cA N0 zE) {x : Nat} {off : Int} (tgt : Nat) (hdg : decode cc pc = .ok (.ifnonnull off, 3)) (ht : (pc : Int) + off = (tgt : Int)) (k : z_w p l e R s m args below meth c D cA N0 nL cells slots Q tgt lo st T F) : z_w p l e R s m args below meth c D cA N0 nL cells slots Q pc lo (.ref x :: st) T F :=
  fun H locs ls hP hS hL => lv_ifnonnull C.1 C.2.1 hdg ht (k H locs ls hP hS hL)
theorem zr_ifnonnullN (C : z_C p l s m args meth c own cc nL ret D cA N0 zE) {off : Int} (hdg : decode cc pc = .ok (.ifnonnull off, 3)) (k : z_w p l e R s m args below meth c D cA N0 nL cells slots Q (pc + 3) lo st T F) : z_w p l e R s m args below meth c D cA N0 nL cells slots Q pc lo (.null :: st) T F :=
  fun H locs ls hP hS hL => lv_ifnonnullN C.1 C.2.1 hdg (k H locs ls hP hS hL)
theorem zr_astore_nN (C : z_C p l s m args meth c own cc nL ret D cA N0 zE) (lo' : List (Nat × Value)) {n : Fin 4} {i : Nat} (hdg : decode cc pc = .ok (.astore_n n, 1)) (hi : (n : Nat) = i) (hn : i < nL) (hl : (i, Value.null) :: lo.filter (fun q => !(q.1 == i) && !(q.1 + 1 == i && q.2.category == 2)) = lo') (k : z_w p l e R s m args below meth c D cA N0 nL cells slots Q (pc + 1) lo' st T F) : z_w p l e R s m args below meth c D cA N0 nL cells slots Q pc lo (.null :: st) T F :=
  fun H locs ls hP hS hL => lv_astore_nN C.1 C.2.1 hdg hi hL hn hl (fun ls hl => k H locs ls hP hS hl)
theorem zr_astoreN (C : z_C p l s m args meth c own cc nL ret D cA N0 zE) (lo' : List (Nat × Value)) {i : Nat} (hdg : decode cc pc = .ok (.astore i, 2)) (hn : i < nL) (hl : (i, Value.null) :: lo.filter (fun q => !(q.1 == i) && !(q.1 + 1 == i && q.2.category == 2)) = lo') (k : z_w p l e R s m args below meth c D cA N0 nL cells slots Q (pc + 2) lo' st T F) : z_w p l e R s m args below meth c D cA N0 nL cells slots Q pc lo (.null :: st) T F :=
  fun H locs ls hP hS hL => lv_astoreN C.1 C.2.1 hdg hL hn hl (fun ls hl => k H locs ls hP hS hl)
theorem zr_tableOut (C : z_C p l s m args meth c own cc nL ret D cA N0 zE) {dflt lw hi : Int} {offs : Array Int} {len : Nat} {x : Int32} (tgt : Nat) (hdg : decode cc pc = .ok (.tableswitch dflt lw hi offs, len)) (h : x.toInt < lw ∨ hi < x.toInt) (ht : (pc : Int) + dflt = (tgt : Int)) (k : z_w p l e R s m args below meth c D cA N0 nL cells slots Q tgt lo st T F) : z_w p l e R s m args below meth c D cA N0 nL cells slots Q pc lo (.int x :: st) T F :=
  fun H locs ls hP hS hL => lv_tableOut C.1 C.2.1 hdg h ht (k H locs ls hP hS hL)
theorem zr_tableIn (C : z_C p l s m args meth c own cc nL ret D cA N0 zE) {dflt lw hi : Int} {offs : Array Int} {len : Nat} {x : Int32} {off : Int} (tgt : Nat) (hdg : decode cc pc = .ok (.tableswitch dflt lw hi offs, len)) (h1 : ¬ x.toInt < lw) (h2 : ¬ hi < x.toInt) (ho : offs[(x.toInt - lw).toNat]? = some off) (ht : (pc : Int) + off = (tgt : Int)) (k : z_w p l e R s m args below meth c D cA N0 nL cells slots Q tgt lo st T F) : z_w p l e R s m args below meth c D cA N0 nL cells slots Q pc lo (.int x :: st) T F :=
  fun H locs ls hP hS hL => lv_tableIn C.1 C.2.1 hdg h1 h2 ho ht (k H locs ls hP hS hL)
theorem zr_widen {cells2 slots2 : Nat} (h1 : cells ≤ cells2) (h2 : slots ≤ slots2) (k : z_w p l e R s m args below meth c D cA N0 nL cells2 slots2 Q pc lo st T F) : z_w p l e R s m args below meth c D cA N0 nL cells slots Q pc lo st T F :=
  fun H locs ls hP hS hL => W.widen h1 h2 (k H locs ls hP hS hL)
theorem zr_sub (is : List Nat) (hl : lv_pick lo is = lo') (k : z_w p l e R s m args below meth c D cA N0 nL cells slots Q pc lo' st T F) : z_w p l e R s m args below meth c D cA N0 nL cells slots Q pc lo st T F :=
  fun H locs ls hP hS hL => k H locs ls hP hS (lv_sub hL is hl)
theorem zr_topi {x : Int32} (k : ∀ y : Int32, y = x → z_w p l e R s m args below meth c D cA N0 nL cells slots Q pc lo (.int y :: st) T F) : z_w p l e R s m args below meth c D cA N0 nL cells slots Q pc lo (.int x :: st) T F := k x rfl
/-! fields -/
/-- what the tables say of a field's entry in a class's pool: own's entry 'index' is the k-th field of the class ci of vwCl -/
def z_fld (own : String) (index ci k N : Nat) (ty : FieldType) (fin : Bool) : Prop := ci < 100 ∧ k < N ∧ ∃ (Cn : String) (Tb : u_T) (ref : String), vwCl[ci]? = some (Cn, Tb, N) ∧ (∀ w ∈ u_ws Cn Tb N, w ∈ zG) ∧ ((Tb k).1 = ref ∨ Cond.sameField ref (Tb k).1 (Tb k).2.1 (Tb k).2.2.1 ∈ zG) ∧
  (Cond.fieldLink own index ref (Tb k).2.1 (Tb k).2.2.1 ∈ zG ∨ ∃ host, Cond.fieldLinkNest own index ref (Tb k).2.1 (Tb k).2.2.1 host ∈ zG) ∧ parseFieldDescriptor (Tb k).2.2.1 = some ty ∧ (Tb k).2.2.2 = fin ∧ (∃ ty0 : Nat → FieldType, ∀ j, j < N → parseFieldDescriptor (Tb j).2.2.1 = some (ty0 j)) ∧ (∀ a, a < N → ∀ b, b < N → a ≠ b → (Tb a).2.1 ≠ (Tb b).2.1)
/-- the k-th field of the class ci is declared by own -/
def z_fin (own : String) (ci k : Nat) : Prop := ∃ (Cn : String) (Tb : u_T) (N : Nat), vwCl[ci]? = some (Cn, Tb, N) ∧ (Tb k).1 = own
theorem zr_get (C : z_C p l s m args meth c own cc nL ret D cA N0 zE) {index ci k N a : Nat} {ty : FieldType} {fin : Bool} {v : Value} (f : z_fld own index ci k N ty fin) (hT : T a = some (ci, N)) (hv : F a k = v) (hdg : decode cc pc = .ok (.getfield index, 3))
    (kk : z_w p l e R s m args below meth c D cA N0 nL cells slots Q (pc + 3) lo (v :: st) T F) : z_w p l e R s m args below meth c D cA N0 nL cells slots Q pc lo (.ref a :: st) T F := by
  intro H locs ls hP hS hL
  obtain ⟨hx, hb, -, hown, hts, hK, -⟩ := id C
  obtain ⟨hci, hk, Cn, Tb, ref, hc, hin, hsm, hlk, -⟩ := f
  have h0 := (hP a _ hT).2
  unfold z_at at h0
  rw [if_pos hci] at h0
  obtain ⟨r, h1, -, cell, q1, q2, q3, q4⟩ := h0
  cases Option.some.inj (h1.symm.trans hc)
  obtain ⟨hSl, hfc, kC, hkC, hkind⟩ := hK.2.2.1.1 ci _ hc
  obtain ⟨cf, kf, fi, fd, hi, hsl⟩ := hSl k hk
  have hi2 : s.fieldFound? ref (Tb k).2.1 (Tb k).2.2.1 = some (cf, kf, fi, fd) := by
    rcases hsm with rfl | h
    · exact hi
    · exact u_same (hts _ h) _ hi
  have hst := (u_facts hfc hkC (u_lays hts hin hk) hi).1
  have hsv : cell.slots[fd.slot]? = some v := by rw [hsl, q4 k hk, hv]
  rcases hlk with hlk | ⟨host, hlk⟩
  · exact W.getf hx hb hown (hts _ hlk) hi2 hst q1 (by rw [q3]; exact fun h => by cases h) (v := v) hsv rfl rfl hdg (kk H locs ls hP hS hL)
  · exact va_Wgetf hx hb hown (hts _ hlk) hi2 hst q1 (by rw [q3]; exact fun h => by cases h) (v := v) hsv rfl rfl hdg (kk H locs ls hP hS hL)
theorem zr_put (C : z_C p l s m args meth c own cc nL ret D cA N0 zE) {index ci k N a : Nat} {ty : FieldType} {v : Value} (f : z_fld own index ci k N ty false) (hT : T a = some (ci, N)) (hn : narrow ty v = v) (hfit : fits ty v = true) (hdg : decode cc pc = .ok (.putfield index, 3))
    (kk : z_w p l e R s m args below meth c D cA N0 nL cells slots Q (pc + 3) lo st T (zu F a k v)) : z_w p l e R s m args below meth c D cA N0 nL cells slots Q pc lo (v :: .ref a :: st) T F := by
  intro H locs ls hP hS hL
  obtain ⟨hx, hb, -, hown, hts, hK, -⟩ := id C
  obtain ⟨hci, hk, Cn, Tb, ref, hc, hin, hsm, hlk, hd, hfin, ⟨ty0, hty⟩, hnm⟩ := f
  obtain ⟨hNa, h0⟩ := hP a _ hT
  have hNa : N0 ≤ a := by
    rcases hNa with h | ⟨-, h⟩ | h
    · exact h
    · exact absurd hci (Nat.not_lt.mpr h)
    · exact absurd hci (by have h : ci = 104 := h; omega)
  unfold z_at at h0
  rw [if_pos hci] at h0
  obtain ⟨r, h1, -, cell, q1, q2, q3, q4⟩ := h0
  cases Option.some.inj (h1.symm.trans hc)
  have hap := va_apart (own := own) hts hin ty0 hty hnm hK.2.2.1 hc
  obtain ⟨hSl, hfc, kC, hkC, hkind⟩ := hK.2.2.1.1 ci _ hc
  obtain ⟨cf, kf, fi, fd, hi, hsl⟩ := hSl k hk
  have hi2 : s.fieldFound? ref (Tb k).2.1 (Tb k).2.2.1 = some (cf, kf, fi, fd) := by
    rcases hsm with rfl | h
    · exact hi
    · exact u_same (hts _ h) _ hi
  have hst := (u_facts hfc hkC (u_lays hts hin hk) hi).1
  have hlay := hts _ (hin _ (u_in_lay hk))
  unfold u_lay at hlay
  rw [if_neg (by rw [hfin]; decide)] at hlay
  have h6 := u_store hfc hkC hkind hlay hi hd hn hfit
  have fin : ∀ H' : Heap, H'[a]? = some (cell.setSlot fd.slot v) → H'.size = H.size → (∀ q, q ≠ a → H'[q]? = H[q]?) → W p l e R s m args below meth c H' (locs ++ [⟨a, fd.slot⟩]) cells slots Q (F0 m (pc + 3) ls st) := by
    intro H' e1 e2 e3
    refine kk H' _ ls (hP.set hT ?_ e3) (hS.put e2 e3 hNa) hL
    unfold z_at
    rw [if_pos hci]
    refine ⟨_, hc, rfl, ?_⟩
    rw [hsl] at e1
    exact t_OB.to (V := updV (F a) k v) ⟨_, e1, q2, q3, t_set q4 hap hk v⟩ (fun j _ => rfl)
  rcases hlk with hlk | ⟨host, hlk⟩
  · exact W.putK hx hb (f := fd) ⟨hown, hts _ hlk, ⟨_, _, _, hi2⟩, hst⟩ (by rw [q2]; exact h6) q1 q3 (by rw [hsl]; exact k2_hasslot (q4 k hk)) rfl rfl hdg fin
  · exact va_WputK hx hb hown (hts _ hlk) hi2 hst (by rw [q2]; exact h6) q1 q3 (by rw [hsl]; exact k2_hasslot (q4 k hk)) rfl rfl hdg fin
theorem zr_putF (C : z_C p l s m args meth c own cc nL ret D cA N0 zE) {index ci k N a : Nat} {ty : FieldType} {v : Value} (f : z_fld own index ci k N ty true) (g : z_fin own ci k) (hT : T a = some (ci, N)) (hn : narrow ty v = v) (hfit : fits ty v = true) (hin2 : meth.name = "<init>") (hdg : decode cc pc = .ok (.putfield index, 3))
    (kk : z_w p l e R s m args below meth c D cA N0 nL cells slots Q (pc + 3) lo st T (zu F a k v)) : z_w p l e R s m args below meth c D cA N0 nL cells slots Q pc lo (v :: .ref a :: st) T F := by
  intro H locs ls hP hS hL
  obtain ⟨hx, hb, -, hown, hts, hK, -⟩ := id C
  obtain ⟨hci, hk, Cn, Tb, ref, hc, hin, hsm, hlk, hd, hfin, ⟨ty0, hty⟩, hnm⟩ := f
  obtain ⟨Cn8, Tb8, N8, hc8, hdecl⟩ := g
  cases Option.some.inj (hc8.symm.trans hc)
  obtain ⟨hNa, h0⟩ := hP a _ hT
  have hNa : N0 ≤ a := by
    rcases hNa with h | ⟨-, h⟩ | h
    · exact h
    · exact absurd hci (Nat.not_lt.mpr h)
    · exact absurd hci (by have h : ci = 104 := h; omega)
  unfold z_at at h0
  rw [if_pos hci] at h0
  obtain ⟨r, h1, -, cell, q1, q2, q3, q4⟩ := h0
  cases Option.some.inj (h1.symm.trans hc)
  have hap := va_apart (own := own) hts hin ty0 hty hnm hK.2.2.1 hc
  obtain ⟨hSl, hfc, kC, hkC, hkind⟩ := hK.2.2.1.1 ci _ hc
  obtain ⟨cf, kf, fi, fd, hi, hsl⟩ := hSl k hk
  have hi2 : s.fieldFound? ref (Tb k).2.1 (Tb k).2.2.1 = some (cf, kf, fi, fd) := by
    rcases hsm with rfl | h
    · exact hi
    · exact u_same (hts _ h) _ hi
  have hst := (u_facts hfc hkC (u_lays hts hin hk) hi).1
  have hlay := hts _ (hin _ (u_in_lay hk))
  unfold u_lay at hlay
  rw [if_pos hfin] at hlay
  have hcf : m.cls = cf := by
    obtain ⟨_, _, c', _, _, _, -, -, hf', -, -, -, hown2, -⟩ := Cond.laysFinal_spec hlay
    have e1 : c' = cf := by have := hi.symm.trans hf'; simp at this; exact this.1.symm
    rw [hdecl] at hown2
    rw [← e1]; exact Option.some.inj (hown.symm.trans hown2)
  have h6 := u_fits hfc hkC hkind (Or.inr hlay) hi hd hn hfit
  have fin : ∀ H' : Heap, H'[a]? = some (cell.setSlot fd.slot v) → H'.size = H.size → (∀ q, q ≠ a → H'[q]? = H[q]?) → W p l e R s m args below meth c H' (locs ++ [⟨a, fd.slot⟩]) cells slots Q (F0 m (pc + 3) ls st) := by
    intro H' e1 e2 e3
    refine kk H' _ ls (hP.set hT ?_ e3) (hS.put e2 e3 hNa) hL
    unfold z_at
    rw [if_pos hci]
    refine ⟨_, hc, rfl, ?_⟩
    rw [hsl] at e1
    exact t_OB.to (V := updV (F a) k v) ⟨_, e1, q2, q3, t_set q4 hap hk v⟩ (fun j _ => rfl)
  rcases hlk with hlk | ⟨host, hlk⟩
  · exact W.putFinK hx hb hown (hts _ hlk) hi2 hst hcf hin2 (by rw [q2]; exact h6) q1 q3 (by rw [hsl]; exact k2_hasslot (q4 k hk)) rfl rfl hdg fin
  · exact va_Wputf hx hb hown (hts _ hlk) hi2 hst (Or.inr ⟨hcf, hin2⟩) q1 (by rw [q3]; exact fun h => by cases h) (by rw [hsl]; exact k2_hasslot (q4 k hk)) h6.1 (by rw [q2, q3]; exact h6.2) rfl rfl hdg (fin _ (by have ha : a < H.size := (Array.getElem?_eq_some_iff.mp q1).1; simp [Array.getElem?_setIfInBounds, ha]) (by simp) (fun q hq => by simp [Array.getElem?_setIfInBounds, Ne.symm hq]))
/-! making -/
def z_nw (own : String) (index ci N : Nat) (ty : Nat → FieldType) : Prop := ci < 100 ∧ ∃ (Cn : String) (Tb : u_T), vwCl[ci]? = some (Cn, Tb, N) ∧ (∀ w ∈ u_ws Cn Tb N, w ∈ zG) ∧ (∀ k, k < N → parseFieldDescriptor (Tb k).2.2.1 = some (ty k)) ∧ Cond.classLink own index Cn ∈ zG ∧ Cond.instantiable Cn N ∈ zG ∧ Cond.initialized Cn ∈ zG
theorem zr_new (C : z_C p l s m args meth c own cc nL ret D cA N0 zE) {index ci N : Nat} {ty : Nat → FieldType} (f : z_nw own index ci N ty) (hc1 : cells + 1 ≤ R.cells) (hs1 : slots + N ≤ R.slots) (hdg : decode cc pc = .ok (.new index, 3))
    (kk : ∀ q : Nat, (∀ b, q ≤ b → T b = none) → z_w p l e R s m args below meth c D cA N0 nL (cells + 1) (slots + N) Q (pc + 3) lo (.ref q :: st) (zn T q (ci, N)) (zm F q (fun j => defaultValue (ty j)))) : z_w p l e R s m args below meth c D cA N0 nL cells slots Q pc lo st T F := by
  intro H locs ls hP hS hL
  obtain ⟨hx, hb, -, hown, hts, hK, -⟩ := id C
  obtain ⟨hci, Cn, Tb, hc, hin, hty, w1, w2, w3⟩ := f
  have hKn := hK.2.2.1.1 ci _ hc
  refine W.newcK hx hb hown (hts _ w1) (hts _ w2) (hts _ w3) rfl hdg hc1 hs1 hKn.2.1 rfl fun H1 kC hkC e1 z1 o1 => ?_
  have hN : N0 ≤ H.size := Nat.le_trans hK.2.1 hS.1
  have hb1 := u_born ty hts hin hKn hkC e1 hty
  refine kk H.size (fun b hb => ?_) H1 locs ls (hP.push hN ?_ o1).2 ⟨Nat.le_trans hS.1 (by omega), fun x h1 h2 => (o1 x (Nat.lt_of_lt_of_le h1 hS.1)).trans (hS.2.1 x h1 h2), hS.2.2⟩ hL
  · cases g : T b with
    | none => rfl
    | some t' => exact absurd (hP _ _ g).2.lt (Nat.not_lt.mpr hb)
  · unfold z_at
    rw [if_pos hci]
    exact ⟨_, hc, rfl, hb1⟩
theorem z_ra {U : State} {cA cB : ClassId} {ty : FieldType} (h1 : va_RA U cA ty) (h2 : U.vm.findClass ("[" ++ ty.toString) = some cB) : cA = cB := by
  cases ty with
  | object Cn => obtain ⟨_, _, _, _, _, h4⟩ := h1; exact Option.some.inj (h4.symm.trans h2)
  | _ => exact Option.some.inj (h1.symm.trans h2)
theorem zr_newarr (C : z_C p l s m args meth c own cc nL ret D cA N0 zE) {n : Int32} {atype : ArrayType} (j : Nat) (hj : z_tys[j]? = some (newarray.typeOf atype)) (hw : Cond.arrayClass (newarray.typeOf atype) ∈ zG) (hn : ¬ n < 0) (hby : n.toNatClampNeg * componentBytes (newarray.typeOf atype) ≤ 536870912) (hc1 : cells + 1 ≤ R.cells) (hs1 : slots + n.toNatClampNeg ≤ R.slots) (hdg : decode cc pc = .ok (.newarray atype, 2))
    (kk : ∀ q : Nat, (∀ b, q ≤ b → T b = none) → z_w p l e R s m args below meth c D cA N0 nL (cells + 1) (slots + n.toNatClampNeg) Q (pc + 2) lo (.ref q :: st) (zn T q (100 + j, n.toNatClampNeg)) (zm F q (fun _ => defaultValue (newarray.typeOf atype)))) : z_w p l e R s m args below meth c D cA N0 nL cells slots Q pc lo (.int n :: st) T F := by
  intro H locs ls hP hS hL
  obtain ⟨hx, hb, -, hown, hts, hK, -⟩ := id C
  refine W.newa hx hb (hts _ hw) rfl hdg rfl hn hby hc1 hs1 fun cB kA comp h1 h2 h3 => ?_
  have hcA : cA j = cB := z_ra (hK.2.2.2.1 j _ hj).2 h1
  subst hcA
  have hN : N0 ≤ H.size := Nat.le_trans hK.2.1 hS.1
  have o1 : ∀ q : Nat, q < H.size → (H.push { cls := cA j, slots := Array.replicate n.toNatClampNeg (defaultValue (newarray.typeOf atype)), vm := .none })[q]? = H[q]? := fun q hq => by rw [Array.getElem?_push, if_neg (Nat.ne_of_lt hq)]
  refine kk H.size (fun b hb => ?_) _ locs ls (hP.push hN ?_ o1).2 ⟨Nat.le_trans hS.1 (by simp), fun x h1 h2 => (o1 x (Nat.lt_of_lt_of_le h1 hS.1)).trans (hS.2.1 x h1 h2), hS.2.2⟩ hL
  · cases g : T b with
    | none => rfl
    | some t' => exact absurd (hP _ _ g).2.lt (Nat.not_lt.mpr hb)
  · unfold z_at
    rw [if_neg (by show ¬ 100 + j < 100; omega)]
    show _ = some (arrV (cA (100 + j - 100)) _ _)
    rw [Nat.add_sub_cancel_left, ← arrV_new]
    simp
theorem zr_anew (C : z_C p l s m args meth c own cc nL ret D cA N0 zE) {n : Int32} {index : Nat} {Cn : String} (j : Nat) (hj : z_tys[j]? = some (.object Cn)) (hw : Cond.classLink own index Cn ∈ zG) (hw2 : Cond.arrayOver (.object Cn) ∈ zG) (hn : ¬ n < 0) (hby : n.toNatClampNeg * 4 ≤ 536870912) (hc1 : cells + 1 ≤ R.cells) (hs1 : slots + n.toNatClampNeg ≤ R.slots) (hdg : decode cc pc = .ok (.anewarray index, 3))
    (kk : ∀ q : Nat, (∀ b, q ≤ b → T b = none) → z_w p l e R s m args below meth c D cA N0 nL (cells + 1) (slots + n.toNatClampNeg) Q (pc + 3) lo (.ref q :: st) (zn T q (100 + j, n.toNatClampNeg)) (zm F q (fun _ => .null))) : z_w p l e R s m args below meth c D cA N0 nL cells slots Q pc lo (.int n :: st) T F := by
  intro H locs ls hP hS hL
  obtain ⟨hx, hb, -, hown, hts, hK, -⟩ := id C
  refine W.anew hx hb hown (hts _ hw) (hts _ hw2) rfl hdg rfl hn hby hc1 hs1 fun cB kA comp h1 h2 h3 h4 => ?_
  have hcA : cA j = cB := z_ra (hK.2.2.2.1 j _ hj).2 h1
  subst hcA
  have hN : N0 ≤ H.size := Nat.le_trans hK.2.1 hS.1
  have o1 : ∀ q : Nat, q < H.size → (H.push { cls := cA j, slots := Array.replicate n.toNatClampNeg .null, vm := .none })[q]? = H[q]? := fun q hq => by rw [Array.getElem?_push, if_neg (Nat.ne_of_lt hq)]
  refine kk H.size (fun b hb => ?_) _ locs ls (hP.push hN ?_ o1).2 ⟨Nat.le_trans hS.1 (by simp), fun x h1 h2 => (o1 x (Nat.lt_of_lt_of_le h1 hS.1)).trans (hS.2.1 x h1 h2), hS.2.2⟩ hL
  · cases g : T b with
    | none => rfl
    | some t' => exact absurd (hP _ _ g).2.lt (Nat.not_lt.mpr hb)
  · unfold z_at
    rw [if_neg (by show ¬ 100 + j < 100; omega)]
    show _ = some (arrV (cA (100 + j - 100)) _ _)
    rw [Nat.add_sub_cancel_left, ← arrV_new]
    simp
/-! arrays -/
theorem z_arr {H : Heap} {a t n : Nat} (hP : z_P D cA N0 T F H) (hT : T a = some (t, n)) (ht : 100 ≤ t) : H[a]? = some (arrV (cA (t - 100)) n (F a)) := by
  have h0 := (hP a _ hT).2
  unfold z_at at h0
  rw [if_neg (Nat.not_lt.mpr ht)] at h0
  exact h0
theorem z_arrN {H : Heap} {a t n : Nat} (hP : z_P D cA N0 T F H) (hT : T a = some (t, n)) (hn : 0 < n) (ht : t ≠ 104 := by decide) : N0 ≤ a := by
  rcases (hP a _ hT).1 with h | ⟨h, -⟩ | h
  · exact h
  · exact absurd h (by show ¬ n = 0; omega)
  · exact absurd h ht
theorem zr_alen (C : z_C p l s m args meth c own cc nL ret D cA N0 zE) {a t n : Nat} {ty : FieldType} (hT : T a = some (t, n)) (ht : 100 ≤ t) (hj : z_tys[t - 100]? = some ty) (hdg : decode cc pc = .ok (.arraylength, 1))
    (kk : z_w p l e R s m args below meth c D cA N0 nL cells slots Q (pc + 1) lo (.int (nI n) :: st) T F) : z_w p l e R s m args below meth c D cA N0 nL cells slots Q pc lo (.ref a :: st) T F :=
  fun H locs ls hP hS hL => W.alen C.1 C.2.1 (z_arr hP hT ht) ((C.2.2.2.2.2.1.2.2.2.1 _ _ hj).1 n (F a)) (by rw [arrV_size]; rfl) rfl rfl hdg (kk H locs ls hP hS hL)
theorem zr_iald (C : z_C p l s m args meth c own cc nL ret D cA N0 zE) {a n : Nat} {i x : Int32} (hj : z_tys[0]? = some .int) (hT : T a = some (100, n)) (hin : vp_in i n) (hv : F a i.toNatClampNeg = .int x) (hdg : decode cc pc = .ok (.iaload, 1))
    (kk : z_w p l e R s m args below meth c D cA N0 nL cells slots Q (pc + 1) lo (.int x :: st) T F) : z_w p l e R s m args below meth c D cA N0 nL cells slots Q pc lo (.int i :: .ref a :: st) T F := by
  intro H locs ls hP hS hL
  have hlt : i.toNatClampNeg < n := Nat.not_le.mp fun q => hin (Or.inr q)
  exact W.iald C.1 C.2.1 (z_arr hP hT (Nat.le_refl _)) ((C.2.2.2.2.2.1.2.2.2.1 _ _ hj).1 n (F a)) (fun q => by cases q) (by rw [arrV_size]; exact hin) (by rw [arrV_read _ _ hlt, hv]) rfl rfl hdg (kk H locs ls hP hS hL)
theorem z_st {H H1 : Heap} {a t n i : Nat} {v : Value} (hP : z_P D cA N0 T F H) (hT : T a = some (t, n)) (ht : 100 ≤ t) (e : H1[a]? = some ((arrV (cA (t - 100)) n (F a)).setSlot i v)) (oq : ∀ q : Nat, q ≠ a → H1[q]? = H[q]?) : z_P D cA N0 T (zu F a i v) H1 := by
  refine hP.set hT ?_ oq
  unfold z_at
  rw [if_neg (Nat.not_lt.mpr ht), e, arrV_store]
  rfl
theorem zr_iast (C : z_C p l s m args meth c own cc nL ret D cA N0 zE) {a n : Nat} {i x : Int32} (hj : z_tys[0]? = some .int) (hT : T a = some (100, n)) (hin : vp_in i n) (hdg : decode cc pc = .ok (.iastore, 1))
    (kk : z_w p l e R s m args below meth c D cA N0 nL cells slots Q (pc + 1) lo st T (zu F a i.toNatClampNeg (.int x))) : z_w p l e R s m args below meth c D cA N0 nL cells slots Q pc lo (.int x :: .int i :: .ref a :: st) T F := by
  intro H locs ls hP hS hL
  have hlt : i.toNatClampNeg < n := Nat.not_le.mp fun q => hin (Or.inr q)
  refine W.iast C.1 C.2.1 (z_arr hP hT (Nat.le_refl _)) ((C.2.2.2.2.2.1.2.2.2.1 _ _ hj).1 n (F a)) (fun q => by cases q) (by rw [arrV_size]; exact hin) rfl rfl hdg fun H1 e1 z1 oq => ?_
  exact kk H1 _ ls (z_st hP hT (Nat.le_refl _) e1 oq) (hS.put z1 oq (z_arrN hP hT (by omega))) hL
theorem zr_aald (C : z_C p l s m args meth c own cc nL ret D cA N0 zE) {a t n : Nat} {ty : FieldType} {i : Int32} {v : Value} (hT : T a = some (t, n)) (ht : 100 ≤ t) (hj : z_tys[t - 100]? = some ty) (hr : ty.isReference = true) (hin : vp_in i n) (hv : F a i.toNatClampNeg = v) (hdg : decode cc pc = .ok (.aaload, 1))
    (kk : z_w p l e R s m args below meth c D cA N0 nL cells slots Q (pc + 1) lo (v :: st) T F) : z_w p l e R s m args below meth c D cA N0 nL cells slots Q pc lo (.int i :: .ref a :: st) T F := by
  intro H locs ls hP hS hL
  have hlt : i.toNatClampNeg < n := Nat.not_le.mp fun q => hin (Or.inr q)
  exact W.aald C.1 C.2.1 (z_arr hP hT ht) ((C.2.2.2.2.2.1.2.2.2.1 _ _ hj).1 n (F a)) hr (fun q => by cases q) (by rw [arrV_size]; exact hin) (by rw [arrV_read _ _ hlt, hv]) rfl rfl hdg (kk H locs ls hP hS hL)
theorem z_obj {H : Heap} {a ci N : Nat} {r : vw_C} (hP : z_P D cA N0 T F H) (hK : z_K l D cA N0 zE s) (hT : T a = some (ci, N)) (hci : ci < 100) (hc : vwCl[ci]? = some r) : ∃ cell : Cell, H[a]? = some cell ∧ cell.vm.isStatics = false ∧ s.vm.findClass r.1 = some cell.cls := by
  have h0 := (hP a _ hT).2
  unfold z_at at h0
  rw [if_pos hci] at h0
  obtain ⟨r', h1, -, cell, q1, q2, q3, q4⟩ := h0
  cases Option.some.inj (h1.symm.trans hc)
  exact ⟨cell, q1, by rw [q3]; rfl, by rw [q2]; exact (hK.2.2.1.1 ci _ hc).2.1⟩
theorem zr_aastO (C : z_C p l s m args meth c own cc nL ret D cA N0 zE) {a n v ci N : Nat} {i : Int32} {r : vw_C} (hj : z_tys[1]? = some (.object "java/lang/Object")) (hT : T a = some (101, n)) (hin : vp_in i n) (hTv : T v = some (ci, N)) (hci : ci < 100) (hc : vwCl[ci]? = some r) (hw : Cond.castable r.1 "java/lang/Object" ∈ zG) (hdg : decode cc pc = .ok (.aastore, 1))
    (kk : z_w p l e R s m args below meth c D cA N0 nL cells slots Q (pc + 1) lo st T (zu F a i.toNatClampNeg (.ref v))) : z_w p l e R s m args below meth c D cA N0 nL cells slots Q pc lo (.ref v :: .int i :: .ref a :: st) T F := by
  intro H locs ls hP hS hL
  have hlt : i.toNatClampNeg < n := Nat.not_le.mp fun q => hin (Or.inr q)
  have h0 : ¬ i < 0 := fun q => hin (Or.inl q)
  obtain ⟨cellV, g1, g2, g3⟩ := z_obj hP C.2.2.2.2.2.1 hTv hci hc
  obtain ⟨kC, hkC, -⟩ := Vm.findClass_spec g3
  obtain ⟨kA, comp, k1, k2, k3, -⟩ := (C.2.2.2.2.2.1.2.2.2.1 _ _ hj).2
  obtain ⟨kE, hkE, -⟩ := Vm.findClass_spec k3
  obtain ⟨c0, t1, f1, f2, f3⟩ := Cond.castable_spec (C.2.2.2.2.1 _ hw)
  cases Option.some.inj (f1.symm.trans g3)
  cases Option.some.inj (f2.symm.trans k3)
  refine W.aast C.1 C.2.1 (z_arr hP hT (by decide)) (fun q h => by cases h) (fun h => by cases h) k1 k2 rfl hkE ⟨h0, by rw [arrV_size]; exact hlt⟩ g1 (fun q h => by rw [h] at g2; cases g2) hkC f3 rfl rfl hdg fun H1 e1 z1 oq => ?_
  exact kk H1 _ ls (z_st hP hT (by decide) e1 oq) (hS.put z1 oq (z_arrN hP hT (by omega))) hL
theorem zr_castS (C : z_C p l s m args meth c own cc nL ret D cA N0 zE) {a ci N index : Nat} {r : vw_C} (hT : T a = some (ci, N)) (hci : ci < 100) (hc : vwCl[ci]? = some r) (hw : Cond.classLink own index r.1 ∈ zG) (hdg : decode cc pc = .ok (.checkcast index, 3))
    (kk : z_w p l e R s m args below meth c D cA N0 nL cells slots Q (pc + 3) lo (.ref a :: st) T F) : z_w p l e R s m args below meth c D cA N0 nL cells slots Q pc lo (.ref a :: st) T F :=
  fun H locs ls hP hS hL => va_castS C.1 C.2.1 C.2.2.2.1 (C.2.2.2.2.1 _ hw) (C.2.2.2.2.2.1.2.2.1.1 ci _ hc).2 (z_obj hP C.2.2.2.2.2.1 hT hci hc) hdg (kk H locs ls hP hS hL)
theorem zr_objInit (C : z_C p l s m args meth c own cc nL ret D cA N0 zE) {a index : Nat} (h1 : Cond.methodLink own index Lib.objectInit ∈ zG) (h2 : Cond.instanceMethod Lib.objectInit ∈ zG) (h3 : Cond.code Lib.objectInit ⟨#[0xb1]⟩ 1 none ∈ zG) (hf : 1 ≤ R.frames) (hlo : (st.map fun v => v.category).sum + 12 ≤ R.locals) (hdg : decode cc pc = .ok (.invokespecial index, 3))
    (kk : z_w p l e R s m args below meth c D cA N0 nL cells slots Q (pc + 3) lo st T F) : z_w p l e R s m args below meth c D cA N0 nL cells slots Q pc lo (.ref a :: st) T F :=
  fun H locs ls hP hS hL => W.objInit C.1 C.2.1 C.2.2.2.1 (C.2.2.2.2.1 _ h1) (C.2.2.2.2.1 _ h2) (C.2.2.2.2.1 _ h3) rfl (by rw [C.2.2.1]; exact hL.1) rfl hdg hf (by show 2 * 0 + _ + 12 ≤ _; omega) (kk H locs ls hP hS hL)
theorem zr_getsE (C : z_C p l s m args meth c own cc nL ret D cA N0 zE) {index : Nat} (hw : Cond.fieldLink own index "java/util/ArrayList" "DEFAULTCAPACITY_EMPTY_ELEMENTDATA" "[Ljava/lang/Object;" ∈ zG) (hdg : decode cc pc = .ok (.getstatic index, 3))
    (kk : z_w p l e R s m args below meth c D cA N0 nL cells slots Q (pc + 3) lo (.ref zE :: st) T F) : z_w p l e R s m args below meth c D cA N0 nL cells slots Q pc lo st T F :=
  fun H locs ls hP hS hL => va_gets C.1 C.2.1 C.2.2.2.2.2.1.2.2.2.2.1 hS C.2.2.2.1 (C.2.2.2.2.1 _ hw) (fun _ h => h) hdg (kk H locs ls hP hS hL)
theorem zr_max (C : z_C p l s m args meth c own cc nL ret D cA N0 zE) {index : Nat} {x y : Int32} (h1 : Cond.methodLink own index Lib.Math.max.name ∈ zG) (h2 : Cond.static Lib.Math.max.name ∈ zG) (h3 : Cond.initialized "java/lang/Math" ∈ zG) (h4 : Cond.code Lib.Math.max.name Lib.Math.max.code 2 (some .int) ∈ zG) (hf : 1 ≤ R.frames) (hlo : (st.map fun v => v.category).sum + 13 ≤ R.locals) (hc1 : cells ≤ R.cells) (hs1 : slots ≤ R.slots) (hdg : decode cc pc = .ok (.invokestatic index, 3))
    (kk : z_w p l e R s m args below meth c D cA N0 nL cells slots Q (pc + 3) lo (.int (if x < y then y else x) :: st) T F) : z_w p l e R s m args below meth c D cA N0 nL cells slots Q pc lo (.int y :: .int x :: st) T F :=
  fun H locs ls hP hS hL => va_mmax C.1 C.2.1 (by rw [C.2.2.1]; exact hL.1.symm) C.2.2.2.1 (C.2.2.2.2.1 _ h1) (C.2.2.2.2.1 _ h2) (C.2.2.2.2.1 _ h3) (C.2.2.2.2.1 _ h4) hf hlo hc1 hs1 hdg (kk H locs ls hP hS hL)
theorem zr_min (C : z_C p l s m args meth c own cc nL ret D cA N0 zE) {index : Nat} {x y : Int32} (h1 : Cond.methodLink own index Lib.Math.min.name ∈ zG) (h2 : Cond.static Lib.Math.min.name ∈ zG) (h3 : Cond.initialized "java/lang/Math" ∈ zG) (h4 : Cond.code Lib.Math.min.name Lib.Math.min.code 2 (some .int) ∈ zG) (hf : 1 ≤ R.frames) (hlo : (st.map fun v => v.category).sum + 13 ≤ R.locals) (hc1 : cells ≤ R.cells) (hs1 : slots ≤ R.slots) (hdg : decode cc pc = .ok (.invokestatic index, 3))
    (kk : z_w p l e R s m args below meth c D cA N0 nL cells slots Q (pc + 3) lo (.int (if y < x then y else x) :: st) T F) : z_w p l e R s m args below meth c D cA N0 nL cells slots Q pc lo (.int y :: .int x :: st) T F :=
  fun H locs ls hP hS hL => va_mmin C.1 C.2.1 (by rw [C.2.2.1]; exact hL.1.symm) C.2.2.2.1 (C.2.2.2.2.1 _ h1) (C.2.2.2.2.1 _ h2) (C.2.2.2.2.1 _ h3) (C.2.2.2.2.1 _ h4) hf hlo hc1 hs1 hdg (kk H locs ls hP hS hL)
/-! calls -/
def z_ok (own : String) (index : Nat) (y : MethodName) (bytes : ByteArray) (maxL : Nat) (ret : Option FieldType) (n : Nat) : Prop := Cond.code y bytes maxL ret ∈ zG ∧ Cond.methodLink own index y ∈ zG ∧ Cond.initialized y.cls ∈ zG ∧ (y.cls ≠ "java/lang/invoke/MethodHandle" ∧ y.cls ≠ "java/lang/invoke/VarHandle") ∧ (parseMethodDescriptor y.desc).map (fun d => d.parameters.length) = some n
def z_okN (own : String) (index : Nat) (host : String) (y : MethodName) (bytes : ByteArray) (maxL : Nat) (ret : Option FieldType) (n : Nat) : Prop := Cond.code y bytes maxL ret ∈ zG ∧ Cond.methodLinkNest own index y host ∈ zG ∧ Cond.initialized y.cls ∈ zG ∧ (y.cls ≠ "java/lang/invoke/MethodHandle" ∧ y.cls ≠ "java/lang/invoke/VarHandle") ∧ (parseMethodDescriptor y.desc).map (fun d => d.parameters.length) = some n
theorem z_len {y : MethodName} {n : Nat} (h : (parseMethodDescriptor y.desc).map (fun d => d.parameters.length) = some n) : ∀ sig, parseMethodDescriptor y.desc = some sig → n = sig.parameters.length := fun sig h1 => by
  rw [h1] at h
  exact (Option.some.inj h).symm
theorem z_ws (hts : ∀ w ∈ zG, w.before args s = true) {y : MethodName} {bytes : ByteArray} {maxL : Nat} {ret : Option FieldType} (h : Cond.code y bytes maxL ret ∈ zG) : ∀ w ∈ Cond.code y bytes maxL ret :: zG, ∀ (a' : Array Value) (U : State), s.WarmedH U.vm → w.before a' U = true := fun w hw a' U hW => by
  have hw : w ∈ zG := (List.mem_cons.mp hw).elim (fun e => e ▸ h) id
  exact zw_move (List.mem_filter.mp hw).2 hW (hts w hw)
theorem z_blind {as : List Value} : FrameBlind (z_Pc l D cA N0 zE as T F) := fun a U g mk h => ⟨h.1, h.2.1, z_K.move h.2.2 (State.WarmedH.refl U) (Nat.le_refl _) (fun _ _ _ => rfl)⟩
theorem z_pre {H : Heap} {locs : List Loc} {as : List Value} (hP : z_P D cA N0 T F H) (hS : va_S (fun q => N0 ≤ q) s.heap H locs) (hK : z_K l D cA N0 zE s) (U : State) (hU : U.heap = H) (hW : s.WarmedH U.vm) : z_Pc l D cA N0 zE as T F as.toArray U := ⟨rfl, by rw [hU]; exact hP, z_K.move hK hW (by rw [hU]; exact hS.1) (fun a h1 h2 => by rw [hU]; exact hS.2.1 a h1 h2)⟩
theorem z_back {H : Heap} {locs L : List Loc} {st₀ t T' : State} (h0 : st₀.heap = H) (e1 : T'.heap = t.heap) (hS : va_S (fun q => N0 ≤ q) s.heap H locs) (hL : ∀ q ∈ L, N0 ≤ q.base) (hF : va_F (fun q => N0 ≤ q) st₀ t) : va_S (fun q => N0 ≤ q) s.heap T'.heap (locs ++ L) := by
  obtain ⟨hz, hk⟩ := hF
  rw [h0] at hz hk
  refine ⟨Nat.le_trans hS.1 (by rw [e1]; exact hz), fun q h1 h2 => ?_, fun q hq => ?_⟩
  · rw [e1, hk q (Nat.lt_of_lt_of_le h1 hS.1) h2]
    exact hS.2.1 q h1 h2
  · rcases List.mem_append.mp hq with h | h
    · exact hS.2.2 q h
    · exact hL q h
def z_Mt (l : Launch) (D : va_G) (cA : Nat → ClassId) (N0 zE : Nat) (y : MethodName) (cc : ByteArray) (maxL : Nat) (ret : Option FieldType) (rm : Room) (as : List Value) (T : zT) (F : zF) (Post : Option Value → zT → zF → Prop) : Prop :=
  Met l y (Cond.code y cc maxL ret :: zG) rm (z_Pc l D cA N0 zE as T F) (z_Qc D cA N0 Post) rm.cells rm.slots (fun q => N0 ≤ q)
theorem z_bodyT {l : Launch} {D : va_G} {cA : Nat → ClassId} {N0 zE : Nat} {y : MethodName} {cc : ByteArray} {maxL : Nat} {ret : Option FieldType} {rm : Room} {as : List Value} {T : zT} {F : zF} {Post : Option Value → zT → zF → Prop} (hy : plainName y.cls = true) (hn : (lg_sl as).length ≤ maxL)
    (body : ∀ (p : Program) (e : Env) (s : State) (m : MethodId) (args : Array Value) (below : List Frame) (meth : Method) (c : Code), z_C p l s m args meth c y.cls cc maxL ret D cA N0 zE → meth.name = y.name →
      z_w p l e rm s m args below meth c D cA N0 maxL 0 0 (MQ below (z_Qc D cA N0 Post) args s rm.cells rm.slots (fun q => N0 ≤ q)) 0 (lv_args 0 as) [] T F) : z_Mt l D cA N0 zE y cc maxL ret rm as T F Post := by
  refine Met.ofW (cc := cc) (maxL := maxL) (ret := ret) hy rfl ?_
  intro p e s m args below meth c s₁ B hml hv
  obtain ⟨rfl, hP, hK⟩ := hv
  have hts := atoms_spec (ws := Cond.code y cc maxL ret :: zG) B.pre
  have hC : z_C p l s m as.toArray meth c y.cls cc maxL ret D cA N0 zE := ⟨B.exec, B.bytes, hml, findClass_of_methodNamed B.named, fun w hw => hts w (List.mem_cons_of_mem _ hw), hK, B.notSynchronized, B.returns⟩
  have hl := lv_entry as (n := maxL) hn
  rw [lg_entry_eq]
  exact body p e s m as.toArray below meth c hC (name_of_methodNamed B.named B.method).1 s.heap [] _ hP va_S.rf hl
theorem zr_callV (C : z_C p l s m args meth c own cc nL ret D cA N0 zE) {index n ci N b maxL : Nat} {y : MethodName} {bytes : ByteArray} {ret' : Option FieldType} {rm : Room} {As : List Value} {r : vw_C} {Post : Option Value → zT → zF → Prop} (hM : z_Mt l D cA N0 zE y bytes maxL ret' rm (.ref b :: As) T F Post) (f : z_ok own index y bytes maxL ret' n) (hi : Cond.instanceMethod y ∈ zG) (hse : Cond.selects r.1 y y ∈ zG)
    (hT : T b = some (ci, N)) (hci : ci < 100) (hc : vwCl[ci]? = some r) (hn : As.length = n) (hR : rm.frames + 1 ≤ R.frames ∧ 8 + (maxL + 11) + rm.locals ≤ R.locals) (hf : cells + rm.cells ≤ R.cells ∧ slots + rm.slots ≤ R.slots) (hW : (st.map fun v => v.category).sum ≤ 8) (hdg : decode cc pc = .ok (.invokevirtual index, 3))
    (kk : ∀ (v : Option Value) (T' : zT) (F' : zF), Post v T' F' → z_w p l e R s m args below meth c D cA N0 nL (cells + rm.cells) (slots + rm.slots) Q (pc + 3) lo (v.toList ++ st) T' F') : z_w p l e R s m args below meth c D cA N0 nL cells slots Q pc lo (As.reverse ++ .ref b :: st) T F := by
  intro H locs ls hP hS hL T0 hT0 X
  obtain ⟨hx, hb, hml, hown, hts, hK, -⟩ := id C
  obtain ⟨f1, f2, f3, f4, f5⟩ := f
  obtain ⟨v, st₀, t, T', L, h0, X', hL', e1, e2, ⟨w, T1, F1, hv, hp, hP1, hF⟩, stp⟩ := va_runV (Ts := zG) (C := r.1) ⟨hx, hb, hml, hown, hts⟩ hM ⟨⟨rfl, rfl, hR.1, hR.2, z_ws hts f1, List.mem_cons_self, hts _ f1, hts _ f3, f4, z_len f5, hts _ f2⟩, hts _ hi, hts _ hse⟩ ⟨z_blind, z_obj hP hK hT hci hc, fun U hU hW => z_pre hP hS hK U hU hW⟩ rfl hn hL.1 rfl (lv_room hW) hdg hf T0 hT0 X
  cases hv
  obtain ⟨t2, a1, b1⟩ := kk v T1 F1 hp T'.heap (locs ++ L) ls (by rw [e1]; exact hP1) (z_back h0 e1 hS hL' hF) hL T' rfl X'
  exact ⟨t2, stp t2 a1, b1⟩
theorem zr_callVN (C : z_C p l s m args meth c own cc nL ret D cA N0 zE) {index n ci N b maxL : Nat} {host : String} {y : MethodName} {bytes : ByteArray} {ret' : Option FieldType} {rm : Room} {As : List Value} {r : vw_C} {Post : Option Value → zT → zF → Prop} (hM : z_Mt l D cA N0 zE y bytes maxL ret' rm (.ref b :: As) T F Post) (f : z_okN own index host y bytes maxL ret' n) (hi : Cond.instanceMethod y ∈ zG) (hse : Cond.selects r.1 y y ∈ zG)
    (hT : T b = some (ci, N)) (hci : ci < 100) (hc : vwCl[ci]? = some r) (hn : As.length = n) (hR : rm.frames + 1 ≤ R.frames ∧ 8 + (maxL + 11) + rm.locals ≤ R.locals) (hf : cells + rm.cells ≤ R.cells ∧ slots + rm.slots ≤ R.slots) (hW : (st.map fun v => v.category).sum ≤ 8) (hdg : decode cc pc = .ok (.invokevirtual index, 3))
    (kk : ∀ (v : Option Value) (T' : zT) (F' : zF), Post v T' F' → z_w p l e R s m args below meth c D cA N0 nL (cells + rm.cells) (slots + rm.slots) Q (pc + 3) lo (v.toList ++ st) T' F') : z_w p l e R s m args below meth c D cA N0 nL cells slots Q pc lo (As.reverse ++ .ref b :: st) T F := by
  intro H locs ls hP hS hL T0 hT0 X
  obtain ⟨hx, hb, hml, hown, hts, hK, -⟩ := id C
  obtain ⟨f1, f2, f3, f4, f5⟩ := f
  obtain ⟨v, st₀, t, T', L, h0, X', hL', e1, e2, ⟨w, T1, F1, hv, hp, hP1, hF⟩, stp⟩ := va_runVN (Ts := zG) (C := r.1) (host := host) ⟨hx, hb, hml, hown, hts⟩ hM ⟨⟨⟨rfl, rfl, hR.1, hR.2, z_ws hts f1, List.mem_cons_self⟩, hts _ f1, hts _ f3, f4, z_len f5, hts _ f2⟩, hts _ hi, hts _ hse⟩ ⟨z_blind, z_obj hP hK hT hci hc, fun U hU hW => z_pre hP hS hK U hU hW⟩ rfl hn hL.1 rfl (lv_room hW) hdg hf T0 hT0 X
  cases hv
  obtain ⟨t2, a1, b1⟩ := kk v T1 F1 hp T'.heap (locs ++ L) ls (by rw [e1]; exact hP1) (z_back h0 e1 hS hL' hF) hL T' rfl X'
  exact ⟨t2, stp t2 a1, b1⟩
theorem zr_callS (C : z_C p l s m args meth c own cc nL ret D cA N0 zE) {index n maxL : Nat} {y : MethodName} {bytes : ByteArray} {ret' : Option FieldType} {rm : Room} {As : List Value} {Post : Option Value → zT → zF → Prop} (hM : z_Mt l D cA N0 zE y bytes maxL ret' rm As T F Post) (f : z_ok own index y bytes maxL ret' n) (hi : Cond.static y ∈ zG)
    (hn : As.length = n) (hR : rm.frames + 1 ≤ R.frames ∧ 8 + (maxL + 11) + rm.locals ≤ R.locals) (hf : cells + rm.cells ≤ R.cells ∧ slots + rm.slots ≤ R.slots) (hW : (st.map fun v => v.category).sum ≤ 8) (hdg : decode cc pc = .ok (.invokestatic index, 3))
    (kk : ∀ (v : Option Value) (T' : zT) (F' : zF), Post v T' F' → z_w p l e R s m args below meth c D cA N0 nL (cells + rm.cells) (slots + rm.slots) Q (pc + 3) lo (v.toList ++ st) T' F') : z_w p l e R s m args below meth c D cA N0 nL cells slots Q pc lo (As.reverse ++ st) T F := by
  intro H locs ls hP hS hL T0 hT0 X
  obtain ⟨hx, hb, hml, hown, hts, hK, -⟩ := id C
  obtain ⟨f1, f2, f3, f4, f5⟩ := f
  obtain ⟨v, st₀, t, T', L, h0, X', hL', e1, e2, ⟨w, T1, F1, hv, hp, hP1, hF⟩, stp⟩ := va_runS (Ts := zG) ⟨hx, hb, hml, hown, hts⟩ hM ⟨⟨rfl, rfl, hR.1, hR.2, z_ws hts f1, List.mem_cons_self, hts _ f1, hts _ f3, f4, z_len f5, hts _ f2⟩, hts _ hi⟩ ⟨z_blind, fun U hU hW => z_pre hP hS hK U hU hW⟩ rfl hn hL.1 rfl (lv_room hW) hdg hf T0 hT0 X
  cases hv
  obtain ⟨t2, a1, b1⟩ := kk v T1 F1 hp T'.heap (locs ++ L) ls (by rw [e1]; exact hP1) (z_back h0 e1 hS hL' hF) hL T' rfl X'
  exact ⟨t2, stp t2 a1, b1⟩
theorem zr_callI (C : z_C p l s m args meth c own cc nL ret D cA N0 zE) {index n b maxL : Nat} {y : MethodName} {bytes : ByteArray} {rm : Room} {As : List Value} {Post : Option Value → zT → zF → Prop} (hM : z_Mt l D cA N0 zE y bytes maxL none rm (.ref b :: As) T F Post) (f : z_ok own index y bytes maxL none n) (hi : Cond.instanceMethod y ∈ zG) (hnm : y.name = "<init>")
    (hn : As.length = n) (hR : rm.frames + 1 ≤ R.frames ∧ 8 + (maxL + 11) + rm.locals ≤ R.locals) (hf : cells + rm.cells ≤ R.cells ∧ slots + rm.slots ≤ R.slots) (hW : (st.map fun v => v.category).sum ≤ 8) (hdg : decode cc pc = .ok (.invokespecial index, 3))
    (kk : ∀ (v : Option Value) (T' : zT) (F' : zF), Post v T' F' → z_w p l e R s m args below meth c D cA N0 nL (cells + rm.cells) (slots + rm.slots) Q (pc + 3) lo (v.toList ++ st) T' F') : z_w p l e R s m args below meth c D cA N0 nL cells slots Q pc lo (As.reverse ++ .ref b :: st) T F := by
  intro H locs ls hP hS hL T0 hT0 X
  obtain ⟨hx, hb, hml, hown, hts, hK, -⟩ := id C
  obtain ⟨f1, f2, f3, f4, f5⟩ := f
  obtain ⟨v, st₀, t, T', L, h0, X', hL', e1, e2, ⟨w, T1, F1, hv, hp, hP1, hF⟩, stp⟩ := va_runI (Ts := zG) ⟨hx, hb, hml, hown, hts⟩ hM ⟨⟨rfl, rfl, hR.1, hR.2, z_ws hts f1, List.mem_cons_self, hts _ f1, hts _ f3, f4, z_len f5, hts _ f2⟩, hnm, hts _ hi⟩ ⟨z_blind, fun U hU hW => z_pre hP hS hK U hU hW⟩ rfl hn hL.1 rfl (lv_room hW) hdg hf T0 hT0 X
  cases hv
  obtain ⟨t2, a1, b1⟩ := kk v T1 F1 hp T'.heap (locs ++ L) ls (by rw [e1]; exact hP1) (z_back h0 e1 hS hL' hF) hL T' rfl X'
  exact ⟨t2, stp t2 a1, b1⟩
theorem zr_callIN (C : z_C p l s m args meth c own cc nL ret D cA N0 zE) {index n b maxL : Nat} {host : String} {y : MethodName} {bytes : ByteArray} {rm : Room} {As : List Value} {Post : Option Value → zT → zF → Prop} (hM : z_Mt l D cA N0 zE y bytes maxL none rm (.ref b :: As) T F Post) (f : z_okN own index host y bytes maxL none n) (hi : Cond.instanceMethod y ∈ zG) (hnm : y.name = "<init>")
    (hn : As.length = n) (hR : rm.frames + 1 ≤ R.frames ∧ 8 + (maxL + 11) + rm.locals ≤ R.locals) (hf : cells + rm.cells ≤ R.cells ∧ slots + rm.slots ≤ R.slots) (hW : (st.map fun v => v.category).sum ≤ 8) (hdg : decode cc pc = .ok (.invokespecial index, 3))
    (kk : ∀ (v : Option Value) (T' : zT) (F' : zF), Post v T' F' → z_w p l e R s m args below meth c D cA N0 nL (cells + rm.cells) (slots + rm.slots) Q (pc + 3) lo (v.toList ++ st) T' F') : z_w p l e R s m args below meth c D cA N0 nL cells slots Q pc lo (As.reverse ++ .ref b :: st) T F := by
  intro H locs ls hP hS hL T0 hT0 X
  obtain ⟨hx, hb, hml, hown, hts, hK, -⟩ := id C
  obtain ⟨f1, f2, f3, f4, f5⟩ := f
  obtain ⟨v, st₀, t, T', L, h0, X', hL', e1, e2, ⟨w, T1, F1, hv, hp, hP1, hF⟩, stp⟩ := va_runIN (Ts := zG) (host := host) ⟨hx, hb, hml, hown, hts⟩ hM ⟨⟨⟨rfl, rfl, hR.1, hR.2, z_ws hts f1, List.mem_cons_self⟩, hts _ f1, hts _ f3, f4, z_len f5, hts _ f2⟩, hnm, hts _ hi⟩ ⟨z_blind, fun U hU hW => z_pre hP hS hK U hU hW⟩ rfl hn hL.1 rfl (lv_room hW) hdg hf T0 hT0 X
  cases hv
  obtain ⟨t2, a1, b1⟩ := kk v T1 F1 hp T'.heap (locs ++ L) ls (by rw [e1]; exact hP1) (z_back h0 e1 hS hL' hF) hL T' rfl X'
  exact ⟨t2, stp t2 a1, b1⟩
theorem zr_callVX (C : z_C p l s m args meth c own cc nL ret D cA N0 zE) {index n ci N b maxL : Nat} {y : MethodName} {bytes : ByteArray} {ret' : Option FieldType} {rm : Room} {As : List Value} {r : vw_C} {Post : Option Value → zT → zF → Prop} {PX : String → zT → zF → Prop} (hM : z_Met l D cA N0 zE y bytes maxL ret' rm (.ref b :: As) T F Post PX) (f : z_ok own index y bytes maxL ret' n) (hi : Cond.instanceMethod y ∈ zG) (hse : Cond.selects r.1 y y ∈ zG)
    (hT : T b = some (ci, N)) (hci : ci < 100) (hc : vwCl[ci]? = some r) (hn : As.length = n) (hR : rm.frames + 1 ≤ R.frames ∧ 8 + (maxL + 11) + rm.locals ≤ R.locals) (hf : cells + rm.cells ≤ R.cells ∧ slots + rm.slots ≤ R.slots) (hW : (st.map fun v => v.category).sum ≤ 8) (hdg : decode cc pc = .ok (.invokevirtual index, 3))
    (kx : ∀ (E : String) (T' : zT) (F' : zF), PX E T' F' → z_x p l e R s m args below meth c D cA N0 nL (cells + rm.cells) (slots + rm.slots) Q pc lo st E T' F')
    (kk : ∀ (v : Option Value) (T' : zT) (F' : zF), Post v T' F' → z_w p l e R s m args below meth c D cA N0 nL (cells + rm.cells) (slots + rm.slots) Q (pc + 3) lo (v.toList ++ st) T' F') : z_w p l e R s m args below meth c D cA N0 nL cells slots Q pc lo (As.reverse ++ .ref b :: st) T F := by
  intro H locs ls hP hS hL T0 hT0 X
  obtain ⟨hx, hb, hml, hown, hts, hK, -⟩ := id C
  obtain ⟨f1, f2, f3, f4, f5⟩ := f
  rcases vx_runV (Ts := zG) (C := r.1) ⟨hx, hb, hml, hown, hts⟩ hM ⟨⟨rfl, rfl, hR.1, hR.2, z_ws hts f1, List.mem_cons_self, hts _ f1, hts _ f3, f4, z_len f5, hts _ f2⟩, hts _ hi, hts _ hse⟩ ⟨z_blind, z_obj hP hK hT hci hc, fun U hU hW => z_pre hP hS hK U hU hW⟩ rfl hn hL.1 rfl (lv_room hW) hdg hf T0 hT0 X with ⟨v, st₀, t, T', L, h0, X', hL', e1, e2, ⟨w, T1, F1, hv, hp, hP1, hF⟩, stp⟩ | ⟨q, st₀, t, T', L, E, ce, h0, X', hL', e1, e2, ⟨T1, F1, hp, hP1, hF⟩, hce, hcv, hcl, stp⟩
  · cases hv
    obtain ⟨t2, a1, b1⟩ := kk v T1 F1 hp T'.heap (locs ++ L) ls (by rw [e1]; exact hP1) (z_back h0 e1 hS hL' hF) hL T' rfl X'
    exact ⟨t2, stp t2 a1, b1⟩
  · obtain ⟨t2, a1, b1⟩ := kx E T1 F1 hp T'.heap (locs ++ L) ls ce q (by rw [e1]; exact hP1) (z_back h0 e1 hS hL' hF) hL (by rw [e1]; exact hce) hcv hcl T' rfl X'
    exact ⟨t2, stp.trans a1, b1⟩
theorem zr_callSX (C : z_C p l s m args meth c own cc nL ret D cA N0 zE) {index n maxL : Nat} {y : MethodName} {bytes : ByteArray} {ret' : Option FieldType} {rm : Room} {As : List Value} {Post : Option Value → zT → zF → Prop} {PX : String → zT → zF → Prop} (hM : z_Met l D cA N0 zE y bytes maxL ret' rm As T F Post PX) (f : z_ok own index y bytes maxL ret' n) (hi : Cond.static y ∈ zG)
    (hn : As.length = n) (hR : rm.frames + 1 ≤ R.frames ∧ 8 + (maxL + 11) + rm.locals ≤ R.locals) (hf : cells + rm.cells ≤ R.cells ∧ slots + rm.slots ≤ R.slots) (hW : (st.map fun v => v.category).sum ≤ 8) (hdg : decode cc pc = .ok (.invokestatic index, 3))
    (kx : ∀ (E : String) (T' : zT) (F' : zF), PX E T' F' → z_x p l e R s m args below meth c D cA N0 nL (cells + rm.cells) (slots + rm.slots) Q pc lo st E T' F')
    (kk : ∀ (v : Option Value) (T' : zT) (F' : zF), Post v T' F' → z_w p l e R s m args below meth c D cA N0 nL (cells + rm.cells) (slots + rm.slots) Q (pc + 3) lo (v.toList ++ st) T' F') : z_w p l e R s m args below meth c D cA N0 nL cells slots Q pc lo (As.reverse ++ st) T F := by
  intro H locs ls hP hS hL T0 hT0 X
  obtain ⟨hx, hb, hml, hown, hts, hK, -⟩ := id C
  obtain ⟨f1, f2, f3, f4, f5⟩ := f
  rcases vx_runS (Ts := zG) ⟨hx, hb, hml, hown, hts⟩ hM ⟨⟨rfl, rfl, hR.1, hR.2, z_ws hts f1, List.mem_cons_self, hts _ f1, hts _ f3, f4, z_len f5, hts _ f2⟩, hts _ hi⟩ ⟨z_blind, fun U hU hW => z_pre hP hS hK U hU hW⟩ rfl hn hL.1 rfl (lv_room hW) hdg hf T0 hT0 X with ⟨v, st₀, t, T', L, h0, X', hL', e1, e2, ⟨w, T1, F1, hv, hp, hP1, hF⟩, stp⟩ | ⟨q, st₀, t, T', L, E, ce, h0, X', hL', e1, e2, ⟨T1, F1, hp, hP1, hF⟩, hce, hcv, hcl, stp⟩
  · cases hv
    obtain ⟨t2, a1, b1⟩ := kk v T1 F1 hp T'.heap (locs ++ L) ls (by rw [e1]; exact hP1) (z_back h0 e1 hS hL' hF) hL T' rfl X'
    exact ⟨t2, stp t2 a1, b1⟩
  · obtain ⟨t2, a1, b1⟩ := kx E T1 F1 hp T'.heap (locs ++ L) ls ce q (by rw [e1]; exact hP1) (z_back h0 e1 hS hL' hF) hL (by rw [e1]; exact hce) hcv hcl T' rfl X'
    exact ⟨t2, stp.trans a1, b1⟩
/-! ends -/
theorem zr_iret (C : z_C p l s m args meth c own cc nL ret D cA N0 zE) {v : Int32} {mc ms : Nat} {Post : Option Value → zT → zF → Prop} (hr : ret = some .int) (hp : Post (some (.int v)) T F) (hc1 : cells ≤ mc) (hs1 : slots ≤ ms) (hdg : decode cc pc = .ok (.ireturn, 1)) : z_w p l e R s m args below meth c D cA N0 nL cells slots (MQ below (z_Qc D cA N0 Post) args s mc ms (fun q => N0 ≤ q)) pc lo [.int v] T F :=
  fun H locs ls hP hS hL => W.widen hc1 hs1 (W.iret C.1 C.2.1 (by rw [C.2.2.2.2.2.2.2, hr]) (fun t ht hW => ⟨_, T, F, rfl, hp, by rw [ht]; exact hP, hS.F ht⟩) hS.2.2 hdg C.2.2.2.2.2.2.1)
theorem zr_zret (C : z_C p l s m args meth c own cc nL ret D cA N0 zE) {v : Int32} {mc ms : Nat} {Post : Option Value → zT → zF → Prop} (hr : ret = some .boolean) (hv : v = 0 ∨ v = 1) (hp : Post (some (.int v)) T F) (hc1 : cells ≤ mc) (hs1 : slots ≤ ms) (hdg : decode cc pc = .ok (.ireturn, 1)) : z_w p l e R s m args below meth c D cA N0 nL cells slots (MQ below (z_Qc D cA N0 Post) args s mc ms (fun q => N0 ≤ q)) pc lo [.int v] T F :=
  fun H locs ls hP hS hL => W.widen hc1 hs1 (W.zret C.1 C.2.1 (by rw [C.2.2.2.2.2.2.2, hr]) (by rcases hv with rfl | rfl <;> rfl) (fun t ht hW => ⟨_, T, F, rfl, hp, by rw [ht]; exact hP, hS.F ht⟩) hS.2.2 hdg C.2.2.2.2.2.2.1)
theorem zr_lret (C : z_C p l s m args meth c own cc nL ret D cA N0 zE) {v : Int64} {mc ms : Nat} {Post : Option Value → zT → zF → Prop} (hr : ret = some .long) (hp : Post (some (.long v)) T F) (hc1 : cells ≤ mc) (hs1 : slots ≤ ms) (hdg : decode cc pc = .ok (.lreturn, 1)) : z_w p l e R s m args below meth c D cA N0 nL cells slots (MQ below (z_Qc D cA N0 Post) args s mc ms (fun q => N0 ≤ q)) pc lo [.long v] T F :=
  fun H locs ls hP hS hL => W.widen hc1 hs1 (W.lret C.1 C.2.1 (by rw [C.2.2.2.2.2.2.2, hr]) (fun t ht hW => ⟨_, T, F, rfl, hp, by rw [ht]; exact hP, hS.F ht⟩) hS.2.2 hdg C.2.2.2.2.2.2.1)
theorem zr_vret (C : z_C p l s m args meth c own cc nL ret D cA N0 zE) {mc ms : Nat} {Post : Option Value → zT → zF → Prop} (hr : ret = none) (hp : Post none T F) (hc1 : cells ≤ mc) (hs1 : slots ≤ ms) (hdg : decode cc pc = .ok (.return_, 1)) : z_w p l e R s m args below meth c D cA N0 nL cells slots (MQ below (z_Qc D cA N0 Post) args s mc ms (fun q => N0 ≤ q)) pc lo [] T F :=
  fun H locs ls hP hS hL => W.widen hc1 hs1 (W.vret C.1 C.2.1 (by rw [C.2.2.2.2.2.2.2, hr]) (fun t ht hW => ⟨_, T, F, rfl, hp, by rw [ht]; exact hP, hS.F ht⟩) hS.2.2 hdg C.2.2.2.2.2.2.1)
theorem zr_aret (C : z_C p l s m args meth c own cc nL ret D cA N0 zE) {v : Value} {rt : FieldType} {mc ms : Nat} {Post : Option Value → zT → zF → Prop} (hr : ret = some rt) (hrt : (∃ n, rt = .object n) ∨ ∃ t, rt = .array t) (hv : v = .null ∨ ∃ a, v = .ref a) (hp : Post (some v) T F) (hc1 : cells ≤ mc) (hs1 : slots ≤ ms) (hdg : decode cc pc = .ok (.areturn, 1)) : z_w p l e R s m args below meth c D cA N0 nL cells slots (MQ below (z_Qc D cA N0 Post) args s mc ms (fun q => N0 ≤ q)) pc lo [v] T F :=
  fun H locs ls hP hS hL => W.widen hc1 hs1 (W.aret C.1 C.2.1 (by rw [C.2.2.2.2.2.2.2, hr]) hrt hv (fun t ht hW => ⟨_, T, F, rfl, hp, by rw [ht]; exact hP, hS.F ht⟩) hS.2.2 hdg C.2.2.2.2.2.2.1)
/-- a body that may throw ends by returning -/
theorem zr_X {XC : String → State → State → Prop} {Qc : Array Value → State → Outcome → State → Prop} {mc ms : Nat} {free : Addr → Prop} (k : z_w p l e R s m args below meth c D cA N0 nL cells slots (MQ below Qc args s mc ms free) pc lo st T F) : z_w p l e R s m args below meth c D cA N0 nL cells slots (vx_MQ below Qc XC args s mc ms free) pc lo st T F :=
  fun H locs ls hP hS hL => vx_ret (k H locs ls hP hS hL)
theorem zr_out (C : z_C p l s m args meth c own cc nL ret D cA N0 zE) {E : String} {mc ms : Nat} {Qc : Array Value → State → Outcome → State → Prop} {PX : String → zT → zF → Prop} (hxt : ∀ x ∈ c.exceptionTable.toList, covers x pc = false) (hp : PX E T F) (hc1 : cells ≤ mc) (hs1 : slots ≤ ms) : z_x p l e R s m args below meth c D cA N0 nL cells slots (vx_MQ below Qc (z_XC D cA N0 PX) args s mc ms (fun q => N0 ≤ q)) pc lo st E T F :=
  fun H locs ls ce q hP hS hL h1 h2 h3 => vx_out hxt C.2.2.2.2.2.2.1 h1 h2 h3 (fun t ht _ => ⟨T, F, hp, by rw [ht]; exact hP, hS.F ht⟩) hS.2.2 hc1 hs1
def z_thr (own : String) (ik ic is : Nat) (cls text : String) (names : List String) : Prop := Bundle.fit cls = true ∧ (∀ n ∈ names, Bundle.fit n = true) ∧ Cond.classLink own ik cls ∈ zG ∧ Cond.initialized cls ∈ zG ∧ (own, is, text) ∈ z_strs ∧ (∀ w ∈ vx_atS own ic cls names, w ∈ zG) ∧ (∀ w ∈ Cond.classLink own ik cls :: Cond.initialized cls :: vx_atS own ic cls names, vx_ot w = true)
theorem zr_throw (C : z_C p l s m args meth c own cc nL ret D cA N0 zE) {cls text : String} {names : List String} {ik ic is mc ms : Nat} {Qc : Array Value → State → Outcome → State → Prop} {PX : String → zT → zF → Prop} (f : z_thr own ik ic is cls text names) (hxt : ∀ x ∈ c.exceptionTable.toList, covers x (pc + 9) = false) (hp : PX cls T F)
    (d0 : decode cc pc = .ok (.new ik, 3)) (d3 : decode cc (pc + 3) = .ok (.dup, 1)) (d4 : decode cc (pc + 4) = .ok (.ldc is, 2)) (d6 : decode cc (pc + 6) = .ok (.invokespecial ic, 3)) (d9 : decode cc (pc + 9) = .ok (.athrow, 1))
    (hRf : names.length + 3 < R.frames) (hRl : (st.map fun v => v.category).sum + (13 * (names.length + 1) + 43) ≤ R.locals) (hRc : cells + 1 ≤ R.cells ∧ slots + 6 ≤ R.slots) (hm : cells + 1 ≤ mc ∧ slots + 6 ≤ ms) : z_w p l e R s m args below meth c D cA N0 nL cells slots (vx_MQ below Qc (z_XC D cA N0 PX) args s mc ms (fun q => N0 ≤ q)) pc lo st T F := by
  intro H locs ls hP hS hL
  obtain ⟨hx, hb, hml, hown, hts, hK, hlk, -⟩ := id C
  obtain ⟨f1, f2, f3, f4, f5, f6, f7⟩ := f
  obtain ⟨sa, hsa⟩ := hK.2.2.2.2.2.2.2.1 _ f5
  exact vx_throwS hx hb hK.1 hown f1 f2 (hts _ f3) (hts _ f4) hsa (fun w hw => hts w (f6 w hw)) f7 hK.2.2.2.2.2.1 hK.2.2.2.2.2.2.1 hS (by rw [hml]; exact hL.1) d0 d3 d4 d6 d9 hxt hRf hRl hRc.1 hRc.2 hlk (fun t _ h1 h2 => ⟨T, F, hp, hP.kept (fun q hq => h2 q hq), ⟨Nat.le_trans hS.1 h1, fun q h3 h4 => (h2 q (Nat.lt_of_lt_of_le h3 hS.1)).trans (hS.2.1 q h3 h4)⟩⟩) hS.2.2 hm.1 hm.2
theorem zr_throwW (C : z_C p l s m args meth c own cc nL ret D cA N0 zE) {cls text : String} {names : List String} {ik ic is mc ms : Nat} {Qc : Array Value → State → Outcome → State → Prop} {PX : String → zT → zF → Prop} (f : z_thr own ik ic is cls text names) (hxt : ∀ x ∈ c.exceptionTable.toList, covers x (pc + 10) = false) (hp : PX cls T F)
    (d0 : decode cc pc = .ok (.new ik, 3)) (d3 : decode cc (pc + 3) = .ok (.dup, 1)) (d4 : decode cc (pc + 4) = .ok (.ldc_w is, 3)) (d7 : decode cc (pc + 7) = .ok (.invokespecial ic, 3)) (d10 : decode cc (pc + 10) = .ok (.athrow, 1))
    (hRf : names.length + 3 < R.frames) (hRl : (st.map fun v => v.category).sum + (13 * (names.length + 1) + 43) ≤ R.locals) (hRc : cells + 1 ≤ R.cells ∧ slots + 6 ≤ R.slots) (hm : cells + 1 ≤ mc ∧ slots + 6 ≤ ms) : z_w p l e R s m args below meth c D cA N0 nL cells slots (vx_MQ below Qc (z_XC D cA N0 PX) args s mc ms (fun q => N0 ≤ q)) pc lo st T F := by
  intro H locs ls hP hS hL
  obtain ⟨hx, hb, hml, hown, hts, hK, hlk, -⟩ := id C
  obtain ⟨f1, f2, f3, f4, f5, f6, f7⟩ := f
  obtain ⟨sa, hsa⟩ := hK.2.2.2.2.2.2.2.1 _ f5
  exact vx_throwSW hx hb hK.1 hown f1 f2 (hts _ f3) (hts _ f4) hsa (fun w hw => hts w (f6 w hw)) f7 hK.2.2.2.2.2.1 hK.2.2.2.2.2.2.1 hS (by rw [hml]; exact hL.1) d0 d3 d4 d7 d10 hxt hRf hRl hRc.1 hRc.2 hlk (fun t _ h1 h2 => ⟨T, F, hp, hP.kept (fun q hq => h2 q hq), ⟨Nat.le_trans hS.1 h1, fun q h3 h4 => (h2 q (Nat.lt_of_lt_of_le h3 hS.1)).trans (hS.2.1 q h3 h4)⟩⟩) hS.2.2 hm.1 hm.2
end ZR
section ZR5
variable {p : Program} {l : Launch} {e : Env} {R : Room} {s : State} {m : MethodId} {args : Array Value} {below : List Frame} {meth : Method} {c : Code} {Q : State → Prop}
variable {D : va_G} {cA : Nat → ClassId} {N0 zE nL cells slots pc : Nat} {own : String} {cc : ByteArray} {ret : Option FieldType} {T : zT} {F : zF} {lo lo' : List (Nat × Value)} {st : List Value}
theorem zr_eqi {x y : Int32} (h : x = y) (k : z_w p l e R s m args below meth c D cA N0 nL cells slots Q pc lo (.int y :: st) T F) : z_w p l e R s m args below meth c D cA N0 nL cells slots Q pc lo (.int x :: st) T F := h ▸ k
theorem zr_lald (C : z_C p l s m args meth c own cc nL ret D cA N0 zE) {a n : Nat} {i : Int32} {x : Int64} (hj : z_tys[3]? = some .long) (hT : T a = some (103, n)) (hin : vp_in i n) (hv : F a i.toNatClampNeg = .long x) (hdg : decode cc pc = .ok (.laload, 1))
    (kk : z_w p l e R s m args below meth c D cA N0 nL cells slots Q (pc + 1) lo (.long x :: st) T F) : z_w p l e R s m args below meth c D cA N0 nL cells slots Q pc lo (.int i :: .ref a :: st) T F := by
  intro H locs ls hP hS hL
  have hlt : i.toNatClampNeg < n := Nat.not_le.mp fun q => hin (Or.inr q)
  exact W.lald C.1 C.2.1 (z_arr hP hT (by decide)) ((C.2.2.2.2.2.1.2.2.2.1 _ _ hj).1 n (F a)) (fun q => by cases q) (by rw [arrV_size]; exact hin) (by rw [arrV_read _ _ hlt, hv]) rfl rfl hdg (kk H locs ls hP hS hL)
theorem zr_last (C : z_C p l s m args meth c own cc nL ret D cA N0 zE) {a n : Nat} {i : Int32} {x : Int64} (hj : z_tys[3]? = some .long) (hT : T a = some (103, n)) (hin : vp_in i n) (hdg : decode cc pc = .ok (.lastore, 1))
    (kk : z_w p l e R s m args below meth c D cA N0 nL cells slots Q (pc + 1) lo st T (zu F a i.toNatClampNeg (.long x))) : z_w p l e R s m args below meth c D cA N0 nL cells slots Q pc lo (.long x :: .int i :: .ref a :: st) T F := by
  intro H locs ls hP hS hL
  have hlt : i.toNatClampNeg < n := Nat.not_le.mp fun q => hin (Or.inr q)
  refine W.last C.1 C.2.1 (z_arr hP hT (by decide)) ((C.2.2.2.2.2.1.2.2.2.1 _ _ hj).1 n (F a)) (fun q => by cases q) (by rw [arrV_size]; exact hin) rfl rfl hdg fun H1 e1 z1 oq => ?_
  exact kk H1 _ ls (z_st hP hT (by decide) e1 oq) (hS.put z1 oq (z_arrN hP hT (by omega))) hL
theorem zr_iald4 (C : z_C p l s m args meth c own cc nL ret D cA N0 zE) {a n : Nat} {i x : Int32} (hj : z_tys[4]? = some .int) (hT : T a = some (104, n)) (hin : vp_in i n) (hv : F a i.toNatClampNeg = .int x) (hdg : decode cc pc = .ok (.iaload, 1))
    (kk : z_w p l e R s m args below meth c D cA N0 nL cells slots Q (pc + 1) lo (.int x :: st) T F) : z_w p l e R s m args below meth c D cA N0 nL cells slots Q pc lo (.int i :: .ref a :: st) T F := by
  intro H locs ls hP hS hL
  have hlt : i.toNatClampNeg < n := Nat.not_le.mp fun q => hin (Or.inr q)
  exact W.iald C.1 C.2.1 (z_arr hP hT (by decide)) ((C.2.2.2.2.2.1.2.2.2.1 _ _ hj).1 n (F a)) (fun q => by cases q) (by rw [arrV_size]; exact hin) (by rw [arrV_read _ _ hlt, hv]) rfl rfl hdg (kk H locs ls hP hS hL)
theorem zr_dconst (C : z_C p l s m args meth c own cc nL ret D cA N0 zE) (hdg : decode cc pc = .ok (.dconst 0, 1)) (k : z_w p l e R s m args below meth c D cA N0 nL cells slots Q (pc + 1) lo (.double FP.dconst0 :: st) T F) : z_w p l e R s m args below meth c D cA N0 nL cells slots Q pc lo st T F :=
  fun H locs ls hP hS hL => lv_dconst0 C.1 C.2.1 hdg (k H locs ls hP hS hL)
theorem zr_dload_n (C : z_C p l s m args meth c own cc nL ret D cA N0 zE) {n : Fin 4} {x : UInt64} (j : Nat) {i : Nat} (hdg : decode cc pc = .ok (.dload_n n, 1)) (hi : (n : Nat) = i) (hl : lo[j]? = some (i, .double x)) (k : z_w p l e R s m args below meth c D cA N0 nL cells slots Q (pc + 1) lo (.double x :: st) T F) : z_w p l e R s m args below meth c D cA N0 nL cells slots Q pc lo st T F :=
  fun H locs ls hP hS hL => lv_dload_n C.1 C.2.1 hdg hi (lv_at hL j hl) (k H locs ls hP hS hL)
theorem zr_dload (C : z_C p l s m args meth c own cc nL ret D cA N0 zE) {x : UInt64} (j : Nat) {i : Nat} (hdg : decode cc pc = .ok (.dload i, 2)) (hl : lo[j]? = some (i, .double x)) (k : z_w p l e R s m args below meth c D cA N0 nL cells slots Q (pc + 2) lo (.double x :: st) T F) : z_w p l e R s m args below meth c D cA N0 nL cells slots Q pc lo st T F :=
  fun H locs ls hP hS hL => lv_dload C.1 C.2.1 hdg (lv_at hL j hl) (k H locs ls hP hS hL)
theorem zr_dstore_n (C : z_C p l s m args meth c own cc nL ret D cA N0 zE) (lo' : List (Nat × Value)) {n : Fin 4} {i : Nat} {x : UInt64} (hdg : decode cc pc = .ok (.dstore_n n, 1)) (hi : (n : Nat) = i) (hn : i + 1 < nL) (hl : (i, Value.double x) :: lo.filter (fun q => !(q.1 == i) && (!(q.1 == i + 1) && !(q.1 + 1 == i && q.2.category == 2))) = lo') (k : z_w p l e R s m args below meth c D cA N0 nL cells slots Q (pc + 1) lo' st T F) : z_w p l e R s m args below meth c D cA N0 nL cells slots Q pc lo (.double x :: st) T F :=
  fun H locs ls hP hS hL => lv_dstore_n C.1 C.2.1 hdg hi hL hn hl (fun ls hl => k H locs ls hP hS hl)
theorem zr_dstore (C : z_C p l s m args meth c own cc nL ret D cA N0 zE) (lo' : List (Nat × Value)) {i : Nat} {x : UInt64} (hdg : decode cc pc = .ok (.dstore i, 2)) (hn : i + 1 < nL) (hl : (i, Value.double x) :: lo.filter (fun q => !(q.1 == i) && (!(q.1 == i + 1) && !(q.1 + 1 == i && q.2.category == 2))) = lo') (k : z_w p l e R s m args below meth c D cA N0 nL cells slots Q (pc + 2) lo' st T F) : z_w p l e R s m args below meth c D cA N0 nL cells slots Q pc lo (.double x :: st) T F :=
  fun H locs ls hP hS hL => lv_dstore C.1 C.2.1 hdg hL hn hl (fun ls hl => k H locs ls hP hS hl)
theorem zr_dcmp (C : z_C p l s m args meth c own cc nL ret D cA N0 zE) {x y : UInt64} {op : CmpOp} (hdg : decode cc pc = .ok (.dcmp op, 1)) (k : z_w p l e R s m args below meth c D cA N0 nL cells slots Q (pc + 1) lo (.int (Op.cmpValue (FP.dcmp x y) op) :: st) T F) : z_w p l e R s m args below meth c D cA N0 nL cells slots Q pc lo (.double y :: .double x :: st) T F :=
  fun H locs ls hP hS hL => lv_dcmp C.1 C.2.1 hdg (k H locs ls hP hS hL)
theorem zr_dret (C : z_C p l s m args meth c own cc nL ret D cA N0 zE) {v : UInt64} {mc ms : Nat} {Post : Option Value → zT → zF → Prop} (hr : ret = some .double) (hp : Post (some (.double v)) T F) (hc1 : cells ≤ mc) (hs1 : slots ≤ ms) (hdg : decode cc pc = .ok (.dreturn, 1)) : z_w p l e R s m args below meth c D cA N0 nL cells slots (MQ below (z_Qc D cA N0 Post) args s mc ms (fun q => N0 ≤ q)) pc lo [.double v] T F :=
  fun H locs ls hP hS hL => W.widen hc1 hs1 (W.dret C.1 C.2.1 (by rw [C.2.2.2.2.2.2.2, hr]) (fun t ht hW => ⟨_, T, F, rfl, hp, by rw [ht]; exact hP, hS.F ht⟩) hS.2.2 hdg C.2.2.2.2.2.2.1)
/-- an exception that a row of the table takes -/
theorem zr_catch (C : z_C p l s m args meth c own cc nL ret D cA N0 zE) {E : String} (name : String) (tb pre : List ExceptionTableEntry) (x : ExceptionTableEntry) (suf : List ExceptionTableEntry) (tgt : Nat) (hxt : c.exceptionTable.toList = tb) (hsplit : tb = pre ++ x :: suf)
    (hpass : ∀ z ∈ pre, covers z pc = false ∨ (z.catchType ≠ 0 ∧ ∃ nm : String, Cond.classLink own z.catchType nm ∈ zG ∧ (E, nm) ∈ z_ncs)) (hx : covers x pc = true) (h0 : x.catchType ≠ 0) (hw : Cond.classLink own x.catchType name ∈ zG) (hw2 : Cond.castable E name ∈ zG) (ht : x.handlerPc = tgt)
    (kk : ∀ q : Nat, z_w p l e R s m args below meth c D cA N0 nL cells slots Q tgt lo [.ref q] T F) : z_x p l e R s m args below meth c D cA N0 nL cells slots Q pc lo st E T F := by
  intro H locs ls ce q hP hS hL h1 h2 h3
  subst ht
  exact vx_catch C.2.2.2.1 pre x suf (hxt.trans hsplit) (fun z hz => (hpass z hz).imp id fun g => ⟨g.1, g.2.imp fun nm g2 => ⟨C.2.2.2.2.1 _ g2.1, C.2.2.2.2.2.1.2.2.2.2.2.2.2.2.1 _ g2.2⟩⟩) hx h0 (C.2.2.2.2.1 _ hw) (C.2.2.2.2.1 _ hw2) h1 h2 h3 (kk q H locs ls hP hS hL)
/-! a method with a table of handlers -/
def z_MH (l : Launch) (D : va_G) (cA : Nat → ClassId) (N0 zE : Nat) (y : MethodName) (cc : ByteArray) (maxL : Nat) (ret : Option FieldType) (hh : List (Nat × Nat × Nat × Nat)) (rm : Room) (as : List Value) (T : zT) (F : zF) (Post : Option Value → zT → zF → Prop) (PX : String → zT → zF → Prop) : Prop :=
  vx_Met l y (Cond.codeWith y cc maxL ret hh :: zG) rm (z_Pc l D cA N0 zE as T F) (z_Qc D cA N0 Post) (z_XC D cA N0 PX) rm.cells rm.slots (fun q => N0 ≤ q)
theorem z_bodyH {l : Launch} {D : va_G} {cA : Nat → ClassId} {N0 zE : Nat} {y : MethodName} {cc : ByteArray} {maxL : Nat} {ret : Option FieldType} {hh : List (Nat × Nat × Nat × Nat)} {rm : Room} {as : List Value} {T : zT} {F : zF} {Post : Option Value → zT → zF → Prop} {PX : String → zT → zF → Prop} (hy : plainName y.cls = true) (hn : (lg_sl as).length ≤ maxL)
    (body : ∀ (p : Program) (e : Env) (s : State) (m : MethodId) (args : Array Value) (below : List Frame) (meth : Method) (c : Code), z_C p l s m args meth c y.cls cc maxL ret D cA N0 zE → c.exceptionTable.toList = tableOf hh → meth.name = y.name →
      z_w p l e rm s m args below meth c D cA N0 maxL 0 0 (vx_MQ below (z_Qc D cA N0 Post) (z_XC D cA N0 PX) args s rm.cells rm.slots (fun q => N0 ≤ q)) 0 (lv_args 0 as) [] T F) : z_MH l D cA N0 zE y cc maxL ret hh rm as T F Post PX := by
  refine vx_ofWH (cc := cc) (maxL := maxL) (ret := ret) (hh := hh) hy rfl ?_
  intro p e s m args below meth c s₁ B hml hv
  obtain ⟨rfl, hP, hK⟩ := hv
  have hts := atoms_spec (ws := Cond.codeWith y cc maxL ret hh :: zG) B.pre
  have hC : z_C p l s m as.toArray meth c y.cls cc maxL ret D cA N0 zE := ⟨B.exec, B.bytes, hml, findClass_of_methodNamed B.named, fun w hw => hts w (List.mem_cons_of_mem _ hw), hK, B.notSynchronized, B.returns⟩
  have hl := lv_entry as (n := maxL) hn
  rw [lg_entry_eq]
  exact body p e s m as.toArray below meth c hC (vx_table (x := y) B (hts _ List.mem_cons_self)) (name_of_methodNamed B.named B.method).1 s.heap [] _ hP va_S.rf hl
def z_okH (own : String) (index : Nat) (y : MethodName) (bytes : ByteArray) (maxL : Nat) (ret : Option FieldType) (hh : List (Nat × Nat × Nat × Nat)) (n : Nat) : Prop := Cond.codeWith y bytes maxL ret hh ∈ zG ∧ Cond.methodLink own index y ∈ zG ∧ Cond.initialized y.cls ∈ zG ∧ (y.cls ≠ "java/lang/invoke/MethodHandle" ∧ y.cls ≠ "java/lang/invoke/VarHandle") ∧ (parseMethodDescriptor y.desc).map (fun d => d.parameters.length) = some n
theorem z_wsH (hts : ∀ w ∈ zG, w.before args s = true) {y : MethodName} {bytes : ByteArray} {maxL : Nat} {ret : Option FieldType} {hh : List (Nat × Nat × Nat × Nat)} (h : Cond.codeWith y bytes maxL ret hh ∈ zG) : ∀ w ∈ Cond.codeWith y bytes maxL ret hh :: zG, ∀ (a' : Array Value) (U : State), s.WarmedH U.vm → w.before a' U = true := fun w hw a' U hW => by
  have hw : w ∈ zG := (List.mem_cons.mp hw).elim (fun e => e ▸ h) id
  exact zw_move (List.mem_filter.mp hw).2 hW (hts w hw)
theorem zr_callSH (C : z_C p l s m args meth c own cc nL ret D cA N0 zE) {index n maxL : Nat} {y : MethodName} {bytes : ByteArray} {ret' : Option FieldType} {hh : List (Nat × Nat × Nat × Nat)} {rm : Room} {As : List Value} {Post : Option Value → zT → zF → Prop} (hM : z_MH l D cA N0 zE y bytes maxL ret' hh rm As T F Post (fun _ _ _ => False)) (f : z_okH own index y bytes maxL ret' hh n) (hi : Cond.static y ∈ zG)
    (hn : As.length = n) (hR : rm.frames + 1 ≤ R.frames ∧ 8 + (maxL + 11) + rm.locals ≤ R.locals) (hf : cells + rm.cells ≤ R.cells ∧ slots + rm.slots ≤ R.slots) (hW : (st.map fun v => v.category).sum ≤ 8) (hdg : decode cc pc = .ok (.invokestatic index, 3))
    (kk : ∀ (v : Option Value) (T' : zT) (F' : zF), Post v T' F' → z_w p l e R s m args below meth c D cA N0 nL (cells + rm.cells) (slots + rm.slots) Q (pc + 3) lo (v.toList ++ st) T' F') : z_w p l e R s m args below meth c D cA N0 nL cells slots Q pc lo (As.reverse ++ st) T F := by
  intro H locs ls hP hS hL T0 hT0 X
  obtain ⟨hx, hb, hml, hown, hts, hK, -⟩ := id C
  obtain ⟨f1, f2, f3, f4, f5⟩ := f
  rcases vx_runSX (Ts := zG) (hh := hh) ⟨hx, hb, hml, hown, hts⟩ hM ⟨⟨rfl, rfl, hR.1, hR.2, z_wsH hts f1, List.mem_cons_self⟩, hts _ f1, hts _ f3, f4, z_len f5, hts _ f2, hts _ hi⟩ ⟨z_blind, fun U hU hW => z_pre hP hS hK U hU hW⟩ rfl hn hL.1 rfl (lv_room hW) hdg hf T0 hT0 X with ⟨v, st₀, t, T', L, h0, X', hL', e1, e2, ⟨w, T1, F1, hv, hp, hP1, hF⟩, stp⟩ | ⟨q, st₀, t, T', L, E, ce, h0, X', hL', e1, e2, ⟨T1, F1, hp, hP1, hF⟩, hce, hcv, hcl, stp⟩
  · cases hv
    obtain ⟨t2, a1, b1⟩ := kk v T1 F1 hp T'.heap (locs ++ L) ls (by rw [e1]; exact hP1) (z_back h0 e1 hS hL' hF) hL T' rfl X'
    exact ⟨t2, stp t2 a1, b1⟩
  · exact hp.elim
/-! a call through an interface -/
def z_okF (own : String) (index : Nat) (x y : MethodName) (Cn : String) (bytes : ByteArray) (maxL : Nat) (ret : Option FieldType) (n : Nat) : Prop := Cond.code y bytes maxL ret ∈ zG ∧ Cond.methodLink own index x ∈ zG ∧ Cond.initialized y.cls ∈ zG ∧ (x.cls ≠ "java/lang/invoke/MethodHandle" ∧ x.cls ≠ "java/lang/invoke/VarHandle") ∧ (parseMethodDescriptor x.desc).map (fun d => d.parameters.length) = some n ∧ Cond.instanceMethod y ∈ zG ∧ Cond.selects Cn x y ∈ zG ∧ (Cn, x, y) ∈ z_ifs
theorem zr_callF (C : z_C p l s m args meth c own cc nL ret D cA N0 zE) {index n ci N b maxL count : Nat} {x y : MethodName} {bytes : ByteArray} {ret' : Option FieldType} {rm : Room} {As : List Value} {r : vw_C} {Post : Option Value → zT → zF → Prop} (hM : z_Mt l D cA N0 zE y bytes maxL ret' rm (.ref b :: As) T F Post) (f : z_okF own index x y r.1 bytes maxL ret' n)
    (hT : T b = some (ci, N)) (hci : ci < 100) (hc : vwCl[ci]? = some r) (hn : As.length = n) (hR : rm.frames + 1 ≤ R.frames ∧ 8 + (maxL + 11) + rm.locals ≤ R.locals) (hf : cells + rm.cells ≤ R.cells ∧ slots + rm.slots ≤ R.slots) (hW : (st.map fun v => v.category).sum ≤ 8) (hdg : decode cc pc = .ok (.invokeinterface index count, 5))
    (kk : ∀ (v : Option Value) (T' : zT) (F' : zF), Post v T' F' → z_w p l e R s m args below meth c D cA N0 nL (cells + rm.cells) (slots + rm.slots) Q (pc + 5) lo (v.toList ++ st) T' F') : z_w p l e R s m args below meth c D cA N0 nL cells slots Q pc lo (As.reverse ++ .ref b :: st) T F := by
  intro H locs ls hP hS hL T0 hT0 X
  obtain ⟨hx, hb, hml, hown, hts, hK, -⟩ := id C
  obtain ⟨f1, f2, f3, f4, f5, f6, f7, f8⟩ := f
  have hF9 := hK.2.2.2.2.2.2.2.2.2.1 _ f8
  obtain ⟨v, st₀, t, T', L, h0, X', hL', e1, e2, ⟨w, T1, F1, hv, hp, hP1, hF⟩, stp⟩ := va_runF (Ts := zG) (C := r.1) (hK.2.2.1.1 ci _ hc).2 ⟨hx, hb, hml, hown, hts⟩ hM ⟨⟨rfl, rfl, hR.1, hR.2, z_ws hts f1, List.mem_cons_self⟩, hts _ f2, va_any rfl hF9.1, va_any rfl hF9.2.1, hts _ f7, hts _ f6, va_any rfl hF9.2.2.1, va_any rfl hF9.2.2.2.1, va_any rfl hF9.2.2.2.2, hts _ f3, hts _ f1, f4, z_len f5⟩ ⟨z_blind, z_obj hP hK hT hci hc, fun U hU hW => z_pre hP hS hK U hU hW⟩ rfl hn hL.1 rfl (lv_room hW) hdg hf T0 hT0 X
  cases hv
  obtain ⟨t2, a1, b1⟩ := kk v T1 F1 hp T'.heap (locs ++ L) ls (by rw [e1]; exact hP1) (z_back h0 e1 hS hL' hF) hL T' rfl X'
  exact ⟨t2, stp t2 a1, b1⟩
end ZR5
end
section
/-! new T[n][m] in the worlds -/
def znm (T : zT) (q n k : Nat) : zT := fun b => if b = q then some (102, n) else if q < b ∧ b ≤ q + n then some (100, k) else T b
def zmm (F : zF) (q n : Nat) : zF := fun b j => if b = q then (if j < n then .ref (q + 1 + j) else .null) else if q < b ∧ b ≤ q + n then .int 0 else F b j
theorem z_outer (c : ClassId) (N h0 : Nat) : ∀ i : Nat, Jvm.Free.Multi.outerC c N h0 i = arrV c N (fun j => if j < i then .ref (h0 + 1 + j) else .null)
  | 0 => by
    show ({ cls := c, slots := Array.replicate N .null, vm := .none } : Cell) = _
    rw [arrV_new]
    refine congrArg (arrV c N) (funext fun j => ?_)
    simp
  | i + 1 => by
    show (Jvm.Free.Multi.outerC c N h0 i).setSlot i (.ref (h0 + 1 + i)) = _
    rw [z_outer c N h0 i, arrV_store]
    refine congrArg (arrV c N) (funext fun j => ?_)
    by_cases e : j = i
    · subst e
      simp [updV]
    · by_cases h : j < i
      · simp [updV, e, h, Nat.lt_succ_of_lt h]
      · simp [updV, e, h, show ¬ j < i + 1 by omega]
theorem zr_multi {p : Program} {l : Launch} {e : Env} {R : Room} {s : State} {m : MethodId} {args : Array Value} {below : List Frame} {meth : Method} {c : Code} {Q : State → Prop} {D : va_G} {cA : Nat → ClassId} {N0 zE nL cells slots pc : Nat} {own : String} {cc : ByteArray} {ret : Option FieldType} {T : zT} {F : zF} {lo : List (Nat × Value)} {st : List Value}
    (C : z_C p l s m args meth c own cc nL ret D cA N0 zE) {n k : Int32} {index : Nat} (hj0 : z_tys[0]? = some .int) (hj2 : z_tys[2]? = some (.array .int)) (h1 : Cond.classLink own index "[[I" ∈ zG) (h2 : Cond.arrayClass .int ∈ zG) (hn : ¬ n < 0) (hk : ¬ k < 0) (hb1 : n.toNatClampNeg * 4 ≤ 536870912) (hb2 : k.toNatClampNeg * 4 ≤ 536870912)
    (hc1 : cells + (1 + n.toNatClampNeg) ≤ R.cells) (hs1 : slots + (n.toNatClampNeg + n.toNatClampNeg * k.toNatClampNeg) ≤ R.slots) (hdg : decode cc pc = .ok (.multianewarray index 2, 4))
    (kk : ∀ q : Nat, (∀ b, q ≤ b → T b = none) → z_w p l e R s m args below meth c D cA N0 nL (cells + 1 + n.toNatClampNeg) (slots + n.toNatClampNeg + n.toNatClampNeg * k.toNatClampNeg) Q (pc + 4) lo (.ref q :: st) (znm T q n.toNatClampNeg k.toNatClampNeg) (zmm F q n.toNatClampNeg)) : z_w p l e R s m args below meth c D cA N0 nL cells slots Q pc lo (.int k :: .int n :: st) T F := by
  intro H locs ls hP hS hL T0 hT0 Xs
  obtain ⟨hx, hb, -, hown, hts, hK, -⟩ := id C
  obtain ⟨vm₁, cB, comp, -, fA, fC, hO, -, X', step⟩ := Xs.multianewarray2F hx (ty := .int) hown (hts _ h1) (z_AA.use hK.2.2.2.2.2.2.2.2.2.2) (hts _ h2) (g := F0 m pc ls (.int k :: .int n :: st)) rfl (by rw [hb]; exact hdg) rfl hn hk hb1 hb2 (by omega) rfl rfl hc1 hs1
  have e0 : cA 0 = comp := z_ra (hK.2.2.2.1 0 _ hj0).2 fC
  have e2 : cA 2 = cB := z_ra (hK.2.2.2.1 2 _ hj2).2 fA
  subst e0
  subst e2
  generalize hn' : n.toNatClampNeg = n' at *
  generalize hk' : k.toNatClampNeg = k' at *
  generalize hF : Jvm.Free.Multi.fill (T0.setVm vm₁) (cA 2) (cA 0) n' k' (defaultValue .int) n' = G at X' step
  have hTh : (T0.setVm vm₁).heap = H := hT0
  obtain ⟨f1, f2, -, -⟩ := Jvm.Free.Multi.fill_facts (T0.setVm vm₁) (cA 2) (cA 0) n' k' (defaultValue .int) n'
  rw [hF, hTh] at f1 f2
  have hold : ∀ x : Nat, x < H.size → G.heap[x]? = H[x]? := fun x hx => by
    have := Jvm.Free.Multi.fill_old (T0.setVm vm₁) (cA 2) (cA 0) n' k' (defaultValue .int) (a := x) (by rw [hTh]; exact hx) n'
    rw [hF, hTh] at this
    exact this
  have hrow : ∀ j : Nat, j < n' → G.heap[H.size + 1 + j]? = some (arrV (cA 0) k' (fun _ => .int 0)) := fun j hj => by
    have := Jvm.Free.Multi.fill_inner (T0.setVm vm₁) (cA 2) (cA 0) n' k' (defaultValue .int) n' j hj
    rw [hF, hTh] at this
    rw [this, ← arrV_new]
    rfl
  rw [z_outer] at f2
  have hN : N0 ≤ H.size := Nat.le_trans hK.2.1 hS.1
  have hnone : ∀ b, H.size ≤ b → T b = none := fun b hb => by
    cases g : T b with
    | none => rfl
    | some t' => exact absurd (hP _ _ g).2.lt (Nat.not_lt.mpr hb)
  have hP1 : z_P D cA N0 (znm T H.size n' k') (zmm F H.size n') G.heap := by
    intro b t hb
    unfold znm at hb
    by_cases g1 : b = H.size
    · rw [if_pos g1] at hb
      cases hb
      refine ⟨Or.inl (by omega), ?_⟩
      unfold z_at
      rw [if_neg (by show ¬ 102 < 100; decide), g1, f2]
      refine congrArg some (congrArg (arrV _ _) (funext fun j => ?_))
      unfold zmm
      rw [if_pos rfl]
    · rw [if_neg g1] at hb
      by_cases g2 : H.size < b ∧ b ≤ H.size + n'
      · rw [if_pos g2] at hb
        cases hb
        refine ⟨Or.inl (by omega), ?_⟩
        unfold z_at
        rw [if_neg (by show ¬ 100 < 100; decide), show b = H.size + 1 + (b - H.size - 1) by omega, hrow _ (by omega)]
        refine congrArg some (congrArg (arrV _ _) (funext fun j => ?_))
        unfold zmm
        rw [if_neg (by omega), if_pos (by omega)]
      · rw [if_neg g2] at hb
        have h0 := hP b t hb
        refine ⟨h0.1, ?_⟩
        have e9 : zmm F H.size n' b = F b := funext fun j => by
          unfold zmm
          rw [if_neg g1, if_neg g2]
        rw [e9]
        exact h0.2.kept (hold b h0.2.lt)
  obtain ⟨t, a1, b1⟩ := kk H.size hnone G.heap locs ls hP1 ⟨by rw [f1]; have := hS.1; omega, fun x h1 h2 => (hold x (Nat.lt_of_lt_of_le h1 hS.1)).trans (hS.2.1 x h1 h2), hS.2.2⟩ hL G rfl X'
  refine ⟨t, step t ?_, b1⟩
  have e9 : T0.heap.size = H.size := by rw [hT0]
  rw [e9]
  exact a1
end
