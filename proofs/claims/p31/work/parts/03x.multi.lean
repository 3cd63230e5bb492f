/-! new T[n][m] in the worlds -/
def znm (T : zT) (q n k : Nat) : zT := fun b => if b = q then some (102, n) else if q < b ∧ b ≤ q + n then some (100, k) else T b
def zmm (F : zF) (q n : Nat) : zF := fun b j => if b = q then (if j < n then .ref (q + 1 + j) else .null) else if q < b ∧ b ≤ q + n then .int 0 else F b j
theorem z_outer (c : ClassId) (N h0 : Nat) : ∀ i : Nat, Jvm.Free.Multi.outerC c N h0 i = arrV c N (fun j => if j < i then .ref (h0 + 1 + j) else .null)
  | 0 => by
    show ({ cls := c, slots := Array.replicate N .null, vm := .none } : Cell) = _
    rw [arrV_new]
    refine congrArg (arrV c N) (funext fun j => ?_)
    simp
  | i + 1 => by
    show (Jvm.Free.Multi.outerC c N h0 i).setSlot i (.ref (h0 + 1 + i)) = _
    rw [z_outer c N h0 i, arrV_store]
    refine congrArg (arrV c N) (funext fun j => ?_)
    by_cases e : j = i
    · subst e
      simp [updV]
    · by_cases h : j < i
      · simp [updV, e, h, Nat.lt_succ_of_lt h]
      · simp [updV, e, h, show ¬ j < i + 1 by omega]
theorem zr_multi {p : Program} {l : Launch} {e : Env} {R : Room} {s : State} {m : MethodId} {args : Array Value} {below : List Frame} {meth : Method} {c : Code} {Q : State → Prop} {D : va_G} {cA : Nat → ClassId} {N0 zE nL cells slots pc : Nat} {own : String} {cc : ByteArray} {ret : Option FieldType} {T : zT} {F : zF} {lo : List (Nat × Value)} {st : List Value}
    (C : z_C p l s m args meth c own cc nL ret D cA N0 zE) {n k : Int32} {index : Nat} (hj0 : z_tys[0]? = some .int) (hj2 : z_tys[2]? = some (.array .int)) (h1 : Cond.classLink own index "[[I" ∈ zG) (h2 : Cond.arrayClass .int ∈ zG) (hn : ¬ n < 0) (hk : ¬ k < 0) (hb1 : n.toNatClampNeg * 4 ≤ 536870912) (hb2 : k.toNatClampNeg * 4 ≤ 536870912)
    (hc1 : cells + (1 + n.toNatClampNeg) ≤ R.cells) (hs1 : slots + (n.toNatClampNeg + n.toNatClampNeg * k.toNatClampNeg) ≤ R.slots) (hdg : decode cc pc = .ok (.multianewarray index 2, 4))
    (kk : ∀ q : Nat, (∀ b, q ≤ b → T b = none) → z_w p l e R s m args below meth c D cA N0 nL (cells + 1 + n.toNatClampNeg) (slots + n.toNatClampNeg + n.toNatClampNeg * k.toNatClampNeg) Q (pc + 4) lo (.ref q :: st) (znm T q n.toNatClampNeg k.toNatClampNeg) (zmm F q n.toNatClampNeg)) : z_w p l e R s m args below meth c D cA N0 nL cells slots Q pc lo (.int k :: .int n :: st) T F := by
  intro H locs ls hP hS hL T0 hT0 Xs
  obtain ⟨hx, hb, -, hown, hts, hK, -⟩ := id C
  obtain ⟨vm₁, cB, comp, -, fA, fC, hO, -, X', step⟩ := Xs.multianewarray2F hx (ty := .int) hown (hts _ h1) (z_AA.use hK.2.2.2.2.2.2.2.2.2.2.1) (hts _ h2) (g := F0 m pc ls (.int k :: .int n :: st)) rfl (by rw [hb]; exact hdg) rfl hn hk hb1 hb2 (by omega) rfl rfl hc1 hs1
  have e0 : cA 0 = comp := z_ra ((hK.2.2.2.1 0 _ hj0).2.resolve_left (by decide)) fC
  have e2 : cA 2 = cB := z_ra ((hK.2.2.2.1 2 _ hj2).2.resolve_left (by decide)) fA
  subst e0
  subst e2
  generalize hn' : n.toNatClampNeg = n' at *
  generalize hk' : k.toNatClampNeg = k' at *
  generalize hF : Jvm.Free.Multi.fill (T0.setVm vm₁) (cA 2) (cA 0) n' k' (defaultValue .int) n' = G at X' step
  have hTh : (T0.setVm vm₁).heap = H := hT0
  obtain ⟨f1, f2, -, -⟩ := Jvm.Free.Multi.fill_facts (T0.setVm vm₁) (cA 2) (cA 0) n' k' (defaultValue .int) n'
  rw [hF, hTh] at f1 f2
  have hold : ∀ x : Nat, x < H.size → G.heap[x]? = H[x]? := fun x hx => by
    have := Jvm.Free.Multi.fill_old (T0.setVm vm₁) (cA 2) (cA 0) n' k' (defaultValue .int) (a := x) (by rw [hTh]; exact hx) n'
    rw [hF, hTh] at this
    exact this
  have hrow : ∀ j : Nat, j < n' → G.heap[H.size + 1 + j]? = some (arrV (cA 0) k' (fun _ => .int 0)) := fun j hj => by
    have := Jvm.Free.Multi.fill_inner (T0.setVm vm₁) (cA 2) (cA 0) n' k' (defaultValue .int) n' j hj
    rw [hF, hTh] at this
    rw [this, ← arrV_new]
    rfl
  rw [z_outer] at f2
  have hN : N0 ≤ H.size := Nat.le_trans hK.2.1 hS.1
  have hnone : ∀ b, H.size ≤ b → T b = none := fun b hb => by
    cases g : T b with
    | none => rfl
    | some t' => exact absurd (hP _ _ g).2.lt (Nat.not_lt.mpr hb)
  have hP1 : z_P D cA N0 (znm T H.size n' k') (zmm F H.size n') G.heap := by
    intro b t hb
    unfold znm at hb
    by_cases g1 : b = H.size
    · rw [if_pos g1] at hb
      cases hb
      refine ⟨Or.inl (by omega), ?_⟩
      unfold z_at
      rw [if_neg (by show ¬ 102 < 100; decide)]
      left
      rw [g1, f2]
      refine congrArg some (congrArg (arrV _ _) (funext fun j => ?_))
      unfold zmm
      rw [if_pos rfl]
    · rw [if_neg g1] at hb
      by_cases g2 : H.size < b ∧ b ≤ H.size + n'
      · rw [if_pos g2] at hb
        cases hb
        refine ⟨Or.inl (by omega), ?_⟩
        unfold z_at
        rw [if_neg (by show ¬ 100 < 100; decide)]
        left
        rw [show b = H.size + 1 + (b - H.size - 1) by omega, hrow _ (by omega)]
        refine congrArg some (congrArg (arrV _ _) (funext fun j => ?_))
        unfold zmm
        rw [if_neg (by omega), if_pos (by omega)]
      · rw [if_neg g2] at hb
        have h0 := hP b t hb
        refine ⟨h0.1, ?_⟩
        have e9 : zmm F H.size n' b = F b := funext fun j => by
          unfold zmm
          rw [if_neg g1, if_neg g2]
        rw [e9]
        exact h0.2.kept (hold b h0.2.lt)
  obtain ⟨t, a1, b1⟩ := kk H.size hnone G.heap locs ls hP1 ⟨by rw [f1]; have := hS.1; omega, fun x h1 h2 => (hold x (Nat.lt_of_lt_of_le h1 hS.1)).trans (hS.2.1 x h1 h2), hS.2.2⟩ hL G rfl X'
  refine ⟨t, step t ?_, b1⟩
  have e9 : T0.heap.size = H.size := by rw [hT0]
  rw [e9]
  exact a1
theorem z_mq {T : zT} {q n k : Nat} : znm T q n k q = some (102, n) := if_pos rfl
