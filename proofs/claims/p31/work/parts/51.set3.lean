/-! the setup: the whole object -/
section SET3
variable {T : zT} {F : zF} {zE x la gs pl tr lb lp tb e1 e6 n : Nat} {W : Nat → Nat → Nat → Nat} {fm as : Nat → Int32} {r : Nat → Nat → Nat} {V : Nat → Nat → Nat → Int32} {qa qc : Nat → Nat} {CC AA : Nat → Nat → Int32}
theorem s_vr (fr : Fr T F zE x la gs pl tr lb lp tb) (al : zAl T F zE la e1 n qa qc CC AA) {k : Nat} (hk : k < n) (h1 : AA k 1 = 0) {d : Int32} (d0 : 0 ≤ d.toInt) (d9 : d.toInt ≤ 99) {v : Int32} {P0 : zF → Prop} (hp : ∀ (F' : zF) (CC' AA' : Nat → Nat → Int32), yE (fun a => a = qa k ∨ a = qc k) T F T F' → zAl T F' zE la e1 n qa qc CC' AA' → P0 F') : v_X4_version x (nI k) d T F (fun (_ : Int32) (F2 : zF) => (v_L_below (v >>> (5 &&& 31)) 2 T F2 (fun (r : Int32) => ((¬ r = 0 → (v_L_below (v >>> (6 &&& 31)) 60 T F2 (fun (t : Int32) => (v_X4_rights x (nI k) 15 0 t T F2 (fun (_ : Int32) (F3 : zF) => P0 F3) (fun _ _ => False))))) ∧ (r = 0 → (v_X4_rights x (nI k) 15 0 99 T F2 (fun (_ : Int32) (F3 : zF) => P0 F3) (fun _ _ => False))))))) (fun _ _ => False) := by
  refine s_ver0 fr al hk h1 d0 d9 fun F2 k2 al2 _ => ?_
  have a1 := (al.2.2.1 k hk).1
  have a2 := (al.2.2.1 k hk).2.2.1
  have fr2 := fr.kp k2 fun a g => by
    rcases g with g | g
    · rw [g]; exact ⟨y_ne a1 fr.2.2.1.2.2.2.2.1 (by decide), y_ne a1 fr.2.2.2.1.2.2.2.2.1 (by decide), _, a1, by decide⟩
    · rw [g]; exact ⟨y_ne a2 fr.2.2.1.2.2.2.2.1 (by decide), y_ne a2 fr.2.2.2.1.2.2.2.2.1 (by decide), _, a2, by decide⟩
  have go : ∀ t : Int32, 0 ≤ t.toInt → t.toInt ≤ 99 → v_X4_rights x (nI k) 15 0 t T F2 (fun (_ : Int32) (F3 : zF) => P0 F3) (fun _ _ => False) := fun t t0 t9 => s_rights fr2 al2 hk t0 t9 fun F3 AA' k3 al3 _ => hp F3 _ AA' (k2.tr k3) al3
  refine s_below (m := 2) (by decide) (by decide) ⟨fun _ => s_below (m := 60) (by decide) (by decide) (go _ ?_ ?_), fun _ => go 99 (by decide) (by decide)⟩
  · rw [y_nIc (by have := f_bl_lt (p := v >>> (6 &&& 31)) (m := 60) (by decide); omega)]
    omega
  · have := f_bl_lt (p := v >>> (6 &&& 31)) (m := 60) (by decide)
    rw [y_nIc (by omega)]
    omega
theorem set_end (h : Fr T F zE x la gs pl tr lb lp tb) (hl : zAl T F zE la e1 3 qa qc CC AA) (hs : zPs T F zE la gs lb lp tb e1 e6 5 W fm as r V qa qc CC AA) : ∃ Q : Nat → Nat, Q 0 = x ∧ RmX T F zE Q W 5 fm as r V CC AA (fun _ => 0) 0 (fun _ => 0) (fun _ _ => 0) 0 zE zE 0 (fun _ => 0) (fun _ => 0) := by
  have c3 : ∀ {k : Nat}, k < 3 → k = 0 ∨ k = 1 ∨ k = 2 := fun h => by omega
  obtain ⟨Q, q0, q1, q2, q3, q4, q5, q6, q7, q8, q9, hqa, hqc⟩ : ∃ Q : Nat → Nat, Q 0 = x ∧ Q 1 = la ∧ Q 2 = e1 ∧ Q 3 = gs ∧ Q 4 = pl ∧ Q 5 = tr ∧ Q 6 = lp ∧ Q 7 = e6 ∧ Q 8 = lb ∧ Q 9 = tb ∧ (∀ k : Nat, k < 3 → Q (20 + k) = qa k) ∧ ∀ k : Nat, k < 3 → Q (30 + k) = qc k :=
    ⟨fun i => if i = 0 then x else if i = 1 then la else if i = 2 then e1 else if i = 3 then gs else if i = 4 then pl else if i = 5 then tr else if i = 6 then lp else if i = 7 then e6 else if i = 8 then lb else if i = 9 then tb else if i < 30 then qa (i - 20) else qc (i - 30), rfl, rfl, rfl, rfl, rfl, rfl, rfl, rfl, rfl, rfl, fun k hk => by rcases c3 hk with rfl | rfl | rfl <;> rfl, fun k hk => by rcases c3 hk with rfl | rfl | rfl <;> rfl⟩
  subst q0 q1 q2 q3 q4 q5 q6 q7 q8 q9
  obtain ⟨l0, l1, l2, l3, l4, l5⟩ := hl
  obtain ⟨w0, wc, wk, we, wj⟩ := hs
  obtain ⟨hx, hg, ⟨p0, p1, p2, p3, p4⟩, ⟨t0, t1, t2, t3, t4⟩, hz, d1, d2, d3, d4, d5, d6, d7⟩ := h
  have nk : ∀ {a : Nat} {t : Nat × Nat}, T a = some t → ¬ t.1 = 4 → ¬ t.1 = 0 → a ≠ Q 5 ∧ a ≠ Q 9 := fun ha g1 g2 => ⟨fun g => by rw [g, t0] at ha; cases ha; exact g1 rfl, fun g => by rw [g, t4.1] at ha; cases ha; exact g2 rfl⟩
  have nl : ∀ {a : Nat}, T a = some (0, 3) → a ≠ Q 9 → a ≠ Q 5 ∧ a ≠ Q 9 := fun ha g => ⟨y_ne ha t0 (by decide), g⟩
  obtain ⟨ce, hce⟩ := l0.er
  obtain ⟨c6, hc6⟩ := w0.1.er
  have hW := w0.2.2.1
  refine ⟨Q, rfl, hx, ⟨l0.cg fun k hk => (hqa k hk).symm, fun k hk => by rw [hqa k hk, hqc k hk]; exact l2 k hk⟩, hg, ⟨w0, fun k hk i hi => ?_⟩, ⟨⟨p0, p1, p2, p3, p4.ls hz _, by decide, fun i hi => absurd hi (Nat.not_lt_zero i), fun i j hi => absurd hi (Nat.not_lt_zero i)⟩, Or.inl ⟨hz, rfl⟩⟩, ⟨⟨t0, t1, t2, ⟨_, t3⟩, t4.ls hz _, Or.inl ⟨hz, rfl⟩, by decide, fun i hi => absurd hi (Nat.not_lt_zero i), fun i j hi => absurd hi (Nat.not_lt_zero i)⟩, Nat.le_refl _, hz⟩, fun a ha g => ?_, ⟨fun g => d3 g.symm, fun g => d5 g.symm, d7, fun k hk g => (wk k hk).2.2.2.1.2.1 g.symm⟩, fun z => absurd hz z, wj, fun k j hk hj => (wk k hk).2.2.2.2 j hj, fun j k hj hk => ?_, fun j k hj hk => ?_⟩
  · obtain ⟨r1, r2, r3⟩ := (wk k hk).2.1 i hi
    exact ⟨r1, by rw [hqa _ r1]; exact r2, by rw [hqc _ r1]; exact r3⟩
  · have key : a ≠ Q 5 ∧ a ≠ Q 9 := by
      rcases ha with ha | ha | ha | ha | ⟨k, hk, ha | ha⟩ | (ha | ha | ⟨k, hk, ha | ha | ha | ⟨j, hj, ha⟩ | ⟨i, hi, ha | ha⟩⟩) | ha | ha | ha | ⟨i, hi, ha⟩
      · rw [ha]; exact nk hx.1 (by decide) (by decide)
      · rw [ha]; exact nl l0.1 d4
      · rw [ha]; exact nk hce (by simp) (by simp)
      · rw [ha]; exact nk hg.1 (by decide) (by decide)
      · rw [ha, hqa k hk]; exact nk (l2 k hk).1 (by decide) (by decide)
      · rw [ha, hqc k hk]; exact nk (l2 k hk).2.2.1 (by decide) (by decide)
      · rw [ha]; exact nl w0.1.1 d6
      · rw [ha]; exact nk hc6 (by simp) (by simp)
      · rw [ha]; exact nk (hW k hk).1.1 (by decide) (by decide)
      · rw [ha]; exact nl (hW k hk).1.2.2.2.2.2.2.1.1 (wk k hk).2.2.2.1.2.2.2
      · obtain ⟨c9, hc9⟩ := (hW k hk).1.2.2.2.2.2.2.1.er
        rw [ha]; exact nk hc9 (by simp) (by simp)
      · obtain ⟨-, -, -, -, -, -, -, -, g8, -, g10, -⟩ := (hW k hk).1
        rw [ha]
        by_cases g : j = 0
        · subst g; exact nk g8 (by decide) (by decide)
        · rw [show W 3 k 0 + j = W 3 k 0 + 1 + (j - 1) by omega]
          exact nk (g10 (j - 1) (by omega)) (by decide) (by decide)
      · rw [ha]; exact nk ((hW k hk).2 i hi).1 (by decide) (by decide)
      · rw [ha]; exact nk ((hW k hk).2 i hi).2.2.1 (by decide) (by decide)
      · rw [ha]; exact ⟨d1, y_ne p0 t4.1 (by decide)⟩
      · rw [ha]; exact nl p4.1 d7
      · rw [ha]; exact nk hz (by decide) (by decide)
      · exact absurd hi (Nat.not_lt_zero i)
    rcases g with g | g | ⟨g, g2⟩ | ⟨i, hi, g⟩
    · exact key.1 g
    · exact key.2 g
    · exact g2 hz
    · exact absurd hi (Nat.not_lt_zero i)
  · rw [hqa j hj, hqa k hk]; exact l3 j k hj hk
  · rw [hqc j hj, hqc k hk]; exact l4 j k hj hk
end SET3
