/-! what holds between calls, and that each call of act keeps it -/
def Inv (n : Nat) (B : Nat → Nat → Int32) (td : Int32) (G : Nat → Int32) (CC : Nat → Nat → Int32) (t0 : Nat) : Prop := td.toInt = (t0 : Int) ∧ (∀ i : Nat, i < n → bkI (B i) ((t0 : Int) + 1) t0 t0) ∧ p_dj n B ∧ (∀ x : Nat, x < 16 → 0 ≤ (G x).toInt ∧ (G x).toInt ≤ 1023) ∧ ∀ k v : Nat, k < 3 → v < 5 → 0 ≤ (CC k v).toInt ∧ (CC k v).toInt ≤ 100
def inAl (T : zT) (Q : Nat → Nat) (W : Nat → Nat → Nat → Nat) (n e te nt : Nat) (ba ra : Nat → Nat) (a : Nat) : Prop := inRm Q W 5 n e ba a ∨ zTs T (Q 5) (Q 9) te nt ra a
/-- P holds wherever one call can lead -/
def Nx (T : zT) (F : zF) (zE : Nat) (Q : Nat → Nat) (W : Nat → Nat → Nat → Nat) (fm as : Nat → Int32) (r : Nat → Nat → Nat) (AA : Nat → Nat → Int32) (n : Nat) (B : Nat → Nat → Int32) (e te nt : Nat) (ba ra : Nat → Nat) (t0 : Nat) (P : zT → zF → Prop) : Prop :=
  ∀ (T' : zT) (F' : zF) (V' : Nat → Nat → Nat → Int32) (CC' AA' : Nat → Nat → Int32) (G' : Nat → Int32) (n' : Nat) (bp' : Nat → Nat) (B' : Nat → Nat → Int32) (td' : Int32) (e' te' nt' : Nat) (ba' ra' : Nat → Nat) (t' : Nat), yE (inAl T Q W n e te nt ba ra) T F T' F' → RmX T' F' zE Q W 5 fm as r V' CC' AA' G' n' bp' B' td' e' te' nt' ba' ra' → Inv n' B' td' G' CC' t' → t' ≤ t0 + 1 → n ≤ n' → (∀ i : Nat, i < n → p_pm (B i) (B' i)) → (∀ k : Nat, k < 3 → ∀ j : Nat, 2 ≤ j → AA' k j = AA k j) → P T' F'
theorem s_cat {x x4 : Int32} {T : zT} {F : zF} {P0 P1 : Prop} (h2 : ¬ f_bl x 13 = 2) (h6 : ¬ f_bl x 13 = 6) (h9 : ¬ f_bl x 13 = 9) (h10 : f_bl x 13 < 10) (hp : P1) : v_L_below x 13 T F (fun r => ((r = 2 → P0) ∧ (¬ r = 2 → (v_L_below x 13 T F (fun r => ((r = 6 → P0) ∧ (¬ r = 6 → (v_L_below x 13 T F (fun r => ((r = 9 → P0) ∧ (¬ r = 9 → (v_L_below x 13 T F (fun r => ((r < 10 → P1) ∧ (¬ r < 10 → ((¬ x4 = 99 → P0) ∧ (x4 = 99 → P1))))))))))))))))) := by
  have lt := f_bl_lt (p := x) (m := 13) (by decide)
  have ne : ∀ c : Nat, c < 13 → ¬ f_bl x 13 = c → nI (f_bl x 13) = nI c → False := fun c hc n z => n ((nI_eq (by omega) (by omega)).mp z)
  exact s_below (m := 13) (by decide) (by decide) ⟨fun z => (ne 2 (by decide) h2 z).elim, fun _ => s_below (m := 13) (by decide) (by decide) ⟨fun z => (ne 6 (by decide) h6 z).elim, fun _ => s_below (m := 13) (by decide) (by decide) ⟨fun z => (ne 9 (by decide) h9 z).elim, fun _ => s_below (m := 13) (by decide) (by decide) ⟨fun _ => hp, fun z => absurd (nI_lt (b := 10) h10 (by omega)) z⟩⟩⟩⟩
theorem dj_new {n : Nat} {B : Nat → Nat → Int32} {b : Nat → Int32} (h : p_dj n B) (h' : ∀ j : Nat, j < n → p_lv (B j) → b 1 = B j 1 → b 2 = B j 2 → (b 4).toInt < (B j 3).toInt ∨ (B j 4).toInt < (b 3).toInt) : p_dj (n + 1) (upd1 B n b) := fun i j hi hj hne li lj e1 e2 => by
  by_cases gi : i = n
  · have gj : ¬ j = n := fun g => hne (gi.trans g.symm)
    rw [gi, upd1_s] at e1 e2 ⊢
    rw [upd1_n gj] at lj e1 e2 ⊢
    exact h' j (by omega) lj e1 e2
  · rw [upd1_n gi] at li e1 e2 ⊢
    by_cases gj : j = n
    · rw [gj, upd1_s] at e1 e2 ⊢
      exact (h' i (by omega) li e1.symm e2.symm).symm
    · rw [upd1_n gj] at lj e1 e2 ⊢
      exact h i j (by omega) (by omega) hne li lj e1 e2
section ACT
variable {T : zT} {F : zF} {zE : Nat} {Q : Nat → Nat} {W : Nat → Nat → Nat → Nat} {fm as : Nat → Int32} {r : Nat → Nat → Nat} {V : Nat → Nat → Nat → Int32} {CC AA : Nat → Nat → Int32} {G : Nat → Int32} {n : Nat} {bp : Nat → Nat} {B : Nat → Nat → Int32} {td : Int32} {e te nt : Nat} {ba ra : Nat → Nat} {t0 : Nat}
theorem pm_rf {b : Nat → Int32} : p_pm b b := Or.inl ⟨rfl, rfl⟩
theorem Nx.same {P : zT → zF → Prop} (h : RmX T F zE Q W 5 fm as r V CC AA G n bp B td e te nt ba ra) (iv : Inv n B td G CC t0) (hp : Nx T F zE Q W fm as r AA n B e te nt ba ra t0 P) : P T F :=
  hp T F V CC AA G n bp B td e te nt ba ra t0 yE.rf h iv (Nat.le_succ _) (Nat.le_refl _) (fun _ _ => pm_rf) (fun _ _ _ _ => rfl)
/-- one booking changes, its days stay, or it is given up -/
theorem Inv.row {i : Nat} {b : Nat → Int32} (iv : Inv n B td G CC t0) (hi : i < n) (hb : bkI b ((t0 : Int) + 1) t0 t0) (hl : p_lv b → p_lv (B i) ∧ b 1 = B i 1 ∧ b 2 = B i 2 ∧ b 3 = B i 3 ∧ b 4 = B i 4) : Inv n (upd1 B i b) td G CC t0 := by
  obtain ⟨i1, i2, i3, i4, i5⟩ := iv
  refine ⟨i1, fun j hj => ?_, dj_map i3 fun j hj l => ?_, i4, i5⟩
  · by_cases g : j = i
    · rw [g, upd1_s]; exact hb
    · rw [upd1_n g]; exact i2 j hj
  · by_cases g : j = i
    · rw [g, upd1_s] at l ⊢; exact hl l
    · rw [upd1_n g] at l ⊢; exact ⟨l, rfl, rfl, rfl, rfl⟩
theorem pm_row {i : Nat} {b : Nat → Int32} (h : p_pm (B i) b) (j : Nat) : p_pm (B j) (upd1 B i b j) := by
  by_cases g : j = i
  · rw [g, upd1_s]; exact h
  · rw [upd1_n g]; exact pm_rf
theorem al_bk {i : Nat} (hi : i < n) : inAl T Q W n e te nt ba ra (ba i) := Or.inl (Or.inr (Or.inr (Or.inr (Or.inr (Or.inr (Or.inr (Or.inr (Or.inr (Or.inr ⟨i, hi, rfl⟩)))))))))
theorem a_approve (h : RmX T F zE Q W 5 fm as r V CC AA G n bp B td e te nt ba ra) (iv : Inv n B td G CC t0) (ht : t0 ≤ 60) {Post : Int32 → zT → zF → Prop} (hp : Nx T F zE Q W fm as r AA n B e te nt ba ra t0 (fun T' F' => Post 1 T' F')) {k j : Nat} (hk : k < 5) (hj : j < 4) {PX : String → zF → Prop} {PY : zF → String → Prop} (hx : PX "java/lang/IllegalStateException" F) : v_X4_approve (Q 0) (nI k) (nI j) T F (fun x F1 => ((x = 0 → Post 1 T F1) ∧ (¬ x = 0 → (v_X4_isFit (Q 0) (nI k) (nI j) td T F1 (fun y => ((y = 0 → Post 0 T F1) ∧ (¬ y = 0 → Post 1 T F1))) (PY F1))))) PX := by
  have h0 := iv.1
  refine s_approve h hk hj (fun l F1 x _ ke h1 => ?_) hx
  have P1 : Post 1 T F1 := hp T F1 _ _ _ _ _ _ _ _ _ _ _ _ _ t0 (ke.wk fun a g => Or.inl (Or.inr (Or.inr (Or.inr (Or.inr (Or.inr (Or.inl (Or.inr (Or.inr ⟨k, hk, Or.inr (Or.inr (Or.inr (Or.inl ⟨1 + j, by omega, by rw [g]; omega⟩)))⟩))))))))) h1 iv (Nat.le_succ _) (Nat.le_refl _) (fun _ _ => pm_rf) (fun _ _ _ _ => rfl)
  refine ⟨fun _ => P1, fun _ => s_isFit h1 hk hj (by omega) (by omega) (fun _ => ⟨fun z => absurd z (by decide), fun _ => P1⟩) (fun q => absurd ?_ q)⟩
  rw [upd1_s, upd1_s]
  exact fun i hi => ⟨l i hi, (if_pos hi).symm⟩
theorem a_hold (h : RmX T F zE Q W 5 fm as r V CC AA G n bp B td e te nt ba ra) (iv : Inv n B td G CC t0) (ht : t0 ≤ 60) {Post : Int32 → zT → zF → Prop} (hp : Nx T F zE Q W fm as r AA n B e te nt ba ra t0 (fun T' F' => Post 1 T' F')) {k j : Nat} (hk : k < 5) (hj : j < 4) (hw : 1 ≤ W 4 k 0) {PX : String → zF → Prop} {PY : zF → String → Prop} : v_X4_hold (Q 0) (nI k) (nI j) T F (fun x F1 => ((x = 0 → Post 1 T F1) ∧ (¬ x = 0 → (v_X4_isFit (Q 0) (nI k) (nI j) td T F1 (fun y => ((¬ y = 0 → Post 0 T F1) ∧ (y = 0 → Post 1 T F1))) (PY F1))))) PX := by
  have h0 := iv.1
  refine s_hold h hk hj (fun F1 x _ ke h1 => ?_)
  have P1 : Post 1 T F1 := hp T F1 _ _ _ _ _ _ _ _ _ _ _ _ _ t0 (ke.wk fun a g => Or.inl (Or.inr (Or.inr (Or.inr (Or.inr (Or.inr (Or.inl (Or.inr (Or.inr ⟨k, hk, Or.inr (Or.inr (Or.inr (Or.inl ⟨1 + j, by omega, by rw [g]; omega⟩)))⟩))))))))) h1 iv (Nat.le_succ _) (Nat.le_refl _) (fun _ _ => pm_rf) (fun _ _ _ _ => rfl)
  refine ⟨fun _ => P1, fun _ => s_isFit h1 hk hj (by omega) (by omega) (fun q => ?_) (fun _ => ⟨fun z => absurd rfl z, fun _ => P1⟩)⟩
  rw [upd1_s, upd1_s] at q
  exact absurd (q 0 hw).2 (q 0 hw).1
theorem a_cancel (h : RmX T F zE Q W 5 fm as r V CC AA G n bp B td e te nt ba ra) (iv : Inv n B td G CC t0) {Post : Int32 → zT → zF → Prop} (hp : Nx T F zE Q W fm as r AA n B e te nt ba ra t0 (fun T' F' => Post 1 T' F')) {i : Nat} (hi : i < n) {PX : String → zF → Prop} {PY : zF → String → Prop} (hx : PX "java/lang/IllegalStateException" F) : v_X4_cancel (Q 0) (nI i) T F (fun x F1 => (v_X4_ofBooking (Q 0) (nI i) 7 T F1 (fun y => ((¬ x = y → Post 0 T F1) ∧ (x = y → (v_X4_ofBooking (Q 0) (nI i) 5 T F1 (fun u => ((¬ u = 3 → Post 0 T F1) ∧ (u = 3 → (v_X4_ofBooking (Q 0) (nI i) 10 T F1 (fun w => ((¬ w = 0 → Post 0 T F1) ∧ (w = 0 → Post 1 T F1))) (PY F1))))) (PY F1))))) (PY F1))) PX := by
  refine s_cancel h hi (fun op F1 ke h1 => ?_) (fun _ => hx)
  have P1 : Post 1 T F1 := hp T F1 _ _ _ _ _ _ _ _ _ _ _ _ _ t0 (ke.wk fun a g => by rw [g]; exact al_bk hi) h1 (iv.row hi ?_ fun l => ?_) (Nat.le_succ _) (Nat.le_refl _) (fun j _ => pm_row (b := f_give (B i)) (Or.inl ⟨rfl, rfl⟩) j) (fun _ _ _ _ => rfl)
  · refine s_ofBooking h1 (j := 7) hi (by decide) ⟨fun z => absurd ?_ z, fun _ => s_ofBooking h1 (j := 5) hi (by decide) ⟨fun z => absurd ?_ z, fun _ => s_ofBooking h1 (j := 10) hi (by decide) ⟨fun z => absurd ?_ z, fun _ => P1⟩⟩⟩
    · show f_cost (f_give (B i)) = f_cost (upd1 B i (f_give (B i)) i)
      rw [upd1_s]
    · show upd1 B i (f_give (B i)) i 6 = 3
      rw [upd1_s]
      rfl
    · show upd1 B i (f_give (B i)) i 10 = 0
      rw [upd1_s]
      rfl
  · obtain ⟨h1, h2, h3, h4, h5, h6, h7, h8, h9, h10⟩ := iv.2.1 i hi
    show bkP (B i 1) (B i 2) (B i 3) (B i 4) 3 (B i 7) (B i 8) 0 (if B i 6 = 0 then 1 else 0) _ _ _
    exact ⟨h1, h2, h3, Or.inr (Or.inr (Or.inr (Or.inl rfl))), fun z => absurd z (by decide), fun z => absurd z (by decide), fun z => absurd z (by decide), ⟨fun _ => rfl, Or.inl rfl⟩, h9, fun z => absurd z (by decide)⟩
  · exact absurd (show (3 : Int32) = 0 ∨ (3 : Int32) = 1 ∨ (3 : Int32) = 2 from l) (by decide)
theorem a_swap (h : RmX T F zE Q W 5 fm as r V CC AA G n bp B td e te nt ba ra) (iv : Inv n B td G CC t0) {Post : Int32 → zT → zF → Prop} (hp : Nx T F zE Q W fm as r AA n B e te nt ba ra t0 (fun T' F' => Post 1 T' F')) {i : Nat} (hi : i < n) {PX : String → zF → Prop} {PY : zF → String → Prop} {PZ : String → Prop} : v_X4_swapFor (Q 0) (nI i) T F (fun x => (v_X4_ofBooking (Q 0) (nI i) 5 T F (fun y => ((¬ y = 0 → ((x < 0 → Post 1 T F) ∧ (¬ x < 0 → Post 1 T F))) ∧ (y = 0 → ((x < 0 → Post 1 T F) ∧ (¬ x < 0 → (v_X4_swap (Q 0) (nI i) x T F (fun u F1 => ((u = x → Post 0 T F1) ∧ (¬ u = x → (v_X4_ofBooking (Q 0) (nI i) 0 T F1 (fun w => ((¬ w = x → Post 0 T F1) ∧ (w = x → Post 1 T F1))) (PY F1))))) PX)))))) PZ)) PZ := by
  have P0 : Post 1 T F := Nx.same h iv hp
  have hb := iv.2.1 i hi
  refine s_swapFor h hi hb.1.1 (s_ofBooking h (j := 5) hi (by decide) ⟨fun _ => ⟨fun _ => P0, fun _ => P0⟩, fun h6 => ⟨fun _ => P0, fun hx => ?_⟩⟩)
  have h6 : B i 6 = 0 := h6
  cases hs : f_sw n 5 W fm r V CC AA bp B td i with
  | none =>
    rw [hs] at hx
    exact absurd (show (-1 : Int32) < 0 by decide) hx
  | some k =>
    obtain ⟨hk, hc, -⟩ := f_fst_i hs
    have hbi := (h.pl.2.2.2.2.2.2.1 i hi).2
    refine s_swap h hi hk hb.1.1 h6 hc fun F1 ke h1 => ⟨fun z => absurd ((nI_eq (by omega) (by omega)).mp z).symm hc.1, fun _ => s_ofBooking h1 (j := 0) hi (by decide) ⟨fun z => absurd ?_ z, fun _ => ?_⟩⟩
    · show nI (upd1 bp i k i) = nI k
      rw [upd1_s]
    · exact hp T F1 _ _ _ _ _ _ _ _ _ _ _ _ _ t0 (ke.wk fun a g => by rw [g]; exact al_bk hi) h1 (iv.row hi hb fun l => ⟨l, rfl, rfl, rfl, rfl⟩) (Nat.le_succ _) (Nat.le_refl _) (fun j _ => pm_row (b := ub (B i) 9 (B i 9 + 1)) (Or.inl ⟨rfl, rfl⟩) j) (fun _ _ _ _ => rfl)
theorem al_as {k a : Nat} (hk : k < 3) (g : a = Q (20 + k) ∨ a = Q (30 + k)) : inAl T Q W n e te nt ba ra a := Or.inl (Or.inr (Or.inr (Or.inr (Or.inr (Or.inl ⟨k, hk, g⟩)))))
theorem Inv.cc {k q : Nat} {d : Int32} (iv : Inv n B td G CC t0) (h0 : 0 ≤ d.toInt) (h1 : d.toInt ≤ 100) : Inv n B td G (upd1 CC k (ub (CC k) q d)) t0 := by
  obtain ⟨i1, i2, i3, i4, i5⟩ := iv
  refine ⟨i1, i2, i3, i4, fun k' v hk' hv => ?_⟩
  by_cases g : k' = k
  · subst g
    rw [upd1_s]
    by_cases g2 : v = q
    · rw [g2, ub_s]; exact ⟨h0, h1⟩
    · rw [ub_n g2]; exact i5 k' v hk' hv
  · rw [upd1_n g]; exact i5 k' v hk' hv
theorem a_version (h : RmX T F zE Q W 5 fm as r V CC AA G n bp B td e te nt ba ra) (iv : Inv n B td G CC t0) {Post : Int32 → zT → zF → Prop} (hp : Nx T F zE Q W fm as r AA n B e te nt ba ra t0 (fun T' F' => Post 1 T' F')) {k : Nat} (hk : k < 3) {d : Int32} (h1 : (t0 : Int) ≤ d.toInt) (h2 : d.toInt ≤ 99) {PX : String → zF → Prop} (hx : PX "java/lang/IllegalStateException" F) : v_X4_version (Q 0) (nI k) d T F (fun x F1 => ((5 ≤ x → Post 0 T F1) ∧ (¬ 5 ≤ x → Post 1 T F1))) PX := by
  have h0 := iv.1
  refine s_version h hk (fun z => ?_) ?_ (fun q q5 e1 F1 ke r1 => ⟨fun z => absurd ((nI_leI (a := 5) (b := q) (by omega) (by omega)).mp z) (by omega), fun _ => ?_⟩) (fun _ => hx)
  · rw [Int32.lt_iff_toInt_lt] at z
    omega
  · rw [Int32.le_iff_toInt_le, show (99 : Int32).toInt = 99 by decide]
    exact h2
  · refine hp T F1 _ _ _ _ _ _ _ _ _ _ _ _ _ t0 (ke.wk fun a g => al_as hk g) r1 (iv.cc (by omega) (by omega)) (Nat.le_succ _) (Nat.le_refl _) (fun _ _ => pm_rf) fun k' hk' j hj => ?_
    by_cases g : k' = k
    · subst g
      rw [upd1_s, ub_n (by omega)]
    · rw [upd1_n g]
theorem a_late (h : RmX T F zE Q W 5 fm as r V CC AA G n bp B td e te nt ba ra) (iv : Inv n B td G CC t0) (ht : t0 ≤ 60) {Post : Int32 → zT → zF → Prop} (hp : Nx T F zE Q W fm as r AA n B e te nt ba ra t0 (fun T' F' => Post 1 T' F')) {k : Nat} (hk : k < 3) {p : Int32} (h1 : 1 ≤ p.toInt) (h2 : p.toInt ≤ 20) {PX : String → zF → Prop} (hx : PX "java/lang/IllegalStateException" F) : v_X4_late (Q 0) (nI k) p T F (fun x F1 => ((x ≤ td → Post 0 T F1) ∧ (¬ x ≤ td → Post 1 T F1))) PX := by
  have h0 := iv.1
  refine s_late h hk (fun z => ?_) ?_ (fun q q5 e1 hc F1 ke r1 => ?_) hx
  · rw [Int32.lt_iff_toInt_lt, show (1 : Int32).toInt = 1 by decide] at z
    omega
  · rw [Int32.le_iff_toInt_le, show (20 : Int32).toInt = 20 by decide]
    exact h2
  · obtain ⟨c0, c1⟩ := iv.2.2.2.2 k q hk q5
    rw [Int32.lt_iff_toInt_lt] at hc
    have es : (CC k q + p).toInt = (CC k q).toInt + p.toInt := by
      rw [Int32.toInt_add, Int.bmod_def]
      omega
    have fl : td.toInt < (f_lt (CC k q) p).toInt ∧ 0 ≤ (f_lt (CC k q) p).toInt ∧ (f_lt (CC k q) p).toInt ≤ 100 := by
      unfold f_lt
      by_cases g : 99 < CC k q + p
      · rw [if_pos g, show (99 : Int32).toInt = 99 by decide]
        omega
      · rw [if_neg g]
        rw [Int32.lt_iff_toInt_lt, es, show (99 : Int32).toInt = 99 by decide] at g
        rw [es]
        omega
    refine ⟨fun z => ?_, fun _ => hp T F1 _ _ _ _ _ _ _ _ _ _ _ _ _ t0 (ke.wk fun a g => al_as hk g) r1 (iv.cc fl.2.1 fl.2.2) (Nat.le_succ _) (Nat.le_refl _) (fun _ _ => pm_rf) fun k' hk' j hj => ?_⟩
    · rw [Int32.le_iff_toInt_le] at z
      omega
    · by_cases g : k' = k
      · subst g
        rw [upd1_s]
      · rw [upd1_n g]
theorem a_groups (h : RmX T F zE Q W 5 fm as r V CC AA G n bp B td e te nt ba ra) (iv : Inv n B td G CC t0) {Post : Int32 → zT → zF → Prop} (hp : Nx T F zE Q W fm as r AA n B e te nt ba ra t0 (fun T' F' => Post 1 T' F')) {m j : Nat} (hm : m < 4) (hj : j < 4) {p : Int32} (h1 : 0 ≤ p.toInt) (h2 : p.toInt ≤ 1023) {PX : String → zF → Prop} : v_X4_groups (Q 0) (nI m) (nI j) p T F (fun x F1 => ((1024 ≤ x → Post 0 T F1) ∧ (¬ 1024 ≤ x → Post 1 T F1))) PX := by
  refine s_groups h hm hj (fun z => ?_) ?_ fun F1 ke r1 => ⟨fun z => ?_, fun _ => ?_⟩
  · rw [Int32.lt_iff_toInt_lt, y_toInt0] at z
    omega
  · rw [Int32.le_iff_toInt_le, show (1023 : Int32).toInt = 1023 by decide]
    exact h2
  · have := iv.2.2.2.1 (m * 4 + j) (by omega)
    rw [Int32.le_iff_toInt_le, show (1024 : Int32).toInt = 1024 by decide] at z
    omega
  · refine hp T F1 _ _ _ _ _ _ _ _ _ _ _ _ _ t0 (ke.wk fun a g => Or.inl (Or.inr (Or.inr (Or.inr (Or.inl g))))) r1 ⟨iv.1, iv.2.1, iv.2.2.1, fun x hx => ?_, iv.2.2.2.2⟩ (Nat.le_succ _) (Nat.le_refl _) (fun _ _ => pm_rf) (fun _ _ _ _ => rfl)
    by_cases g : x = m * 4 + j
    · rw [g, ub_s]; exact ⟨h1, h2⟩
    · rw [ub_n g]; exact iv.2.2.2.1 x hx
end ACT
