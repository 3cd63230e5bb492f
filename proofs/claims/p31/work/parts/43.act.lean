/-! the law's numbers -/
theorem y_and (p : Int32) : 0 ≤ (p &&& 2147483647).toInt := by
  show 0 ≤ (p &&& 2147483647).toBitVec.toInt
  have e : (p &&& 2147483647).toBitVec = p.toBitVec &&& (2147483647 : BitVec 32) := rfl
  rw [e, BitVec.toInt_eq_toNat_cond, BitVec.toNat_and, show ((2147483647 : BitVec 32).toNat) = 2147483647 from rfl]
  have := Nat.and_le_right (n := p.toBitVec.toNat) (m := 2147483647)
  rw [if_pos (by omega)]
  omega
theorem y_max (p : Int32) : p.toInt < 2147483648 := by
  have := p.toInt_lt
  omega
/-- a number below m that the law draws from p -/
def f_bl (p : Int32) (m : Nat) : Nat := ((p &&& 2147483647).toInt % (m : Int)).toNat
theorem f_bl_lt {p : Int32} {m : Nat} (hm : 0 < m) : f_bl p m < m := by
  have h1 := Int.emod_nonneg (p &&& 2147483647).toInt (b := (m : Int)) (by omega)
  have h2 := Int.emod_lt_of_pos (p &&& 2147483647).toInt (b := (m : Int)) (by omega)
  unfold f_bl
  omega
theorem s_below {p : Int32} {m : Nat} {T : zT} {F : zF} {Post : Int32 → Prop} (hm : 0 < m) (hm2 : m < 2000) (hp : Post (nI (f_bl p m))) : v_L_below p (nI m) T F Post := by
  have em : (nI m).toInt = (m : Int) := nI_toInt (by omega)
  have hx := y_and p
  have hx2 := y_max (p &&& 2147483647)
  refine ⟨fun z => ?_, ?_⟩
  · rw [z, y_toInt0] at em
    omega
  · have e : (p &&& 2147483647) - (p &&& 2147483647) / nI m * nI m = nI (f_bl p m) := by
      apply Int32.toInt_inj.mp
      have hbl : ((f_bl p m : Nat) : Int) = (p &&& 2147483647).toInt % (m : Int) := Int.toNat_of_nonneg (Int.emod_nonneg _ (by omega))
      generalize p &&& 2147483647 = x at hx hx2 hbl ⊢
      have hd0 : 0 ≤ x.toInt / (m : Int) := Int.ediv_nonneg hx (by omega)
      have hd1 : x.toInt / (m : Int) ≤ x.toInt := Int.ediv_le_self _ hx
      have hmd := Int.mul_ediv_add_emod x.toInt (m : Int)
      have h1 := Int.emod_nonneg x.toInt (b := (m : Int)) (by omega)
      have h2 := Int.emod_lt_of_pos x.toInt (b := (m : Int)) (by omega)
      have eq : (x / nI m).toInt = x.toInt / (m : Int) := by
        rw [Int32.toInt_div, em, Int.tdiv_eq_ediv_of_nonneg hx, Int.bmod_def]
        omega
      have em2 : (x / nI m * nI m).toInt = x.toInt / (m : Int) * (m : Int) := by
        rw [Int32.toInt_mul, eq, em, Int.bmod_def]
        rw [Int.mul_comm] at hmd
        generalize x.toInt / (m : Int) * (m : Int) = y at hmd ⊢
        omega
      rw [Int32.toInt_sub, em2, Int.bmod_def]
      rw [Int.mul_comm] at hmd
      generalize x.toInt / (m : Int) * (m : Int) = y at hmd ⊢
      have ef : (nI (f_bl p m)).toInt = ((f_bl p m : Nat) : Int) := nI_toInt (by have := f_bl_lt (p := p) hm; omega)
      rw [ef]
      omega
    rw [e]
    exact hp
