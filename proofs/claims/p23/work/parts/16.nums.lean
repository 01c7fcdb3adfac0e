/-! ===== Integer.signum, Math.abs ===== -/
theorem or_m1 (y : Int32) : (-1 : Int32) ||| y = -1 := by
  apply Int32.toBitVec_inj.mp
  show (-1 : Int32).toBitVec ||| y.toBitVec = (-1 : Int32).toBitVec
  rw [show (-1 : Int32).toBitVec = BitVec.allOnes 32 by decide]
  exact BitVec.allOnes_or
theorem sgn_eq (x : Int32) : (x >>> ((31 : Int32) &&& 31)) ||| ((-x).toUInt32 >>> ((31 : Int32).toUInt32 &&& Int32.toUInt32 31)).toInt32 = sgn x := by
  have h1 := pk_shr x ((31 : Int32) &&& 31) 31 (by decide)
  have h2 := pk_ushr (-x) (31 : Int32) 31 (by decide)
  have hlo := Int32.le_toInt x
  have hhi := Int32.toInt_lt x
  have z0 : (0 : Int32).toInt = 0 := by decide
  unfold sgn
  by_cases hx : x ≤ 0
  · rw [if_pos hx]
    by_cases hy : 0 ≤ x
    · rw [if_pos hy]
      have e : x = 0 := by
        apply Int32.toInt_inj.mp
        rw [Int32.le_iff_toInt_le] at hx hy
        omega
      subst e
      decide
    · rw [if_neg hy]
      have e : x >>> ((31 : Int32) &&& 31) = -1 := by
        apply Int32.toInt_inj.mp
        rw [h1, show (-1 : Int32).toInt = -1 by decide, Int.shiftRight_eq_div_pow]
        rw [Int32.le_iff_toInt_le] at hx hy
        omega
      rw [e]
      exact or_m1 _
  · rw [if_neg hx]
    have hpos : 0 < x.toInt := by
      rw [Int32.le_iff_toInt_le] at hx
      omega
    obtain ⟨j, hj, rfl⟩ := nI_of (x := x) (fun q => by rw [Int32.lt_iff_toInt_lt] at q; omega)
    have hj0 : 0 < j := by
      rw [nI_toInt hj] at hpos
      omega
    have e : nI j >>> ((31 : Int32) &&& 31) = 0 := by
      apply Int32.toInt_inj.mp
      rw [h1, nI_toInt hj, z0, Int.shiftRight_eq_div_pow]
      omega
    have e2 : ((-nI j).toUInt32 >>> ((31 : Int32).toUInt32 &&& Int32.toUInt32 31)).toInt32 = 1 := by
      apply Int32.toBitVec_inj.mp
      apply BitVec.eq_of_toNat_eq
      rw [h2, Int32.toBitVec_neg, BitVec.toNat_neg, pk_tn (by omega), show (1 : Int32).toBitVec.toNat = 1 by decide]
      omega
    rw [e, e2]
    decide
theorem abs5 (y : Int32) : (5 < (if 0 ≤ y / 10000 then y / 10000 else 0 - y / 10000)) ↔ (5 < y / 10000 ∨ ¬ -5 ≤ y / 10000) := by
  have hd : (y / 10000).toInt = y.toInt.tdiv 10000 := by
    rw [Int32.toInt_div_of_ne_right _ _ (by decide)]
    rfl
  have hlo := Int32.le_toInt y
  have hhi := Int32.toInt_lt y
  have hb : -300000 < (y / 10000).toInt ∧ (y / 10000).toInt < 300000 := by
    rw [hd]
    rcases Int.le_total 0 y.toInt with h | h
    · rw [Int.tdiv_eq_ediv_of_nonneg h]
      omega
    · have e : y.toInt.tdiv 10000 = -((-y.toInt).tdiv 10000) := by rw [Int.neg_tdiv, Int.neg_neg]
      rw [e, Int.tdiv_eq_ediv_of_nonneg (by omega)]
      omega
  generalize y / 10000 = x at hb ⊢
  have z0 : (0 : Int32).toInt = 0 := by decide
  have z5 : (5 : Int32).toInt = 5 := by decide
  have zm : (-5 : Int32).toInt = -5 := by decide
  by_cases h : 0 ≤ x
  · rw [if_pos h]
    rw [Int32.le_iff_toInt_le, z0] at h
    rw [Int32.lt_iff_toInt_lt, Int32.le_iff_toInt_le, z5, zm]
    omega
  · rw [if_neg h]
    rw [Int32.le_iff_toInt_le, z0] at h
    have e : (0 - x).toInt = - x.toInt := by
      rw [Int32.toInt_sub, z0, Int.bmod_def]
      have : (0 - x.toInt) % ((2 ^ 32 : Nat) : Int) = - x.toInt := by
        rw [Int.emod_eq_of_lt (by omega) (by omega)]
        omega
      rw [this]
      split <;> omega
    rw [Int32.lt_iff_toInt_lt, Int32.lt_iff_toInt_lt, Int32.le_iff_toInt_le, z5, zm, e]
    omega
theorem fm_nn (n : Nat) (hn : n < 2000) : 0 ≤ nI n ^^^ nI 12 := by
  have h : ∀ n, n < 2000 → 0 ≤ nI n ^^^ nI 12 := by decide +kernel
  exact h n hn
theorem brk_0 {g : GS} {j : Nat} {a : Int32} (e : g 25 j = nI 0) : (0 : Int32) = bI (wbr g j a) := by
  have e : g 25 j = 0 := e
  simp [wbr, bI, e]
theorem brk_1y {g : GS} {j : Nat} {a : Int32} (e : g 25 j = nI 1) (h : ¬ (if 0 ≤ mvd (g 28 j) (g 6 (pb g (jp g j))) (a - g 33 j) then mvd (g 28 j) (g 6 (pb g (jp g j))) (a - g 33 j) else 0 - mvd (g 28 j) (g 6 (pb g (jp g j))) (a - g 33 j)) ≤ 5) : (1 : Int32) = bI (wbr g j a) := by
  have e : g 25 j = 1 := e
  have q := (abs5 _).mp (Int32.not_le.mp h)
  have e2 : wbr g j a = true := by
    rw [wbr, if_pos e]
    rcases q with q | q
    · simp [mvd, q]
    · simp [mvd, q]
  rw [e2]; rfl
theorem brk_1n {g : GS} {j : Nat} {a : Int32} (e : g 25 j = nI 1) (h : (if 0 ≤ mvd (g 28 j) (g 6 (pb g (jp g j))) (a - g 33 j) then mvd (g 28 j) (g 6 (pb g (jp g j))) (a - g 33 j) else 0 - mvd (g 28 j) (g 6 (pb g (jp g j))) (a - g 33 j)) ≤ 5) : (0 : Int32) = bI (wbr g j a) := by
  have e : g 25 j = 1 := e
  have q := fun z => Int32.not_lt.mpr h ((abs5 _).mpr z)
  have e2 : wbr g j a = false := by
    rw [wbr, if_pos e]
    have q1 : ¬ 5 < mvd (g 28 j) (g 6 (pb g (jp g j))) (a - g 33 j) := fun z => q (Or.inl z)
    have q2 : -5 ≤ mvd (g 28 j) (g 6 (pb g (jp g j))) (a - g 33 j) := by
      by_cases z : -5 ≤ mvd (g 28 j) (g 6 (pb g (jp g j))) (a - g 33 j)
      · exact z
      · exact (q (Or.inr z)).elim
    simp [q1, q2]
  rw [e2]; rfl
theorem co_nle {c : Nat} (h : c ≤ 6) : ¬ (4 + nI c : Int32) ≤ 0 := by
  rcases (show c = 0 ∨ c = 1 ∨ c = 2 ∨ c = 3 ∨ c = 4 ∨ c = 5 ∨ c = 6 by omega) with rfl | rfl | rfl | rfl | rfl | rfl | rfl <;> decide
