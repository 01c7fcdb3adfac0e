/-! ===== numbers of the law ===== -/
theorem bm_id {x : Int} (h1 : -2147483648 ≤ x) (h2 : x < 2147483648) : x.bmod (2 ^ 32) = x := by
  rw [show (2 ^ 32 : Nat) = 4294967296 by decide, Int.bmod_def]
  split <;> omega
theorem ti_add {a b : Int32} (h1 : -2147483648 ≤ a.toInt + b.toInt) (h2 : a.toInt + b.toInt < 2147483648) : (a + b).toInt = a.toInt + b.toInt := by
  rw [Int32.toInt_add]; exact bm_id h1 h2
theorem ti_sub {a b : Int32} (h1 : -2147483648 ≤ a.toInt - b.toInt) (h2 : a.toInt - b.toInt < 2147483648) : (a - b).toInt = a.toInt - b.toInt := by
  rw [Int32.toInt_sub]; exact bm_id h1 h2
theorem ti_mul {a b : Int32} (h1 : -2147483648 ≤ a.toInt * b.toInt) (h2 : a.toInt * b.toInt < 2147483648) : (a * b).toInt = a.toInt * b.toInt := by
  rw [Int32.toInt_mul]; exact bm_id h1 h2
theorem ti_div {a b : Int32} (hb : b ≠ -1) : (a / b).toInt = a.toInt.tdiv b.toInt := Int32.toInt_div_of_ne_right _ _ hb
theorem i_ext {a b : Int32} (h : a.toInt = b.toInt) : a = b := Int32.toInt_inj.mp h
theorem tz0 : (0 : Int32).toInt = 0 := by decide
/-- the law's up -/
def upN (v : Int32) (n : Nat) : Nat := v.toBitVec.toNat / 4 % n
theorem upN_lt (v : Int32) {n : Nat} (h : 0 < n) : upN v n < n := Nat.mod_lt _ h
theorem up_sh (v : Int32) : (v.toUInt32 >>> ((2 : Int32).toUInt32 &&& Int32.toUInt32 31)).toInt32 = nI (v.toBitVec.toNat / 4) := by
  have h := pk_ushr v 2 2 (by decide)
  apply Int32.toBitVec_inj.mp
  apply BitVec.eq_of_toNat_eq
  rw [h]
  have hl : v.toBitVec.toNat < 2 ^ 32 := v.toBitVec.isLt
  rw [pk_tn (by omega)]
theorem up_lt (v : Int32) : v.toBitVec.toNat / 4 < 2 ^ 31 := by
  have hl : v.toBitVec.toNat < 2 ^ 32 := v.toBitVec.isLt
  omega
/-- the law's cell -/
def celV (L : Nat) (xs : Nat → Int32) (k : Nat) : Int32 := if L = 0 then 0 else xs (k % L) + nI (31 * k)
/-- the law's moved -/
def lmv (sz sp d : Int32) : Int32 := sz * (2 + sp) * d / 10000
theorem lmv_eq (sz sp d : Int32) : lmv sz sp d = mvd sz sp d := by
  unfold lmv mvd
  rw [Int32.add_comm 2 sp]
/-- the law's behind -/
def lbh (wd we co : Int32) : Int32 := wd + (if (we - wd) / (4 + co) = 0 then (if we ≤ wd then (if wd ≤ we then 0 else -1) else 1) else (we - wd) / (4 + co))
theorem lbh_beh {a w : Nat} (ha : a < 2 ^ 30) (hw : w < 2 ^ 30) (co : Int32) : lbh (nI a) (nI w) co = beh (nI w) (nI a) co := by
  have h1 : (nI w - nI a ≤ 0) ↔ (nI w ≤ nI a) := by
    rw [Int32.le_iff_toInt_le, Int32.le_iff_toInt_le, pk_sub_toInt hw ha, nI_toInt (by omega), nI_toInt (by omega), tz0]
    omega
  have h2 : (0 ≤ nI w - nI a) ↔ (nI a ≤ nI w) := by
    rw [Int32.le_iff_toInt_le, Int32.le_iff_toInt_le, pk_sub_toInt hw ha, nI_toInt (by omega), nI_toInt (by omega), tz0]
    omega
  unfold lbh beh stp
  simp only [h1, h2]
/-- a moisture -/
def mz (x : Int32) : Prop := ∃ v : Nat, (40 ≤ v ∧ v ≤ 300) ∧ x = nI v
theorem beh_rng {x y : Int32} {c : Nat} (hx : mz x) (hy : mz y) (hc : c ≤ 6) : mz (beh x y (nI c)) := by
  obtain ⟨w, hw, rfl⟩ := hx
  obtain ⟨a, ha, rfl⟩ := hy
  have e4 : (4 : Int32) + nI c = nI (4 + c) := nI_add 4 c
  unfold beh stp
  rw [e4]
  by_cases h : a ≤ w
  · have hq : (w - a) / (4 + c) ≤ w - a := Nat.div_le_self _ _
    rw [pk_sub h, pk_div (by omega) (by omega) (by omega)]
    generalize (w - a) / (4 + c) = q at hq
    by_cases h0 : q = 0
    · subst h0
      rw [if_pos (show nI 0 = 0 from rfl)]
      by_cases h1 : w - a = 0
      · rw [h1, if_pos (by decide), if_pos (by decide)]
        exact ⟨a, ha, nI_add a 0⟩
      · rw [if_neg (nI_nle (by omega) (by omega))]
        exact ⟨a + 1, by omega, nI_1 a⟩
    · rw [if_neg (nI_ne0 (by omega) (by omega)), nI_add]
      exact ⟨a + q, by omega, rfl⟩
  · have hq : (a - w) / (4 + c) ≤ a - w := Nat.div_le_self _ _
    have hd : ((nI w - nI a) / nI (4 + c)).toInt = -(((a - w) / (4 + c) : Nat) : Int) := by
      rw [ti_div (by
        intro q
        have := congrArg Int32.toInt q
        rw [nI_toInt (by omega)] at this
        have hm : (-1 : Int32).toInt = -1 := by decide
        omega), pk_sub_toInt (by omega) (by omega), nI_toInt (by omega)]
      have e : (w : Int) - a = -((a - w : Nat) : Int) := by omega
      rw [e, Int.neg_tdiv, Int.tdiv_eq_ediv_of_nonneg (by omega), Int.natCast_ediv]
    generalize hqq : (a - w) / (4 + c) = q at hq hd
    generalize (nI w - nI a) / nI (4 + c) = x at hd
    have hs : (nI w - nI a).toInt = (w : Int) - a := pk_sub_toInt (by omega) (by omega)
    by_cases h0 : q = 0
    · have hx0 : x = 0 := i_ext (by rw [hd, tz0]; omega)
      have g1 : nI w - nI a ≤ 0 := by rw [Int32.le_iff_toInt_le, hs, tz0]; omega
      have g2 : ¬ 0 ≤ nI w - nI a := by rw [Int32.le_iff_toInt_le, hs, tz0]; omega
      rw [if_pos hx0, if_pos g1, if_neg g2]
      refine ⟨a - 1, by omega, ?_⟩
      obtain ⟨k, rfl⟩ : ∃ k, a = k + 1 := ⟨a - 1, by omega⟩
      rw [pk_m1, Nat.add_sub_cancel]
    · have hx0 : ¬ x = 0 := fun q2 => by rw [q2, tz0] at hd; omega
      rw [if_neg hx0]
      refine ⟨a - q, by omega, i_ext ?_⟩
      rw [ti_add (by rw [nI_toInt (by omega), hd]; omega) (by rw [nI_toInt (by omega), hd]; omega), nI_toInt (by omega), hd, nI_toInt (by omega)]
      omega
theorem mul_rng {m A B : Nat} {d : Int} (hm : m ≤ A) (h1 : -(B : Int) ≤ d) (h2 : d ≤ B) : -((A * B : Nat) : Int) ≤ (m : Int) * d ∧ (m : Int) * d ≤ ((A * B : Nat) : Int) := by
  rcases Int.le_total 0 d with h | h
  · obtain ⟨e, rfl⟩ := Int.eq_ofNat_of_zero_le h
    have := Nat.mul_le_mul hm (show e ≤ B by omega)
    have e2 : ((m * e : Nat) : Int) = (m : Int) * (e : Int) := Int.natCast_mul m e
    omega
  · obtain ⟨e, he⟩ := Int.eq_ofNat_of_zero_le (show 0 ≤ -d by omega)
    have hd : d = -(e : Int) := by omega
    subst hd
    have := Nat.mul_le_mul hm (show e ≤ B by omega)
    have e2 : ((m * e : Nat) : Int) = (m : Int) * (e : Int) := Int.natCast_mul m e
    rw [Int.mul_neg]
    omega
theorem tdiv_rng {x : Int} {B : Nat} (h1 : -((B * 10000 : Nat) : Int) ≤ x) (h2 : x ≤ ((B * 10000 : Nat) : Int)) : -(B : Int) ≤ x.tdiv 10000 ∧ x.tdiv 10000 ≤ B := by
  rcases Int.le_total 0 x with h | h
  · rw [Int.tdiv_eq_ediv_of_nonneg h]
    omega
  · have e : x.tdiv 10000 = -((-x).tdiv 10000) := by rw [Int.neg_tdiv, Int.neg_neg]
    rw [e, Int.tdiv_eq_ediv_of_nonneg (by omega)]
    omega
/-- how far a size can move -/
theorem mvd_rng {x y z k : Int32} (hx : ∃ n : Nat, n ≤ 6000 ∧ x = nI n) (hk : ∃ n : Nat, n ≤ 2 ∧ k = nI n) (hy : mz y) (hz : mz z) : -720 ≤ (mvd x k (y - z)).toInt ∧ (mvd x k (y - z)).toInt ≤ 720 := by
  obtain ⟨n, hn, rfl⟩ := hx
  obtain ⟨k, hk, rfl⟩ := hk
  obtain ⟨a, ha, rfl⟩ := hy
  obtain ⟨b, hb, rfl⟩ := hz
  have hs : (nI a - nI b).toInt = (a : Int) - b := pk_sub_toInt (by omega) (by omega)
  have hm : n * (k + 2) ≤ 24000 := Nat.le_trans (Nat.mul_le_mul hn (show k + 2 ≤ 4 by omega)) (by decide)
  have e1 : nI n * (nI k + 2) = nI (n * (k + 2)) := by rw [show (nI k + 2 : Int32) = nI (k + 2) from nI_add k 2, pk_mul]
  have hr := mul_rng (m := n * (k + 2)) (A := 24000) (B := 300) (d := (a : Int) - b) hm (by omega) (by omega)
  unfold mvd
  rw [e1, ti_div (by decide), ti_mul (by rw [hs, nI_toInt (by omega)]; omega) (by rw [hs, nI_toInt (by omega)]; omega), hs, nI_toInt (by omega), show (10000 : Int32).toInt = 10000 by decide]
  have := tdiv_rng (x := ((n * (k + 2) : Nat) : Int) * ((a : Int) - b)) (B := 720) (by omega) (by omega)
  omega
/-- the law's breaks, by its numbers -/
def lbr (kd sp sz tg gmo W me wd : Int32) : Bool := if kd = 1 then !decide (lmv sz sp (wd - gmo) * lmv sz sp (wd - gmo) ≤ 25) else decide (kd = 2) && !decide (sz ≤ W + lmv W sp (wd - me) + 2 * tg)
theorem sq25 {x : Int32} (h1 : -720 ≤ x.toInt) (h2 : x.toInt ≤ 720) : (!decide (x * x ≤ 25)) = (decide (5 < x) || !decide (-5 ≤ x)) := by
  have hr : 0 ≤ x.toInt * x.toInt ∧ x.toInt * x.toInt ≤ 518400 := by
    rcases Int.le_total 0 x.toInt with h | h
    · obtain ⟨e, he⟩ := Int.eq_ofNat_of_zero_le h
      rw [he]
      have := Nat.mul_le_mul (show e ≤ 720 by omega) (show e ≤ 720 by omega)
      have e2 : ((e * e : Nat) : Int) = (e : Int) * (e : Int) := Int.natCast_mul e e
      omega
    · obtain ⟨e, he⟩ := Int.eq_ofNat_of_zero_le (show 0 ≤ -x.toInt by omega)
      have hd : x.toInt = -(e : Int) := by omega
      rw [hd, Int.neg_mul_neg]
      have := Nat.mul_le_mul (show e ≤ 720 by omega) (show e ≤ 720 by omega)
      have e2 : ((e * e : Nat) : Int) = (e : Int) * (e : Int) := Int.natCast_mul e e
      omega
  have key : (x * x ≤ 25) ↔ (-5 ≤ x ∧ x ≤ 5) := by
    rw [Int32.le_iff_toInt_le, Int32.le_iff_toInt_le, Int32.le_iff_toInt_le, ti_mul (by omega) (by omega), show (25 : Int32).toInt = 25 by decide, show (5 : Int32).toInt = 5 by decide, show (-5 : Int32).toInt = -5 by decide]
    rcases Int.le_total 0 x.toInt with h | h
    · obtain ⟨e, he⟩ := Int.eq_ofNat_of_zero_le h
      rw [he]
      have e2 : ((e * e : Nat) : Int) = (e : Int) * (e : Int) := Int.natCast_mul e e
      constructor
      · intro q
        refine ⟨by omega, ?_⟩
        by_cases h5 : e ≤ 5
        · omega
        · have := Nat.mul_le_mul (show 6 ≤ e by omega) (show 6 ≤ e by omega)
          omega
      · rintro ⟨-, q⟩
        have := Nat.mul_le_mul (show e ≤ 5 by omega) (show e ≤ 5 by omega)
        omega
    · obtain ⟨e, he⟩ := Int.eq_ofNat_of_zero_le (show 0 ≤ -x.toInt by omega)
      have hd : x.toInt = -(e : Int) := by omega
      rw [hd, Int.neg_mul_neg]
      have e2 : ((e * e : Nat) : Int) = (e : Int) * (e : Int) := Int.natCast_mul e e
      constructor
      · intro q
        refine ⟨?_, by omega⟩
        by_cases h5 : e ≤ 5
        · omega
        · have := Nat.mul_le_mul (show 6 ≤ e by omega) (show 6 ≤ e by omega)
          omega
      · rintro ⟨q, -⟩
        have := Nat.mul_le_mul (show e ≤ 5 by omega) (show e ≤ 5 by omega)
        omega
  have k2 : (5 < x) ↔ ¬ x ≤ 5 := Int32.not_le.symm
  simp only [key, k2]
  by_cases p1 : -5 ≤ x <;> by_cases p2 : x ≤ 5 <;> simp [p1, p2]
theorem wid_rng {W sp m me : Int32} (hW : ∃ n : Nat, 1000 ≤ n ∧ n ≤ 5000 ∧ W = nI n) (hk : ∃ n : Nat, n ≤ 2 ∧ sp = nI n) (hm : mz m) (hme : mz me) : ∃ n : Nat, (280 ≤ n ∧ n ≤ 5720) ∧ W + mvd W sp (m - me) = nI n := by
  obtain ⟨n, h1, h2, rfl⟩ := hW
  have hr := mvd_rng (x := nI n) ⟨n, by omega, rfl⟩ hk hm hme
  refine ⟨((n : Int) + (mvd (nI n) sp (m - me)).toInt).toNat, ?_, i_ext ?_⟩
  · omega
  · rw [ti_add (by rw [nI_toInt (by omega)]; omega) (by rw [nI_toInt (by omega)]; omega), nI_toInt (by omega), nI_toInt (by omega)]
    omega
theorem lbr_eq {g : GS} {j : Nat} {sp wd : Int32} (hsp : g 6 (pb g (jp g j)) = sp) (hk : ∃ n : Nat, n ≤ 2 ∧ sp = nI n) (hs : ∃ n : Nat, n ≤ 6000 ∧ g 28 j = nI n) (ht : ∃ n : Nat, n ≤ 60 ∧ g 29 j = nI n) (hg : mz (g 33 j)) (hW : ∃ n : Nat, 1000 ≤ n ∧ n ≤ 5000 ∧ g 20 (jp g j) = nI n) (hme : mz (g 21 (jp g j))) (hwd : mz wd) :
    lbr (g 25 j) sp (g 28 j) (g 29 j) (g 33 j) (g 20 (jp g j)) (g 21 (jp g j)) wd = wbr g j wd := by
  subst hsp
  unfold lbr wbr wAt
  by_cases h1 : g 25 j = 1
  · rw [if_pos h1, if_pos h1, lmv_eq]
    have hr := mvd_rng hs hk hwd hg
    exact sq25 hr.1 hr.2
  · rw [if_neg h1, if_neg h1, lmv_eq]
    obtain ⟨n, hn, e⟩ := wid_rng hW hk hwd hme
    rw [e]
    obtain ⟨z, hz, ez⟩ := hs
    obtain ⟨t, h9, et⟩ := ht
    rw [ez, et]
    congr 1
    rw [show (2 : Int32) * nI t = nI (2 * t) from pk_mul 2 t, nI_add]
    have k1 : (nI z ≤ nI (n + 2 * t)) ↔ z ≤ n + 2 * t := nI_leI (by omega) (by omega)
    have k2 : (nI z - nI (2 * t) ≤ nI n) ↔ z ≤ n + 2 * t := by
      rw [Int32.le_iff_toInt_le, pk_sub_toInt (by omega) (by omega), nI_toInt (by omega)]
      omega
    simp only [k1, k2]
