/-! ===== Int32 by its bits: bt x i ===== -/
def bt (x : Int32) (i : Nat) : Bool := x.toBitVec.getLsbD i
theorem b_ext {x y : Int32} (h : ∀ i, i < 32 → bt x i = bt y i) : x = y := Int32.toBitVec_inj.mp (BitVec.eq_of_getLsbD_eq (fun i hi => h i hi))
theorem b_or (x y : Int32) (i : Nat) : bt (x ||| y) i = (bt x i || bt y i) := by unfold bt; rw [Int32.toBitVec_or, BitVec.getLsbD_or]
theorem b_and (x y : Int32) (i : Nat) : bt (x &&& y) i = (bt x i && bt y i) := by unfold bt; rw [Int32.toBitVec_and, BitVec.getLsbD_and]
theorem b_xor (x y : Int32) (i : Nat) : bt (x ^^^ y) i = (bt x i ^^ bt y i) := by unfold bt; rw [Int32.toBitVec_xor, BitVec.getLsbD_xor]
theorem b_big {x : Int32} {i : Nat} (h : 32 ≤ i) : bt x i = false := BitVec.getLsbD_of_ge _ _ h
theorem b_m1 : ∀ i, i < 32 → bt (-1) i = true := by decide +kernel
theorem b_0 (i : Nat) : bt 0 i = false := BitVec.getLsbD_zero
theorem s_l : ∀ n, n < 32 → ((nI n &&& 31).toBitVec.smod 32).toNat = n := by decide +kernel
theorem s_u : ∀ n, n < 32 → (((nI n).toUInt32 &&& Int32.toUInt32 31).toBitVec % 32).toNat = n := by decide +kernel
theorem b_shl (n : Nat) (hn : n < 32) (x : Int32) {i : Nat} (hi : i < 32) : bt (x <<< (nI n &&& 31)) i = (decide (n ≤ i) && bt x (i - n)) := by
  unfold bt
  rw [Int32.toBitVec_shiftLeft]
  show (x.toBitVec <<< ((nI n &&& 31).toBitVec.smod 32).toNat).getLsbD i = _
  rw [s_l n hn, BitVec.getLsbD_shiftLeft]
  rcases Nat.lt_or_ge i n with h | h
  · simp [h, Nat.not_le.mpr h]
  · simp [hi, h, Nat.not_lt.mpr h]
theorem b_ushr (n : Nat) (hn : n < 32) (x : Int32) (i : Nat) : bt ((x.toUInt32 >>> ((nI n).toUInt32 &&& Int32.toUInt32 31)).toInt32) i = bt x (n + i) := by
  show (x.toUInt32 >>> ((nI n).toUInt32 &&& Int32.toUInt32 31)).toBitVec.getLsbD i = x.toUInt32.toBitVec.getLsbD (n + i)
  rw [UInt32.toBitVec_shiftRight]
  show (x.toUInt32.toBitVec >>> (((nI n).toUInt32 &&& Int32.toUInt32 31).toBitVec % 32).toNat).getLsbD i = _
  rw [s_u n hn, BitVec.getLsbD_ushiftRight]
theorem b_sshr (n : Nat) (hn : n < 32) (x : Int32) {i : Nat} (hi : i < 32) : bt (x >>> (nI n &&& 31)) i = if n + i < 32 then bt x (n + i) else bt x 31 := by
  unfold bt
  rw [Int32.toBitVec_shiftRight]
  show (x.toBitVec.sshiftRight ((nI n &&& 31).toBitVec.smod 32).toNat).getLsbD i = _
  rw [s_l n hn, BitVec.getLsbD_sshiftRight, BitVec.msb_eq_getLsbD_last]
  simp [hi]
theorem b_1 : ∀ i, i < 32 → bt 1 i = decide (i = 0) := by decide +kernel
theorem hs_bt (set : Int32) {j : Nat} (hj : j < 32) : hsB set j = btS set j := by
  have h1 : (set &&& ((1 : Int32) <<< (nI j &&& 31)) = 0) ↔ bt set j = false := by
    constructor
    · intro h
      have q := congrArg (fun x => bt x j) h
      simp only [b_and, b_shl j hj 1 hj, b_0, Nat.sub_self, b_1 0 (by omega)] at q
      simpa using q
    · intro h
      apply b_ext
      intro i hi
      rw [b_and, b_shl j hj 1 hi, b_0]
      by_cases e : i = j
      · subst e; rw [h]; rfl
      · by_cases e2 : j ≤ i
        · rw [b_1 (i - j) (by omega), decide_eq_false (show ¬ i - j = 0 by omega)]
          simp
        · simp [e2]
  have h2 : ((set >>> (nI j &&& 31)) &&& 1 = 1) ↔ bt set j = true := by
    constructor
    · intro h
      have q := congrArg (fun x => bt x 0) h
      simp only [b_and, b_sshr j hj set (show 0 < 32 by omega), b_1 0 (by omega), Nat.add_zero, if_pos hj] at q
      simpa using q
    · intro h
      apply b_ext
      intro i hi
      rw [b_and, b_sshr j hj set hi, b_1 i hi]
      by_cases e : i = 0
      · subst e; simp [hj, h]
      · simp [e]
  unfold hsB btS
  by_cases h : bt set j = true
  · have q1 : ¬ set &&& ((1 : Int32) <<< (nI j &&& 31)) = 0 := fun z => by rw [h1.mp z] at h; cases h
    rw [decide_eq_false q1, decide_eq_true (h2.mpr h)]; rfl
  · have hf : bt set j = false := by cases hh : bt set j with | true => exact absurd hh h | false => rfl
    rw [decide_eq_true (h1.mpr hf), decide_eq_false (fun z => h (h2.mp z))]; rfl
/-! what is taken of a board, and its knots, as the reference sees them -/
theorem tk_any {g : GS} {i : Nat} {f t : Int32} : anyN (ll g (4 + 2 * i)) (fun k => tch (spf g (4 + 2 * i) k) (spt g (4 + 2 * i) k) f t) = anyN (np g) (tkn g i f t) := by
  have e3 : ll g (4 + 2 * i) = (tk g i).length := by
    unfold ll; rw [if_neg (by omega), if_neg (by omega), if_neg (by omega), if_neg (by omega), show (4 + 2 * i - 4) / 2 = i by omega]
  have e4 : ∀ k, spf g (4 + 2 * i) k = g 18 ((tk g i).getD k 0) - 30 := fun k => by
    unfold spf; rw [if_neg (by omega), show (4 + 2 * i - 4) / 2 = i by omega]
  have e5 : ∀ k, spt g (4 + 2 * i) k = g 18 ((tk g i).getD k 0) + g 19 ((tk g i).getD k 0) + 30 := fun k => by
    unfold spt; rw [if_neg (by omega), show (4 + 2 * i - 4) / 2 = i by omega]
  have key : anyN (ll g (4 + 2 * i)) (fun k => tch (spf g (4 + 2 * i) k) (spt g (4 + 2 * i) k) f t) = true ↔ anyN (np g) (tkn g i f t) = true := by
    rw [anyN_iff, anyN_iff]
    constructor
    · rintro ⟨k, hk, h⟩
      rw [e3] at hk
      have hm : (tk g i).getD k 0 ∈ tk g i := by
        rw [List.getD_eq_getElem?_getD, List.getElem?_eq_getElem hk]
        exact List.getElem_mem hk
      refine ⟨(tk g i).getD k 0, tk_lt hk, ?_⟩
      have hb := (List.mem_filter.mp hm).2
      simp only [e4, e5, tch, Bool.and_eq_true] at h
      simp only [tkn, Bool.and_eq_true, decide_eq_true_eq]
      exact ⟨by simpa using hb, h.2, h.1⟩
    · rintro ⟨p, hp, h⟩
      simp only [tkn, Bool.and_eq_true, decide_eq_true_eq] at h
      have hm : p ∈ tk g i := List.mem_filter.mpr ⟨List.mem_range.mpr hp, by simpa using h.1⟩
      obtain ⟨k, hk, he⟩ := List.getElem_of_mem hm
      refine ⟨k, by rw [e3]; exact hk, ?_⟩
      have eg : (tk g i).getD k 0 = p := by rw [List.getD_eq_getElem?_getD, List.getElem?_eq_getElem hk]; exact he
      simp only [e4, e5, eg, tch, Bool.and_eq_true]
      exact ⟨h.2.2, h.2.1⟩
  cases h1 : anyN (ll g (4 + 2 * i)) (fun k => tch (spf g (4 + 2 * i) k) (spt g (4 + 2 * i) k) f t) with
  | true => exact (key.mp h1).symm
  | false =>
    cases h2 : anyN (np g) (tkn g i f t) with
    | false => rfl
    | true => rw [key.mpr h2] at h1; cases h1
theorem anyN_congr {n : Nat} {f f' : Nat → Bool} (h : ∀ i, i < n → f i = f' i) : anyN n f = anyN n f' := by
  induction n with
  | zero => rfl
  | succ n ih => rw [anyN, anyN, ih (fun i hi => h i (by omega)), h n (by omega)]
theorem kn_any {g : GS} {i : Nat} {f t : Int32} : anyN (ll g (3 + 2 * i)) (fun k => tch (spf g (3 + 2 * i) k) (spt g (3 + 2 * i) k) f t) = anyN (kn g i) (knt g i f t) := by
  have e3 : ll g (3 + 2 * i) = kn g i := by
    unfold ll; rw [if_neg (by omega), if_neg (by omega), if_neg (by omega), if_pos (by omega), show (3 + 2 * i - 3) / 2 = i by omega]
  rw [e3]
  refine anyN_congr fun k _ => ?_
  unfold spf spt tch knt
  rw [if_pos (by omega), if_pos (by omega), show (3 + 2 * i - 3) / 2 = i by omega, Bool.and_comm]
def hrm (g : GS) (i : Nat) (f l : Int32) : Bool := !decide (g 10 i < f + l) && !anyN (np g) (tkn g i f (f + l))
def icl (g : GS) (i : Nat) (f l : Int32) : Bool := hrm g i f l && !anyN (kn g i) (knt g i f (f + l))
def ebN (g : GS) (t i : Nat) (l best : Int32) : Nat → Int32
  | 0 => best
  | k + 1 => if ebN g t i l best k = -1 ∨ spt g t k < ebN g t i l best k then (if icl g i (spt g t k) l = true then spt g t k else ebN g t i l best k) else ebN g t i l best k
def mbk (g : GS) (j : Nat) : Nat → Nat → Int32
  | 0, _ => -1
  | n + 1, i => if wbr g j (wdk g (jp g j) (i + 1)) = true then nI (i + 1) else mbk g j n (i + 1)
theorem myN_mono {g : GS} {set dn : Int32} {i k : Nat} (h : myN g set dn i = false) (hk : i ≤ k) : myN g set dn k = false := by
  induction k with
  | zero => rw [show i = 0 by omega] at h; exact h
  | succ k ih =>
    by_cases e : i = k + 1
    · rw [← e]; exact h
    · rw [myN, ih (by omega)]
      simp
theorem i_gt9 {a b : Int32} (h : ¬ b ≤ a) : a < b := Int32.not_le.mp h
theorem eb_y {g : GS} {t i k : Nat} {l best : Int32} {b : Bool} (h : ebN g t i l best k = -1 ∨ spt g t k < ebN g t i l best k) (hb : icl g i (spt g t k) l = b) : (if b = true then spt g t k else ebN g t i l best k) = ebN g t i l best (k + 1) := by
  rw [ebN, if_pos h, hb]
theorem eb_n {g : GS} {t i k : Nat} {l best : Int32} (h1 : ¬ ebN g t i l best k = -1) (h2 : ebN g t i l best k ≤ spt g t k) : ebN g t i l best k = ebN g t i l best (k + 1) := by
  rw [ebN, if_neg]
  rintro (h | h)
  · exact h1 h
  · exact Int32.not_lt.mpr h2 h
