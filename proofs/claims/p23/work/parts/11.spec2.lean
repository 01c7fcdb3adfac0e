/-! ===== each call's answer: (what is thrown, the answer, the state behind it) ===== -/
abbrev RS : Type := Int32 × Int32 × GS
def RR (x : RS) (r t : Int32) (g' : GS) : Prop := t = x.1 ∧ g' = x.2.2 ∧ (x.1 = 0 → r = x.2.1)
def bad (c : Int32) (g : GS) : RS := (c, 0, g)
abbrev tN (v : Int32) : Nat := v.toNatClampNeg
def isB (g : GS) (v : Int32) : Bool := wi v 0 (nI (nb g) - 1)
def isP (g : GS) (v : Int32) : Bool := wi v 0 (nI (np g) - 1)
def isJ (g : GS) (v : Int32) : Bool := wi v 0 (nI (nj g) - 1)
def sp_weather (g : GS) (a b : Int32) : RS := if wi a 0 11 = true then (if wi b 40 300 = true then (0, g 2 (tN a), gup g 2 (tN a) b) else bad 2 g) else bad 1 g
def sp_sharpen (g : GS) (e : Int32) : RS := if wi e 0 1 = true then (0, g 3 (tN e), gup g 3 (tN e) 100) else bad 1 g
def sp_clamps (g : GS) (c : Int32) : RS := if wi c 1 99 = true then (0, g 4 0, gup g 4 0 c) else bad 1 g
def sp_coat (g : GS) (p : Int32) : RS := if isP g p = true then (if g 23 (tN p) = 6 then bad 2 g else (0, g 23 (tN p) + 1, gup g 23 (tN p) (g 23 (tN p) + 1))) else bad 1 g
def mtc (g : GS) (p q : Nat) : Int32 := if pb g p = pb g q then 3 else if g 7 (pb g p) = g 7 (pb g q) then (if g 8 (pb g p) - g 8 (pb g q) = 1 then 2 else if g 8 (pb g p) - g 8 (pb g q) = -1 then 2 else 1) else 0
def sp_match (g : GS) (p q : Int32) : RS := if isP g p = true ∧ isP g q = true then (if p = q then bad 2 g else (0, mtc g (tN p) (tN q), g)) else bad 1 g
def sp_need (g : GS) (j q : Int32) : RS := if isJ g j = true ∧ isJ g q = true then (if q < j then (if g 31 (tN j) = 0 then (0, g 30 (tN j) ||| ((1 : Int32) <<< (q &&& 31)), gup g 30 (tN j) (g 30 (tN j) ||| ((1 : Int32) <<< (q &&& 31)))) else bad 3 g) else bad 2 g) else bad 1 g
def rsz (g : GS) (j : Nat) : Int32 := if g 25 j = 2 then wAt g (jp g j) (g 22 (jp g j)) + g 29 j else g 28 j
def sp_repair (g : GS) (j : Int32) : RS := if isJ g j = true then (if g 32 (tN j) = 0 then bad 2 g else (0, rsz g (tN j), gup (gup (gup g 32 (tN j) 0) 33 (tN j) (g 22 (jp g (tN j)))) 28 (tN j) (rsz g (tN j)))) else bad 1 g
def sp_ofBoard (g : GS) (b w : Int32) : RS := if isB g b = true then (if wi w 0 2 = true then (0, (if w = 0 then g 12 (tN b) else if w = 1 then bWd g (tN b) else nI (kn g (tN b))), g) else bad 2 g) else bad 1 g
def sp_ofPart (g : GS) (p w : Int32) : RS := if isP g p = true then (if wi w 0 4 = true then (0, (if w = 0 then nI (pb g (tN p)) else if w = 1 then wAt g (tN p) (g 22 (tN p)) else if w = 2 then g 22 (tN p) else if w = 3 then g 23 (tN p) else g 18 (tN p)), g) else bad 2 g) else bad 1 g
def sp_ofJoint (g : GS) (j w : Int32) : RS := if isJ g j = true then (if wi w 0 4 = true then (0, (if w = 0 then sta g (tN j) else if w = 1 then g 28 (tN j) else if w = 2 then g 30 (tN j) else if w = 3 then nI (jp g (tN j)) else nI (jo g (tN j))), g) else bad 2 g) else bad 1 g
def sp_month (g : GS) : RS := (0, nI (mo g), g)
def sp_knot (g : GS) (b f t : Int32) : RS :=
  if isB g b = true then (if wi f 0 (g 10 (tN b) - 1) = true ∧ wi t (f + 1) (g 10 (tN b)) = true then (if kn g (tN b) = 4 then bad 3 g else if anyN (np g) (tkn g (tN b) f t) = true then bad 3 g else
    (0, nI (kn g (tN b) + 1), gup (gup (gup g 14 (4 * tN b + kn g (tN b)) f) 15 (4 * tN b + kn g (tN b)) t) 13 (tN b) (nI (kn g (tN b) + 1)))) else bad 2 g) else bad 1 g
def cutok (g : GS) (b : Nat) (f l w hid : Int32) : Bool :=
  (decide (np g < 40) && (!decide (g 10 b < f + l) && (!anyN (np g) (tkn g b f (f + l)) && !decide (bWd g b < w)))) && ((!decide (hid = 0) || !anyN (kn g b) (knt g b f (f + l))) && !decide (g 3 0 < hd (g 6 b)))
def cutst (g : GS) (b : Nat) (f l w : Int32) : GS :=
  gup (gup (gup (gup (gup (gup (gup (gup g 3 0 (g 3 0 - hd (g 6 b))) 17 (np g) (nI b)) 18 (np g) f) 19 (np g) l) 20 (np g) w) 21 (np g) (g 12 b)) 22 (np g) (g 12 b)) 16 0 (nI (np g + 1))
def sp_cut (g : GS) (b f l w hid : Int32) : RS :=
  if isB g b = true then (if wi f 0 30000 = true ∧ wi l 10 30000 = true ∧ wi w 10 6000 = true then (if cutok g (tN b) f l w hid = true then (0, nI (np g), cutst g (tN b) f l w) else bad 3 g) else bad 2 g) else bad 1 g
theorem wi_nat {v : Int32} {n : Nat} (hn : n < 2 ^ 30) (h : wi v 0 (nI n) = true) : ∃ j, j ≤ n ∧ v = nI j := by
  simp only [wi, Bool.and_eq_true, Bool.not_eq_true', decide_eq_false_iff_not] at h
  obtain ⟨j, hj, rfl⟩ := nI_of h.1
  refine ⟨j, ?_, rfl⟩
  have := h.2
  rw [nI_ltI (by omega) hj] at this
  omega
theorem wi_lt {v : Int32} {n : Nat} (hn : n ≤ 1000) (h : wi v 0 (nI n - 1) = true) : ∃ j, j < n ∧ v = nI j := by
  cases n with
  | zero =>
    simp only [wi, Bool.and_eq_true, Bool.not_eq_true', decide_eq_false_iff_not] at h
    obtain ⟨j, hj, rfl⟩ := nI_of h.1
    exfalso
    apply h.2
    rw [show nI 0 - 1 = (-1 : Int32) by decide, Int32.lt_iff_toInt_lt, nI_toInt hj]
    have : (-1 : Int32).toInt = -1 := by decide
    omega
  | succ n =>
    rw [show (1 : Int32) = nI 1 from rfl, pk_sub (by omega), Nat.add_sub_cancel] at h
    obtain ⟨j, h1, h2⟩ := wi_nat (by omega) h
    exact ⟨j, by omega, h2⟩
def tgok (kd tg : Int32) : Bool := if kd = 2 then wi tg 1 200 else decide (tg = 0)
def jst (g : GS) (kd : Int32) (p q : Nat) (sz tg : Int32) : GS :=
  gup (gup (gup (gup (gup (gup (gup g 3 1 (g 3 1 - hd (g 6 (pb g p)))) 25 (nj g) kd) 26 (nj g) (nI p)) 27 (nj g) (nI q)) 28 (nj g) sz) 29 (nj g) tg) 24 0 (nI (nj g + 1))
def sp_joint (g : GS) (kd p q sz tg : Int32) : RS :=
  if isP g p = true ∧ isP g q = true then (if (wi kd 0 2 = true ∧ wi sz 10 30000 = true ∧ tgok kd tg = true) ∧ ¬ p = q then (if nj g = 30 then bad 3 g else if fit g kd (tN p) sz tg = true then (if hd (g 6 (pb g (tN p))) ≤ g 3 1 then (0, nI (nj g), jst g kd (tN p) (tN q) sz tg) else bad 3 g) else bad 3 g) else bad 2 g) else bad 1 g
def clash (g : GS) (f p s : Int32) (b : Nat) : Bool := decide (g 7 b = f) && (decide (g 8 b = p) || !decide (g 6 b = s))
def bst (g : GS) (s f p w l m : Int32) : GS :=
  gup (gup (gup (gup (gup (gup (gup (gup g 6 (nb g) s) 7 (nb g) f) 8 (nb g) p) 9 (nb g) w) 10 (nb g) l) 11 (nb g) m) 12 (nb g) m) 5 0 (nI (nb g + 1))
def sp_board (g : GS) (s f p w l m : Int32) : RS :=
  if (wi s 0 3 = true ∧ wi f 0 9 = true ∧ wi p 0 20 = true ∧ wi w 100 6000 = true) ∧ wi l 100 30000 = true ∧ wi m 40 300 = true then (if nb g = 20 then bad 2 g else if anyN (nb g) (clash g f p s) = true then bad 2 g else (0, nI (nb g), bst g s f p w l m)) else bad 1 g
theorem anyN_mono {n k : Nat} {f : Nat → Bool} (h : anyN n f = true) (hk : n ≤ k) : anyN k f = true := by
  obtain ⟨i, h1, h2⟩ := anyN_iff.mp h
  exact anyN_iff.mpr ⟨i, by omega, h2⟩
theorem OKg.rep {g : GS} (h : OKg g) {j : Nat} (hj : j < nj g) (v : Int32) : OKg (gup (gup g 32 j 0) 33 j v) := by
  refine ⟨h.1, h.2.1, h.2.2.1, fun i hi => ?_, h.2.2.2.2.1, h.2.2.2.2.2.1, fun i hi => ?_⟩
  · have q := h.2.2.2.1 i hi
    refine ⟨q.1, q.2.1, q.2.2.1, q.2.2.2.1, ?_⟩
    by_cases e : i = j
    · subst e; left; simp [gup]
    · have e2 : gup (gup g 32 j 0) 33 j v 32 i = g 32 i := by simp [gup, e]
      rw [e2]; exact q.2.2.2.2
  · have q := h.2.2.2.2.2.2 i hi
    refine ⟨q.1, q.2.1, ?_, ?_⟩
    · by_cases e : i = j
      · subst e; simp [gup]
      · have e2 : gup (gup g 32 j 0) 33 j v 32 i = g 32 i := by simp [gup, e]
        rw [e2]; exact q.2.2.1
    · by_cases e : i = j
      · have hi2 : nj g ≤ i := hi
        omega
      · have e2 : gup (gup g 32 j 0) 33 j v 33 i = g 33 i := by simp [gup, e]
        rw [e2]; exact q.2.2.2
theorem wik1 : wi 0 0 2 = true := by decide
theorem wik2 : wi 1 0 2 = true := by decide
theorem wik3 : wi 0 0 4 = true := by decide
theorem wik4 : wi 1 0 4 = true := by decide
theorem wik5 : wi 2 0 4 = true := by decide
theorem wik6 : wi 3 0 4 = true := by decide
