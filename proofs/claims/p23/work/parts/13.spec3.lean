/-! ===== months, gluing, looking ahead ===== -/
theorem wi_rng {v : Int32} {a b : Nat} (ha : a < 2 ^ 30) (hb : b < 2 ^ 30) (h : wi v (nI a) (nI b) = true) : ∃ j, a ≤ j ∧ j ≤ b ∧ v = nI j := by
  simp only [wi, Bool.and_eq_true, Bool.not_eq_true', decide_eq_false_iff_not] at h
  have h0 : ¬ v < 0 := fun q => h.1 (by
    rw [Int32.lt_iff_toInt_lt] at q ⊢
    rw [nI_toInt (by omega)]
    have : (0 : Int32).toInt = 0 := by decide
    omega)
  obtain ⟨j, hj, rfl⟩ := nI_of h0
  refine ⟨j, ?_, ?_, rfl⟩
  · have := h.1
    rw [nI_ltI hj (by omega)] at this
    omega
  · have := h.2
    rw [nI_ltI (by omega) hj] at this
    omega
def clr (g : GS) (b len i : Nat) : Bool := !anyN (np g) (tkn g b (nI i) (nI (i + len))) && !anyN (kn g b) (knt g b (nI i) (nI (i + len)))
def cfs (f : Nat → Bool) : Nat → Nat → Int32
  | 0, _ => -1
  | n + 1, i => if f i = true then nI i else cfs f n (i + 1)
def sp_clearFrom (g : GS) (b l : Int32) : RS := if isB g b = true then (if wi l 10 30000 = true then (0, cfs (clr g (tN b) (tN l)) (tN (g 10 (tN b)) + 1 - tN l) 0, g) else bad 2 g) else bad 1 g
def brk (G : GS) (j : Nat) : Bool := !decide (G 31 j = 0) && (decide (G 32 j = 0) && wbr G j (beh (wea G (mo G)) (G 22 (jp G j)) (G 23 (jp G j))))
/-- within a month: a boards, b parts and c joints are through -/
def pst (G : GS) (a b c : Nat) : GS := fun k j => if k = 12 ∧ j < a then beh (wea G (mo G)) (G 12 j) 0 else if k = 22 ∧ j < b then beh (wea G (mo G)) (G 22 j) (G 23 j) else if k = 32 ∧ j < c ∧ brk G j = true then 1 else G k j
def cntN : Nat → (Nat → Bool) → Nat
  | 0, _ => 0
  | n + 1, f => cntN n f + if f n = true then 1 else 0
def mst (G : GS) : GS := gup (pst G (nb G) (np G) (nj G)) 1 0 (nI (mo G + 1))
def pas : Nat → GS → GS
  | 0, g => g
  | n + 1, g => mst (pas n g)
def pct : Nat → GS → Nat
  | 0, _ => 0
  | n + 1, g => pct n g + cntN (nj (pas n g)) (brk (pas n g))
def sp_pass (g : GS) (m : Int32) : RS := if wi m 1 24 = true then (if 1200 < mo g + tN m then bad 2 g else (0, nI (pct (tN m) g), pas (tN m) g)) else bad 1 g
theorem pst_0 (G : GS) : pst G 0 0 0 = G := by funext k j; simp [pst]
theorem pst_a (G : GS) (i : Nat) : gup (pst G i 0 0) 12 i (beh (wea G (mo G)) (G 12 i) 0) = pst G (i + 1) 0 0 := by
  funext k j
  by_cases hk : k = 12
  · subst hk
    by_cases hj : j = i
    · subst hj; simp [gup, pst]
    · have e : (j < i + 1) = (j < i) := by apply propext; omega
      simp [gup, pst, hj, e]
  · simp [gup, pst, hk]
theorem pst_b (G : GS) (a i : Nat) : gup (pst G a i 0) 22 i (beh (wea G (mo G)) (G 22 i) (G 23 i)) = pst G a (i + 1) 0 := by
  funext k j
  by_cases hk : k = 22
  · subst hk
    by_cases hj : j = i
    · subst hj; simp [gup, pst]
    · have e : (j < i + 1) = (j < i) := by apply propext; omega
      simp [gup, pst, hj, e]
  · simp [gup, pst, hk]
theorem pst_c (G : GS) (a b i : Nat) (h : brk G i = true) : gup (pst G a b i) 32 i 1 = pst G a b (i + 1) := by
  funext k j
  by_cases hk : k = 32
  · subst hk
    by_cases hj : j = i
    · subst hj; simp [gup, pst, h]
    · have e : (j < i + 1) = (j < i) := by apply propext; omega
      simp [gup, pst, hj, e]
  · simp [gup, pst, hk]
theorem pst_n (G : GS) (a b i : Nat) (h : brk G i = false) : pst G a b i = pst G a b (i + 1) := by
  funext k j
  by_cases hk : k = 32
  · subst hk
    by_cases hj : j = i
    · subst hj; simp [pst, h]
    · have e : (j < i + 1) = (j < i) := by apply propext; omega
      simp [pst, e]
  · simp [pst, hk]
theorem OKg_pst {G : GS} (h : OKg G) (a b : Nat) {c : Nat} (hc : c ≤ nj G) : OKg (pst G a b c) := by
  refine ⟨h.1, h.2.1, h.2.2.1, fun i hi => ?_, h.2.2.2.2.1, h.2.2.2.2.2.1, fun i hi => ?_⟩
  · have q := h.2.2.2.1 i hi
    refine ⟨q.1, q.2.1, q.2.2.1, q.2.2.2.1, ?_⟩
    by_cases e : i < c ∧ brk G i = true
    · right
      refine ⟨by simp [pst, e], ?_⟩
      have e2 := e.2
      simp only [brk, Bool.and_eq_true, Bool.not_eq_true', decide_eq_false_iff_not] at e2
      exact q.2.2.2.1.resolve_left e2.1
    · have e2 : pst G a b c 32 i = G 32 i := by simp [pst, e]
      rw [e2]; exact q.2.2.2.2
  · have q := h.2.2.2.2.2.2 i hi
    have hi2 : nj G ≤ i := hi
    have e2 : pst G a b c 32 i = G 32 i := by simp [pst, show ¬ i < c by omega]
    exact ⟨q.1, q.2.1, by rw [e2]; exact q.2.2.1, q.2.2.2⟩
theorem OKg_mst {G : GS} (h : OKg G) (hm : mo G < 1200) : OKg (mst G) ∧ mo (mst G) = mo G + 1 := by
  have q := OKg_pst h (nb G) (np G) (Nat.le_refl (nj G))
  have e : mo (mst G) = mo G + 1 := by
    show (mst G 1 0).toNatClampNeg = mo G + 1
    rw [show mst G 1 0 = nI (mo G + 1) from gup_s]
    exact nI_clamp (by omega)
  refine ⟨⟨⟨q.1.1, q.1.2.1, q.1.2.2.1, ?_, ?_⟩, q.2⟩, e⟩
  · rw [e]; exact gup_s
  · omega
theorem OKg_pas {g : GS} (h : OKg g) : ∀ (n : Nat), mo g + n ≤ 1200 → OKg (pas n g) ∧ mo (pas n g) = mo g + n
  | 0, _ => ⟨h, rfl⟩
  | n + 1, hn => by
    obtain ⟨h1, h2⟩ := OKg_pas h n (by omega)
    obtain ⟨h3, h4⟩ := OKg_mst h1 (by omega)
    exact ⟨h3, by show mo (mst (pas n g)) = _; omega⟩
theorem pct_le {g : GS} : ∀ (n : Nat), pct n g ≤ n * 1000000 ∨ True := fun _ => Or.inr trivial
/-! gluing -/
def btS (set : Int32) (j : Nat) : Bool := decide ((set >>> (nI j &&& 31)) &&& 1 = 1)
def dnN (g : GS) (set : Int32) : Nat → Int32
  | 0 => set
  | j + 1 => if g 31 j = 0 then dnN g set j else dnN g set j ||| ((1 : Int32) <<< (nI j &&& 31))
def miN (g : GS) (set : Int32) : Nat → Int32
  | 0 => 0
  | j + 1 => if btS set j = true then miN g set j + (3 + g 28 j / 1000) else miN g set j
def taN (g : GS) (set : Int32) : Nat → Int32
  | 0 => 0
  | j + 1 => if btS set j = true then taN g set j + (1 + g 28 j / 500) else taN g set j
def ndz (a b : Int32) : Bool := decide (a &&& (b ^^^ -1) = 0)
def myN (g : GS) (set dn : Int32) : Nat → Bool
  | 0 => true
  | j + 1 => if btS set j = true then myN g set dn j && (decide (g 31 j = 0) && ndz (g 30 j) dn) else myN g set dn j
def gst (g : GS) (set : Int32) (i : Nat) : GS := fun k j => if k = 31 ∧ j < i ∧ btS set j = true then 1 else if k = 33 ∧ j < i ∧ btS set j = true then g 22 (jp g j) else g k j
def sp_glue (g : GS) (set : Int32) : RS :=
  if set < 1 then bad 1 g else if (set >>> (nI (nj g) &&& 31)) = 0 then
    (if myN g set (dnN g set (nj g)) (nj g) = true then (if 30 < miN g set (nj g) then bad 2 g else if taN g set (nj g) ≤ g 4 0 then (0, miN g set (nj g), gst g set (nj g)) else bad 2 g) else bad 2 g)
  else bad 1 g
theorem gst_0 (g : GS) (set : Int32) : gst g set 0 = g := by funext k j; simp [gst]
theorem gst_s (g : GS) (set : Int32) (i : Nat) (h : btS set i = true) : gup (gup (gst g set i) 31 i 1) 33 i (g 22 (jp g i)) = gst g set (i + 1) := by
  funext k j
  by_cases hj : j = i
  · subst hj
    by_cases h1 : k = 31
    · subst h1; simp [gup, gst, h]
    · by_cases h2 : k = 33
      · subst h2; simp [gup, gst, h]
      · simp [gup, gst, h1, h2]
  · have e : (j < i + 1) = (j < i) := by apply propext; omega
    simp [gup, gst, hj, e]
theorem gst_n (g : GS) (set : Int32) (i : Nat) (h : btS set i = false) : gst g set i = gst g set (i + 1) := by
  funext k j
  by_cases hj : j = i
  · subst hj; simp [gst, h]
  · have e : (j < i + 1) = (j < i) := by apply propext; omega
    simp [gst, e]
/-! looking ahead -/
def wdk (g : GS) (p : Nat) : Nat → Int32
  | 0 => g 22 p
  | k + 1 => beh (wea g (mo g + k)) (wdk g p k) (g 23 p)
def hld (g : GS) (j : Nat) : Bool := !decide (g 31 j = 0) && decide (g 32 j = 0)
def bkk (g : GS) (j : Nat) : Nat → Nat
  | 0 => 0
  | k + 1 => if hld g j = true ∧ bkk g j k = 0 ∧ wbr g j (wdk g (jp g j) (k + 1)) = true then k + 1 else bkk g j k
def setN : Nat → (Nat → Bool) → Int32
  | 0, _ => 0
  | j + 1, f => if f j = true then setN j f ||| ((1 : Int32) <<< (nI j &&& 31)) else setN j f
def sp_through (g : GS) (m : Int32) : RS := if wi m 1 24 = true then (0, setN (nj g) (fun j => decide (0 < bkk g j (tN m))), g) else bad 1 g
def sp_breaksIn (g : GS) (j m : Int32) : RS := if isJ g j = true then (if wi m 1 24 = true then (if hld g (tN j) = true then (0, (if 0 < bkk g (tN j) (tN m) then nI (bkk g (tN j) (tN m)) else -1), g) else bad 3 g) else bad 2 g) else bad 1 g
theorem bkk_le (g : GS) (j : Nat) : ∀ k, bkk g j k ≤ k
  | 0 => Nat.le_refl 0
  | k + 1 => by
    have := bkk_le g j k
    unfold bkk
    split <;> omega
section GMC
variable {p : Program} {l : Launch} {e : Env} {R : Room} {s : State} {m : MethodId} {args : Array Value} {below : List Frame} {meth : Method} {c : Code} {H : Heap} {locs : List Loc} {cells slots : Nat} {Q : State → Prop}
variable {cc : ByteArray} {pc nL : Nat} {ls : Array Slot} {rest stk : List Value} {z : ZE} {own : String} {w : WG} {g1 g : GS} {o : Nat → Int64} {t : Int32} {A B : Nat → Int32}
variable {y x0 : MethodName} {bytes : ByteArray} {maxL n index : Nat} {ret : Option FieldType} {ws : List Cond} {rm : Room} {P : Heap → Prop} {C owner host : String} {b : Addr} {As : List Value}
end GMC
theorem la_0 {A : Nat → Int32} {i : Nat} {f : Nat → Int32} (h : ∀ p, p < i → A p = f p) : ∀ p, p < i + 1 → upd A i (f i) p = f p := fun p hp => by
  by_cases e : p = i
  · simp [upd, e]
  · simp only [upd, e, if_false]; exact h p (by omega)
theorem la_a {A : Nat → Int32} {i n : Nat} {f f' : Nat → Int32} {v : Int32} (h : ∀ p, p < n → A p = if p < i then f' p else f p) (hv : v = f' i) : ∀ p, p < n → upd A i v p = if p < i + 1 then f' p else f p := fun p hp => by
  by_cases e : p = i
  · subst e; simp [upd, hv]
  · have e2 : (p < i + 1) = (p < i) := by apply propext; omega
    simp only [upd, e, if_false, e2]; exact h p hp
theorem la_y {g : GS} {j k : Nat} {wd : Int32} (h1 : ¬ g 31 j = 0) (h2 : g 32 j = 0) (h3 : bkk g j k = 0) (hw : wd = wdk g (jp g j) (k + 1)) (h4 : wbr g j wd = true) : nI (k + 1) = nI (bkk g j (k + 1)) := by
  subst hw
  simp [bkk, hld, h1, h2, h3, h4]
theorem la_n {g : GS} {j k : Nat} (h : g 31 j = 0 ∨ ¬ g 32 j = 0 ∨ ¬ bkk g j k = 0 ∨ wbr g j (wdk g (jp g j) (k + 1)) = false) : nI (bkk g j k) = nI (bkk g j (k + 1)) := by
  rw [bkk, if_neg]
  rintro ⟨h1, h2, h3⟩
  simp only [hld, Bool.and_eq_true, Bool.not_eq_true', decide_eq_false_iff_not, decide_eq_true_eq] at h1
  rcases h with h | h | h | h
  · exact h1.1 h
  · exact h h1.2
  · exact h h2
  · rw [h] at h3; cases h3
theorem bkk_0 {g : GS} {j k : Nat} (hk : k < 2000) : (nI (bkk g j k) = 0) ↔ bkk g j k = 0 := by
  have h := bkk_le g j k
  rw [show (0 : Int32) = nI 0 from rfl, nI_eq (by omega) (by omega)]
theorem bkk_p {g : GS} {j k : Nat} (hk : k < 2000) : (nI (bkk g j k) ≤ 0) ↔ ¬ 0 < bkk g j k := by
  have h := bkk_le g j k
  rw [show (0 : Int32) = nI 0 from rfl, nI_leI (by omega) (by omega)]
  omega
