/-! ===== what the answers are: numbers over the state g ===== -/
def wi (v a b : Int32) : Bool := !decide (v < a) && !decide (b < v)
def mvd (size kind moister : Int32) : Int32 := size * (kind + 2) * moister / 10000
def hd (k : Int32) : Int32 := if k = 0 then 2 else if k = 1 then 4 else if k = 2 then 7 else 9
def wAt (g : GS) (p : Nat) (wd : Int32) : Int32 := g 20 p + mvd (g 20 p) (g 6 (pb g p)) (wd - g 21 p)
def bWd (g : GS) (b : Nat) : Int32 := g 9 b + mvd (g 9 b) (g 6 b) (g 12 b - g 11 b)
def stp (d co : Int32) : Int32 := if d / (4 + co) = 0 then (if d ≤ 0 then (if 0 ≤ d then 0 else -1) else 1) else d / (4 + co)
def beh (air wd co : Int32) : Int32 := wd + stp (air - wd) co
def mo (g : GS) : Nat := (g 1 0).toNatClampNeg
def wea (g : GS) (n : Nat) : Int32 := g 2 (n % 12)
def wbr (g : GS) (j : Nat) (wd : Int32) : Bool :=
  if g 25 j = 1 then decide (5 < mvd (g 28 j) (g 6 (pb g (jp g j))) (wd - g 33 j)) || !decide (-5 ≤ mvd (g 28 j) (g 6 (pb g (jp g j))) (wd - g 33 j))
  else decide (g 25 j = 2) && !decide (g 28 j - 2 * g 29 j ≤ wAt g (jp g j) wd)
def tkn (g : GS) (b : Nat) (f t : Int32) (p : Nat) : Bool := decide (pb g p = b) && (!decide (g 18 p + g 19 p + 30 ≤ f) && !decide (t ≤ g 18 p - 30))
def knt (g : GS) (b : Nat) (f t : Int32) (k : Nat) : Bool := !decide (g 15 (4 * b + k) ≤ f) && !decide (t ≤ g 14 (4 * b + k))
def fit (g : GS) (kd : Int32) (p : Nat) (size tongue : Int32) : Bool :=
  if kd = 0 then !decide (g 19 p < size) else if kd = 1 then !decide (wAt g p (g 22 p) < size) else !decide (size < wAt g p (g 22 p)) && !decide (wAt g p (g 22 p) < size - 2 * tongue)
def sta (g : GS) (j : Nat) : Int32 := if g 31 j = 0 then 0 else if g 32 j = 0 then (if g 25 j = 2 then (if wAt g (jp g j) (g 22 (jp g j)) ≤ g 28 j then 1 else 2) else 1) else 3
/-- what holds of every state -/
def OKg (g : GS) : Prop :=
  ((g 5 0 = nI (nb g) ∧ nb g ≤ 20) ∧ (g 16 0 = nI (np g) ∧ np g ≤ 40) ∧ (g 24 0 = nI (nj g) ∧ nj g ≤ 30) ∧ (g 1 0 = nI (mo g) ∧ mo g ≤ 1200)) ∧
  (∀ i, i < nb g → (∃ s : Nat, s < 4 ∧ g 6 i = nI s) ∧ (g 13 i = nI (kn g i) ∧ kn g i ≤ 4) ∧ (∃ L : Nat, 100 ≤ L ∧ L ≤ 30000 ∧ g 10 i = nI L) ∧ ∀ k, k < kn g i → ∃ f t : Nat, f < t ∧ t ≤ 30000 ∧ g 14 (4 * i + k) = nI f ∧ g 15 (4 * i + k) = nI t) ∧
  (∀ i, i < np g → (g 17 i = nI (pb g i) ∧ pb g i < nb g) ∧ (∃ c : Nat, c ≤ 6 ∧ g 23 i = nI c) ∧ ∃ f L : Nat, f ≤ 30000 ∧ 10 ≤ L ∧ L ≤ 30000 ∧ g 18 i = nI f ∧ g 19 i = nI L) ∧
  (∀ i, i < nj g → (g 26 i = nI (jp g i) ∧ jp g i < np g) ∧ (g 27 i = nI (jo g i) ∧ jo g i < np g) ∧ (∃ k : Nat, k < 3 ∧ g 25 i = nI k) ∧ (g 31 i = 0 ∨ g 31 i = 1) ∧ (g 32 i = 0 ∨ (g 32 i = 1 ∧ g 31 i = 1))) ∧
  ((∀ i, nb g ≤ i → g 13 i = 0) ∧ (∀ i, np g ≤ i → g 23 i = 0) ∧ ∀ i, nj g ≤ i → g 30 i = 0 ∧ g 31 i = 0 ∧ g 32 i = 0 ∧ g 33 i = 0)
theorem OKg.n5 {g : GS} (h : OKg g) : g 5 0 = nI (nb g) := h.1.1.1
theorem OKg.l5 {g : GS} (h : OKg g) : nb g ≤ 20 := h.1.1.2
theorem OKg.n16 {g : GS} (h : OKg g) : g 16 0 = nI (np g) := h.1.2.1.1
theorem OKg.l16 {g : GS} (h : OKg g) : np g ≤ 40 := h.1.2.1.2
theorem OKg.n24 {g : GS} (h : OKg g) : g 24 0 = nI (nj g) := h.1.2.2.1.1
theorem OKg.l24 {g : GS} (h : OKg g) : nj g ≤ 30 := h.1.2.2.1.2
theorem OKg.n1 {g : GS} (h : OKg g) : g 1 0 = nI (mo g) := h.1.2.2.2.1
theorem OKg.l1 {g : GS} (h : OKg g) : mo g ≤ 1200 := h.1.2.2.2.2
theorem OKg.sp {g : GS} (h : OKg g) {i : Nat} (hi : i < nb g) : ∃ s : Nat, s < 4 ∧ g 6 i = nI s := (h.2.1 i hi).1
theorem OKg.n13 {g : GS} (h : OKg g) {i : Nat} (hi : i < nb g) : g 13 i = nI (kn g i) := (h.2.1 i hi).2.1.1
theorem OKg.l13 {g : GS} (h : OKg g) {i : Nat} (hi : i < nb g) : kn g i ≤ 4 := (h.2.1 i hi).2.1.2
theorem OKg.len {g : GS} (h : OKg g) {i : Nat} (hi : i < nb g) : ∃ L : Nat, 100 ≤ L ∧ L ≤ 30000 ∧ g 10 i = nI L := (h.2.1 i hi).2.2.1
theorem OKg.kts {g : GS} (h : OKg g) {i k : Nat} (hi : i < nb g) (hk : k < kn g i) : ∃ f t : Nat, f < t ∧ t ≤ 30000 ∧ g 14 (4 * i + k) = nI f ∧ g 15 (4 * i + k) = nI t := (h.2.1 i hi).2.2.2 k hk
theorem OKg.n17 {g : GS} (h : OKg g) {i : Nat} (hi : i < np g) : g 17 i = nI (pb g i) := (h.2.2.1 i hi).1.1
theorem OKg.l17 {g : GS} (h : OKg g) {i : Nat} (hi : i < np g) : pb g i < nb g := (h.2.2.1 i hi).1.2
theorem OKg.cts {g : GS} (h : OKg g) {i : Nat} (hi : i < np g) : ∃ c : Nat, c ≤ 6 ∧ g 23 i = nI c := (h.2.2.1 i hi).2.1
theorem OKg.pl {g : GS} (h : OKg g) {i : Nat} (hi : i < np g) : ∃ f L : Nat, f ≤ 30000 ∧ 10 ≤ L ∧ L ≤ 30000 ∧ g 18 i = nI f ∧ g 19 i = nI L := (h.2.2.1 i hi).2.2
theorem OKg.n26 {g : GS} (h : OKg g) {i : Nat} (hi : i < nj g) : g 26 i = nI (jp g i) := (h.2.2.2.1 i hi).1.1
theorem OKg.l26 {g : GS} (h : OKg g) {i : Nat} (hi : i < nj g) : jp g i < np g := (h.2.2.2.1 i hi).1.2
theorem OKg.n27 {g : GS} (h : OKg g) {i : Nat} (hi : i < nj g) : g 27 i = nI (jo g i) := (h.2.2.2.1 i hi).2.1.1
theorem OKg.l27 {g : GS} (h : OKg g) {i : Nat} (hi : i < nj g) : jo g i < np g := (h.2.2.2.1 i hi).2.1.2
theorem OKg.kd {g : GS} (h : OKg g) {i : Nat} (hi : i < nj g) : ∃ k : Nat, k < 3 ∧ g 25 i = nI k := (h.2.2.2.1 i hi).2.2.1
theorem OKg.gl {g : GS} (h : OKg g) {i : Nat} (hi : i < nj g) : g 31 i = 0 ∨ g 31 i = 1 := (h.2.2.2.1 i hi).2.2.2.1
theorem OKg.br {g : GS} (h : OKg g) {i : Nat} (hi : i < nj g) : g 32 i = 0 ∨ (g 32 i = 1 ∧ g 31 i = 1) := (h.2.2.2.1 i hi).2.2.2.2
theorem co_ne {c : Nat} (h : c ≤ 6) : ¬ (4 + nI c : Int32) = 0 := by
  rw [show (4 : Int32) = nI 4 from rfl, nI_add]
  exact nI_ne0 (by omega) (by omega)
theorem i_ge {a b : Int32} (h : ¬ a < b) : b ≤ a := Int32.not_lt.mp h
theorem i_gt {a b : Int32} (h : ¬ a ≤ b) : b < a := Int32.not_le.mp h
