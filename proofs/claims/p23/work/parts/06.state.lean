/-! ===== state words: what the two systems' cells hold ===== -/
abbrev GS : Type := Nat → Nat → Int32
def gup (g : GS) (k i : Nat) (v : Int32) : GS := fun a b => if a = k ∧ b = i then v else g a b
theorem gup_s {g : GS} {k i : Nat} {v : Int32} : gup g k i v k i = v := by simp [gup]
theorem gup_k {g : GS} {k i a b : Nat} {v : Int32} (h : a ≠ k) : gup g k i v a b = g a b := by simp [gup, h]
theorem gup_i {g : GS} {k i a b : Nat} {v : Int32} (h : b ≠ i) : gup g k i v a b = g a b := by simp [gup, h]
def bI (b : Bool) : Int32 := if b then 1 else 0
theorem bI_ne {b : Bool} (h : ¬ bI b = 0) : b = true := by cases b <;> simp_all [bI]
theorem bI_eq {b : Bool} (h : bI b = 0) : b = false := by cases b <;> simp_all [bI]
def anyN : Nat → (Nat → Bool) → Bool
  | 0, _ => false
  | n + 1, f => anyN n f || f n
theorem anyN_iff {n : Nat} {f : Nat → Bool} : anyN n f = true ↔ ∃ i, i < n ∧ f i = true := by
  induction n with
  | zero => simp [anyN]
  | succ n ih =>
    simp only [anyN, Bool.or_eq_true, ih]
    constructor
    · rintro (⟨i, h1, h2⟩ | h)
      · exact ⟨i, by omega, h2⟩
      · exact ⟨n, by omega, h⟩
    · rintro ⟨i, h1, h2⟩
      rcases Nat.lt_or_ge i n with h | h
      · exact Or.inl ⟨i, h, h2⟩
      · have : i = n := by omega
        subst this
        exact Or.inr h2
/-- the fixed things of a run: classes and slots; the array classes; the empty list's array; where the law's own cells begin -/
abbrev ZE : Type := va_G × (ClassId × ClassId × ClassId × ClassId) × Nat × Nat
abbrev zD (z : ZE) : va_G := z.1
abbrev zI (z : ZE) : ClassId := z.2.1.1
abbrev zZ (z : ZE) : ClassId := z.2.1.2.1
abbrev zL (z : ZE) : ClassId := z.2.1.2.2.1
abbrev zO (z : ZE) : ClassId := z.2.1.2.2.2
abbrev zd (z : ZE) : Nat := z.2.2.1
abbrev zB (z : ZE) : Nat := z.2.2.2
def zA (z : ZE) : Nat → Prop := fun q => zB z ≤ q
abbrev tysZ (z : ZE) : List (ClassId × FieldType) := [(zI z, .int), (zI z, .int), (zI z, .int), (zO z, .object "java/lang/Object")]
abbrev cI (c : ClassId) (n : Nat) (f : Nat → Int32) : va_E := .inl (c, n, .inl f)
abbrev cL (c : ClassId) (n : Nat) (f : Nat → Int64) : va_E := .inl (c, n, .inr (.inl f))
abbrev cQ (c : ClassId) (n : Nat) (f : Nat → Option Nat) : va_E := .inl (c, n, .inr (.inr (.inr (.inr f))))
/-- counts -/
def nb (g : GS) : Nat := (g 5 0).toNatClampNeg
def np (g : GS) : Nat := (g 16 0).toNatClampNeg
def nj (g : GS) : Nat := (g 24 0).toNatClampNeg
def kn (g : GS) (b : Nat) : Nat := (g 13 b).toNatClampNeg
def pb (g : GS) (p : Nat) : Nat := (g 17 p).toNatClampNeg
def jp (g : GS) (j : Nat) : Nat := (g 26 j).toNatClampNeg
def jo (g : GS) (j : Nat) : Nat := (g 27 j).toNatClampNeg
/-- the parts of a board, by rising numbers -/
def tk (g : GS) (b : Nat) : List Nat := (List.range (np g)).filter (fun p => pb g p == b)
/-- the lists: 0 boards, 1 parts, 2 joints, 3 + 2 b the knots of board b, 4 + 2 b what is taken of it; their lengths -/
def ll (g : GS) (i : Nat) : Nat := if i = 0 then nb g else if i = 1 then np g else if i = 2 then nj g else if i % 2 = 1 then kn g ((i - 3) / 2) else (tk g ((i - 4) / 2)).length
/-- .. and which things they hold: kind and number -/
def lk (i : Nat) : Nat := if i = 0 then 2 else if i = 1 then 3 else if i = 2 then 4 else if i % 2 = 1 then 7 else 8
def li (g : GS) (i j : Nat) : Nat := if i < 3 then j else if i % 2 = 1 then 4 * ((i - 3) / 2) + j else (tk g ((i - 4) / 2)).getD j 0
/-- ghosts: addresses by kind and number; of a list: modCount, its array's length and contents -/
abbrev WG : Type := (Nat → Nat → Nat) × (Nat → Int32) × (Nat → Nat) × (Nat → Nat → Option Nat)
abbrev wad (w : WG) : Nat → Nat → Nat := w.1
abbrev wmc (w : WG) : Nat → Int32 := w.2.1
abbrev wcp (w : WG) : Nat → Nat := w.2.2.1
abbrev wel (w : WG) : Nat → Nat → Option Nat := w.2.2.2
/-- the law's arrays: weather, boards, measured, widths, wood, coats, joints, states, then, first; their lengths -/
def isA (i : Nat) : Bool := decide (i < 10)
def ln (i : Nat) : Nat := if i = 0 then 12 else if i = 1 then 3 else if i = 6 then 60 else if i = 7 then 12 else if i = 9 then 12 else 6
/-- kinds: 0 the shop, 1 its air, 2 boards, 3 parts, 4 joints, 5 lists, 6 lists' arrays, 7 knots' spans, 8 parts' spans, 10 the law's arrays -/
def lv_e (g : GS) (k i : Nat) : Prop := match k with
  | 0 => i = 0
  | 1 => i = 0
  | 2 => i < nb g
  | 3 => i < np g
  | 4 => i < nj g
  | 5 => i < 3 + 2 * nb g
  | 6 => i < 3 + 2 * nb g ∧ 0 < ll g i
  | 7 => i / 4 < nb g ∧ i % 4 < kn g (i / 4)
  | 8 => i < np g
  | 9 => False
  | 10 => isA i = true
  | 11 => False
  | _ => False
def ct (z : ZE) (w : WG) (g gm : GS) (o : Nat → Int64) (k i : Nat) : va_E := match k with
  | 0 => .inr (5, [.ref (wad w 5 0), .ref (wad w 5 1), .ref (wad w 5 2), .ref (wad w 1 0), .int (g 1 0), .int (g 3 0), .int (g 3 1), .int (g 4 0)])
  | 1 => cI (zI z) 12 (g 2)
  | 2 => .inr (1, [.int (g 6 i), .int (g 9 i), .int (g 11 i), .int (g 12 i), .int 0, .int (nI i), .int (g 7 i), .int (g 8 i), .int (g 10 i), .ref (wad w 5 (3 + 2 * i)), .ref (wad w 5 (4 + 2 * i))])
  | 3 => .inr (3, [.int (g 6 (pb g i)), .int (g 20 i), .int (g 21 i), .int (g 22 i), .int (g 23 i), .int (nI i), .ref (wad w 2 (pb g i)), .int (g 18 i), .int (g 19 i)])
  | 4 => .inr (2, [.int (g 25 i), .ref (wad w 3 (jp g i)), .ref (wad w 3 (jo g i)), .int (g 29 i), .int (g 28 i), .int (g 30 i), .int (g 31 i), .int (g 32 i), .int (g 33 i)])
  | 5 => .inr (0, [.int (wmc w i), .ref (if ll g i = 0 then zd z else wad w 6 i), .int (nI (ll g i))])
  | 6 => cQ (zO z) (wcp w i) (wel w i)
  | 7 => .inr (4, [.int (g 14 i), .int (g 15 i)])
  | 8 => .inr (4, [.int (g 18 i - 30), .int (g 18 i + g 19 i + 30)])
  | _ => cI (zI z) (ln i) (gm i)
/-- THE WORLD: every live thing lies at its address and holds what the states say; things are apart; what lists hold -/
def WW (z : ZE) (w : WG) (g gm : GS) (o : Nat → Int64) (H : Heap) : Prop :=
  (∀ k i, lv_e g k i → va_at (zD z) vwCl (wad w k i, ct z w g gm o k i) H) ∧
  (∀ k i k' i', lv_e g k i → lv_e g k' i' → wad w k i = wad w k' i' → k = k' ∧ i = i') ∧
  (∀ k i, lv_e g k i → zB z ≤ wad w k i) ∧
  (∀ i, i < 3 + 2 * nb g → ll g i ≤ wcp w i ∧ (10 ≤ wcp w i ∧ wcp w i ≤ 100) ∧ ∀ j, j < ll g i → wel w i j = some (wad w (lk i) (li g i j)))
/-- words of the tables that callees' own lists can't hold -/
def nwL : List (String × String) := [(RX0, "java/lang/Object"), (RX1, "java/lang/Object"), (RX2, "java/lang/Object"), (RX3, "java/lang/Object"), ("java/lang/IndexOutOfBoundsException", "java/lang/IndexOutOfBoundsException"), ("java/lang/IllegalArgumentException", "java/lang/IllegalArgumentException"), ("java/lang/IllegalStateException", "java/lang/IllegalStateException")]
def ncL : List (String × String) := []
def ndL : List MethodName := [⟨"java/lang/RuntimeException", "<init>", "(Ljava/lang/String;)V"⟩, ⟨"java/lang/Exception", "<init>", "(Ljava/lang/String;)V"⟩, ⟨"java/lang/Throwable", "<init>", "(Ljava/lang/String;)V"⟩]
/-- the shop's String constants: place and text -/
def strL : List (Nat × String) := [(47, "there is no such month"), (58, "moisture is out of its range"), (61, "months is out of its range"), (65, "the month would be above 1200"), (80, "species, flitch or place is out of its range"), (82, "width, length or moisture is out of its range"), (87, "there are 20 boards"), (92, "the flitch has that place, or is of another species"), (107, "there is no such board"), (133, "from, length or width is out of its range"), (135, "there are 40 parts"), (144, "the board has no room for it"), (146, "the part would have a knot that is not hidden"), (154, "the saw is not sharp enough"), (161, "there is no such edge"), (176, "there is no such part"), (181, "the part has 6 coats"), (183, "both parts are the same"), (203, "kind, size or tongue is out of its range"), (205, "there are 30 joints"), (211, "the size does not fit"), (214, "the chisel is not sharp enough"), (225, "there is no such joint"), (240, "the set is empty, or has a joint that there is not"), (246, "one is glued, or one that it needs is not glued by then"), (254, "it would take too long, or too many clamps"), (269, "the joint is not broken"), (292, "the joint is not glued, or is broken"), (297, "what is out of its range")]
/-- what holds of the machine all along -/
def EV (z : ZE) (U : State) (H : Heap) : Prop :=
  va_K (zD z) vwCl (tysZ z) U ∧
  (vx_Zq Bundle.tN "UNASSIGNED_STACK" Bundle.steD (zA z) U H ∧ vx_Zq Bundle.tN "SUPPRESSED_SENTINEL" Bundle.listD (zA z) U H) ∧
  va_Z "java/util/ArrayList" "DEFAULTCAPACITY_EMPTY_ELEMENTDATA" "[Ljava/lang/Object;" (.ref (zd z)) (zA z) U H ∧
  (zd z < zB z ∧ va_T (.object "java/lang/Object") (zd z) 0 (fun _ => .null) (zA z) U H) ∧
  zB z ≤ H.size ∧
  (va_AO "java/lang/Object" U ∧ va_Dc U ∧ ∃ mi, va_Mi "[Ljava/lang/Object;" mi U) ∧
  (∀ q ∈ nwL, va_Nw (.castable q.1 q.2) U) ∧
  (va_Nw (.methodLinkNest RX4 27 yX5_movingOf RX5) U ∧ va_Nw (.methodLinkNest RX0 34 yX5_touchesAny RX5) U) ∧
  (∀ q ∈ strL, ∃ a, vk_R RX5 q.1 q.2 a U) ∧
  (∀ q ∈ ncL, va_Nc q.1 q.2 U) ∧ ∀ q ∈ ndL, va_Nw (.declares q) U
theorem EV.same {z : ZE} {u U : State} {H : Heap} (hv : u.vm = U.vm) (h : EV z u H) : EV z U H := by
  have hA : u.vm.Alike U.vm := hv ▸ Vm.Alike.refl u.vm
  obtain ⟨h1, ⟨h2, h2b⟩, h3, ⟨h4, h4b⟩, h5, ⟨h6, h6b, mi, h6c⟩, h7, ⟨h8, h8b⟩, h9, h10, h11⟩ := h
  exact ⟨va_K.moved hA h1, ⟨h2.moved hA, h2b.moved hA⟩, h3.moved hA, ⟨h4, h4b.moved hA⟩, h5, ⟨h6.moved hA, h6b.moved hA, mi, h6c.moved hA⟩, fun q hq => va_Nw.same rfl hv (h7 q hq), ⟨va_Nw.same rfl hv h8, va_Nw.same rfl hv h8b⟩, fun q hq => by obtain ⟨a, ha⟩ := h9 q hq; exact ⟨a, vk_R.same hv.symm ha⟩, fun q hq => (h10 q hq).moved hA, fun q hq => va_Nw.same rfl hv (h11 q hq)⟩
theorem EV.warm {z : ZE} {s U : State} {H : Heap} (hW : s.WarmedH U.vm) (h : EV z s H) : EV z U H := by
  have hA : s.vm.Alike U.vm := hW.alike
  obtain ⟨h1, ⟨h2, h2b⟩, h3, ⟨h4, h4b⟩, h5, ⟨h6, h6b, mi, h6c⟩, h7, ⟨h8, h8b⟩, h9, h10, h11⟩ := h
  exact ⟨va_K.moved hA h1, ⟨h2.moved hA, h2b.moved hA⟩, h3.moved hA, ⟨h4, h4b.moved hA⟩, h5, ⟨h6.moved hA, h6b.moved hA, mi, h6c.moved hA⟩, fun q hq => va_Nw.warmC hW (h7 q hq), ⟨va_Nw.warmM hW h8, va_Nw.warmM hW h8b⟩, fun q hq => by obtain ⟨a, ha⟩ := h9 q hq; exact ⟨a, vk_R.warm hW ha⟩, fun q hq => (h10 q hq).moved hA, fun q hq => va_Nw.warmD hW (h11 q hq)⟩
theorem EV.kept {z : ZE} {U : State} {H H1 : Heap} (h : EV z U H) (hz : H.size ≤ H1.size) (hq : ∀ q : Nat, q < H.size → ¬ zA z q → H1[q]? = H[q]?) : EV z U H1 := by
  obtain ⟨h1, ⟨h2, h2b⟩, h3, ⟨h4, h4b⟩, h5, h6, h7, h8, h9, h10⟩ := h
  exact ⟨h1, ⟨h2.kept hq, h2b.kept hq⟩, h3.kept hq, ⟨h4, h4b.kept hq⟩, Nat.le_trans h5 hz, h6, h7, h8, h9, h10⟩
theorem EV.at {z : ZE} {s U : State} {H : Heap} {locs : List Loc} (h : EV z s s.heap) (hS : va_S (zA z) s.heap H locs) (hU : U.heap = H) (hW : s.WarmedH U.vm) : EV z U U.heap := by
  rw [hU]
  exact (h.kept hS.1 hS.2.1).warm hW
/-- what a contract asks at its start: the arguments, the machine, and of the heap P -/
def PE (z : ZE) (av : List Value) (P : Heap → Prop) : Array Value → State → Prop := fun v U => v = av.toArray ∧ EV z U U.heap ∧ P U.heap
theorem PE.blind {z : ZE} {av : List Value} {P : Heap → Prop} : FrameBlind (PE z av P) := fun a U g mk h => ⟨h.1, EV.same (u := U) (U := U.calling g mk a) rfl h.2.1, h.2.2⟩
theorem P1 {D : va_G} {cl : List vw_C} {q : Nat × va_E} {H : Heap} (h : va_at D cl q H) : va_P D cl [q] H := fun k r hk => by
  cases k with
  | zero => cases hk; exact h
  | succ k => simp at hk
theorem EV.recv {z : ZE} {s : State} {H0 H : Heap} (hE : EV z s H0) {ci a : Nat} {q : vw_C} {fs : List Value} (hat : va_at (zD z) vwCl (a, .inr (ci, fs)) H) (hc : vwCl[ci]? = some q) : ∃ cell : Cell, H[a]? = some cell ∧ cell.vm.isStatics = false ∧ s.vm.findClass q.1 = some cell.cls :=
  va_recv (q0 := 0) (ws := [(a, .inr (ci, fs))]) hE.1 (P1 hat) hc rfl
/-- the world stands while its cells do -/
theorem WW.kept {z : ZE} {w : WG} {g gm : GS} {o : Nat → Int64} {H H1 : Heap} (h : WW z w g gm o H) (hq : ∀ q : Nat, q < H.size → H1[q]? = H[q]?) : WW z w g gm o H1 :=
  ⟨fun k i hl => (h.1 k i hl).kept (hq _ (h.1 k i hl).lt), h.2⟩
theorem WW.sh {z : ZE} {w : WG} {g gm : GS} {o : Nat → Int64} {H : Heap} (h : WW z w g gm o H) : va_at (zD z) vwCl (wad w 0 0, .inr (5, [.ref (wad w 5 0), .ref (wad w 5 1), .ref (wad w 5 2), .ref (wad w 1 0), .int (g 1 0), .int (g 3 0), .int (g 3 1), .int (g 4 0)])) H := h.1 0 0 rfl
theorem WW.air {z : ZE} {w : WG} {g gm : GS} {o : Nat → Int64} {H : Heap} (h : WW z w g gm o H) : va_at (zD z) vwCl (wad w 1 0, cI (zI z) 12 (g 2)) H := h.1 1 0 rfl
theorem WW.bd {z : ZE} {w : WG} {g gm : GS} {o : Nat → Int64} {H : Heap} (h : WW z w g gm o H) {i : Nat} (hi : i < nb g) : va_at (zD z) vwCl (wad w 2 i, .inr (1, [.int (g 6 i), .int (g 9 i), .int (g 11 i), .int (g 12 i), .int 0, .int (nI i), .int (g 7 i), .int (g 8 i), .int (g 10 i), .ref (wad w 5 (3 + 2 * i)), .ref (wad w 5 (4 + 2 * i))])) H := h.1 2 i hi
theorem WW.pt {z : ZE} {w : WG} {g gm : GS} {o : Nat → Int64} {H : Heap} (h : WW z w g gm o H) {i : Nat} (hi : i < np g) : va_at (zD z) vwCl (wad w 3 i, .inr (3, [.int (g 6 (pb g i)), .int (g 20 i), .int (g 21 i), .int (g 22 i), .int (g 23 i), .int (nI i), .ref (wad w 2 (pb g i)), .int (g 18 i), .int (g 19 i)])) H := h.1 3 i hi
theorem WW.jt {z : ZE} {w : WG} {g gm : GS} {o : Nat → Int64} {H : Heap} (h : WW z w g gm o H) {i : Nat} (hi : i < nj g) : va_at (zD z) vwCl (wad w 4 i, .inr (2, [.int (g 25 i), .ref (wad w 3 (jp g i)), .ref (wad w 3 (jo g i)), .int (g 29 i), .int (g 28 i), .int (g 30 i), .int (g 31 i), .int (g 32 i), .int (g 33 i)])) H := h.1 4 i hi
theorem WW.lst {z : ZE} {w : WG} {g gm : GS} {o : Nat → Int64} {H : Heap} (h : WW z w g gm o H) {i : Nat} (hi : i < 3 + 2 * nb g) : va_at (zD z) vwCl (wad w 5 i, .inr (0, [.int (wmc w i), .ref (if ll g i = 0 then zd z else wad w 6 i), .int (nI (ll g i))])) H := h.1 5 i hi
theorem WW.arr {z : ZE} {w : WG} {g gm : GS} {o : Nat → Int64} {H : Heap} (h : WW z w g gm o H) {i : Nat} (hi : i < 3 + 2 * nb g) (h0 : 0 < ll g i) : va_at (zD z) vwCl (wad w 6 i, cQ (zO z) (wcp w i) (wel w i)) H := h.1 6 i ⟨hi, h0⟩
theorem WW.ks {z : ZE} {w : WG} {g gm : GS} {o : Nat → Int64} {H : Heap} (h : WW z w g gm o H) {b j : Nat} (hb : b < nb g) (hj : j < kn g b) (h4 : kn g b ≤ 4) : va_at (zD z) vwCl (wad w 7 (4 * b + j), .inr (4, [.int (g 14 (4 * b + j)), .int (g 15 (4 * b + j))])) H := by
  refine h.1 7 (4 * b + j) ⟨?_, ?_⟩
  · rw [show (4 * b + j) / 4 = b by omega]; exact hb
  · rw [show (4 * b + j) / 4 = b by omega, show (4 * b + j) % 4 = j by omega]; exact hj
theorem WW.ts {z : ZE} {w : WG} {g gm : GS} {o : Nat → Int64} {H : Heap} (h : WW z w g gm o H) {i : Nat} (hi : i < np g) : va_at (zD z) vwCl (wad w 8 i, .inr (4, [.int (g 18 i - 30), .int (g 18 i + g 19 i + 30)])) H := h.1 8 i hi
theorem WW.ma {z : ZE} {w : WG} {g gm : GS} {o : Nat → Int64} {H : Heap} (h : WW z w g gm o H) {i : Nat} (hi : isA i = true) : va_at (zD z) vwCl (wad w 10 i, cI (zI z) (ln i) (gm i)) H := h.1 10 i hi
/-- one cell of the world is written -/
theorem WW.wr {z : ZE} {w : WG} {g gm : GS} {o : Nat → Int64} {H H1 : Heap} {w' : WG} {g' gm' : GS} {o' : Nat → Int64} (h : WW z w g gm o H) (k0 i0 : Nat) (hl : lv_e g k0 i0)
    (he : va_at (zD z) vwCl (wad w k0 i0, ct z w' g' gm' o' k0 i0) H1) (oq : ∀ q : Nat, q ≠ wad w k0 i0 → H1[q]? = H[q]?) (hw : wad w' = wad w)
    (hlv : ∀ k i, lv_e g' k i → lv_e g k i) (hct : ∀ k i, lv_e g' k i → ¬ (k = k0 ∧ i = i0) → ct z w' g' gm' o' k i = ct z w g gm o k i)
    (hL : ∀ i, i < 3 + 2 * nb g' → ll g' i ≤ wcp w' i ∧ (10 ≤ wcp w' i ∧ wcp w' i ≤ 100) ∧ ∀ j, j < ll g' i → wel w' i j = some (wad w (lk i) (li g' i j))) : WW z w' g' gm' o' H1 := by
  refine ⟨fun k i hk => ?_, fun k i k' i' h1 h2 h3 => ?_, fun k i h1 => ?_, fun i hi => ?_⟩
  · rw [hw]
    by_cases e : k = k0 ∧ i = i0
    · obtain ⟨rfl, rfl⟩ := e
      exact he
    · rw [hct k i hk e]
      refine (h.1 k i (hlv k i hk)).kept (oq _ fun z9 => e (h.2.1 k i k0 i0 (hlv k i hk) hl z9))
  · rw [hw] at h3
    exact h.2.1 k i k' i' (hlv _ _ h1) (hlv _ _ h2) h3
  · rw [hw]
    exact h.2.2.1 k i (hlv _ _ h1)
  · rw [hw]
    exact hL i hi
