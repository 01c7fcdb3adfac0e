/-! ===== one field of the world is written ===== -/
section GUP2
variable {z : ZE} {w : WG} {g gm : GS} {o : Nat → Int64} {H H1 : Heap}
theorem WW.us1 (h : WW z w g gm o H) {v : Int32} (he : va_at (zD z) vwCl (wad w 0 0, .inr (5, [.ref (wad w 5 0), .ref (wad w 5 1), .ref (wad w 5 2), .ref (wad w 1 0), .int v, .int (g 3 0), .int (g 3 1), .int (g 4 0)])) H1) (oq : ∀ q : Nat, q ≠ wad w 0 0 → H1[q]? = H[q]?) : WW z w (gup g 1 0 v) gm o H1 := by
  refine h.wr 0 0 rfl he oq rfl (fun k i hk => ?_) (fun k i hl hne => ?_) h.2.2.2
  · match k, hk with
    | 0, hk => exact hk
    | 1, hk => exact hk
    | 2, hk => exact hk
    | 3, hk => exact hk
    | 4, hk => exact hk
    | 5, hk => exact hk
    | 6, hk => exact hk
    | 7, hk => exact hk
    | 8, hk => exact hk
    | 9, hk => exact hk
    | 10, hk => exact hk
    | 11, hk => exact hk
  · match k, hl with
    | 0, hl => exact absurd ⟨rfl, hl⟩ hne
    | 1, _ => rfl
    | 2, _ => rfl
    | 3, _ => rfl
    | 4, _ => rfl
    | 5, _ => rfl
    | 6, _ => rfl
    | 7, _ => rfl
    | 8, _ => rfl
    | 9, _ => rfl
    | 10, _ => rfl
    | 11, _ => rfl
theorem WW.us30 (h : WW z w g gm o H) {v : Int32} (he : va_at (zD z) vwCl (wad w 0 0, .inr (5, [.ref (wad w 5 0), .ref (wad w 5 1), .ref (wad w 5 2), .ref (wad w 1 0), .int (g 1 0), .int v, .int (g 3 1), .int (g 4 0)])) H1) (oq : ∀ q : Nat, q ≠ wad w 0 0 → H1[q]? = H[q]?) : WW z w (gup g 3 0 v) gm o H1 := by
  refine h.wr 0 0 rfl he oq rfl (fun k i hk => ?_) (fun k i hl hne => ?_) h.2.2.2
  · match k, hk with
    | 0, hk => exact hk
    | 1, hk => exact hk
    | 2, hk => exact hk
    | 3, hk => exact hk
    | 4, hk => exact hk
    | 5, hk => exact hk
    | 6, hk => exact hk
    | 7, hk => exact hk
    | 8, hk => exact hk
    | 9, hk => exact hk
    | 10, hk => exact hk
    | 11, hk => exact hk
  · match k, hl with
    | 0, hl => exact absurd ⟨rfl, hl⟩ hne
    | 1, _ => rfl
    | 2, _ => rfl
    | 3, _ => rfl
    | 4, _ => rfl
    | 5, _ => rfl
    | 6, _ => rfl
    | 7, _ => rfl
    | 8, _ => rfl
    | 9, _ => rfl
    | 10, _ => rfl
    | 11, _ => rfl
theorem WW.us31 (h : WW z w g gm o H) {v : Int32} (he : va_at (zD z) vwCl (wad w 0 0, .inr (5, [.ref (wad w 5 0), .ref (wad w 5 1), .ref (wad w 5 2), .ref (wad w 1 0), .int (g 1 0), .int (g 3 0), .int v, .int (g 4 0)])) H1) (oq : ∀ q : Nat, q ≠ wad w 0 0 → H1[q]? = H[q]?) : WW z w (gup g 3 1 v) gm o H1 := by
  refine h.wr 0 0 rfl he oq rfl (fun k i hk => ?_) (fun k i hl hne => ?_) h.2.2.2
  · match k, hk with
    | 0, hk => exact hk
    | 1, hk => exact hk
    | 2, hk => exact hk
    | 3, hk => exact hk
    | 4, hk => exact hk
    | 5, hk => exact hk
    | 6, hk => exact hk
    | 7, hk => exact hk
    | 8, hk => exact hk
    | 9, hk => exact hk
    | 10, hk => exact hk
    | 11, hk => exact hk
  · match k, hl with
    | 0, hl => exact absurd ⟨rfl, hl⟩ hne
    | 1, _ => rfl
    | 2, _ => rfl
    | 3, _ => rfl
    | 4, _ => rfl
    | 5, _ => rfl
    | 6, _ => rfl
    | 7, _ => rfl
    | 8, _ => rfl
    | 9, _ => rfl
    | 10, _ => rfl
    | 11, _ => rfl
theorem WW.us4 (h : WW z w g gm o H) {v : Int32} (he : va_at (zD z) vwCl (wad w 0 0, .inr (5, [.ref (wad w 5 0), .ref (wad w 5 1), .ref (wad w 5 2), .ref (wad w 1 0), .int (g 1 0), .int (g 3 0), .int (g 3 1), .int v])) H1) (oq : ∀ q : Nat, q ≠ wad w 0 0 → H1[q]? = H[q]?) : WW z w (gup g 4 0 v) gm o H1 := by
  refine h.wr 0 0 rfl he oq rfl (fun k i hk => ?_) (fun k i hl hne => ?_) h.2.2.2
  · match k, hk with
    | 0, hk => exact hk
    | 1, hk => exact hk
    | 2, hk => exact hk
    | 3, hk => exact hk
    | 4, hk => exact hk
    | 5, hk => exact hk
    | 6, hk => exact hk
    | 7, hk => exact hk
    | 8, hk => exact hk
    | 9, hk => exact hk
    | 10, hk => exact hk
    | 11, hk => exact hk
  · match k, hl with
    | 0, hl => exact absurd ⟨rfl, hl⟩ hne
    | 1, _ => rfl
    | 2, _ => rfl
    | 3, _ => rfl
    | 4, _ => rfl
    | 5, _ => rfl
    | 6, _ => rfl
    | 7, _ => rfl
    | 8, _ => rfl
    | 9, _ => rfl
    | 10, _ => rfl
    | 11, _ => rfl
theorem WW.u12 (h : WW z w g gm o H) {i : Nat} (hi : i < nb g) {v : Int32} (he : va_at (zD z) vwCl (wad w 2 i, .inr (1, [.int (g 6 i), .int (g 9 i), .int (g 11 i), .int v, .int 0, .int (nI i), .int (g 7 i), .int (g 8 i), .int (g 10 i), .ref (wad w 5 (3 + 2 * i)), .ref (wad w 5 (4 + 2 * i))])) H1) (oq : ∀ q : Nat, q ≠ wad w 2 i → H1[q]? = H[q]?) : WW z w (gup g 12 i v) gm o H1 := by
  refine h.wr 2 i hi ?_ oq rfl (fun k i hk => ?_) (fun k j hl hne => ?_) h.2.2.2
  · show va_at (zD z) vwCl (wad w 2 i, .inr (1, [.int (g 6 i), .int (g 9 i), .int (g 11 i), .int (gup g 12 i v 12 i), .int 0, .int (nI i), .int (g 7 i), .int (g 8 i), .int (g 10 i), .ref (wad w 5 (3 + 2 * i)), .ref (wad w 5 (4 + 2 * i))])) H1
    rw [gup_s]; exact he
  · match k, hk with
    | 0, hk => exact hk
    | 1, hk => exact hk
    | 2, hk => exact hk
    | 3, hk => exact hk
    | 4, hk => exact hk
    | 5, hk => exact hk
    | 6, hk => exact hk
    | 7, hk => exact hk
    | 8, hk => exact hk
    | 9, hk => exact hk
    | 10, hk => exact hk
    | 11, hk => exact hk
  · match k, hl with
    | 0, _ => rfl
    | 1, _ => rfl
    | 2, _ =>
      have hj : j ≠ i := fun e => hne ⟨rfl, e⟩
      show (Sum.inr (1, [.int (g 6 j), .int (g 9 j), .int (g 11 j), .int (gup g 12 i v 12 j), .int 0, .int (nI j), .int (g 7 j), .int (g 8 j), .int (g 10 j), .ref (wad w 5 (3 + 2 * j)), .ref (wad w 5 (4 + 2 * j))]) : va_E) = _
      rw [gup_i hj]; rfl
    | 3, _ => rfl
    | 4, _ => rfl
    | 5, _ => rfl
    | 6, _ => rfl
    | 7, _ => rfl
    | 8, _ => rfl
    | 9, _ => rfl
    | 10, _ => rfl
    | 11, _ => rfl
theorem WW.u22 (h : WW z w g gm o H) {i : Nat} (hi : i < np g) {v : Int32} (he : va_at (zD z) vwCl (wad w 3 i, .inr (3, [.int (g 6 (pb g i)), .int (g 20 i), .int (g 21 i), .int v, .int (g 23 i), .int (nI i), .ref (wad w 2 (pb g i)), .int (g 18 i), .int (g 19 i)])) H1) (oq : ∀ q : Nat, q ≠ wad w 3 i → H1[q]? = H[q]?) : WW z w (gup g 22 i v) gm o H1 := by
  refine h.wr 3 i hi ?_ oq rfl (fun k i hk => ?_) (fun k j hl hne => ?_) h.2.2.2
  · show va_at (zD z) vwCl (wad w 3 i, .inr (3, [.int (g 6 (pb g i)), .int (g 20 i), .int (g 21 i), .int (gup g 22 i v 22 i), .int (g 23 i), .int (nI i), .ref (wad w 2 (pb g i)), .int (g 18 i), .int (g 19 i)])) H1
    rw [gup_s]; exact he
  · match k, hk with
    | 0, hk => exact hk
    | 1, hk => exact hk
    | 2, hk => exact hk
    | 3, hk => exact hk
    | 4, hk => exact hk
    | 5, hk => exact hk
    | 6, hk => exact hk
    | 7, hk => exact hk
    | 8, hk => exact hk
    | 9, hk => exact hk
    | 10, hk => exact hk
    | 11, hk => exact hk
  · match k, hl with
    | 0, _ => rfl
    | 1, _ => rfl
    | 2, _ => rfl
    | 3, _ =>
      have hj : j ≠ i := fun e => hne ⟨rfl, e⟩
      show (Sum.inr (3, [.int (g 6 (pb g j)), .int (g 20 j), .int (g 21 j), .int (gup g 22 i v 22 j), .int (g 23 j), .int (nI j), .ref (wad w 2 (pb g j)), .int (g 18 j), .int (g 19 j)]) : va_E) = _
      rw [gup_i hj]; rfl
    | 4, _ => rfl
    | 5, _ => rfl
    | 6, _ => rfl
    | 7, _ => rfl
    | 8, _ => rfl
    | 9, _ => rfl
    | 10, _ => rfl
    | 11, _ => rfl
theorem WW.u23 (h : WW z w g gm o H) {i : Nat} (hi : i < np g) {v : Int32} (he : va_at (zD z) vwCl (wad w 3 i, .inr (3, [.int (g 6 (pb g i)), .int (g 20 i), .int (g 21 i), .int (g 22 i), .int v, .int (nI i), .ref (wad w 2 (pb g i)), .int (g 18 i), .int (g 19 i)])) H1) (oq : ∀ q : Nat, q ≠ wad w 3 i → H1[q]? = H[q]?) : WW z w (gup g 23 i v) gm o H1 := by
  refine h.wr 3 i hi ?_ oq rfl (fun k i hk => ?_) (fun k j hl hne => ?_) h.2.2.2
  · show va_at (zD z) vwCl (wad w 3 i, .inr (3, [.int (g 6 (pb g i)), .int (g 20 i), .int (g 21 i), .int (g 22 i), .int (gup g 23 i v 23 i), .int (nI i), .ref (wad w 2 (pb g i)), .int (g 18 i), .int (g 19 i)])) H1
    rw [gup_s]; exact he
  · match k, hk with
    | 0, hk => exact hk
    | 1, hk => exact hk
    | 2, hk => exact hk
    | 3, hk => exact hk
    | 4, hk => exact hk
    | 5, hk => exact hk
    | 6, hk => exact hk
    | 7, hk => exact hk
    | 8, hk => exact hk
    | 9, hk => exact hk
    | 10, hk => exact hk
    | 11, hk => exact hk
  · match k, hl with
    | 0, _ => rfl
    | 1, _ => rfl
    | 2, _ => rfl
    | 3, _ =>
      have hj : j ≠ i := fun e => hne ⟨rfl, e⟩
      show (Sum.inr (3, [.int (g 6 (pb g j)), .int (g 20 j), .int (g 21 j), .int (g 22 j), .int (gup g 23 i v 23 j), .int (nI j), .ref (wad w 2 (pb g j)), .int (g 18 j), .int (g 19 j)]) : va_E) = _
      rw [gup_i hj]; rfl
    | 4, _ => rfl
    | 5, _ => rfl
    | 6, _ => rfl
    | 7, _ => rfl
    | 8, _ => rfl
    | 9, _ => rfl
    | 10, _ => rfl
    | 11, _ => rfl
theorem WW.uj28 (h : WW z w g gm o H) {i : Nat} (hi : i < nj g) {v : Int32} (he : va_at (zD z) vwCl (wad w 4 i, .inr (2, [.int (g 25 i), .ref (wad w 3 (jp g i)), .ref (wad w 3 (jo g i)), .int (g 29 i), .int v, .int (g 30 i), .int (g 31 i), .int (g 32 i), .int (g 33 i)])) H1) (oq : ∀ q : Nat, q ≠ wad w 4 i → H1[q]? = H[q]?) : WW z w (gup g 28 i v) gm o H1 := by
  refine h.wr 4 i hi ?_ oq rfl (fun k i hk => ?_) (fun k j hl hne => ?_) h.2.2.2
  · show va_at (zD z) vwCl (wad w 4 i, .inr (2, [.int (g 25 i), .ref (wad w 3 (jp g i)), .ref (wad w 3 (jo g i)), .int (g 29 i), .int (gup g 28 i v 28 i), .int (g 30 i), .int (g 31 i), .int (g 32 i), .int (g 33 i)])) H1
    rw [gup_s]; exact he
  · match k, hk with
    | 0, hk => exact hk
    | 1, hk => exact hk
    | 2, hk => exact hk
    | 3, hk => exact hk
    | 4, hk => exact hk
    | 5, hk => exact hk
    | 6, hk => exact hk
    | 7, hk => exact hk
    | 8, hk => exact hk
    | 9, hk => exact hk
    | 10, hk => exact hk
    | 11, hk => exact hk
  · match k, hl with
    | 0, _ => rfl
    | 1, _ => rfl
    | 2, _ => rfl
    | 3, _ => rfl
    | 4, _ =>
      have hj : j ≠ i := fun e => hne ⟨rfl, e⟩
      show (Sum.inr (2, [.int (g 25 j), .ref (wad w 3 (jp g j)), .ref (wad w 3 (jo g j)), .int (g 29 j), .int (gup g 28 i v 28 j), .int (g 30 j), .int (g 31 j), .int (g 32 j), .int (g 33 j)]) : va_E) = _
      rw [gup_i hj]; rfl
    | 5, _ => rfl
    | 6, _ => rfl
    | 7, _ => rfl
    | 8, _ => rfl
    | 9, _ => rfl
    | 10, _ => rfl
    | 11, _ => rfl
theorem WW.uj30 (h : WW z w g gm o H) {i : Nat} (hi : i < nj g) {v : Int32} (he : va_at (zD z) vwCl (wad w 4 i, .inr (2, [.int (g 25 i), .ref (wad w 3 (jp g i)), .ref (wad w 3 (jo g i)), .int (g 29 i), .int (g 28 i), .int v, .int (g 31 i), .int (g 32 i), .int (g 33 i)])) H1) (oq : ∀ q : Nat, q ≠ wad w 4 i → H1[q]? = H[q]?) : WW z w (gup g 30 i v) gm o H1 := by
  refine h.wr 4 i hi ?_ oq rfl (fun k i hk => ?_) (fun k j hl hne => ?_) h.2.2.2
  · show va_at (zD z) vwCl (wad w 4 i, .inr (2, [.int (g 25 i), .ref (wad w 3 (jp g i)), .ref (wad w 3 (jo g i)), .int (g 29 i), .int (g 28 i), .int (gup g 30 i v 30 i), .int (g 31 i), .int (g 32 i), .int (g 33 i)])) H1
    rw [gup_s]; exact he
  · match k, hk with
    | 0, hk => exact hk
    | 1, hk => exact hk
    | 2, hk => exact hk
    | 3, hk => exact hk
    | 4, hk => exact hk
    | 5, hk => exact hk
    | 6, hk => exact hk
    | 7, hk => exact hk
    | 8, hk => exact hk
    | 9, hk => exact hk
    | 10, hk => exact hk
    | 11, hk => exact hk
  · match k, hl with
    | 0, _ => rfl
    | 1, _ => rfl
    | 2, _ => rfl
    | 3, _ => rfl
    | 4, _ =>
      have hj : j ≠ i := fun e => hne ⟨rfl, e⟩
      show (Sum.inr (2, [.int (g 25 j), .ref (wad w 3 (jp g j)), .ref (wad w 3 (jo g j)), .int (g 29 j), .int (g 28 j), .int (gup g 30 i v 30 j), .int (g 31 j), .int (g 32 j), .int (g 33 j)]) : va_E) = _
      rw [gup_i hj]; rfl
    | 5, _ => rfl
    | 6, _ => rfl
    | 7, _ => rfl
    | 8, _ => rfl
    | 9, _ => rfl
    | 10, _ => rfl
    | 11, _ => rfl
theorem WW.uj31 (h : WW z w g gm o H) {i : Nat} (hi : i < nj g) {v : Int32} (he : va_at (zD z) vwCl (wad w 4 i, .inr (2, [.int (g 25 i), .ref (wad w 3 (jp g i)), .ref (wad w 3 (jo g i)), .int (g 29 i), .int (g 28 i), .int (g 30 i), .int v, .int (g 32 i), .int (g 33 i)])) H1) (oq : ∀ q : Nat, q ≠ wad w 4 i → H1[q]? = H[q]?) : WW z w (gup g 31 i v) gm o H1 := by
  refine h.wr 4 i hi ?_ oq rfl (fun k i hk => ?_) (fun k j hl hne => ?_) h.2.2.2
  · show va_at (zD z) vwCl (wad w 4 i, .inr (2, [.int (g 25 i), .ref (wad w 3 (jp g i)), .ref (wad w 3 (jo g i)), .int (g 29 i), .int (g 28 i), .int (g 30 i), .int (gup g 31 i v 31 i), .int (g 32 i), .int (g 33 i)])) H1
    rw [gup_s]; exact he
  · match k, hk with
    | 0, hk => exact hk
    | 1, hk => exact hk
    | 2, hk => exact hk
    | 3, hk => exact hk
    | 4, hk => exact hk
    | 5, hk => exact hk
    | 6, hk => exact hk
    | 7, hk => exact hk
    | 8, hk => exact hk
    | 9, hk => exact hk
    | 10, hk => exact hk
    | 11, hk => exact hk
  · match k, hl with
    | 0, _ => rfl
    | 1, _ => rfl
    | 2, _ => rfl
    | 3, _ => rfl
    | 4, _ =>
      have hj : j ≠ i := fun e => hne ⟨rfl, e⟩
      show (Sum.inr (2, [.int (g 25 j), .ref (wad w 3 (jp g j)), .ref (wad w 3 (jo g j)), .int (g 29 j), .int (g 28 j), .int (g 30 j), .int (gup g 31 i v 31 j), .int (g 32 j), .int (g 33 j)]) : va_E) = _
      rw [gup_i hj]; rfl
    | 5, _ => rfl
    | 6, _ => rfl
    | 7, _ => rfl
    | 8, _ => rfl
    | 9, _ => rfl
    | 10, _ => rfl
    | 11, _ => rfl
theorem WW.uj32 (h : WW z w g gm o H) {i : Nat} (hi : i < nj g) {v : Int32} (he : va_at (zD z) vwCl (wad w 4 i, .inr (2, [.int (g 25 i), .ref (wad w 3 (jp g i)), .ref (wad w 3 (jo g i)), .int (g 29 i), .int (g 28 i), .int (g 30 i), .int (g 31 i), .int v, .int (g 33 i)])) H1) (oq : ∀ q : Nat, q ≠ wad w 4 i → H1[q]? = H[q]?) : WW z w (gup g 32 i v) gm o H1 := by
  refine h.wr 4 i hi ?_ oq rfl (fun k i hk => ?_) (fun k j hl hne => ?_) h.2.2.2
  · show va_at (zD z) vwCl (wad w 4 i, .inr (2, [.int (g 25 i), .ref (wad w 3 (jp g i)), .ref (wad w 3 (jo g i)), .int (g 29 i), .int (g 28 i), .int (g 30 i), .int (g 31 i), .int (gup g 32 i v 32 i), .int (g 33 i)])) H1
    rw [gup_s]; exact he
  · match k, hk with
    | 0, hk => exact hk
    | 1, hk => exact hk
    | 2, hk => exact hk
    | 3, hk => exact hk
    | 4, hk => exact hk
    | 5, hk => exact hk
    | 6, hk => exact hk
    | 7, hk => exact hk
    | 8, hk => exact hk
    | 9, hk => exact hk
    | 10, hk => exact hk
    | 11, hk => exact hk
  · match k, hl with
    | 0, _ => rfl
    | 1, _ => rfl
    | 2, _ => rfl
    | 3, _ => rfl
    | 4, _ =>
      have hj : j ≠ i := fun e => hne ⟨rfl, e⟩
      show (Sum.inr (2, [.int (g 25 j), .ref (wad w 3 (jp g j)), .ref (wad w 3 (jo g j)), .int (g 29 j), .int (g 28 j), .int (g 30 j), .int (g 31 j), .int (gup g 32 i v 32 j), .int (g 33 j)]) : va_E) = _
      rw [gup_i hj]; rfl
    | 5, _ => rfl
    | 6, _ => rfl
    | 7, _ => rfl
    | 8, _ => rfl
    | 9, _ => rfl
    | 10, _ => rfl
    | 11, _ => rfl
theorem WW.uj33 (h : WW z w g gm o H) {i : Nat} (hi : i < nj g) {v : Int32} (he : va_at (zD z) vwCl (wad w 4 i, .inr (2, [.int (g 25 i), .ref (wad w 3 (jp g i)), .ref (wad w 3 (jo g i)), .int (g 29 i), .int (g 28 i), .int (g 30 i), .int (g 31 i), .int (g 32 i), .int v])) H1) (oq : ∀ q : Nat, q ≠ wad w 4 i → H1[q]? = H[q]?) : WW z w (gup g 33 i v) gm o H1 := by
  refine h.wr 4 i hi ?_ oq rfl (fun k i hk => ?_) (fun k j hl hne => ?_) h.2.2.2
  · show va_at (zD z) vwCl (wad w 4 i, .inr (2, [.int (g 25 i), .ref (wad w 3 (jp g i)), .ref (wad w 3 (jo g i)), .int (g 29 i), .int (g 28 i), .int (g 30 i), .int (g 31 i), .int (g 32 i), .int (gup g 33 i v 33 i)])) H1
    rw [gup_s]; exact he
  · match k, hk with
    | 0, hk => exact hk
    | 1, hk => exact hk
    | 2, hk => exact hk
    | 3, hk => exact hk
    | 4, hk => exact hk
    | 5, hk => exact hk
    | 6, hk => exact hk
    | 7, hk => exact hk
    | 8, hk => exact hk
    | 9, hk => exact hk
    | 10, hk => exact hk
    | 11, hk => exact hk
  · match k, hl with
    | 0, _ => rfl
    | 1, _ => rfl
    | 2, _ => rfl
    | 3, _ => rfl
    | 4, _ =>
      have hj : j ≠ i := fun e => hne ⟨rfl, e⟩
      show (Sum.inr (2, [.int (g 25 j), .ref (wad w 3 (jp g j)), .ref (wad w 3 (jo g j)), .int (g 29 j), .int (g 28 j), .int (g 30 j), .int (g 31 j), .int (g 32 j), .int (gup g 33 i v 33 j)]) : va_E) = _
      rw [gup_i hj]; rfl
    | 5, _ => rfl
    | 6, _ => rfl
    | 7, _ => rfl
    | 8, _ => rfl
    | 9, _ => rfl
    | 10, _ => rfl
    | 11, _ => rfl
theorem WW.u2 (h : WW z w g gm o H) {i : Nat} {v : Int32} (he : va_at (zD z) vwCl (wad w 1 0, cI (zI z) 12 (upd (g 2) i v)) H1) (oq : ∀ q : Nat, q ≠ wad w 1 0 → H1[q]? = H[q]?) : WW z w (gup g 2 i v) gm o H1 := by
  have e1 : gup g 2 i v 2 = upd (g 2) i v := funext fun j => by simp [gup, upd]
  refine h.wr 1 0 rfl ?_ oq rfl (fun k i hk => ?_) (fun k i hl hne => ?_) h.2.2.2
  · show va_at (zD z) vwCl (wad w 1 0, cI (zI z) 12 (gup g 2 i v 2)) H1
    rw [e1]; exact he
  · match k, hk with
    | 0, hk => exact hk
    | 1, hk => exact hk
    | 2, hk => exact hk
    | 3, hk => exact hk
    | 4, hk => exact hk
    | 5, hk => exact hk
    | 6, hk => exact hk
    | 7, hk => exact hk
    | 8, hk => exact hk
    | 9, hk => exact hk
    | 10, hk => exact hk
    | 11, hk => exact hk
  · match k, hl with
    | 0, _ => rfl
    | 1, hl => exact absurd ⟨rfl, hl⟩ hne
    | 2, _ => rfl
    | 3, _ => rfl
    | 4, _ => rfl
    | 5, _ => rfl
    | 6, _ => rfl
    | 7, _ => rfl
    | 8, _ => rfl
    | 9, _ => rfl
    | 10, _ => rfl
    | 11, _ => rfl
end GUP2
