/-! ===== a thing is put into a list, whatever room it has ===== -/
section GPU
variable {p : Program} {l : Launch} {e : Env} {R : Room} {s : State} {m : MethodId} {args : Array Value} {below : List Frame} {meth : Method} {c : Code} {H : Heap} {locs : List Loc} {cells slots : Nat} {Q : State → Prop}
variable {cc : ByteArray} {pc nL : Nat} {ls : Array Slot} {rest : List Value} {z : ZE}
theorem x_addL (S : CallFix p m c cc nL s args wU RX5) (hE : EV z s s.heap) (hS : va_S (zA z) s.heap H locs) {ci a vv e0 n cap : Nat} {rc : vw_C} (hc : vwCl[ci]? = some rc) (hnw : (rc.1, "java/lang/Object") ∈ nwL) {vs : List Value} {f : Nat → Option Nat} {mc9 : Int32}
    (hza : zB z ≤ a) (ha : va_at (zD z) vwCl (a, .inr (0, [.int mc9, .ref (if n = 0 then zd z else e0), .int (nI n)])) H)
    (hv : va_at (zD z) vwCl (vv, .inr (ci, vs)) H) (hva : vv ≠ a)
    (he : 0 < n → zB z ≤ e0 ∧ va_at (zD z) vwCl (e0, cQ (zO z) cap f) H ∧ a ≠ e0 ∧ vv ≠ e0 ∧ els z ci f n H ∧ ∀ i, i < n → f i ≠ some a)
    (hn : n ≤ 60) (hcap : n ≤ cap ∧ 10 ≤ cap ∧ cap ≤ 100)
    (hsize : ls.size = nL) (hWr : (rest.map fun v => v.category).sum ≤ 8) (hdg : decode cc pc = .ok (.invokevirtual 99, 3)) (hf : cells + 1 ≤ R.cells ∧ slots + 100 ≤ R.slots) (hR : 7 ≤ R.frames ∧ 191 ≤ R.locals)
    (kk : ∀ (H1 : Heap) (locs1 : List Loc) (e1 cap1 : Nat) (f1 : Nat → Option Nat), ((e1 = e0 ∧ 0 < n) ∨ H.size ≤ e1) → va_at (zD z) vwCl (a, .inr (0, [.int (mc9 + 1), .ref e1, .int (nI (n + 1))])) H1 → va_at (zD z) vwCl (e1, cQ (zO z) cap1 f1) H1 → (n + 1 ≤ cap1 ∧ 10 ≤ cap1 ∧ cap1 ≤ 100) → (∀ j, j < n → f1 j = f j) → f1 n = some vv → H.size ≤ H1.size →
      (∀ x : Nat, x < H.size → x ≠ a → (0 < n → x ≠ e0) → H1[x]? = H[x]?) → va_S (zA z) s.heap H1 locs1 → W p l e R s m args below meth c H1 locs1 (cells + 1) (slots + 100) Q (F0 m (pc + 3) ls (.int 1 :: rest))) :
    W p l e R s m args below meth c H locs cells slots Q (F0 m pc ls (.ref vv :: .ref a :: rest)) := by
  have hts := S.2.2.2.2
  have hrc := hE.recv ha (q := (RJx4a65c, TJx4a65c, 3)) rfl
  by_cases h0 : n = 0
  · subst h0
    refine g_callZ (As := [.ref vv]) (rest := rest) S hE hS (c_add0 l z ci hc hnw H.size a vv vs mc9) (cwV 1 hts (gU_V tw_353 tw_354 tw_355 tw_4 tw_356) rfl rfl rfl (by decide +kernel) ⟨show 4 + 1 ≤ R.frames by omega, show 8 + (2 + 11) + 83 ≤ R.locals by omega⟩) hrc ⟨rfl, hza, ha, hv, hva⟩ rfl hsize rfl hWr hdg hf (fun x _ h => h ▸ hza) (fun H1 locs1 hB hz ho hS1 => ?_)
    exact kk H1 locs1 H.size 10 _ (Or.inr (Nat.le_refl _)) hB.1 hB.2 (by omega) (fun j hj => absurd hj (Nat.not_lt_zero j)) (by simp [va_up]) hz (fun x h1 h2 _ => ho x h1 h2) hS1
  · have hp : 0 < n := Nat.pos_of_ne_zero h0
    rw [if_neg h0] at ha
    obtain ⟨hze, hea, hae, hve, hel, hela⟩ := he hp
    by_cases hlt : n < cap
    · refine g_callZ (As := [.ref vv]) (rest := rest) S hE hS (c_addR l z ci hc hnw H.size e0 n cap a vv vs f hlt hcap.2.2 mc9) (cwV 1 hts (gU_V tw_353 tw_354 tw_355 tw_4 tw_356) rfl rfl rfl (by decide +kernel) ⟨show 1 + 1 ≤ R.frames by omega, show 8 + (2 + 11) + 23 ≤ R.locals by omega⟩) hrc ⟨rfl, hza, ha, ⟨hv, hva⟩, hze, hea, hae, hve⟩ rfl hsize rfl hWr hdg hf (fun x _ h => h.elim (fun h => h ▸ hza) (fun h => h ▸ hze)) (fun H1 locs1 hB hz ho hS1 => ?_)
      exact kk H1 locs1 e0 cap _ (Or.inl ⟨rfl, hp⟩) hB.1 hB.2 ⟨hlt, hcap.2⟩ (fun j hj => by simp [va_up, show ¬ j = n by omega]) (by simp [va_up]) hz (fun x h1 h2 h3 => ho x h1 (fun h => h.elim h2 (h3 hp))) hS1
    · obtain rfl : n = cap := by omega
      refine g_callZ (As := [.ref vv]) (rest := rest) S hE hS (c_addN l z ci hc hnw H.size e0 n a vv vs f (by omega) (by omega) mc9) (cwV 1 hts (gU_V tw_353 tw_354 tw_355 tw_4 tw_356) rfl rfl rfl (by decide +kernel) ⟨show 6 + 1 ≤ R.frames by omega, show 8 + (2 + 11) + 170 ≤ R.locals by omega⟩) hrc ⟨rfl, hza, ha, ⟨hv, hva⟩, hze, hea, hae, hve, hel, hela⟩ rfl hsize rfl hWr hdg hf (fun x _ h => h ▸ hza) (fun H1 locs1 hB hz ho hS1 => ?_)
      exact kk H1 locs1 H.size (n + n / 2) _ (Or.inr (Nat.le_refl _)) hB.1 hB.2 (by omega) (fun j hj => by simp [va_up, va_cpy, show ¬ j = n by omega, hj]) (by simp [va_up]) hz (fun x h1 h2 _ => ho x h1 h2) hS1
end GPU
/-! ===== what lists hold is there ===== -/
theorem li_live {g : GS} (hO : OKg g) {i j : Nat} (hi : i < 3 + 2 * nb g) (hj : j < ll g i) : lv_e g (lk i) (li g i j) := by
  unfold lk li
  unfold ll at hj
  by_cases h0 : i = 0
  · subst h0; exact hj
  · by_cases h1 : i = 1
    · subst h1; exact hj
    · by_cases h2 : i = 2
      · subst h2; exact hj
      · rw [if_neg h0, if_neg h1, if_neg h2] at hj ⊢
        rw [if_neg (show ¬ i < 3 by omega)]
        by_cases ho : i % 2 = 1
        · rw [if_pos ho] at hj ⊢
          rw [if_pos ho]
          have hk := hO.l13 (show (i - 3) / 2 < nb g by omega)
          show (4 * ((i - 3) / 2) + j) / 4 < nb g ∧ (4 * ((i - 3) / 2) + j) % 4 < kn g ((4 * ((i - 3) / 2) + j) / 4)
          rw [show (4 * ((i - 3) / 2) + j) / 4 = (i - 3) / 2 by omega, show (4 * ((i - 3) / 2) + j) % 4 = j by omega]
          exact ⟨by omega, hj⟩
        · rw [if_neg ho] at hj ⊢
          rw [if_neg ho]
          exact tk_lt hj
theorem lk_ne6 (i : Nat) : lk i ≠ 6 ∧ lk i ≠ 5 := by
  unfold lk
  split
  · decide
  · split
    · decide
    · split
      · decide
      · split <;> decide
/-- the reading places that the old things hang on -/
def lo (g : GS) (a b : Nat) : Prop := a ≤ 4 ∨ (6 ≤ a ∧ a ≤ 12 ∧ b < nb g) ∨ ((a = 14 ∨ a = 15) ∧ b / 4 < nb g ∧ b % 4 < kn g (b / 4)) ∨ (17 ≤ a ∧ a ≤ 23 ∧ b < np g) ∨ (25 ≤ a ∧ a ≤ 33 ∧ b < nj g)
theorem ct_same {z : ZE} {w w' : WG} {g g' gm : GS} {o : Nat → Int64} {L : Nat → Prop} (hO : OKg g) (hlo : ∀ a b, lo g a b → g' a b = g a b) (hll : ∀ i, i < 3 + 2 * nb g → ¬ L i → ll g' i = ll g i)
    (hw : ∀ i, i < 3 + 2 * nb g → ¬ L i → wmc w' i = wmc w i ∧ wcp w' i = wcp w i ∧ wel w' i = wel w i) (hadr : ∀ k i, lv_e g k i → ¬ (k = 6 ∧ L i) → wad w' k i = wad w k i)
    {k i : Nat} (hl : lv_e g k i) (hn : ¬ ((k = 5 ∨ k = 6) ∧ L i)) : ct z w' g' gm o k i = ct z w g gm o k i := by
  have l4 : ∀ a b, a ≤ 4 → g' a b = g a b := fun a b h => hlo a b (Or.inl h)
  have l6 : ∀ a b, 6 ≤ a → a ≤ 12 → b < nb g → g' a b = g a b := fun a b h1 h2 h3 => hlo a b (Or.inr (Or.inl ⟨h1, h2, h3⟩))
  have l17 : ∀ a b, 17 ≤ a → a ≤ 23 → b < np g → g' a b = g a b := fun a b h1 h2 h3 => hlo a b (Or.inr (Or.inr (Or.inr (Or.inl ⟨h1, h2, h3⟩))))
  have l25 : ∀ a b, 25 ≤ a → a ≤ 33 → b < nj g → g' a b = g a b := fun a b h1 h2 h3 => hlo a b (Or.inr (Or.inr (Or.inr (Or.inr ⟨h1, h2, h3⟩))))
  match k, hl, hn with
  | 0, hl, hn =>
    show (Sum.inr (5, [.ref (wad w' 5 0), .ref (wad w' 5 1), .ref (wad w' 5 2), .ref (wad w' 1 0), .int (g' 1 0), .int (g' 3 0), .int (g' 3 1), .int (g' 4 0)]) : va_E) = Sum.inr (5, [.ref (wad w 5 0), .ref (wad w 5 1), .ref (wad w 5 2), .ref (wad w 1 0), .int (g 1 0), .int (g 3 0), .int (g 3 1), .int (g 4 0)])
    rw [hadr 5 0 (show 0 < 3 + 2 * nb g by omega) (fun h => absurd h.1 (by decide)), hadr 5 1 (show 1 < 3 + 2 * nb g by omega) (fun h => absurd h.1 (by decide)), hadr 5 2 (show 2 < 3 + 2 * nb g by omega) (fun h => absurd h.1 (by decide)), hadr 1 0 rfl (fun h => absurd h.1 (by decide)), l4 1 0 (by decide), l4 3 0 (by decide), l4 3 1 (by decide), l4 4 0 (by decide)]
  | 1, hl, hn =>
    show cI (zI z) 12 (g' 2) = cI (zI z) 12 (g 2)
    rw [show g' 2 = g 2 from funext fun b => l4 2 b (by decide)]
  | 2, hl, hn =>
    have hi : i < nb g := hl
    show (Sum.inr (1, [.int (g' 6 i), .int (g' 9 i), .int (g' 11 i), .int (g' 12 i), .int 0, .int (nI i), .int (g' 7 i), .int (g' 8 i), .int (g' 10 i), .ref (wad w' 5 (3 + 2 * i)), .ref (wad w' 5 (4 + 2 * i))]) : va_E) = Sum.inr (1, [.int (g 6 i), .int (g 9 i), .int (g 11 i), .int (g 12 i), .int 0, .int (nI i), .int (g 7 i), .int (g 8 i), .int (g 10 i), .ref (wad w 5 (3 + 2 * i)), .ref (wad w 5 (4 + 2 * i))])
    rw [hadr 5 (3 + 2 * i) (show 3 + 2 * i < 3 + 2 * nb g by omega) (fun h => absurd h.1 (by decide)), hadr 5 (4 + 2 * i) (show 4 + 2 * i < 3 + 2 * nb g by omega) (fun h => absurd h.1 (by decide)), l6 6 i (by decide) (by decide) hi, l6 7 i (by decide) (by decide) hi, l6 8 i (by decide) (by decide) hi, l6 9 i (by decide) (by decide) hi, l6 10 i (by decide) (by decide) hi, l6 11 i (by decide) (by decide) hi, l6 12 i (by decide) (by decide) hi]
  | 3, hl, hn =>
    have hi : i < np g := hl
    have hpb := hO.l17 hi
    have e1 : pb g' i = pb g i := by unfold pb; rw [l17 17 i (by decide) (by decide) hi]
    show (Sum.inr (3, [.int (g' 6 (pb g' i)), .int (g' 20 i), .int (g' 21 i), .int (g' 22 i), .int (g' 23 i), .int (nI i), .ref (wad w' 2 (pb g' i)), .int (g' 18 i), .int (g' 19 i)]) : va_E) = Sum.inr (3, [.int (g 6 (pb g i)), .int (g 20 i), .int (g 21 i), .int (g 22 i), .int (g 23 i), .int (nI i), .ref (wad w 2 (pb g i)), .int (g 18 i), .int (g 19 i)])
    rw [e1, hadr 2 (pb g i) hpb (fun h => absurd h.1 (by decide)), l6 6 (pb g i) (by decide) (by decide) hpb, l17 18 i (by decide) (by decide) hi, l17 19 i (by decide) (by decide) hi, l17 20 i (by decide) (by decide) hi, l17 21 i (by decide) (by decide) hi, l17 22 i (by decide) (by decide) hi, l17 23 i (by decide) (by decide) hi]
  | 4, hl, hn =>
    have hi : i < nj g := hl
    have h26 := hO.l26 hi
    have h27 := hO.l27 hi
    have e1 : jp g' i = jp g i := by unfold jp; rw [l25 26 i (by decide) (by decide) hi]
    have e2 : jo g' i = jo g i := by unfold jo; rw [l25 27 i (by decide) (by decide) hi]
    show (Sum.inr (2, [.int (g' 25 i), .ref (wad w' 3 (jp g' i)), .ref (wad w' 3 (jo g' i)), .int (g' 29 i), .int (g' 28 i), .int (g' 30 i), .int (g' 31 i), .int (g' 32 i), .int (g' 33 i)]) : va_E) = Sum.inr (2, [.int (g 25 i), .ref (wad w 3 (jp g i)), .ref (wad w 3 (jo g i)), .int (g 29 i), .int (g 28 i), .int (g 30 i), .int (g 31 i), .int (g 32 i), .int (g 33 i)])
    rw [e1, e2, hadr 3 (jp g i) h26 (fun h => absurd h.1 (by decide)), hadr 3 (jo g i) h27 (fun h => absurd h.1 (by decide)), l25 25 i (by decide) (by decide) hi, l25 28 i (by decide) (by decide) hi, l25 29 i (by decide) (by decide) hi, l25 30 i (by decide) (by decide) hi, l25 31 i (by decide) (by decide) hi, l25 32 i (by decide) (by decide) hi, l25 33 i (by decide) (by decide) hi]
  | 5, hl, hn =>
    have hi : i < 3 + 2 * nb g := hl
    have hL : ¬ L i := fun h => hn ⟨Or.inl rfl, h⟩
    show (Sum.inr (0, [.int (wmc w' i), .ref (if ll g' i = 0 then zd z else wad w' 6 i), .int (nI (ll g' i))]) : va_E) = Sum.inr (0, [.int (wmc w i), .ref (if ll g i = 0 then zd z else wad w 6 i), .int (nI (ll g i))])
    rw [(hw i hi hL).1, hll i hi hL]
    by_cases h0 : ll g i = 0
    · rw [if_pos h0, if_pos h0]
    · rw [if_neg h0, if_neg h0, hadr 6 i ⟨hi, Nat.pos_of_ne_zero h0⟩ (fun h => hL h.2)]
  | 6, hl, hn =>
    have hi : i < 3 + 2 * nb g := hl.1
    have hL : ¬ L i := fun h => hn ⟨Or.inr rfl, h⟩
    show cQ (zO z) (wcp w' i) (wel w' i) = cQ (zO z) (wcp w i) (wel w i)
    rw [(hw i hi hL).2.1, (hw i hi hL).2.2]
  | 7, hl, hn =>
    show (Sum.inr (4, [.int (g' 14 i), .int (g' 15 i)]) : va_E) = Sum.inr (4, [.int (g 14 i), .int (g 15 i)])
    rw [hlo 14 i (Or.inr (Or.inr (Or.inl ⟨Or.inl rfl, hl⟩))), hlo 15 i (Or.inr (Or.inr (Or.inl ⟨Or.inr rfl, hl⟩)))]
  | 8, hl, hn =>
    have hi : i < np g := hl
    show (Sum.inr (4, [.int (g' 18 i - 30), .int (g' 18 i + g' 19 i + 30)]) : va_E) = Sum.inr (4, [.int (g 18 i - 30), .int (g 18 i + g 19 i + 30)])
    rw [l17 18 i (by decide) (by decide) hi, l17 19 i (by decide) (by decide) hi]
  | 9, hl, hn => exact hl.elim
  | 10, hl, hn => rfl
  | 11, hl, hn => exact hl.elim
  | k + 12, hl, hn => exact hl.elim
theorem ww_push {z : ZE} {w w' : WG} {g g' gm : GS} {o : Nat → Int64} {H H1 : Heap} {L : Nat → Prop} (N : Nat → Nat → Prop) (hO : OKg g) (h : WW z w g gm o H) (hz : zB z ≤ H.size)
    (hlo : ∀ a b, lo g a b → g' a b = g a b) (hll : ∀ i, i < 3 + 2 * nb g → ¬ L i → ll g' i = ll g i) (hli : ∀ i j, i < 3 + 2 * nb g → j < ll g i → li g' i j = li g i j)
    (hw : ∀ i, i < 3 + 2 * nb g → ¬ L i → wmc w' i = wmc w i ∧ wcp w' i = wcp w i ∧ wel w' i = wel w i) (hadr : ∀ k i, lv_e g k i → ¬ (k = 6 ∧ L i) → wad w' k i = wad w k i)
    (hadr6 : ∀ i, L i → i < 3 + 2 * nb g ∧ ((wad w' 6 i = wad w 6 i ∧ 0 < ll g i) ∨ H.size ≤ wad w' 6 i))
    (hlv : ∀ k i, lv_e g' k i → lv_e g k i ∨ N k i ∨ (k = 6 ∧ L i))
    (hkeep : ∀ x : Nat, x < H.size → (∀ i, L i → x ≠ wad w 5 i ∧ (0 < ll g i → x ≠ wad w 6 i)) → H1[x]? = H[x]?)
    (hat5 : ∀ i, L i → va_at (zD z) vwCl (wad w' 5 i, ct z w' g' gm o 5 i) H1) (hat6 : ∀ i, L i → va_at (zD z) vwCl (wad w' 6 i, ct z w' g' gm o 6 i) H1)
    (hatN : ∀ k i, N k i → H.size ≤ wad w' k i ∧ va_at (zD z) vwCl (wad w' k i, ct z w' g' gm o k i) H1)
    (hinj : ∀ k i k' i', (N k i ∨ (k = 6 ∧ L i ∧ H.size ≤ wad w' 6 i)) → (N k' i' ∨ (k' = 6 ∧ L i' ∧ H.size ≤ wad w' 6 i')) → wad w' k i = wad w' k' i' → k = k' ∧ i = i')
    (hLl : ∀ i, L i → ll g' i = ll g i + 1 ∧ (ll g i + 1 ≤ wcp w' i ∧ 10 ≤ wcp w' i ∧ wcp w' i ≤ 100) ∧ (∀ j, j < ll g i → wel w' i j = wel w i j) ∧ wel w' i (ll g i) = some (wad w' (lk i) (li g' i (ll g i))))
    (hnl : ∀ i, 3 + 2 * nb g ≤ i → i < 3 + 2 * nb g' → ll g' i = 0 ∧ wcp w' i = 10) : WW z w' g' gm o H1 := by
  have hold : ∀ k i, lv_e g' k i → ¬ (N k i ∨ (k = 6 ∧ L i ∧ H.size ≤ wad w' 6 i)) → lv_e g k i ∧ wad w' k i = wad w k i := by
    intro k i hk hn
    by_cases h6 : k = 6 ∧ L i
    · obtain ⟨rfl, hL⟩ := h6
      obtain ⟨a1, a2 | a2⟩ := hadr6 i hL
      · exact ⟨⟨a1, a2.2⟩, a2.1⟩
      · exact absurd (Or.inr ⟨rfl, hL, a2⟩) hn
    · rcases hlv k i hk with a | a | a
      · exact ⟨a, hadr k i a h6⟩
      · exact absurd (Or.inl a) hn
      · exact absurd a h6
  refine ww_ext h hz (fun k i => N k i ∨ (k = 6 ∧ L i ∧ H.size ≤ wad w' 6 i)) (fun k i => (k = 5 ∨ k = 6) ∧ L i) hold (fun k i hk hn hc => ct_same hO hlo hll hw hadr (hold k i hk hn).1 hc) (fun k i hk hc => ?_) (fun k i hk hc => ?_) (fun k i hk hn => ?_) (fun k i k' i' _ _ h1 h2 h3 => hinj k i k' i' h1 h2 h3) (fun i hi => ?_)
  · refine hkeep _ (h.1 k i hk).lt (fun i0 hL => ?_)
    obtain ⟨b1, -⟩ := hadr6 i0 hL
    refine ⟨fun e => ?_, fun hp e => ?_⟩
    · obtain ⟨rfl, rfl⟩ := h.2.1 k i 5 i0 hk b1 e
      exact hc ⟨Or.inl rfl, hL⟩
    · obtain ⟨rfl, rfl⟩ := h.2.1 k i 6 i0 hk ⟨b1, hp⟩ e
      exact hc ⟨Or.inr rfl, hL⟩
  · rcases hc with ⟨h1 | h1, hL⟩ | a | ⟨rfl, hL, -⟩
    · subst h1; exact hat5 i hL
    · subst h1; exact hat6 i hL
    · exact (hatN k i a).2
    · exact hat6 i hL
  · rcases hn with a | ⟨rfl, -, a⟩
    · exact (hatN k i a).1
    · exact a
  · by_cases hio : i < 3 + 2 * nb g
    · have hel := h.2.2.2 i hio
      have hsm : ∀ j, j < ll g i → wad w' (lk i) (li g' i j) = wad w (lk i) (li g i j) := fun j hj => by
        rw [hli i j hio hj]
        exact hadr _ _ (li_live hO hio hj) (fun q => (lk_ne6 i).1 q.1)
      by_cases hL : L i
      · obtain ⟨c1, c2, c3, c4⟩ := hLl i hL
        rw [c1]
        refine ⟨c2.1, c2.2, fun j hj => ?_⟩
        by_cases hj2 : j < ll g i
        · rw [c3 j hj2, hsm j hj2]
          exact hel.2.2 j hj2
        · obtain rfl : j = ll g i := by omega
          exact c4
      · obtain ⟨d1, d2, d3⟩ := hw i hio hL
        rw [hll i hio hL, d2, d3]
        exact ⟨hel.1, hel.2.1, fun j hj => by rw [hsm j hj]; exact hel.2.2 j hj⟩
    · obtain ⟨c1, c2⟩ := hnl i (by omega) hi
      rw [c1, c2]
      exact ⟨by omega, by omega, fun j hj => absurd hj (Nat.not_lt_zero j)⟩
