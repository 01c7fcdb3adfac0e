/-! ===== a new thing is put into a list of the world ===== -/
section GAW
variable {p : Program} {l : Launch} {e : Env} {R : Room} {s : State} {m : MethodId} {args : Array Value} {below : List Frame} {meth : Method} {c : Code} {H : Heap} {locs : List Loc} {cells slots : Nat} {Q : State → Prop}
variable {cc : ByteArray} {pc nL : Nat} {ls : Array Slot} {rest : List Value} {z : ZE} {w : WG} {g gm : GS} {o : Nat → Int64}
theorem x_addW (S : CallFix p m c cc nL s args wU RX5) (hE : EV z s s.heap) (hS : va_S (zA z) s.heap H locs) (hO : OKg g) {H0 : Heap} (hW : WW z w g gm o H0) (hz0 : H0.size ≤ H.size) (i : Nat) (hi : i < 3 + 2 * nb g) {ci vv k0 : Nat} {rc : vw_C} (hc : vwCl[ci]? = some rc) (hnw : (rc.1, "java/lang/Object") ∈ nwL) (hlk : lk i = k0) (hct : ∀ j, ∃ vs, ct z w g gm o k0 j = .inr (ci, vs))
    (hkp : ∀ k j, lv_e g k j → ((k = 5 ∧ j = i) ∨ (k = 6 ∧ j = i) ∨ k = k0) → H[wad w k j]? = H0[wad w k j]?) {vs : List Value} (hv : va_at (zD z) vwCl (vv, .inr (ci, vs)) H) (hvv : H0.size ≤ vv) (hn : ll g i ≤ 60)
    (hsize : ls.size = nL) (hWr : (rest.map fun v => v.category).sum ≤ 8) (hdg : decode cc pc = .ok (.invokevirtual 99, 3)) (hf : cells + 1 ≤ R.cells ∧ slots + 100 ≤ R.slots) (hR : 7 ≤ R.frames ∧ 191 ≤ R.locals)
    (kk : ∀ (H1 : Heap) (locs1 : List Loc) (e1 cap1 : Nat) (f1 : Nat → Option Nat), ((e1 = wad w 6 i ∧ 0 < ll g i) ∨ H.size ≤ e1) → va_at (zD z) vwCl (wad w 5 i, .inr (0, [.int (wmc w i + 1), .ref e1, .int (nI (ll g i + 1))])) H1 → va_at (zD z) vwCl (e1, cQ (zO z) cap1 f1) H1 → (ll g i + 1 ≤ cap1 ∧ 10 ≤ cap1 ∧ cap1 ≤ 100) → (∀ j, j < ll g i → f1 j = wel w i j) → f1 (ll g i) = some vv → H.size ≤ H1.size →
      (∀ x : Nat, x < H.size → x ≠ wad w 5 i → (0 < ll g i → x ≠ wad w 6 i) → H1[x]? = H[x]?) → va_S (zA z) s.heap H1 locs1 → W p l e R s m args below meth c H1 locs1 (cells + 1) (slots + 100) Q (F0 m (pc + 3) ls (.int 1 :: rest))) :
    W p l e R s m args below meth c H locs cells slots Q (F0 m pc ls (.ref vv :: .ref (wad w 5 i) :: rest)) := by
  have hl5 := hW.lst hi
  have hlt5 := hl5.lt
  have ha := hl5.kept (H1 := H) (hkp 5 i hi (Or.inl ⟨rfl, rfl⟩))
  have hel := hW.2.2.2 i hi
  refine x_addL S hE hS hc hnw (e0 := wad w 6 i) (n := ll g i) (cap := wcp w i) (f := wel w i) (hW.2.2.1 5 i hi) ha hv (by have : wad w 5 i < H0.size := hlt5; omega) (fun h0 => ?_) hn ⟨hel.1, hel.2.1⟩ hsize hWr hdg hf hR kk
  have hl6 : lv_e g 6 i := ⟨hi, h0⟩
  have h6 := hW.arr hi h0
  have hlt6 : wad w 6 i < H0.size := h6.lt
  refine ⟨hW.2.2.1 6 i hl6, h6.kept (H1 := H) (hkp 6 i hl6 (Or.inr (Or.inl ⟨rfl, rfl⟩))), fun q => absurd (hW.2.1 5 i 6 i hi hl6 q).1 (by decide), by omega, fun j hj => ?_, fun j hj q => ?_⟩
  · have hlv := li_live hO hi hj
    rw [hlk] at hlv
    obtain ⟨vs9, h9⟩ := hct (li g i j)
    have hat := hW.1 k0 (li g i j) hlv
    rw [h9] at hat
    exact ⟨wad w k0 (li g i j), vs9, by rw [hel.2.2 j hj, hlk], hat.kept (H1 := H) (hkp k0 _ hlv (Or.inr (Or.inr rfl)))⟩
  · rw [hel.2.2 j hj] at q
    have hlv := li_live hO hi hj
    have := (hW.2.1 _ _ 5 i hlv hi (Option.some.inj q)).1
    exact (lk_ne6 i).2 this
end GAW
theorem lk_k (i : Nat) : lk (3 + 2 * i) = 7 := by unfold lk; rw [if_neg (by omega), if_neg (by omega), if_neg (by omega), if_pos (by omega)]
theorem lk_t (i : Nat) : lk (4 + 2 * i) = 8 := by unfold lk; rw [if_neg (by omega), if_neg (by omega), if_neg (by omega), if_neg (by omega)]
theorem jst_eq (g : GS) (kd : Int32) (p q : Nat) (sz tg : Int32) : jst' (gup g 3 1 (g 3 1 - hd (g 6 (pb g p)))) kd p q sz tg = jst g kd p q sz tg := by
  unfold jst' jst
  rw [show nj (gup g 3 1 (g 3 1 - hd (g 6 (pb g p)))) = nj g from nj_of (by simp [gup])]
theorem cst_eq (g : GS) (b : Nat) (f l w : Int32) : cst' (gup g 3 0 (g 3 0 - hd (g 6 b))) b f l w = cutst g b f l w := by
  unfold cst' cutst
  rw [show np (gup g 3 0 (g 3 0 - hd (g 6 b))) = np g from np_of (by simp [gup]), show gup g 3 0 (g 3 0 - hd (g 6 b)) 12 b = g 12 b by simp [gup]]
theorem knot_wi {f t : Int32} {N : Nat} (h1 : 100 ≤ N) (h2 : N ≤ 30000) : (wi f 0 (nI N - 1) = true ∧ wi t (f + 1) (nI N) = true) ↔ (¬ f < 0 ∧ ¬ t ≤ f ∧ t ≤ nI N) := by
  rw [show (1 : Int32) = nI 1 from rfl, pk_sub (by omega)]
  constructor
  · rintro ⟨a, b⟩
    obtain ⟨j, hj, rfl⟩ := wi_nat (by omega) a
    rw [nI_add] at b
    obtain ⟨k, k1, k2, rfl⟩ := wi_rng (by omega) (by omega) b
    refine ⟨nI_pos (by omega), fun q => ?_, ?_⟩
    · rw [nI_leI (by omega) (by omega)] at q
      omega
    · rw [nI_leI (by omega) (by omega)]
      exact k2
  · rintro ⟨a, b, d⟩
    obtain ⟨j, hj, rfl⟩ := nI_of a
    have c0 : ¬ t < 0 := fun q => b (by
      rw [Int32.lt_iff_toInt_lt] at q
      rw [Int32.le_iff_toInt_le, nI_toInt hj]
      have : (0 : Int32).toInt = 0 := by decide
      omega)
    obtain ⟨k, hk, rfl⟩ := nI_of c0
    rw [nI_leI (by omega) (by omega)] at b d
    simp only [wi, Bool.and_eq_true, Bool.not_eq_true', decide_eq_false_iff_not]
    rw [nI_add]
    refine ⟨⟨nI_pos (by omega), fun q => ?_⟩, fun q => ?_, fun q => ?_⟩
    · rw [nI_ltI (by omega) (by omega)] at q
      omega
    · rw [nI_ltI (by omega) (by omega)] at q
      omega
    · rw [nI_ltI (by omega) (by omega)] at q
      omega
theorem cutok_hrm (g : GS) (b : Nat) (f l w hid : Int32) : cutok g b f l w hid = ((decide (np g < 40) && (hrm g b f l && !decide (bWd g b < w))) && ((!decide (hid = 0) || !anyN (kn g b) (knt g b f (f + l))) && !decide (g 3 0 < hd (g 6 b)))) := by
  unfold cutok hrm
  rw [Bool.and_assoc (!decide (g 10 b < f + l))]
