/-! ===== the world with a board more; with a part more ===== -/
/-! a board -/
set_option maxHeartbeats 4000000 in
set_option maxRecDepth 100000 in
theorem ww_board {z : ZE} {w : WG} {g gm : GS} {o : Nat → Int64} {H H1 : Heap} (hO : OKg g) (h : WW z w g gm o H) (hz : zB z ≤ H.size) (h20 : nb g < 20) {sp fl pl wd le mo9 : Int32} {x q1 q2 e1 cap1 : Nat} {f1 : Nat → Option Nat}
    (hx : x = H.size) (hq1 : H.size + 1 ≤ q1) (hq2 : q1 < q2) (hat : va_at (zD z) vwCl (x, .inr (1, [.int sp, .int wd, .int mo9, .int mo9, .int 0, .int (nI (nb g)), .int fl, .int pl, .int le, .ref q1, .ref q2])) H1)
    (hk1 : va_at (zD z) vwCl (q1, .inr (0, [.int 0, .ref (zd z), .int 0])) H1) (hk2 : va_at (zD z) vwCl (q2, .inr (0, [.int 0, .ref (zd z), .int 0])) H1)
    (he1 : (e1 = wad w 6 0 ∧ 0 < nb g) ∨ q2 + 1 ≤ e1)
    (hl5 : va_at (zD z) vwCl (wad w 5 0, .inr (0, [.int (wmc w 0 + 1), .ref e1, .int (nI (nb g + 1))])) H1) (hl6 : va_at (zD z) vwCl (e1, cQ (zO z) cap1 f1) H1)
    (hcap : nb g + 1 ≤ cap1 ∧ 10 ≤ cap1 ∧ cap1 ≤ 100) (hf : ∀ j, j < nb g → f1 j = wel w 0 j) (hfn : f1 (nb g) = some x)
    (hk : ∀ y : Nat, y < H.size → y ≠ wad w 5 0 → (0 < nb g → y ≠ wad w 6 0) → H1[y]? = H[y]?) : WW z (wL (wE (wE (wN w 2 (nb g) x) (3 + 2 * nb g) q1) (4 + 2 * nb g) q2) 0 e1 cap1 f1) (bst g sp fl pl wd le mo9) gm o H1 := by
  have hg : ∀ a b, lo g a b → bst g sp fl pl wd le mo9 a b = g a b := by
    intro a b hl
    unfold lo at hl
    have c1 : ¬ (a = 5 ∧ b = 0) := by omega
    have c2 : ∀ n, 6 ≤ n → n ≤ 12 → ¬ (a = n ∧ b = nb g) := fun n h1 h2 => by omega
    unfold bst
    simp only [gup, if_neg c1, if_neg (c2 6 (by decide) (by decide)), if_neg (c2 7 (by decide) (by decide)), if_neg (c2 8 (by decide) (by decide)), if_neg (c2 9 (by decide) (by decide)), if_neg (c2 10 (by decide) (by decide)), if_neg (c2 11 (by decide) (by decide)), if_neg (c2 12 (by decide) (by decide))]
  have v5 : bst g sp fl pl wd le mo9 5 0 = nI (nb g + 1) := by simp [bst, gup]
  have v16 : bst g sp fl pl wd le mo9 16 0 = g 16 0 := by simp [bst, gup]
  have v24 : bst g sp fl pl wd le mo9 24 0 = g 24 0 := by simp [bst, gup]
  have v13 : ∀ b, bst g sp fl pl wd le mo9 13 b = g 13 b := fun b => by simp [bst, gup]
  have v17 : ∀ b, bst g sp fl pl wd le mo9 17 b = g 17 b := fun b => by simp [bst, gup]
  have v6 : bst g sp fl pl wd le mo9 6 (nb g) = sp := by simp [bst, gup]
  have v7 : bst g sp fl pl wd le mo9 7 (nb g) = fl := by simp [bst, gup]
  have v8 : bst g sp fl pl wd le mo9 8 (nb g) = pl := by simp [bst, gup]
  have v9 : bst g sp fl pl wd le mo9 9 (nb g) = wd := by simp [bst, gup]
  have v10 : bst g sp fl pl wd le mo9 10 (nb g) = le := by simp [bst, gup]
  have v11 : bst g sp fl pl wd le mo9 11 (nb g) = mo9 := by simp [bst, gup]
  have v12 : bst g sp fl pl wd le mo9 12 (nb g) = mo9 := by simp [bst, gup]
  generalize bst g sp fl pl wd le mo9 = g' at *
  have e5 : nb g' = nb g + 1 := nb_v v5 (by omega)
  have enp : np g' = np g := np_of v16
  have enj : nj g' = nj g := nj_of v24
  have ekn : ∀ b, kn g' b = kn g b := fun b => kn_of (v13 b)
  have etk : ∀ b, tk g' b = tk g b := fun b => tk_congr enp (fun i hi => pb_of (v17 i))
  have ell : ∀ i, i ≠ 0 → ll g' i = ll g i := fun i hi => ll_congr (fun e => absurd e hi) (fun _ => enp) (fun _ => enj) (fun _ _ => ekn _) (fun _ _ => etk _)
  have kn0 : kn g (nb g) = 0 := by
    unfold kn
    rw [hO.2.2.2.2.1 (nb g) (Nat.le_refl _)]
    decide
  have tk0 : tk g (nb g) = [] := by
    unfold tk
    rw [List.filter_eq_nil_iff]
    intro i hi
    have := hO.l17 (List.mem_range.mp hi)
    simp only [beq_iff_eq]
    omega
  have lla : ll g (3 + 2 * nb g) = 0 := ll_kn.trans kn0
  have llb : ll g (4 + 2 * nb g) = 0 := by rw [ll_tk, tk0]; rfl
  generalize hw' : wL (wE (wE (wN w 2 (nb g) x) (3 + 2 * nb g) q1) (4 + 2 * nb g) q2) 0 e1 cap1 f1 = w'
  have a2 : wad w' 2 (nb g) = x := by rw [← hw']; simp [wL_a, wL_m, wL_c, wL_e, wN_a, wN_m, wN_c, wN_e, wE_a, wE_m, wE_c, wE_e]
  have a51 : wad w' 5 (3 + 2 * nb g) = q1 := by rw [← hw']; simp [wL_a, wL_m, wL_c, wL_e, wN_a, wN_m, wN_c, wN_e, wE_a, wE_m, wE_c, wE_e]
  have a52 : wad w' 5 (4 + 2 * nb g) = q2 := by rw [← hw']; simp [wL_a, wL_m, wL_c, wL_e, wN_a, wN_m, wN_c, wN_e, wE_a, wE_m, wE_c, wE_e]
  have a6 : wad w' 6 0 = e1 := by rw [← hw']; simp [wL_a, wL_m, wL_c, wL_e, wN_a, wN_m, wN_c, wN_e, wE_a, wE_m, wE_c, wE_e]
  have an : ∀ k i, ¬ (k = 2 ∧ i = nb g) → ¬ (k = 5 ∧ i = 3 + 2 * nb g) → ¬ (k = 5 ∧ i = 4 + 2 * nb g) → ¬ (k = 6 ∧ i = 0) → wad w' k i = wad w k i := fun k i h1 h2 h3 h4 => by rw [← hw']; simp [wL_a, wL_m, wL_c, wL_e, wN_a, wN_m, wN_c, wN_e, wE_a, wE_m, wE_c, wE_e, h1, h2, h3, h4]
  have m0 : wmc w' 0 = wmc w 0 + 1 := by rw [← hw']; simp [wL_a, wL_m, wL_c, wL_e, wN_a, wN_m, wN_c, wN_e, wE_a, wE_m, wE_c, wE_e, show ¬ 0 = 3 + 2 * nb g by omega, show ¬ 0 = 4 + 2 * nb g by omega]
  have m1 : wmc w' (3 + 2 * nb g) = 0 := by rw [← hw']; simp [wL_a, wL_m, wL_c, wL_e, wN_a, wN_m, wN_c, wN_e, wE_a, wE_m, wE_c, wE_e]
  have m2 : wmc w' (4 + 2 * nb g) = 0 := by rw [← hw']; simp [wL_a, wL_m, wL_c, wL_e, wN_a, wN_m, wN_c, wN_e, wE_a, wE_m, wE_c, wE_e]
  have mn : ∀ i, i ≠ 0 → i ≠ 3 + 2 * nb g → i ≠ 4 + 2 * nb g → wmc w' i = wmc w i := fun i h1 h2 h3 => by rw [← hw']; simp [wL_a, wL_m, wL_c, wL_e, wN_a, wN_m, wN_c, wN_e, wE_a, wE_m, wE_c, wE_e, h1, h2, h3]
  have p0 : wcp w' 0 = cap1 := by rw [← hw']; simp [wL_a, wL_m, wL_c, wL_e, wN_a, wN_m, wN_c, wN_e, wE_a, wE_m, wE_c, wE_e]
  have p1 : wcp w' (3 + 2 * nb g) = 10 := by rw [← hw']; simp [wL_a, wL_m, wL_c, wL_e, wN_a, wN_m, wN_c, wN_e, wE_a, wE_m, wE_c, wE_e]
  have p2 : wcp w' (4 + 2 * nb g) = 10 := by rw [← hw']; simp [wL_a, wL_m, wL_c, wL_e, wN_a, wN_m, wN_c, wN_e, wE_a, wE_m, wE_c, wE_e]
  have pn : ∀ i, i ≠ 0 → i ≠ 3 + 2 * nb g → i ≠ 4 + 2 * nb g → wcp w' i = wcp w i := fun i h1 h2 h3 => by rw [← hw']; simp [wL_a, wL_m, wL_c, wL_e, wN_a, wN_m, wN_c, wN_e, wE_a, wE_m, wE_c, wE_e, h1, h2, h3]
  have f0 : wel w' 0 = f1 := by rw [← hw']; simp [wL_a, wL_m, wL_c, wL_e, wN_a, wN_m, wN_c, wN_e, wE_a, wE_m, wE_c, wE_e]
  have fn : ∀ i, i ≠ 0 → wel w' i = wel w i := fun i h1 => by rw [← hw']; simp [wL_a, wL_m, wL_c, wL_e, wN_a, wN_m, wN_c, wN_e, wE_a, wE_m, wE_c, wE_e, h1]
  clear hw'
  have hold6 : e1 = wad w 6 0 ∧ 0 < nb g → e1 < H.size := fun h4 => by
    rw [h4.1]
    exact (h.1 6 0 ⟨by omega, h4.2⟩).lt
  refine ww_push (L := fun i => i = 0) (fun k i => (k = 2 ∧ i = nb g) ∨ (k = 5 ∧ i = 3 + 2 * nb g) ∨ (k = 5 ∧ i = 4 + 2 * nb g)) hO h hz hg (fun i _ hL => ell i hL) (fun i j _ _ => li_congr (fun _ _ => etk _)) (fun i hi hL => ⟨mn i hL (by omega) (by omega), pn i hL (by omega) (by omega), fn i hL⟩)
    (fun k i hl h6 => an k i (fun e => ?_) (fun e => ?_) (fun e => ?_) h6) (fun i hL => ?_) (fun k i hl => ?_) (fun y hy hL => hk y hy (hL 0 rfl).1 (hL 0 rfl).2) (fun i hL => ?_) (fun i hL => ?_) (fun k i hN => ?_) (fun k i k' i' h1 h2 h3 => ?_) (fun i hL => ?_) (fun i h1 h2 => ?_)
  · obtain ⟨rfl, rfl⟩ := e
    exact absurd hl (Nat.lt_irrefl _)
  · obtain ⟨rfl, rfl⟩ := e
    exact absurd hl (Nat.lt_irrefl _)
  · obtain ⟨rfl, rfl⟩ := e
    exact absurd hl (by show ¬ 4 + 2 * nb g < 3 + 2 * nb g; omega)
  · subst hL
    refine ⟨by omega, ?_⟩
    rw [a6]
    rcases he1 with h1 | h1
    · exact Or.inl h1
    · exact Or.inr (by omega)
  · rcases lv_case (g := g) hl with q | ⟨rfl, q⟩ | ⟨rfl, q⟩ | ⟨rfl, q⟩ | ⟨rfl, q⟩ | ⟨rfl, q⟩ | ⟨rfl, q⟩ | ⟨rfl, q⟩
    · exact Or.inl q
    · rw [e5] at q
      by_cases e : i = nb g
      · exact Or.inr (Or.inl (Or.inl ⟨rfl, e⟩))
      · exact Or.inl (show i < nb g by omega)
    · exact Or.inl (show i < np g from enp ▸ q)
    · exact Or.inl (show i < nj g from enj ▸ q)
    · rw [e5] at q
      by_cases e : i = 3 + 2 * nb g
      · exact Or.inr (Or.inl (Or.inr (Or.inl ⟨rfl, e⟩)))
      · by_cases e2 : i = 4 + 2 * nb g
        · exact Or.inr (Or.inl (Or.inr (Or.inr ⟨rfl, e2⟩)))
        · exact Or.inl (show i < 3 + 2 * nb g by omega)
    · by_cases e : i = 0
      · exact Or.inr (Or.inr ⟨rfl, e⟩)
      · obtain ⟨hl2, hl3⟩ := q
        rw [e5] at hl2
        rw [ell i e] at hl3
        refine Or.inl ⟨?_, hl3⟩
        rcases Nat.lt_or_ge i (3 + 2 * nb g) with h9 | h9
        · exact h9
        · exfalso
          rcases (show i = 3 + 2 * nb g ∨ i = 4 + 2 * nb g by omega) with rfl | rfl
          · omega
          · omega
    · obtain ⟨h1, h2⟩ := q
      rw [e5] at h1
      rw [ekn] at h2
      refine Or.inl ⟨?_, h2⟩
      rcases Nat.lt_or_ge (i / 4) (nb g) with h9 | h9
      · exact h9
      · exfalso
        rw [show i / 4 = nb g by omega, kn0] at h2
        omega
    · exact Or.inl (show i < np g from enp ▸ q)
  · subst hL
    rw [an 5 0 (by omega) (by omega) (by omega) (by omega)]
    have r1 : ct z w' g' gm o 5 0 = .inr (0, [.int (wmc w 0 + 1), .ref e1, .int (nI (nb g + 1))]) := by
      show (Sum.inr (0, [.int (wmc w' 0), .ref (if nb g' = 0 then zd z else wad w' 6 0), .int (nI (nb g'))]) : va_E) = _
      rw [e5, if_neg (by omega), a6, m0]
    rw [r1]; exact hl5
  · subst hL
    rw [a6]
    have r1 : ct z w' g' gm o 6 0 = cQ (zO z) cap1 f1 := by
      show cQ (zO z) (wcp w' 0) (wel w' 0) = _
      rw [p0, f0]
    rw [r1]; exact hl6
  · rcases hN with ⟨rfl, rfl⟩ | ⟨rfl, rfl⟩ | ⟨rfl, rfl⟩
    · rw [a2]
      refine ⟨Nat.le_of_eq hx.symm, ?_⟩
      have r1 : ct z w' g' gm o 2 (nb g) = .inr (1, [.int sp, .int wd, .int mo9, .int mo9, .int 0, .int (nI (nb g)), .int fl, .int pl, .int le, .ref q1, .ref q2]) := by
        show (Sum.inr (1, [.int (g' 6 (nb g)), .int (g' 9 (nb g)), .int (g' 11 (nb g)), .int (g' 12 (nb g)), .int 0, .int (nI (nb g)), .int (g' 7 (nb g)), .int (g' 8 (nb g)), .int (g' 10 (nb g)), .ref (wad w' 5 (3 + 2 * nb g)), .ref (wad w' 5 (4 + 2 * nb g))]) : va_E) = _
        rw [a51, a52, v6, v7, v8, v9, v10, v11, v12]
      rw [r1]; exact hat
    · rw [a51]
      refine ⟨by omega, ?_⟩
      have r1 : ct z w' g' gm o 5 (3 + 2 * nb g) = .inr (0, [.int 0, .ref (zd z), .int 0]) := by
        show (Sum.inr (0, [.int (wmc w' (3 + 2 * nb g)), .ref (if ll g' (3 + 2 * nb g) = 0 then zd z else wad w' 6 (3 + 2 * nb g)), .int (nI (ll g' (3 + 2 * nb g)))]) : va_E) = _
        rw [m1, ell _ (by omega), lla, if_pos rfl]
        rfl
      rw [r1]; exact hk1
    · rw [a52]
      refine ⟨by omega, ?_⟩
      have r1 : ct z w' g' gm o 5 (4 + 2 * nb g) = .inr (0, [.int 0, .ref (zd z), .int 0]) := by
        show (Sum.inr (0, [.int (wmc w' (4 + 2 * nb g)), .ref (if ll g' (4 + 2 * nb g) = 0 then zd z else wad w' 6 (4 + 2 * nb g)), .int (nI (ll g' (4 + 2 * nb g)))]) : va_E) = _
        rw [m2, ell _ (by omega), llb, if_pos rfl]
        rfl
      rw [r1]; exact hk2
  · have hb6 : H.size ≤ e1 → q2 + 1 ≤ e1 := fun h9 => by
      rcases he1 with h4 | h4
      · have := hold6 h4
        omega
      · exact h4
    rcases h1 with (⟨rfl, rfl⟩ | ⟨rfl, rfl⟩ | ⟨rfl, rfl⟩) | ⟨rfl, rfl, h1⟩ <;> rcases h2 with (⟨rfl, rfl⟩ | ⟨rfl, rfl⟩ | ⟨rfl, rfl⟩) | ⟨rfl, rfl, h2⟩ <;> first | exact ⟨rfl, rfl⟩ | (exfalso; simp only [a2, a51, a52, a6] at *; omega) | (exfalso; simp only [a2, a51, a52, a6] at *; have h8 := hb6 ‹_›; omega)
  · subst hL
    rw [p0, f0]
    refine ⟨e5, hcap, hf, ?_⟩
    show f1 (nb g) = some (wad w' 2 (nb g))
    rw [a2]; exact hfn
  · rw [e5] at h2
    rcases (show i = 3 + 2 * nb g ∨ i = 4 + 2 * nb g by omega) with rfl | rfl
    · exact ⟨(ell _ (by omega)).trans lla, p1⟩
    · exact ⟨(ell _ (by omega)).trans llb, p2⟩
/-! a part -/
def cst' (g : GS) (b : Nat) (f l wd : Int32) : GS :=
  gup (gup (gup (gup (gup (gup (gup g 17 (np g) (nI b)) 18 (np g) f) 19 (np g) l) 20 (np g) wd) 21 (np g) (g 12 b)) 22 (np g) (g 12 b)) 16 0 (nI (np g + 1))
set_option maxHeartbeats 4000000 in
set_option maxRecDepth 100000 in
theorem ww_cut {z : ZE} {w : WG} {g gm : GS} {o : Nat → Int64} {H H1 : Heap} (hO : OKg g) (h : WW z w g gm o H) (hz : zB z ≤ H.size) (h40 : np g < 40) {b : Nat} (hb : b < nb g) {f l wd : Int32} {x y e1 cap1 e2 cap2 : Nat} {f1 f2 : Nat → Option Nat}
    (hx : x = H.size) (hy : x + 1 ≤ y) (hat : va_at (zD z) vwCl (x, .inr (3, [.int (g 6 b), .int wd, .int (g 12 b), .int (g 12 b), .int 0, .int (nI (np g)), .ref (wad w 2 b), .int f, .int l])) H1)
    (haty : va_at (zD z) vwCl (y, .inr (4, [.int (f - 30), .int (f + l + 30)])) H1)
    (he1 : (e1 = wad w 6 1 ∧ 0 < np g) ∨ (x + 1 ≤ e1 ∧ e1 < y)) (he2 : (e2 = wad w 6 (4 + 2 * b) ∧ 0 < ll g (4 + 2 * b)) ∨ y + 1 ≤ e2)
    (hl5 : va_at (zD z) vwCl (wad w 5 1, .inr (0, [.int (wmc w 1 + 1), .ref e1, .int (nI (np g + 1))])) H1) (hl6 : va_at (zD z) vwCl (e1, cQ (zO z) cap1 f1) H1)
    (hcap : np g + 1 ≤ cap1 ∧ 10 ≤ cap1 ∧ cap1 ≤ 100) (hf : ∀ j, j < np g → f1 j = wel w 1 j) (hfn : f1 (np g) = some x)
    (ht5 : va_at (zD z) vwCl (wad w 5 (4 + 2 * b), .inr (0, [.int (wmc w (4 + 2 * b) + 1), .ref e2, .int (nI (ll g (4 + 2 * b) + 1))])) H1) (ht6 : va_at (zD z) vwCl (e2, cQ (zO z) cap2 f2) H1)
    (hcap2 : ll g (4 + 2 * b) + 1 ≤ cap2 ∧ 10 ≤ cap2 ∧ cap2 ≤ 100) (hf2 : ∀ j, j < ll g (4 + 2 * b) → f2 j = wel w (4 + 2 * b) j) (hfn2 : f2 (ll g (4 + 2 * b)) = some y)
    (hk : ∀ q : Nat, q < H.size → q ≠ wad w 5 1 → (0 < np g → q ≠ wad w 6 1) → q ≠ wad w 5 (4 + 2 * b) → (0 < ll g (4 + 2 * b) → q ≠ wad w 6 (4 + 2 * b)) → H1[q]? = H[q]?) :
    WW z (wL (wN (wL (wN w 3 (np g) x) 1 e1 cap1 f1) 8 (np g) y) (4 + 2 * b) e2 cap2 f2) (cst' g b f l wd) gm o H1 := by
  have hb5 := hO.l5
  have z23 : g 23 (np g) = 0 := hO.2.2.2.2.2.1 (np g) (Nat.le_refl _)
  have hg : ∀ a c, lo g a c → cst' g b f l wd a c = g a c := by
    intro a c hl
    unfold lo at hl
    have c1 : ¬ (a = 16 ∧ c = 0) := by omega
    have c2 : ∀ n, 17 ≤ n → n ≤ 22 → ¬ (a = n ∧ c = np g) := fun n h1 h2 => by omega
    unfold cst'
    simp only [gup, if_neg c1, if_neg (c2 17 (by decide) (by decide)), if_neg (c2 18 (by decide) (by decide)), if_neg (c2 19 (by decide) (by decide)), if_neg (c2 20 (by decide) (by decide)), if_neg (c2 21 (by decide) (by decide)), if_neg (c2 22 (by decide) (by decide))]
  have v5 : cst' g b f l wd 5 0 = g 5 0 := by simp [cst', gup]
  have v16 : cst' g b f l wd 16 0 = nI (np g + 1) := by simp [cst', gup]
  have v24 : cst' g b f l wd 24 0 = g 24 0 := by simp [cst', gup]
  have v13 : ∀ b9, cst' g b f l wd 13 b9 = g 13 b9 := fun b9 => by simp [cst', gup]
  have v17 : ∀ i, i < np g → cst' g b f l wd 17 i = g 17 i := fun i hi => by simp [cst', gup, show ¬ i = np g by omega]
  have v17n : cst' g b f l wd 17 (np g) = nI b := by simp [cst', gup]
  have v6 : cst' g b f l wd 6 b = g 6 b := by simp [cst', gup]
  have v23 : cst' g b f l wd 23 (np g) = 0 := by simp [cst', gup, z23]
  have v18 : cst' g b f l wd 18 (np g) = f := by simp [cst', gup]
  have v19 : cst' g b f l wd 19 (np g) = l := by simp [cst', gup]
  have v20 : cst' g b f l wd 20 (np g) = wd := by simp [cst', gup]
  have v21 : cst' g b f l wd 21 (np g) = g 12 b := by simp [cst', gup]
  have v22 : cst' g b f l wd 22 (np g) = g 12 b := by simp [cst', gup]
  generalize cst' g b f l wd = g' at *
  have enb : nb g' = nb g := nb_of v5
  have enj : nj g' = nj g := nj_of v24
  have e16 : np g' = np g + 1 := np_v v16 (by omega)
  have ekn : ∀ b9, kn g' b9 = kn g b9 := fun b9 => kn_of (v13 b9)
  have epb : ∀ i, i < np g → pb g' i = pb g i := fun i hi => pb_of (v17 i hi)
  have epn : pb g' (np g) = b := pb_v v17n (by omega)
  have etk : ∀ c, tk g' c = tk g c ++ (if b = c then [np g] else []) := fun c => tk_more e16 epb epn
  have etn : ∀ c, c ≠ b → tk g' c = tk g c := fun c hc => by rw [etk, if_neg (fun e => hc e.symm), List.append_nil]
  have etb : tk g' b = tk g b ++ [np g] := by rw [etk, if_pos rfl]
  have ell : ∀ i, ¬ (i = 1 ∨ i = 4 + 2 * b) → ll g' i = ll g i := fun i hi => ll_congr (fun _ => enb) (fun e => absurd (Or.inl e) hi) (fun _ => enj) (fun _ _ => ekn _) (fun h3 ho => etn _ (by omega))
  have elb : ll g' (4 + 2 * b) = ll g (4 + 2 * b) + 1 := by
    rw [ll_tk, ll_tk, etb, List.length_append]
    rfl
  have elk : lk (4 + 2 * b) = 8 := by unfold lk; rw [if_neg (by omega), if_neg (by omega), if_neg (by omega), if_neg (by omega)]
  have eli : ∀ i j, j < ll g i → li g' i j = li g i j := fun i j hj => by
    unfold li
    by_cases e0 : i < 3
    · rw [if_pos e0, if_pos e0]
    · rw [if_neg e0, if_neg e0]
      by_cases ho : i % 2 = 1
      · rw [if_pos ho, if_pos ho]
      · rw [if_neg ho, if_neg ho]
        by_cases e : (i - 4) / 2 = b
        · rw [e, etb]
          have hj2 : j < (tk g b).length := by
            rw [show i = 4 + 2 * b by omega, ll_tk] at hj
            exact hj
          rw [List.getD_eq_getElem?_getD, List.getD_eq_getElem?_getD, List.getElem?_append_left hj2]
        · rw [etn _ e]
  have eln : li g' (4 + 2 * b) (ll g (4 + 2 * b)) = np g := by
    unfold li
    rw [if_neg (by omega), if_neg (by omega), show (4 + 2 * b - 4) / 2 = b by omega, etb, ll_tk, List.getD_eq_getElem?_getD, List.getElem?_append_right (Nat.le_refl _), Nat.sub_self]
    rfl
  generalize hw' : wL (wN (wL (wN w 3 (np g) x) 1 e1 cap1 f1) 8 (np g) y) (4 + 2 * b) e2 cap2 f2 = w'
  have a3 : wad w' 3 (np g) = x := by rw [← hw']; simp [wL_a, wL_m, wL_c, wL_e, wN_a, wN_m, wN_c, wN_e]
  have a8 : wad w' 8 (np g) = y := by rw [← hw']; simp [wL_a, wL_m, wL_c, wL_e, wN_a, wN_m, wN_c, wN_e]
  have a61 : wad w' 6 1 = e1 := by rw [← hw']; simp [wL_a, wL_m, wL_c, wL_e, wN_a, wN_m, wN_c, wN_e]; omega
  have a62 : wad w' 6 (4 + 2 * b) = e2 := by rw [← hw']; simp [wL_a, wL_m, wL_c, wL_e, wN_a, wN_m, wN_c, wN_e]
  have an : ∀ k i, ¬ (k = 3 ∧ i = np g) → ¬ (k = 8 ∧ i = np g) → ¬ (k = 6 ∧ i = 1) → ¬ (k = 6 ∧ i = 4 + 2 * b) → wad w' k i = wad w k i := fun k i h1 h2 h3 h4 => by rw [← hw']; simp [wL_a, wL_m, wL_c, wL_e, wN_a, wN_m, wN_c, wN_e, h1, h2, h3, h4]
  have m1 : wmc w' 1 = wmc w 1 + 1 := by rw [← hw']; simp [wL_a, wL_m, wL_c, wL_e, wN_a, wN_m, wN_c, wN_e]; omega
  have m2 : wmc w' (4 + 2 * b) = wmc w (4 + 2 * b) + 1 := by rw [← hw']; simp [wL_a, wL_m, wL_c, wL_e, wN_a, wN_m, wN_c, wN_e]; omega
  have mn : ∀ i, ¬ (i = 1 ∨ i = 4 + 2 * b) → wmc w' i = wmc w i := fun i h1 => by rw [not_or] at h1; rw [← hw']; simp [wL_a, wL_m, wL_c, wL_e, wN_a, wN_m, wN_c, wN_e, h1.1, h1.2]
  have p1 : wcp w' 1 = cap1 := by rw [← hw']; simp [wL_a, wL_m, wL_c, wL_e, wN_a, wN_m, wN_c, wN_e]; omega
  have p2 : wcp w' (4 + 2 * b) = cap2 := by rw [← hw']; simp [wL_a, wL_m, wL_c, wL_e, wN_a, wN_m, wN_c, wN_e]
  have pn : ∀ i, ¬ (i = 1 ∨ i = 4 + 2 * b) → wcp w' i = wcp w i := fun i h1 => by rw [not_or] at h1; rw [← hw']; simp [wL_a, wL_m, wL_c, wL_e, wN_a, wN_m, wN_c, wN_e, h1.1, h1.2]
  have f11 : wel w' 1 = f1 := by rw [← hw']; simp [wL_a, wL_m, wL_c, wL_e, wN_a, wN_m, wN_c, wN_e]; omega
  have f12 : wel w' (4 + 2 * b) = f2 := by rw [← hw']; simp [wL_a, wL_m, wL_c, wL_e, wN_a, wN_m, wN_c, wN_e]
  have fn : ∀ i, ¬ (i = 1 ∨ i = 4 + 2 * b) → wel w' i = wel w i := fun i h1 => by rw [not_or] at h1; rw [← hw']; simp [wL_a, wL_m, wL_c, wL_e, wN_a, wN_m, wN_c, wN_e, h1.1, h1.2]
  clear hw'
  have hold1 : e1 = wad w 6 1 ∧ 0 < np g → e1 < H.size := fun h4 => by
    rw [h4.1]
    exact (h.1 6 1 ⟨by omega, h4.2⟩).lt
  have hold2 : e2 = wad w 6 (4 + 2 * b) ∧ 0 < ll g (4 + 2 * b) → e2 < H.size := fun h4 => by
    rw [h4.1]
    exact (h.1 6 (4 + 2 * b) ⟨by omega, h4.2⟩).lt
  refine ww_push (L := fun i => i = 1 ∨ i = 4 + 2 * b) (fun k i => (k = 3 ∧ i = np g) ∨ (k = 8 ∧ i = np g)) hO h hz hg (fun i _ hL => ell i hL) (fun i j _ hj => eli i j hj) (fun i hi hL => ⟨mn i hL, pn i hL, fn i hL⟩)
    (fun k i hl h6 => an k i (fun e => ?_) (fun e => ?_) (fun e => h6 ⟨e.1, Or.inl e.2⟩) (fun e => h6 ⟨e.1, Or.inr e.2⟩)) (fun i hL => ?_) (fun k i hl => ?_) (fun q hq hL => hk q hq (hL 1 (Or.inl rfl)).1 (hL 1 (Or.inl rfl)).2 (hL _ (Or.inr rfl)).1 (hL _ (Or.inr rfl)).2) (fun i hL => ?_) (fun i hL => ?_) (fun k i hN => ?_) (fun k i k' i' h1 h2 h3 => ?_) (fun i hL => ?_) (fun i h1 h2 => ?_)
  · obtain ⟨rfl, rfl⟩ := e
    exact absurd hl (Nat.lt_irrefl _)
  · obtain ⟨rfl, rfl⟩ := e
    exact absurd hl (Nat.lt_irrefl _)
  · rcases hL with rfl | rfl
    · refine ⟨by omega, ?_⟩
      rw [a61]
      rcases he1 with h1 | h1
      · exact Or.inl h1
      · exact Or.inr (by omega)
    · refine ⟨by omega, ?_⟩
      rw [a62]
      rcases he2 with h1 | h1
      · exact Or.inl h1
      · exact Or.inr (by omega)
  · rcases lv_case (g := g) hl with q | ⟨rfl, q⟩ | ⟨rfl, q⟩ | ⟨rfl, q⟩ | ⟨rfl, q⟩ | ⟨rfl, q⟩ | ⟨rfl, q⟩ | ⟨rfl, q⟩
    · exact Or.inl q
    · exact Or.inl (show i < nb g from enb ▸ q)
    · rw [e16] at q
      by_cases e : i = np g
      · exact Or.inr (Or.inl (Or.inl ⟨rfl, e⟩))
      · exact Or.inl (show i < np g by omega)
    · exact Or.inl (show i < nj g from enj ▸ q)
    · exact Or.inl (show i < 3 + 2 * nb g from enb ▸ q)
    · by_cases e : i = 1 ∨ i = 4 + 2 * b
      · exact Or.inr (Or.inr ⟨rfl, e⟩)
      · exact Or.inl ⟨enb ▸ q.1, (ell i e) ▸ q.2⟩
    · exact Or.inl ⟨enb ▸ q.1, (ekn (i / 4)) ▸ q.2⟩
    · rw [e16] at q
      by_cases e : i = np g
      · exact Or.inr (Or.inl (Or.inr ⟨rfl, e⟩))
      · exact Or.inl (show i < np g by omega)
  · rcases hL with rfl | rfl
    · rw [an 5 1 (by omega) (by omega) (by omega) (by omega)]
      have r1 : ct z w' g' gm o 5 1 = .inr (0, [.int (wmc w 1 + 1), .ref e1, .int (nI (np g + 1))]) := by
        show (Sum.inr (0, [.int (wmc w' 1), .ref (if np g' = 0 then zd z else wad w' 6 1), .int (nI (np g'))]) : va_E) = _
        rw [e16, if_neg (by omega), a61, m1]
      rw [r1]; exact hl5
    · rw [an 5 (4 + 2 * b) (by omega) (by omega) (by omega) (by omega)]
      have r1 : ct z w' g' gm o 5 (4 + 2 * b) = .inr (0, [.int (wmc w (4 + 2 * b) + 1), .ref e2, .int (nI (ll g (4 + 2 * b) + 1))]) := by
        show (Sum.inr (0, [.int (wmc w' (4 + 2 * b)), .ref (if ll g' (4 + 2 * b) = 0 then zd z else wad w' 6 (4 + 2 * b)), .int (nI (ll g' (4 + 2 * b)))]) : va_E) = _
        rw [elb, if_neg (by omega), a62, m2]
      rw [r1]; exact ht5
  · rcases hL with rfl | rfl
    · rw [a61]
      have r1 : ct z w' g' gm o 6 1 = cQ (zO z) cap1 f1 := by
        show cQ (zO z) (wcp w' 1) (wel w' 1) = _
        rw [p1, f11]
      rw [r1]; exact hl6
    · rw [a62]
      have r1 : ct z w' g' gm o 6 (4 + 2 * b) = cQ (zO z) cap2 f2 := by
        show cQ (zO z) (wcp w' (4 + 2 * b)) (wel w' (4 + 2 * b)) = _
        rw [p2, f12]
      rw [r1]; exact ht6
  · rcases hN with ⟨rfl, rfl⟩ | ⟨rfl, rfl⟩
    · rw [a3]
      refine ⟨Nat.le_of_eq hx.symm, ?_⟩
      have r1 : ct z w' g' gm o 3 (np g) = .inr (3, [.int (g 6 b), .int wd, .int (g 12 b), .int (g 12 b), .int 0, .int (nI (np g)), .ref (wad w 2 b), .int f, .int l]) := by
        show (Sum.inr (3, [.int (g' 6 (pb g' (np g))), .int (g' 20 (np g)), .int (g' 21 (np g)), .int (g' 22 (np g)), .int (g' 23 (np g)), .int (nI (np g)), .ref (wad w' 2 (pb g' (np g))), .int (g' 18 (np g)), .int (g' 19 (np g))]) : va_E) = _
        rw [epn, an 2 b (by omega) (by omega) (by omega) (by omega), v6, v18, v19, v20, v21, v22, v23]
      rw [r1]; exact hat
    · rw [a8]
      refine ⟨by omega, ?_⟩
      have r1 : ct z w' g' gm o 8 (np g) = .inr (4, [.int (f - 30), .int (f + l + 30)]) := by
        show (Sum.inr (4, [.int (g' 18 (np g) - 30), .int (g' 18 (np g) + g' 19 (np g) + 30)]) : va_E) = _
        rw [v18, v19]
      rw [r1]; exact haty
  · have hb1 : H.size ≤ e1 → x + 1 ≤ e1 ∧ e1 < y := fun h9 => by
      rcases he1 with h4 | h4
      · have := hold1 h4
        omega
      · exact h4
    have hb2 : H.size ≤ e2 → y + 1 ≤ e2 := fun h9 => by
      rcases he2 with h4 | h4
      · have := hold2 h4
        omega
      · exact h4
    rcases h1 with (⟨rfl, rfl⟩ | ⟨rfl, rfl⟩) | ⟨rfl, rfl | rfl, h1⟩ <;> rcases h2 with (⟨rfl, rfl⟩ | ⟨rfl, rfl⟩) | ⟨rfl, rfl | rfl, h2⟩ <;> first | exact ⟨rfl, rfl⟩ | (exfalso; simp only [a3, a8, a61, a62] at *; omega)
  · rcases hL with rfl | rfl
    · rw [p1, f11]
      refine ⟨e16, hcap, hf, ?_⟩
      show f1 (np g) = some (wad w' 3 (np g))
      rw [a3]; exact hfn
    · rw [p2, f12]
      refine ⟨elb, hcap2, hf2, ?_⟩
      rw [elk, eln, a8]; exact hfn2
  · rw [enb] at h2
    omega
