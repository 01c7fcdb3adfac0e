/-! ===== the world with one thing more ===== -/
def wN (w : WG) (k0 i0 q : Nat) : WG := (fun k i => if k = k0 ∧ i = i0 then q else wad w k i, wmc w, wcp w, wel w)
def wL (w : WG) (i0 e1 cap1 : Nat) (f1 : Nat → Option Nat) : WG := (fun k i => if k = 6 ∧ i = i0 then e1 else wad w k i, fun i => if i = i0 then wmc w i0 + 1 else wmc w i, fun i => if i = i0 then cap1 else wcp w i, fun i => if i = i0 then f1 else wel w i)
def wE (w : WG) (i0 q : Nat) : WG := (fun k i => if k = 5 ∧ i = i0 then q else wad w k i, fun i => if i = i0 then 0 else wmc w i, fun i => if i = i0 then 10 else wcp w i, wel w)
theorem wL_a (w : WG) (i0 e1 cap1 : Nat) (f1 : Nat → Option Nat) (k i : Nat) : wad (wL w i0 e1 cap1 f1) k i = if k = 6 ∧ i = i0 then e1 else wad w k i := rfl
theorem wL_m (w : WG) (i0 e1 cap1 : Nat) (f1 : Nat → Option Nat) (i : Nat) : wmc (wL w i0 e1 cap1 f1) i = if i = i0 then wmc w i0 + 1 else wmc w i := rfl
theorem wL_c (w : WG) (i0 e1 cap1 : Nat) (f1 : Nat → Option Nat) (i : Nat) : wcp (wL w i0 e1 cap1 f1) i = if i = i0 then cap1 else wcp w i := rfl
theorem wL_e (w : WG) (i0 e1 cap1 : Nat) (f1 : Nat → Option Nat) (i : Nat) : wel (wL w i0 e1 cap1 f1) i = if i = i0 then f1 else wel w i := rfl
theorem wN_a (w : WG) (k0 i0 q : Nat) (k i : Nat) : wad (wN w k0 i0 q) k i = if k = k0 ∧ i = i0 then q else wad w k i := rfl
theorem wN_m (w : WG) (k0 i0 q : Nat) (i : Nat) : wmc (wN w k0 i0 q) i = wmc w i := rfl
theorem wN_c (w : WG) (k0 i0 q : Nat) (i : Nat) : wcp (wN w k0 i0 q) i = wcp w i := rfl
theorem wN_e (w : WG) (k0 i0 q : Nat) (i : Nat) : wel (wN w k0 i0 q) i = wel w i := rfl
theorem wE_a (w : WG) (i0 q : Nat) (k i : Nat) : wad (wE w i0 q) k i = if k = 5 ∧ i = i0 then q else wad w k i := rfl
theorem wE_m (w : WG) (i0 q : Nat) (i : Nat) : wmc (wE w i0 q) i = if i = i0 then 0 else wmc w i := rfl
theorem wE_c (w : WG) (i0 q : Nat) (i : Nat) : wcp (wE w i0 q) i = if i = i0 then 10 else wcp w i := rfl
theorem wE_e (w : WG) (i0 q : Nat) (i : Nat) : wel (wE w i0 q) i = wel w i := rfl
theorem ll_2 {g : GS} : ll g 2 = nj g := rfl
theorem ll_tk {g : GS} {b : Nat} : ll g (4 + 2 * b) = (tk g b).length := by
  unfold ll; rw [if_neg (by omega), if_neg (by omega), if_neg (by omega), if_neg (by omega), show (4 + 2 * b - 4) / 2 = b by omega]
/-- a list's length hangs on few places -/
theorem ll_congr {g g' : GS} {i : Nat} (h0 : i = 0 → nb g' = nb g) (h1 : i = 1 → np g' = np g) (h2 : i = 2 → nj g' = nj g) (hk : 3 ≤ i → i % 2 = 1 → kn g' ((i - 3) / 2) = kn g ((i - 3) / 2)) (ht : 3 ≤ i → i % 2 = 0 → tk g' ((i - 4) / 2) = tk g ((i - 4) / 2)) : ll g' i = ll g i := by
  unfold ll
  by_cases e0 : i = 0
  · rw [if_pos e0, if_pos e0]; exact h0 e0
  · rw [if_neg e0, if_neg e0]
    by_cases e1 : i = 1
    · rw [if_pos e1, if_pos e1]; exact h1 e1
    · rw [if_neg e1, if_neg e1]
      by_cases e2 : i = 2
      · rw [if_pos e2, if_pos e2]; exact h2 e2
      · rw [if_neg e2, if_neg e2]
        by_cases ho : i % 2 = 1
        · rw [if_pos ho, if_pos ho]; exact hk (by omega) ho
        · rw [if_neg ho, if_neg ho, ht (by omega) (by omega)]
theorem li_congr {g g' : GS} {i j : Nat} (ht : 3 ≤ i → i % 2 = 0 → tk g' ((i - 4) / 2) = tk g ((i - 4) / 2)) : li g' i j = li g i j := by
  unfold li
  by_cases e0 : i < 3
  · rw [if_pos e0, if_pos e0]
  · rw [if_neg e0, if_neg e0]
    by_cases ho : i % 2 = 1
    · rw [if_pos ho, if_pos ho]
    · rw [if_neg ho, if_neg ho, ht (by omega) (by omega)]
theorem tk_congr {g g' : GS} {b : Nat} (hn : np g' = np g) (hp : ∀ i, i < np g → pb g' i = pb g i) : tk g' b = tk g b := by
  unfold tk
  rw [hn]
  refine List.filter_congr (fun i hi => ?_)
  rw [hp i (List.mem_range.mp hi)]
theorem tk_more {g g' : GS} {b c : Nat} (hn : np g' = np g + 1) (hp : ∀ i, i < np g → pb g' i = pb g i) (hc : pb g' (np g) = c) : tk g' b = tk g b ++ (if c = b then [np g] else []) := by
  unfold tk
  rw [hn, List.range_succ, List.filter_append]
  congr 1
  · refine List.filter_congr (fun i hi => ?_)
    rw [hp i (List.mem_range.mp hi)]
  · by_cases e : c = b
    · simp [hc, e]
    · simp [hc, e]
theorem nI_t {n : Nat} (h : n < 2 ^ 31) : (nI n).toNatClampNeg = n := nI_clamp h
theorem lv_case {g g' : GS} {k i : Nat} (h : lv_e g' k i) : lv_e g k i ∨ (k = 2 ∧ i < nb g') ∨ (k = 3 ∧ i < np g') ∨ (k = 4 ∧ i < nj g') ∨ (k = 5 ∧ i < 3 + 2 * nb g') ∨ (k = 6 ∧ i < 3 + 2 * nb g' ∧ 0 < ll g' i) ∨ (k = 7 ∧ i / 4 < nb g' ∧ i % 4 < kn g' (i / 4)) ∨ (k = 8 ∧ i < np g') := by
  match k, h with
  | 0, h => exact Or.inl (show i = 0 from h)
  | 1, h => exact Or.inl (show i = 0 from h)
  | 2, h => exact Or.inr (Or.inl ⟨rfl, h⟩)
  | 3, h => exact Or.inr (Or.inr (Or.inl ⟨rfl, h⟩))
  | 4, h => exact Or.inr (Or.inr (Or.inr (Or.inl ⟨rfl, h⟩)))
  | 5, h => exact Or.inr (Or.inr (Or.inr (Or.inr (Or.inl ⟨rfl, h⟩))))
  | 6, h => exact Or.inr (Or.inr (Or.inr (Or.inr (Or.inr (Or.inl ⟨rfl, h⟩)))))
  | 7, h => exact Or.inr (Or.inr (Or.inr (Or.inr (Or.inr (Or.inr (Or.inl ⟨rfl, h⟩))))))
  | 8, h => exact Or.inr (Or.inr (Or.inr (Or.inr (Or.inr (Or.inr (Or.inr ⟨rfl, h⟩))))))
  | 9, h => exact h.elim
  | 10, h => exact Or.inl (show isA i = true from h)
  | 11, h => exact h.elim
  | k + 12, h => exact h.elim
theorem nb_of {g g' : GS} (h : g' 5 0 = g 5 0) : nb g' = nb g := by unfold nb; rw [h]
theorem np_of {g g' : GS} (h : g' 16 0 = g 16 0) : np g' = np g := by unfold np; rw [h]
theorem nj_of {g g' : GS} (h : g' 24 0 = g 24 0) : nj g' = nj g := by unfold nj; rw [h]
theorem kn_of {g g' : GS} {b : Nat} (h : g' 13 b = g 13 b) : kn g' b = kn g b := by unfold kn; rw [h]
theorem pb_of {g g' : GS} {b : Nat} (h : g' 17 b = g 17 b) : pb g' b = pb g b := by unfold pb; rw [h]
theorem nb_v {g : GS} {n : Nat} (h : g 5 0 = nI n) (hn : n < 2 ^ 31) : nb g = n := by unfold nb; rw [h]; exact nI_t hn
theorem np_v {g : GS} {n : Nat} (h : g 16 0 = nI n) (hn : n < 2 ^ 31) : np g = n := by unfold np; rw [h]; exact nI_t hn
theorem nj_v {g : GS} {n : Nat} (h : g 24 0 = nI n) (hn : n < 2 ^ 31) : nj g = n := by unfold nj; rw [h]; exact nI_t hn
theorem kn_v {g : GS} {n b : Nat} (h : g 13 b = nI n) (hn : n < 2 ^ 31) : kn g b = n := by unfold kn; rw [h]; exact nI_t hn
theorem pb_v {g : GS} {n b : Nat} (h : g 17 b = nI n) (hn : n < 2 ^ 31) : pb g b = n := by unfold pb; rw [h]; exact nI_t hn
theorem jp_v {g : GS} {n b : Nat} (h : g 26 b = nI n) (hn : n < 2 ^ 31) : jp g b = n := by unfold jp; rw [h]; exact nI_t hn
theorem jo_v {g : GS} {n b : Nat} (h : g 27 b = nI n) (hn : n < 2 ^ 31) : jo g b = n := by unfold jo; rw [h]; exact nI_t hn
/-! a joint -/
def jst' (g : GS) (kd : Int32) (p q : Nat) (sz tg : Int32) : GS :=
  gup (gup (gup (gup (gup (gup g 25 (nj g) kd) 26 (nj g) (nI p)) 27 (nj g) (nI q)) 28 (nj g) sz) 29 (nj g) tg) 24 0 (nI (nj g + 1))
set_option maxHeartbeats 4000000 in
set_option maxRecDepth 100000 in
theorem ww_joint {z : ZE} {w : WG} {g gm : GS} {o : Nat → Int64} {H H1 : Heap} (hO : OKg g) (h : WW z w g gm o H) (hz : zB z ≤ H.size) (h30 : nj g < 30) {kd sz tg : Int32} {p q : Nat} (hp : p < np g) (hq : q < np g) {x e1 cap1 : Nat} {f1 : Nat → Option Nat}
    (hx : x = H.size) (hat : va_at (zD z) vwCl (x, .inr (2, [.int kd, .ref (wad w 3 p), .ref (wad w 3 q), .int tg, .int sz, .int 0, .int 0, .int 0, .int 0])) H1)
    (he1 : (e1 = wad w 6 2 ∧ 0 < nj g) ∨ H.size + 1 ≤ e1)
    (hl5 : va_at (zD z) vwCl (wad w 5 2, .inr (0, [.int (wmc w 2 + 1), .ref e1, .int (nI (nj g + 1))])) H1) (hl6 : va_at (zD z) vwCl (e1, cQ (zO z) cap1 f1) H1)
    (hcap : nj g + 1 ≤ cap1 ∧ 10 ≤ cap1 ∧ cap1 ≤ 100) (hf : ∀ j, j < nj g → f1 j = wel w 2 j) (hfn : f1 (nj g) = some x)
    (hk : ∀ y : Nat, y < H.size → y ≠ wad w 5 2 → (0 < nj g → y ≠ wad w 6 2) → H1[y]? = H[y]?) : WW z (wL (wN w 4 (nj g) x) 2 e1 cap1 f1) (jst' g kd p q sz tg) gm o H1 := by
  have hp40 := hO.l16
  have z30 := hO.2.2.2.2.2.2 (nj g) (Nat.le_refl _)
  have hg : ∀ a b, lo g a b → jst' g kd p q sz tg a b = g a b := by
    intro a b hl
    unfold lo at hl
    have c1 : ¬ (a = 24 ∧ b = 0) := by omega
    have c2 : ∀ n, 25 ≤ n → n ≤ 29 → ¬ (a = n ∧ b = nj g) := fun n h1 h2 => by omega
    unfold jst'
    simp only [gup, if_neg c1, if_neg (c2 25 (by decide) (by decide)), if_neg (c2 26 (by decide) (by decide)), if_neg (c2 27 (by decide) (by decide)), if_neg (c2 28 (by decide) (by decide)), if_neg (c2 29 (by decide) (by decide))]
  have v5 : jst' g kd p q sz tg 5 0 = g 5 0 := by simp [jst', gup]
  have v16 : jst' g kd p q sz tg 16 0 = g 16 0 := by simp [jst', gup]
  have v24 : jst' g kd p q sz tg 24 0 = nI (nj g + 1) := by simp [jst', gup]
  have v13 : ∀ b, jst' g kd p q sz tg 13 b = g 13 b := fun b => by simp [jst', gup]
  have v17 : ∀ b, jst' g kd p q sz tg 17 b = g 17 b := fun b => by simp [jst', gup]
  have v25 : jst' g kd p q sz tg 25 (nj g) = kd := by simp [jst', gup]
  have v26 : jst' g kd p q sz tg 26 (nj g) = nI p := by simp [jst', gup]
  have v27 : jst' g kd p q sz tg 27 (nj g) = nI q := by simp [jst', gup]
  have v28 : jst' g kd p q sz tg 28 (nj g) = sz := by simp [jst', gup]
  have v29 : jst' g kd p q sz tg 29 (nj g) = tg := by simp [jst', gup]
  have v30 : jst' g kd p q sz tg 30 (nj g) = 0 := by simp [jst', gup, z30]
  have v31 : jst' g kd p q sz tg 31 (nj g) = 0 := by simp [jst', gup, z30]
  have v32 : jst' g kd p q sz tg 32 (nj g) = 0 := by simp [jst', gup, z30]
  have v33 : jst' g kd p q sz tg 33 (nj g) = 0 := by simp [jst', gup, z30]
  generalize jst' g kd p q sz tg = g' at *
  have enb : nb g' = nb g := nb_of v5
  have enp : np g' = np g := np_of v16
  have e24 : nj g' = nj g + 1 := nj_v v24 (by omega)
  have ekn : ∀ b, kn g' b = kn g b := fun b => kn_of (v13 b)
  have etk : ∀ b, tk g' b = tk g b := fun b => tk_congr enp (fun i hi => pb_of (v17 i))
  have ell : ∀ i, i ≠ 2 → ll g' i = ll g i := fun i hi => ll_congr (fun _ => enb) (fun _ => enp) (fun e => absurd e hi) (fun _ _ => ekn _) (fun _ _ => etk _)
  generalize hw' : wL (wN w 4 (nj g) x) 2 e1 cap1 f1 = w'
  have a4 : wad w' 4 (nj g) = x := by rw [← hw']; simp [wL_a, wL_m, wL_c, wL_e, wN_a, wN_m, wN_c, wN_e]
  have a6 : wad w' 6 2 = e1 := by rw [← hw']; simp [wL_a, wL_m, wL_c, wL_e, wN_a, wN_m, wN_c, wN_e]
  have an : ∀ k i, ¬ (k = 4 ∧ i = nj g) → ¬ (k = 6 ∧ i = 2) → wad w' k i = wad w k i := fun k i h1 h2 => by rw [← hw']; simp [wL_a, wL_m, wL_c, wL_e, wN_a, wN_m, wN_c, wN_e, h1, h2]
  have m2 : wmc w' 2 = wmc w 2 + 1 := by rw [← hw']; simp [wL_a, wL_m, wL_c, wL_e, wN_a, wN_m, wN_c, wN_e]
  have mn : ∀ i, i ≠ 2 → wmc w' i = wmc w i := fun i hL => by rw [← hw']; simp [wL_a, wL_m, wL_c, wL_e, wN_a, wN_m, wN_c, wN_e, hL]
  have p2 : wcp w' 2 = cap1 := by rw [← hw']; simp [wL_a, wL_m, wL_c, wL_e, wN_a, wN_m, wN_c, wN_e]
  have pn : ∀ i, i ≠ 2 → wcp w' i = wcp w i := fun i hL => by rw [← hw']; simp [wL_a, wL_m, wL_c, wL_e, wN_a, wN_m, wN_c, wN_e, hL]
  have f2 : wel w' 2 = f1 := by rw [← hw']; simp [wL_a, wL_m, wL_c, wL_e, wN_a, wN_m, wN_c, wN_e]
  have fn : ∀ i, i ≠ 2 → wel w' i = wel w i := fun i hL => by rw [← hw']; simp [wL_a, wL_m, wL_c, wL_e, wN_a, wN_m, wN_c, wN_e, hL]
  clear hw'
  have hlv4 : ∀ k i, lv_e g k i → ¬ (k = 4 ∧ i = nj g) := fun k i hl e => by
    obtain ⟨rfl, rfl⟩ := e
    exact absurd hl (Nat.lt_irrefl _)
  refine ww_push (L := fun i => i = 2) (fun k i => k = 4 ∧ i = nj g) hO h hz hg (fun i _ hL => ell i hL) (fun i j _ _ => li_congr (fun _ _ => etk _)) (fun i _ hL => ⟨mn i hL, pn i hL, fn i hL⟩)
    (fun k i hl h6 => an k i (hlv4 k i hl) h6) (fun i hL => ?_) (fun k i hl => ?_) (fun y hy hL => hk y hy (hL 2 rfl).1 (hL 2 rfl).2) (fun i hL => ?_) (fun i hL => ?_) (fun k i hN => ?_) (fun k i k' i' h1 h2 h3 => ?_) (fun i hL => ?_) (fun i h1 h2 => ?_)
  · subst hL
    refine ⟨by omega, ?_⟩
    rw [a6]
    rcases he1 with h1 | h1
    · exact Or.inl h1
    · exact Or.inr (by omega)
  · rcases lv_case (g := g) hl with q | ⟨rfl, q⟩ | ⟨rfl, q⟩ | ⟨rfl, q⟩ | ⟨rfl, q⟩ | ⟨rfl, q⟩ | ⟨rfl, q⟩ | ⟨rfl, q⟩
    · exact Or.inl q
    · exact Or.inl (show i < nb g from enb ▸ q)
    · exact Or.inl (show i < np g from enp ▸ q)
    · rw [e24] at q
      by_cases e : i = nj g
      · exact Or.inr (Or.inl ⟨rfl, e⟩)
      · exact Or.inl (show i < nj g by omega)
    · exact Or.inl (show i < 3 + 2 * nb g from enb ▸ q)
    · by_cases e : i = 2
      · exact Or.inr (Or.inr ⟨rfl, e⟩)
      · exact Or.inl ⟨enb ▸ q.1, (ell i e) ▸ q.2⟩
    · exact Or.inl ⟨enb ▸ q.1, (ekn (i / 4)) ▸ q.2⟩
    · exact Or.inl (show i < np g from enp ▸ q)
  · subst hL
    rw [an 5 2 (by omega) (by omega)]
    have q1 : ct z w' g' gm o 5 2 = .inr (0, [.int (wmc w 2 + 1), .ref e1, .int (nI (nj g + 1))]) := by
      show (Sum.inr (0, [.int (wmc w' 2), .ref (if nj g' = 0 then zd z else wad w' 6 2), .int (nI (nj g'))]) : va_E) = _
      rw [e24, if_neg (by omega), a6, m2]
    rw [q1]; exact hl5
  · subst hL
    rw [a6]
    have q1 : ct z w' g' gm o 6 2 = cQ (zO z) cap1 f1 := by
      show cQ (zO z) (wcp w' 2) (wel w' 2) = _
      rw [p2, f2]
    rw [q1]; exact hl6
  · obtain ⟨rfl, rfl⟩ := hN
    rw [a4]
    refine ⟨Nat.le_of_eq hx.symm, ?_⟩
    have q1 : ct z w' g' gm o 4 (nj g) = .inr (2, [.int kd, .ref (wad w 3 p), .ref (wad w 3 q), .int tg, .int sz, .int 0, .int 0, .int 0, .int 0]) := by
      have b1 : jp g' (nj g) = p := jp_v v26 (by omega)
      have b2 : jo g' (nj g) = q := jo_v v27 (by omega)
      show (Sum.inr (2, [.int (g' 25 (nj g)), .ref (wad w' 3 (jp g' (nj g))), .ref (wad w' 3 (jo g' (nj g))), .int (g' 29 (nj g)), .int (g' 28 (nj g)), .int (g' 30 (nj g)), .int (g' 31 (nj g)), .int (g' 32 (nj g)), .int (g' 33 (nj g))]) : va_E) = _
      rw [b1, b2, an 3 p (by omega) (by omega), an 3 q (by omega) (by omega), v25, v28, v29, v30, v31, v32, v33]
    rw [q1]; exact hat
  · rcases h1 with ⟨rfl, rfl⟩ | ⟨rfl, rfl, h1⟩
    · rcases h2 with ⟨rfl, rfl⟩ | ⟨rfl, rfl, h2⟩
      · exact ⟨rfl, rfl⟩
      · exfalso
        rw [a4, a6] at h3
        rcases he1 with h4 | h4
        · have := (h.1 6 2 ⟨show 2 < 3 + 2 * nb g by omega, h4.2⟩).lt
          have h5 := h4.1
          omega
        · omega
    · rcases h2 with ⟨rfl, rfl⟩ | ⟨rfl, rfl, h2⟩
      · exfalso
        rw [a4, a6] at h3
        rcases he1 with h4 | h4
        · have := (h.1 6 2 ⟨show 2 < 3 + 2 * nb g by omega, h4.2⟩).lt
          have h5 := h4.1
          omega
        · omega
      · exact ⟨rfl, rfl⟩
  · subst hL
    rw [p2, f2]
    refine ⟨e24, hcap, hf, ?_⟩
    show f1 (nj g) = some (wad w' 4 (nj g))
    rw [a4]; exact hfn
  · rw [enb] at h2
    omega
/-! a knot -/
def kst' (g : GS) (b : Nat) (f t : Int32) : GS := gup (gup (gup g 14 (4 * b + kn g b) f) 15 (4 * b + kn g b) t) 13 b (nI (kn g b + 1))
set_option maxHeartbeats 4000000 in
set_option maxRecDepth 100000 in
theorem ww_knot {z : ZE} {w : WG} {g gm : GS} {o : Nat → Int64} {H H1 : Heap} (hO : OKg g) (h : WW z w g gm o H) (hz : zB z ≤ H.size) {b : Nat} (hb : b < nb g) (h4 : kn g b < 4) {f t : Int32} {x e1 cap1 : Nat} {f1 : Nat → Option Nat}
    (hx : x = H.size) (hat : va_at (zD z) vwCl (x, .inr (4, [.int f, .int t])) H1)
    (he1 : (e1 = wad w 6 (3 + 2 * b) ∧ 0 < kn g b) ∨ H.size + 1 ≤ e1)
    (hl5 : va_at (zD z) vwCl (wad w 5 (3 + 2 * b), .inr (0, [.int (wmc w (3 + 2 * b) + 1), .ref e1, .int (nI (kn g b + 1))])) H1) (hl6 : va_at (zD z) vwCl (e1, cQ (zO z) cap1 f1) H1)
    (hcap : kn g b + 1 ≤ cap1 ∧ 10 ≤ cap1 ∧ cap1 ≤ 100) (hf : ∀ j, j < kn g b → f1 j = wel w (3 + 2 * b) j) (hfn : f1 (kn g b) = some x)
    (hk : ∀ y : Nat, y < H.size → y ≠ wad w 5 (3 + 2 * b) → (0 < kn g b → y ≠ wad w 6 (3 + 2 * b)) → H1[y]? = H[y]?) : WW z (wL (wN w 7 (4 * b + kn g b) x) (3 + 2 * b) e1 cap1 f1) (kst' g b f t) gm o H1 := by
  have hb5 := hO.l5
  have hg : ∀ a c, lo g a c → kst' g b f t a c = g a c := by
    intro a c hl
    have c1 : ¬ (a = 13 ∧ c = b) := by unfold lo at hl; omega
    have c2 : ∀ n, (n = 14 ∨ n = 15) → ¬ (a = n ∧ c = 4 * b + kn g b) := fun n hn hac => by
      obtain ⟨rfl, rfl⟩ := hac
      rcases hl with h1 | h1 | h1 | h1 | h1
      · omega
      · omega
      · rw [show (4 * b + kn g b) / 4 = b by omega] at h1
        omega
      · omega
      · omega
    unfold kst'
    simp only [gup, if_neg c1, if_neg (c2 14 (Or.inl rfl)), if_neg (c2 15 (Or.inr rfl))]
  have v5 : kst' g b f t 5 0 = g 5 0 := by simp [kst', gup]
  have v16 : kst' g b f t 16 0 = g 16 0 := by simp [kst', gup]
  have v24 : kst' g b f t 24 0 = g 24 0 := by simp [kst', gup]
  have v13b : kst' g b f t 13 b = nI (kn g b + 1) := by simp [kst', gup]
  have v13 : ∀ c, c ≠ b → kst' g b f t 13 c = g 13 c := fun c hc => by simp [kst', gup, hc]
  have v17 : ∀ c, kst' g b f t 17 c = g 17 c := fun c => by simp [kst', gup]
  have v14 : kst' g b f t 14 (4 * b + kn g b) = f := by simp [kst', gup]
  have v15 : kst' g b f t 15 (4 * b + kn g b) = t := by simp [kst', gup]
  generalize kst' g b f t = g' at *
  have enb : nb g' = nb g := nb_of v5
  have enp : np g' = np g := np_of v16
  have enj : nj g' = nj g := nj_of v24
  have ekb : kn g' b = kn g b + 1 := kn_v v13b (by omega)
  have ekn : ∀ c, c ≠ b → kn g' c = kn g c := fun c hc => kn_of (v13 c hc)
  have etk : ∀ c, tk g' c = tk g c := fun c => tk_congr enp (fun i hi => pb_of (v17 i))
  have ell : ∀ i, i ≠ 3 + 2 * b → ll g' i = ll g i := fun i hi => ll_congr (fun _ => enb) (fun _ => enp) (fun _ => enj) (fun h3 ho => ekn _ (by omega)) (fun _ _ => etk _)
  have eli : ll g' (3 + 2 * b) = kn g b + 1 := ll_kn.trans ekb
  have elg : ll g (3 + 2 * b) = kn g b := ll_kn
  have elk : lk (3 + 2 * b) = 7 := by unfold lk; rw [if_neg (by omega), if_neg (by omega), if_neg (by omega), if_pos (by omega)]
  have eln : li g' (3 + 2 * b) (kn g b) = 4 * b + kn g b := by unfold li; rw [if_neg (by omega), if_pos (by omega), show (3 + 2 * b - 3) / 2 = b by omega]
  generalize hw' : wL (wN w 7 (4 * b + kn g b) x) (3 + 2 * b) e1 cap1 f1 = w'
  have a7 : wad w' 7 (4 * b + kn g b) = x := by rw [← hw']; simp [wL_a, wL_m, wL_c, wL_e, wN_a, wN_m, wN_c, wN_e]
  have a6 : wad w' 6 (3 + 2 * b) = e1 := by rw [← hw']; simp [wL_a, wL_m, wL_c, wL_e, wN_a, wN_m, wN_c, wN_e]
  have an : ∀ k i, ¬ (k = 7 ∧ i = 4 * b + kn g b) → ¬ (k = 6 ∧ i = 3 + 2 * b) → wad w' k i = wad w k i := fun k i h1 h2 => by rw [← hw']; simp [wL_a, wL_m, wL_c, wL_e, wN_a, wN_m, wN_c, wN_e, h1, h2]
  have m2 : wmc w' (3 + 2 * b) = wmc w (3 + 2 * b) + 1 := by rw [← hw']; simp [wL_a, wL_m, wL_c, wL_e, wN_a, wN_m, wN_c, wN_e]
  have mn : ∀ i, i ≠ 3 + 2 * b → wmc w' i = wmc w i := fun i hL => by rw [← hw']; simp [wL_a, wL_m, wL_c, wL_e, wN_a, wN_m, wN_c, wN_e, hL]
  have p2 : wcp w' (3 + 2 * b) = cap1 := by rw [← hw']; simp [wL_a, wL_m, wL_c, wL_e, wN_a, wN_m, wN_c, wN_e]
  have pn : ∀ i, i ≠ 3 + 2 * b → wcp w' i = wcp w i := fun i hL => by rw [← hw']; simp [wL_a, wL_m, wL_c, wL_e, wN_a, wN_m, wN_c, wN_e, hL]
  have f2 : wel w' (3 + 2 * b) = f1 := by rw [← hw']; simp [wL_a, wL_m, wL_c, wL_e, wN_a, wN_m, wN_c, wN_e]
  have fn : ∀ i, i ≠ 3 + 2 * b → wel w' i = wel w i := fun i hL => by rw [← hw']; simp [wL_a, wL_m, wL_c, wL_e, wN_a, wN_m, wN_c, wN_e, hL]
  clear hw'
  have hlv7 : ∀ k i, lv_e g k i → ¬ (k = 7 ∧ i = 4 * b + kn g b) := fun k i hl e => by
    obtain ⟨rfl, rfl⟩ := e
    have h2 : (4 * b + kn g b) % 4 < kn g ((4 * b + kn g b) / 4) := hl.2
    rw [show (4 * b + kn g b) / 4 = b by omega] at h2
    omega
  have hold6 : e1 = wad w 6 (3 + 2 * b) ∧ 0 < kn g b → e1 < H.size := fun h4 => by
    rw [h4.1]
    exact (h.1 6 (3 + 2 * b) ⟨by omega, by rw [elg]; exact h4.2⟩).lt
  refine ww_push (L := fun i => i = 3 + 2 * b) (fun k i => k = 7 ∧ i = 4 * b + kn g b) hO h hz hg (fun i _ hL => ell i hL) (fun i j _ _ => li_congr (fun _ _ => etk _)) (fun i _ hL => ⟨mn i hL, pn i hL, fn i hL⟩)
    (fun k i hl h6 => an k i (hlv7 k i hl) h6) (fun i hL => ?_) (fun k i hl => ?_) (fun y hy hL => hk y hy (hL _ rfl).1 (fun h0 => (hL _ rfl).2 (by rw [elg]; exact h0))) (fun i hL => ?_) (fun i hL => ?_) (fun k i hN => ?_) (fun k i k' i' h1 h2 h3 => ?_) (fun i hL => ?_) (fun i h1 h2 => ?_)
  · subst hL
    refine ⟨by omega, ?_⟩
    rw [a6, elg]
    rcases he1 with h1 | h1
    · exact Or.inl h1
    · exact Or.inr (by omega)
  · rcases lv_case (g := g) hl with q | ⟨rfl, q⟩ | ⟨rfl, q⟩ | ⟨rfl, q⟩ | ⟨rfl, q⟩ | ⟨rfl, q⟩ | ⟨rfl, q⟩ | ⟨rfl, q⟩
    · exact Or.inl q
    · exact Or.inl (show i < nb g from enb ▸ q)
    · exact Or.inl (show i < np g from enp ▸ q)
    · exact Or.inl (show i < nj g from enj ▸ q)
    · exact Or.inl (show i < 3 + 2 * nb g from enb ▸ q)
    · by_cases e : i = 3 + 2 * b
      · exact Or.inr (Or.inr ⟨rfl, e⟩)
      · exact Or.inl ⟨enb ▸ q.1, (ell i e) ▸ q.2⟩
    · obtain ⟨h1, h2⟩ := q
      rw [enb] at h1
      by_cases e : i / 4 = b
      · rw [e, ekb] at h2
        by_cases e2 : i % 4 = kn g b
        · exact Or.inr (Or.inl ⟨rfl, by omega⟩)
        · exact Or.inl ⟨h1, by rw [e]; omega⟩
      · rw [ekn _ e] at h2
        exact Or.inl ⟨h1, h2⟩
    · exact Or.inl (show i < np g from enp ▸ q)
  · subst hL
    rw [an 5 (3 + 2 * b) (by omega) (by omega)]
    have q1 : ct z w' g' gm o 5 (3 + 2 * b) = .inr (0, [.int (wmc w (3 + 2 * b) + 1), .ref e1, .int (nI (kn g b + 1))]) := by
      show (Sum.inr (0, [.int (wmc w' (3 + 2 * b)), .ref (if ll g' (3 + 2 * b) = 0 then zd z else wad w' 6 (3 + 2 * b)), .int (nI (ll g' (3 + 2 * b)))]) : va_E) = _
      rw [eli, if_neg (by omega), a6, m2]
    rw [q1]; exact hl5
  · subst hL
    rw [a6]
    have q1 : ct z w' g' gm o 6 (3 + 2 * b) = cQ (zO z) cap1 f1 := by
      show cQ (zO z) (wcp w' (3 + 2 * b)) (wel w' (3 + 2 * b)) = _
      rw [p2, f2]
    rw [q1]; exact hl6
  · obtain ⟨rfl, rfl⟩ := hN
    rw [a7]
    refine ⟨Nat.le_of_eq hx.symm, ?_⟩
    have q1 : ct z w' g' gm o 7 (4 * b + kn g b) = .inr (4, [.int f, .int t]) := by
      show (Sum.inr (4, [.int (g' 14 (4 * b + kn g b)), .int (g' 15 (4 * b + kn g b))]) : va_E) = _
      rw [v14, v15]
    rw [q1]; exact hat
  · rcases h1 with ⟨rfl, rfl⟩ | ⟨rfl, rfl, h1⟩
    · rcases h2 with ⟨rfl, rfl⟩ | ⟨rfl, rfl, h2⟩
      · exact ⟨rfl, rfl⟩
      · exfalso
        rw [a7, a6] at h3
        rcases he1 with h4 | h4
        · have := hold6 h4
          omega
        · omega
    · rcases h2 with ⟨rfl, rfl⟩ | ⟨rfl, rfl, h2⟩
      · exfalso
        rw [a7, a6] at h3
        rcases he1 with h4 | h4
        · have := hold6 h4
          omega
        · omega
      · exact ⟨rfl, rfl⟩
  · subst hL
    rw [p2, f2, elg, eli, elk, eln, a7]
    exact ⟨rfl, hcap, hf, hfn⟩
  · rw [enb] at h2
    omega
