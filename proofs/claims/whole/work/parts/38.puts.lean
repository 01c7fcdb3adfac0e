/-! ===== the world with one thing more ===== -/
def wN (w : WG) (k0 i0 q : Nat) : WG := (fun k i => if k = k0 ∧ i = i0 then q else wad w k i, wmc w, wcp w, wel w)
def wL (w : WG) (i0 e1 cap1 : Nat) (f1 : Nat → Option Nat) : WG := (fun k i => if k = 6 ∧ i = i0 then e1 else wad w k i, fun i => if i = i0 then wmc w i0 + 1 else wmc w i, fun i => if i = i0 then cap1 else wcp w i, fun i => if i = i0 then f1 else wel w i)
def wE (w : WG) (i0 q : Nat) : WG := (fun k i => if k = 5 ∧ i = i0 then q else wad w k i, fun i => if i = i0 then 0 else wmc w i, fun i => if i = i0 then 10 else wcp w i, wel w)
theorem ll_2 {g : GS} : ll g 2 = nj g := rfl
theorem ll_tk {g : GS} {b : Nat} : ll g (4 + 2 * b) = (tk g b).length := by
  unfold ll; rw [if_neg (by omega), if_neg (by omega), if_neg (by omega), if_neg (by omega), show (4 + 2 * b - 4) / 2 = b by omega]
/-- a list's length hangs on few places -/
theorem ll_congr {g g' : GS} {i : Nat} (h0 : i = 0 → nb g' = nb g) (h1 : i = 1 → np g' = np g) (h2 : i = 2 → nj g' = nj g) (hk : 3 ≤ i → i % 2 = 1 → kn g' ((i - 3) / 2) = kn g ((i - 3) / 2)) (ht : 3 ≤ i → i % 2 = 0 → tk g' ((i - 4) / 2) = tk g ((i - 4) / 2)) : ll g' i = ll g i := by
  unfold ll
  by_cases e0 : i = 0
  · rw [if_pos e0, if_pos e0]; exact h0 e0
  · rw [if_neg e0, if_neg e0]
    by_cases e1 : i = 1
    · rw [if_pos e1, if_pos e1]; exact h1 e1
    · rw [if_neg e1, if_neg e1]
      by_cases e2 : i = 2
      · rw [if_pos e2, if_pos e2]; exact h2 e2
      · rw [if_neg e2, if_neg e2]
        by_cases ho : i % 2 = 1
        · rw [if_pos ho, if_pos ho]; exact hk (by omega) ho
        · rw [if_neg ho, if_neg ho, ht (by omega) (by omega)]
theorem li_congr {g g' : GS} {i j : Nat} (ht : 3 ≤ i → i % 2 = 0 → tk g' ((i - 4) / 2) = tk g ((i - 4) / 2)) : li g' i j = li g i j := by
  unfold li
  by_cases e0 : i < 3
  · rw [if_pos e0, if_pos e0]
  · rw [if_neg e0, if_neg e0]
    by_cases ho : i % 2 = 1
    · rw [if_pos ho, if_pos ho]
    · rw [if_neg ho, if_neg ho, ht (by omega) (by omega)]
theorem tk_congr {g g' : GS} {b : Nat} (hn : np g' = np g) (hp : ∀ i, i < np g → pb g' i = pb g i) : tk g' b = tk g b := by
  unfold tk
  rw [hn]
  refine List.filter_congr (fun i hi => ?_)
  rw [hp i (List.mem_range.mp hi)]
theorem tk_more {g g' : GS} {b c : Nat} (hn : np g' = np g + 1) (hp : ∀ i, i < np g → pb g' i = pb g i) (hc : pb g' (np g) = c) : tk g' b = tk g b ++ (if c = b then [np g] else []) := by
  unfold tk
  rw [hn, List.range_succ, List.filter_append]
  congr 1
  · refine List.filter_congr (fun i hi => ?_)
    rw [hp i (List.mem_range.mp hi)]
  · by_cases e : c = b
    · simp [hc, e]
    · simp [hc, e]
theorem nI_t {n : Nat} (h : n < 2 ^ 31) : (nI n).toNatClampNeg = n := nI_clamp h
/-! a joint -/
def jst' (g : GS) (kd : Int32) (p q : Nat) (sz tg : Int32) : GS :=
  gup (gup (gup (gup (gup (gup g 25 (nj g) kd) 26 (nj g) (nI p)) 27 (nj g) (nI q)) 28 (nj g) sz) 29 (nj g) tg) 24 0 (nI (nj g + 1))
theorem ww_joint {z : ZE} {w : WG} {g gm : GS} {o : Nat → Int64} {H H1 : Heap} (hO : OKg g) (h : WW z w g gm o H) (hz : zB z ≤ H.size) (h30 : nj g < 30) {kd sz tg : Int32} {p q : Nat} (hp : p < np g) (hq : q < np g) {x e1 cap1 : Nat} {f1 : Nat → Option Nat}
    (hx : x = H.size) (hat : va_at (zD z) vwCl (x, .inr (2, [.int kd, .ref (wad w 3 p), .ref (wad w 3 q), .int tg, .int sz, .int 0, .int 0, .int 0, .int 0])) H1)
    (he1 : (e1 = wad w 6 2 ∧ 0 < nj g) ∨ H.size + 1 ≤ e1)
    (hl5 : va_at (zD z) vwCl (wad w 5 2, .inr (0, [.int (wmc w 2 + 1), .ref e1, .int (nI (nj g + 1))])) H1) (hl6 : va_at (zD z) vwCl (e1, cQ (zO z) cap1 f1) H1)
    (hcap : nj g + 1 ≤ cap1 ∧ 10 ≤ cap1 ∧ cap1 ≤ 100) (hf : ∀ j, j < nj g → f1 j = wel w 2 j) (hfn : f1 (nj g) = some x)
    (hk : ∀ y : Nat, y < H.size → y ≠ wad w 5 2 → (0 < nj g → y ≠ wad w 6 2) → H1[y]? = H[y]?) : WW z (wL (wN w 4 (nj g) x) 2 e1 cap1 f1) (jst' g kd p q sz tg) gm o H1 := by
  have hp40 := hO.l16
  have e24 : nj (jst' g kd p q sz tg) = nj g + 1 := by
    show (nI (nj g + 1)).toNatClampNeg = _
    exact nI_t (by omega)
  have z30 := hO.2.2.2.2.2.2 (nj g) (Nat.le_refl _)
  have hg : ∀ a b, lo g a b → jst' g kd p q sz tg a b = g a b := by
    intro a b hl
    unfold lo at hl
    have c1 : ¬ (a = 24 ∧ b = 0) := by omega
    have c2 : ∀ n, 25 ≤ n → n ≤ 29 → ¬ (a = n ∧ b = nj g) := fun n h1 h2 => by omega
    unfold jst'
    simp only [gup, if_neg c1, if_neg (c2 25 (by decide) (by decide)), if_neg (c2 26 (by decide) (by decide)), if_neg (c2 27 (by decide) (by decide)), if_neg (c2 28 (by decide) (by decide)), if_neg (c2 29 (by decide) (by decide))]
  have enp : np (jst' g kd p q sz tg) = np g := rfl
  have etk : ∀ b, tk (jst' g kd p q sz tg) b = tk g b := fun b => tk_congr enp (fun i hi => rfl)
  have ell : ∀ i, i ≠ 2 → ll (jst' g kd p q sz tg) i = ll g i := fun i hi => ll_congr (fun _ => rfl) (fun _ => rfl) (fun e => absurd e hi) (fun _ _ => rfl) (fun _ _ => etk _)
  have a4 : wad (wL (wN w 4 (nj g) x) 2 e1 cap1 f1) 4 (nj g) = x := by simp [wL, wN]
  have a6 : wad (wL (wN w 4 (nj g) x) 2 e1 cap1 f1) 6 2 = e1 := by simp [wL, wN]
  have an : ∀ k i, ¬ (k = 4 ∧ i = nj g) → ¬ (k = 6 ∧ i = 2) → wad (wL (wN w 4 (nj g) x) 2 e1 cap1 f1) k i = wad w k i := fun k i h1 h2 => by simp [wL, wN, h1, h2]
  have hlv4 : ∀ k i, lv_e g k i → ¬ (k = 4 ∧ i = nj g) := fun k i hl e => by
    obtain ⟨rfl, rfl⟩ := e
    exact absurd hl (Nat.lt_irrefl _)
  refine ww_push (L := fun i => i = 2) (fun k i => k = 4 ∧ i = nj g) hO h hz hg (fun i _ hL => ell i hL) (fun i j _ _ => li_congr (fun _ _ => etk _)) (fun i _ hL => ⟨by simp [wL, wN, hL], by simp [wL, wN, hL], by simp [wL, wN, hL]⟩)
    (fun k i hl h6 => an k i (hlv4 k i hl) h6) (fun i hL => ?_) (fun k i hl => ?_) (fun y hy hL => hk y hy (hL 2 rfl).1 (hL 2 rfl).2) (fun i hL => ?_) (fun i hL => ?_) (fun k i hN => ?_) (fun k i k' i' h1 h2 h3 => ?_) (fun i hL => ?_) (fun i h1 h2 => ?_)
  · subst hL
    refine ⟨by omega, ?_⟩
    rw [a6]
    rcases he1 with h1 | h1
    · exact Or.inl h1
    · exact Or.inr (by omega)
  · match k, hl with
    | 0, hl => exact Or.inl hl
    | 1, hl => exact Or.inl hl
    | 2, hl => exact Or.inl hl
    | 3, hl => exact Or.inl hl
    | 4, hl =>
      have hl2 : i < nj (jst' g kd p q sz tg) := hl
      rw [e24] at hl2
      by_cases e : i = nj g
      · exact Or.inr (Or.inl ⟨rfl, e⟩)
      · exact Or.inl (show i < nj g by omega)
    | 5, hl => exact Or.inl hl
    | 6, hl =>
      by_cases e : i = 2
      · exact Or.inr (Or.inr ⟨rfl, e⟩)
      · exact Or.inl ⟨hl.1, by rw [← ell i e]; exact hl.2⟩
    | 7, hl => exact Or.inl hl
    | 8, hl => exact Or.inl hl
    | 9, hl => exact Or.inl hl
    | 10, hl => exact Or.inl hl
    | 11, hl => exact Or.inl hl
  · subst hL
    rw [an 5 2 (by omega) (by omega)]
    have q1 : ct z (wL (wN w 4 (nj g) x) 2 e1 cap1 f1) (jst' g kd p q sz tg) gm o 5 2 = .inr (0, [.int (wmc w 2 + 1), .ref e1, .int (nI (nj g + 1))]) := by
      show (Sum.inr (0, [.int (wmc (wL (wN w 4 (nj g) x) 2 e1 cap1 f1) 2), .ref (if nj (jst' g kd p q sz tg) = 0 then zd z else wad (wL (wN w 4 (nj g) x) 2 e1 cap1 f1) 6 2), .int (nI (nj (jst' g kd p q sz tg)))]) : va_E) = _
      rw [e24, if_neg (by omega), a6]
      simp [wL, wN]
    rw [q1]; exact hl5
  · subst hL
    rw [a6]
    have q1 : ct z (wL (wN w 4 (nj g) x) 2 e1 cap1 f1) (jst' g kd p q sz tg) gm o 6 2 = cQ (zO z) cap1 f1 := by
      show cQ (zO z) (wcp (wL (wN w 4 (nj g) x) 2 e1 cap1 f1) 2) (wel (wL (wN w 4 (nj g) x) 2 e1 cap1 f1) 2) = _
      simp [wL, wN]
    rw [q1]; exact hl6
  · obtain ⟨rfl, rfl⟩ := hN
    rw [a4]
    refine ⟨Nat.le_of_eq hx.symm, ?_⟩
    have q1 : ct z (wL (wN w 4 (nj g) x) 2 e1 cap1 f1) (jst' g kd p q sz tg) gm o 4 (nj g) = .inr (2, [.int kd, .ref (wad w 3 p), .ref (wad w 3 q), .int tg, .int sz, .int 0, .int 0, .int 0, .int 0]) := by
      have b1 : jp (jst' g kd p q sz tg) (nj g) = p := by unfold jp; rw [show jst' g kd p q sz tg 26 (nj g) = nI p by simp [jst', gup]]; exact nI_t (by omega)
      have b2 : jo (jst' g kd p q sz tg) (nj g) = q := by unfold jo; rw [show jst' g kd p q sz tg 27 (nj g) = nI q by simp [jst', gup]]; exact nI_t (by omega)
      show (Sum.inr (2, [.int (jst' g kd p q sz tg 25 (nj g)), .ref (wad (wL (wN w 4 (nj g) x) 2 e1 cap1 f1) 3 (jp (jst' g kd p q sz tg) (nj g))), .ref (wad (wL (wN w 4 (nj g) x) 2 e1 cap1 f1) 3 (jo (jst' g kd p q sz tg) (nj g))), .int (jst' g kd p q sz tg 29 (nj g)), .int (jst' g kd p q sz tg 28 (nj g)), .int (jst' g kd p q sz tg 30 (nj g)), .int (jst' g kd p q sz tg 31 (nj g)), .int (jst' g kd p q sz tg 32 (nj g)), .int (jst' g kd p q sz tg 33 (nj g))]) : va_E) = _
      rw [b1, b2, an 3 p (by omega) (by omega), an 3 q (by omega) (by omega)]
      simp [jst', gup, z30]
    rw [q1]; exact hat
  · rcases h1 with ⟨rfl, rfl⟩ | ⟨rfl, rfl, h1⟩
    · rcases h2 with ⟨rfl, rfl⟩ | ⟨rfl, rfl, h2⟩
      · exact ⟨rfl, rfl⟩
      · exfalso
        rw [a4, a6] at h3
        rcases he1 with h4 | h4
        · have := (h.1 6 2 ⟨show 2 < 3 + 2 * nb g by omega, h4.2⟩).lt
          have h5 := h4.1
          omega
        · omega
    · rcases h2 with ⟨rfl, rfl⟩ | ⟨rfl, rfl, h2⟩
      · exfalso
        rw [a4, a6] at h3
        rcases he1 with h4 | h4
        · have := (h.1 6 2 ⟨show 2 < 3 + 2 * nb g by omega, h4.2⟩).lt
          have h5 := h4.1
          omega
        · omega
      · exact ⟨rfl, rfl⟩
  · subst hL
    refine ⟨e24, ?_, fun j hj => ?_, ?_⟩
    · show nj g + 1 ≤ (if 2 = 2 then cap1 else wcp w 2) ∧ 10 ≤ (if 2 = 2 then cap1 else wcp w 2) ∧ (if 2 = 2 then cap1 else wcp w 2) ≤ 100
      rw [if_pos rfl]; exact hcap
    · show (if 2 = 2 then f1 else wel w 2) j = wel w 2 j
      rw [if_pos rfl]; exact hf j hj
    · show (if 2 = 2 then f1 else wel w 2) (nj g) = some (wad (wL (wN w 4 (nj g) x) 2 e1 cap1 f1) 4 (nj g))
      rw [if_pos rfl, a4]; exact hfn
  · exact absurd h2 (by show ¬ i < 3 + 2 * nb g; omega)
/-! a knot -/
def kst' (g : GS) (b : Nat) (f t : Int32) : GS := gup (gup (gup g 14 (4 * b + kn g b) f) 15 (4 * b + kn g b) t) 13 b (nI (kn g b + 1))
theorem ww_knot {z : ZE} {w : WG} {g gm : GS} {o : Nat → Int64} {H H1 : Heap} (hO : OKg g) (h : WW z w g gm o H) (hz : zB z ≤ H.size) {b : Nat} (hb : b < nb g) (h4 : kn g b < 4) {f t : Int32} {x e1 cap1 : Nat} {f1 : Nat → Option Nat}
    (hx : x = H.size) (hat : va_at (zD z) vwCl (x, .inr (4, [.int f, .int t])) H1)
    (he1 : (e1 = wad w 6 (3 + 2 * b) ∧ 0 < kn g b) ∨ H.size + 1 ≤ e1)
    (hl5 : va_at (zD z) vwCl (wad w 5 (3 + 2 * b), .inr (0, [.int (wmc w (3 + 2 * b) + 1), .ref e1, .int (nI (kn g b + 1))])) H1) (hl6 : va_at (zD z) vwCl (e1, cQ (zO z) cap1 f1) H1)
    (hcap : kn g b + 1 ≤ cap1 ∧ 10 ≤ cap1 ∧ cap1 ≤ 100) (hf : ∀ j, j < kn g b → f1 j = wel w (3 + 2 * b) j) (hfn : f1 (kn g b) = some x)
    (hk : ∀ y : Nat, y < H.size → y ≠ wad w 5 (3 + 2 * b) → (0 < kn g b → y ≠ wad w 6 (3 + 2 * b)) → H1[y]? = H[y]?) : WW z (wL (wN w 7 (4 * b + kn g b) x) (3 + 2 * b) e1 cap1 f1) (kst' g b f t) gm o H1 := by
  have hb5 := hO.l5
  have ekb : kn (kst' g b f t) b = kn g b + 1 := by
    unfold kn
    rw [show kst' g b f t 13 b = nI (kn g b + 1) by simp [kst', gup]]
    exact nI_t (by omega)
  have ekn : ∀ c, c ≠ b → kn (kst' g b f t) c = kn g c := fun c hc => by
    unfold kn
    rw [show kst' g b f t 13 c = g 13 c by simp [kst', gup, hc]]
  have hg : ∀ a c, lo g a c → kst' g b f t a c = g a c := by
    intro a c hl
    have c1 : ¬ (a = 13 ∧ c = b) := by unfold lo at hl; omega
    have c2 : ∀ n, (n = 14 ∨ n = 15) → ¬ (a = n ∧ c = 4 * b + kn g b) := fun n hn hac => by
      obtain ⟨rfl, rfl⟩ := hac
      rcases hl with h1 | h1 | h1 | h1 | h1
      · omega
      · omega
      · rw [show (4 * b + kn g b) / 4 = b by omega] at h1
        omega
      · omega
      · omega
    unfold kst'
    simp only [gup, if_neg c1, if_neg (c2 14 (Or.inl rfl)), if_neg (c2 15 (Or.inr rfl))]
  have enp : np (kst' g b f t) = np g := rfl
  have etk : ∀ c, tk (kst' g b f t) c = tk g c := fun c => tk_congr enp (fun i hi => rfl)
  have ell : ∀ i, i ≠ 3 + 2 * b → ll (kst' g b f t) i = ll g i := fun i hi => ll_congr (fun _ => rfl) (fun _ => rfl) (fun _ => rfl) (fun h3 ho => ekn _ (by omega)) (fun _ _ => etk _)
  have eli : ll (kst' g b f t) (3 + 2 * b) = kn g b + 1 := ll_kn.trans ekb
  have elg : ll g (3 + 2 * b) = kn g b := ll_kn
  have elk : lk (3 + 2 * b) = 7 := by unfold lk; rw [if_neg (by omega), if_neg (by omega), if_neg (by omega), if_pos (by omega)]
  have eln : li (kst' g b f t) (3 + 2 * b) (kn g b) = 4 * b + kn g b := by unfold li; rw [if_neg (by omega), if_pos (by omega), show (3 + 2 * b - 3) / 2 = b by omega]
  have a7 : wad (wL (wN w 7 (4 * b + kn g b) x) (3 + 2 * b) e1 cap1 f1) 7 (4 * b + kn g b) = x := by simp [wL, wN]
  have a6 : wad (wL (wN w 7 (4 * b + kn g b) x) (3 + 2 * b) e1 cap1 f1) 6 (3 + 2 * b) = e1 := by simp [wL, wN]
  have an : ∀ k i, ¬ (k = 7 ∧ i = 4 * b + kn g b) → ¬ (k = 6 ∧ i = 3 + 2 * b) → wad (wL (wN w 7 (4 * b + kn g b) x) (3 + 2 * b) e1 cap1 f1) k i = wad w k i := fun k i h1 h2 => by simp [wL, wN, h1, h2]
  have hlv7 : ∀ k i, lv_e g k i → ¬ (k = 7 ∧ i = 4 * b + kn g b) := fun k i hl e => by
    obtain ⟨rfl, rfl⟩ := e
    have h2 : (4 * b + kn g b) % 4 < kn g ((4 * b + kn g b) / 4) := hl.2
    rw [show (4 * b + kn g b) / 4 = b by omega] at h2
    omega
  have hold6 : e1 = wad w 6 (3 + 2 * b) ∧ 0 < kn g b → e1 < H.size := fun h4 => by
    rw [h4.1]
    exact (h.1 6 (3 + 2 * b) ⟨by omega, by rw [elg]; exact h4.2⟩).lt
  refine ww_push (L := fun i => i = 3 + 2 * b) (fun k i => k = 7 ∧ i = 4 * b + kn g b) hO h hz hg (fun i _ hL => ell i hL) (fun i j _ _ => li_congr (fun _ _ => etk _)) (fun i _ hL => ⟨by simp [wL, wN, hL], by simp [wL, wN, hL], by simp [wL, wN, hL]⟩)
    (fun k i hl h6 => an k i (hlv7 k i hl) h6) (fun i hL => ?_) (fun k i hl => ?_) (fun y hy hL => hk y hy (hL _ rfl).1 (fun h0 => (hL _ rfl).2 (by rw [elg]; exact h0))) (fun i hL => ?_) (fun i hL => ?_) (fun k i hN => ?_) (fun k i k' i' h1 h2 h3 => ?_) (fun i hL => ?_) (fun i h1 h2 => ?_)
  · subst hL
    refine ⟨by omega, ?_⟩
    rw [a6, elg]
    rcases he1 with h1 | h1
    · exact Or.inl h1
    · exact Or.inr (by omega)
  · match k, hl with
    | 0, hl => exact Or.inl hl
    | 1, hl => exact Or.inl hl
    | 2, hl => exact Or.inl hl
    | 3, hl => exact Or.inl hl
    | 4, hl => exact Or.inl hl
    | 5, hl => exact Or.inl hl
    | 6, hl =>
      by_cases e : i = 3 + 2 * b
      · exact Or.inr (Or.inr ⟨rfl, e⟩)
      · exact Or.inl ⟨hl.1, by rw [← ell i e]; exact hl.2⟩
    | 7, hl =>
      obtain ⟨h1, h2⟩ := hl
      by_cases e : i / 4 = b
      · rw [e, ekb] at h2
        by_cases e2 : i % 4 = kn g b
        · exact Or.inr (Or.inl ⟨rfl, by omega⟩)
        · exact Or.inl ⟨h1, by rw [e]; omega⟩
      · rw [ekn _ e] at h2
        exact Or.inl ⟨h1, h2⟩
    | 8, hl => exact Or.inl hl
    | 9, hl => exact Or.inl hl
    | 10, hl => exact Or.inl hl
    | 11, hl => exact Or.inl hl
  · subst hL
    rw [an 5 (3 + 2 * b) (by omega) (by omega)]
    have q1 : ct z (wL (wN w 7 (4 * b + kn g b) x) (3 + 2 * b) e1 cap1 f1) (kst' g b f t) gm o 5 (3 + 2 * b) = .inr (0, [.int (wmc w (3 + 2 * b) + 1), .ref e1, .int (nI (kn g b + 1))]) := by
      show (Sum.inr (0, [.int (wmc (wL (wN w 7 (4 * b + kn g b) x) (3 + 2 * b) e1 cap1 f1) (3 + 2 * b)), .ref (if ll (kst' g b f t) (3 + 2 * b) = 0 then zd z else wad (wL (wN w 7 (4 * b + kn g b) x) (3 + 2 * b) e1 cap1 f1) 6 (3 + 2 * b)), .int (nI (ll (kst' g b f t) (3 + 2 * b)))]) : va_E) = _
      rw [eli, if_neg (by omega), a6]
      simp [wL, wN]
    rw [q1]; exact hl5
  · subst hL
    rw [a6]
    have q1 : ct z (wL (wN w 7 (4 * b + kn g b) x) (3 + 2 * b) e1 cap1 f1) (kst' g b f t) gm o 6 (3 + 2 * b) = cQ (zO z) cap1 f1 := by
      show cQ (zO z) (wcp (wL (wN w 7 (4 * b + kn g b) x) (3 + 2 * b) e1 cap1 f1) (3 + 2 * b)) (wel (wL (wN w 7 (4 * b + kn g b) x) (3 + 2 * b) e1 cap1 f1) (3 + 2 * b)) = _
      simp [wL, wN]
    rw [q1]; exact hl6
  · obtain ⟨rfl, rfl⟩ := hN
    rw [a7]
    refine ⟨Nat.le_of_eq hx.symm, ?_⟩
    have q1 : ct z (wL (wN w 7 (4 * b + kn g b) x) (3 + 2 * b) e1 cap1 f1) (kst' g b f t) gm o 7 (4 * b + kn g b) = .inr (4, [.int f, .int t]) := by
      show (Sum.inr (4, [.int (kst' g b f t 14 (4 * b + kn g b)), .int (kst' g b f t 15 (4 * b + kn g b))]) : va_E) = _
      simp [kst', gup]
    rw [q1]; exact hat
  · rcases h1 with ⟨rfl, rfl⟩ | ⟨rfl, rfl, h1⟩
    · rcases h2 with ⟨rfl, rfl⟩ | ⟨rfl, rfl, h2⟩
      · exact ⟨rfl, rfl⟩
      · exfalso
        rw [a7, a6] at h3
        rcases he1 with h4 | h4
        · have := hold6 h4
          omega
        · omega
    · rcases h2 with ⟨rfl, rfl⟩ | ⟨rfl, rfl, h2⟩
      · exfalso
        rw [a7, a6] at h3
        rcases he1 with h4 | h4
        · have := hold6 h4
          omega
        · omega
      · exact ⟨rfl, rfl⟩
  · subst hL
    refine ⟨by rw [eli, elg], ?_, fun j hj => ?_, ?_⟩
    · show ll g (3 + 2 * b) + 1 ≤ (if 3 + 2 * b = 3 + 2 * b then cap1 else wcp w (3 + 2 * b)) ∧ 10 ≤ (if 3 + 2 * b = 3 + 2 * b then cap1 else wcp w (3 + 2 * b)) ∧ (if 3 + 2 * b = 3 + 2 * b then cap1 else wcp w (3 + 2 * b)) ≤ 100
      rw [if_pos rfl, elg]; exact hcap
    · show (if 3 + 2 * b = 3 + 2 * b then f1 else wel w (3 + 2 * b)) j = wel w (3 + 2 * b) j
      rw [if_pos rfl]; exact hf j (by rw [← elg]; exact hj)
    · show (if 3 + 2 * b = 3 + 2 * b then f1 else wel w (3 + 2 * b)) (ll g (3 + 2 * b)) = some (wad (wL (wN w 7 (4 * b + kn g b) x) (3 + 2 * b) e1 cap1 f1) (lk (3 + 2 * b)) (li (kst' g b f t) (3 + 2 * b) (ll g (3 + 2 * b))))
      rw [if_pos rfl, elg, elk, eln, a7]; exact hfn
  · exact absurd h2 (by show ¬ i < 3 + 2 * nb g; omega)
