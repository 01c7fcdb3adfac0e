/-! ===== months go by; a look ahead ===== -/
section TRC
variable {g gm G : GS} {i j p b k : Nat} {x : Int32}
theorem BD.wea (h : BD g) (n : Nat) : mz (wea g n) := h.we (Nat.mod_lt _ (by decide))
theorem mz_beh (h : BD g) (hp : p < 6) {y : Int32} (hy : mz y) (n : Nat) : mz (beh (wea g n) y (g 23 p)) := by
  obtain ⟨c, hc, e⟩ := h.co hp
  rw [e]
  exact beh_rng (h.wea n) hy hc
theorem mz_lbh {y w : Int32} (hy : mz y) (hw : mz w) (co : Int32) : lbh y w co = beh w y co := by
  obtain ⟨a, ha, rfl⟩ := hy
  obtain ⟨v, hv, rfl⟩ := hw
  exact lbh_beh (by omega) (by omega) co
theorem ar_b (h : AR g gm) : AR (gup g 12 i x) (gup gm 1 i x) := by
  refine ⟨h.1, fun k hk => ?_, h.2.2.1, h.2.2.2⟩
  by_cases e : k = i
  · subst e; rw [gup_s, gup_s]
  · rw [gup_i e, gup_i e]; exact h.a1 hk
theorem ar_p (h : AR g gm) : AR (gup g 22 i x) (gup gm 4 i x) := by
  refine ⟨h.1, h.2.1, fun k hk => ?_, h.2.2.2⟩
  refine ⟨h.a2 hk, h.a3 hk, ?_, h.a5 hk⟩
  by_cases e : k = i
  · subst e; rw [gup_s, gup_s]
  · rw [gup_i e, gup_i e]; exact h.a4 hk
theorem ar_k (h : AR g gm) (h31 : ¬ g 31 j = 0) : AR (gup g 32 j 1) (gup gm 7 j 2) := by
  refine ⟨h.1, h.2.1, h.2.2.1, h.2.2.2.1, fun k hk => ⟨h.j4 hk, ?_⟩⟩
  by_cases e : k = j
  · subst e; rw [gup_s]; simp [stt, gup, h31]
  · rw [gup_i e, h.a7 hk]; simp [stt, gup, e]
/-- a month's boards -/
theorem ps_a (h : BD G) (ha : AR (pst G i 0 0) gm) (hi : i < 3) : gm 1 i = G 12 i ∧ gm 0 (mo G % 12) = wea G (mo G) ∧ lbh (G 12 i) (wea G (mo G)) 0 = beh (wea G (mo G)) (G 12 i) 0 ∧ AR (pst G (i + 1) 0 0) (gup gm 1 i (beh (wea G (mo G)) (G 12 i) 0)) := by
  refine ⟨?_, ?_, mz_lbh (h.bm hi) (h.wea _) 0, ?_⟩
  · rw [ha.a1 hi]; simp [pst]
  · rw [ha.a0 (Nat.mod_lt _ (by decide))]; rfl
  · rw [← pst_a]; exact ar_b ha
/-- a month's parts -/
theorem ps_b (h : BD G) (ha : AR (pst G 3 i 0) gm) (hi : i < 6) : gm 4 i = G 22 i ∧ gm 5 i = G 23 i ∧ gm 0 (mo G % 12) = wea G (mo G) ∧ lbh (G 22 i) (wea G (mo G)) (G 23 i) = beh (wea G (mo G)) (G 22 i) (G 23 i) ∧ AR (pst G 3 (i + 1) 0) (gup gm 4 i (beh (wea G (mo G)) (G 22 i) (G 23 i))) := by
  refine ⟨?_, ?_, ?_, mz_lbh (h.pd hi) (h.wea _) _, ?_⟩
  · rw [ha.a4 hi]; simp [pst]
  · rw [ha.a5 hi]; rfl
  · rw [ha.a0 (Nat.mod_lt _ (by decide))]; rfl
  · rw [← pst_b]; exact ar_p ha
/-- a month's joints -/
theorem ps_c (h : BD G) (ha : AR (pst G 3 6 i) gm) (hi : i < nj G) : gm 7 i = stt G i ∧ gm 6 (5 * i + 1) = nI (jp G i) ∧ jp G i < 6 ∧ gm 4 (jp G i) = beh (wea G (mo G)) (G 22 (jp G i)) (G 23 (jp G i)) := by
  have hj := h.ljp hi
  have hn := h.lj
  refine ⟨?_, ha.j1 hi, hj, ?_⟩
  · rw [ha.a7 (by omega)]; simp [stt, pst]
  · rw [ha.a4 hj]; simp [pst, hj]
theorem ps_cb (h : BD G) (ha : AR (pst G 3 6 i) gm) (hi : i < nj G) (hs : stt G i = 1) : lbr (gm 6 (5 * i)) (nI (jp G i % 3)) (gm 6 (5 * i + 2)) (gm 6 (5 * i + 3)) (gm 6 (5 * i + 4)) (gm 3 (jp G i)) (gm 2 (jp G i)) (beh (wea G (mo G)) (G 22 (jp G i)) (G 23 (jp G i))) = brk G i := by
  have hj := h.ljp hi
  have hn := h.lj
  have e0 : gm 6 (5 * i) = G 25 i := ha.j0 hi
  have e2 : gm 6 (5 * i + 2) = G 28 i := ha.j2 hi
  have e3 : gm 6 (5 * i + 3) = G 29 i := ha.j3 hi
  have e4 : gm 6 (5 * i + 4) = G 33 i := ha.j4 (by omega)
  have w3 : gm 3 (jp G i) = G 20 (jp G i) := ha.a3 hj
  have w2 : gm 2 (jp G i) = G 21 (jp G i) := ha.a2 hj
  rcases stt_c h hi with ⟨a, -, -⟩ | ⟨a, a1, a2⟩ | ⟨a, -, -⟩
  · rw [a] at hs; exact absurd hs (by decide)
  · rw [e0, e2, e3, e4, w3, w2, h.br hi (by rw [a1]; decide) (mz_beh h hj (h.pd hj) _)]
    simp [brk, a1, a2]
  · rw [a] at hs; exact absurd hs (by decide)
theorem ps_cn (h : BD G) (hi : i < nj G) (hs : ¬ stt G i = 1) : brk G i = false := by
  rcases stt_c h hi with ⟨-, a, -⟩ | ⟨a, -, -⟩ | ⟨-, -, a⟩
  · simp [brk, a]
  · exact absurd a hs
  · simp [brk, a]
theorem ps_cy (ha : AR (pst G 3 6 i) gm) (hb : brk G i = true) : AR (pst G 3 6 (i + 1)) (gup gm 7 i 2) := by
  rw [← pst_c _ _ _ _ hb]
  refine ar_k ha ?_
  show ¬ G 31 i = 0
  simp only [brk, Bool.and_eq_true, Bool.not_eq_true', decide_eq_false_iff_not] at hb
  exact hb.1
theorem ps_cf (h : BD G) (ha : AR (pst G 3 6 i) gm) (hi : i < nj G) (hb : brk G i = false) : AR (pst G 3 6 (i + 1)) (gup gm 7 i (stt G i)) := by
  rw [← pst_n _ _ _ _ hb, ← (ps_c h ha hi).1, gup_self]
  exact ha
theorem cnt_y {n : Nat} {f : Nat → Bool} (h : f n = true) : cntN (n + 1) f = cntN n f + 1 := by rw [cntN, if_pos h]
theorem cnt_n {n : Nat} {f : Nat → Bool} (h : f n = false) : cntN (n + 1) f = cntN n f := by rw [cntN, if_neg (by rw [h]; decide)]; rfl
theorem cnt_le (f : Nat → Bool) : ∀ n, cntN n f ≤ n
  | 0 => Nat.le_refl 0
  | n + 1 => by
    have := cnt_le f n
    unfold cntN
    split <;> omega
/-- the month is through -/
theorem ps_d (h : BD G) (ha : AR (pst G 3 6 (nj G)) gm) : AR (mst G) gm := by
  unfold mst
  rw [h.eb, h.ep]
  exact ha
theorem bd_m (h : BD G) (hm : mo G < 1200) : BD (mst G) ∧ mo (mst G) = mo G + 1 := by
  obtain ⟨ho, hmo⟩ := OKg_mst h.ok hm
  refine ⟨⟨ho, h.2.1, h.2.2.1, fun k hk => ⟨(h.2.2.2.1 k hk).1, ?_⟩, fun k hk => ?_, h.2.2.2.2.2⟩, hmo⟩
  · have e : mst G 12 k = beh (wea G (mo G)) (G 12 k) 0 := by
      simp [mst, gup, pst, h.eb, hk]
    rw [e]
    exact beh_rng (c := 0) (h.wea _) (h.bm hk) (by decide)
  · have q := h.2.2.2.2.1 k hk
    refine ⟨q.1, q.2.1, q.2.2.1, q.2.2.2.1, ?_⟩
    have e : mst G 22 k = beh (wea G (mo G)) (G 22 k) (G 23 k) := by
      simp [mst, gup, pst, h.ep, hk]
    rw [e]
    exact mz_beh h hk (h.pd hk) _
theorem bd_pas (h : BD g) : ∀ n : Nat, mo g + n ≤ 1200 → BD (pas n g) ∧ mo (pas n g) = mo g + n
  | 0, _ => ⟨h, rfl⟩
  | n + 1, hn => by
    obtain ⟨h1, h2⟩ := bd_pas h n (by omega)
    obtain ⟨h3, h4⟩ := bd_m h1 (by omega)
    exact ⟨h3, by show mo (mst (pas n g)) = _; omega⟩
theorem nj_pas : ∀ n : Nat, nj (pas n g) = nj g
  | 0 => rfl
  | n + 1 => by
    have h1 : nj (mst (pas n g)) = nj (pas n g) := rfl
    exact h1.trans (nj_pas n)
theorem pct_rng (h : nj g ≤ 12) : ∀ n : Nat, pct n g ≤ 12 * n
  | 0 => Nat.le_refl 0
  | n + 1 => by
    have h1 := pct_rng h n
    have h2 := cnt_le (brk (pas n g)) (nj (pas n g))
    rw [nj_pas] at h2
    unfold pct
    rw [nj_pas]
    omega
theorem t_pass (hm : mo g + i ≤ 1200) (h1 : 1 ≤ i) (h2 : i ≤ 5) : sp_pass g (nI i) = (0, nI (pct i g), pas i g) := by
  have w1 : wi (nI i) 1 24 = true := wi_y (lo := 1) (hi := 24) h1 (by omega) (by decide)
  rw [sp_pass, if_pos w1, tNn (show i < 2 ^ 31 by omega), if_neg (by omega)]
/-! ahead -/
def fst (g : GS) (j k : Nat) : Int32 := if bkk g j k = 0 then -1 else nI (bkk g j k)
theorem mz_wdk (h : BD g) (hp : p < 6) : ∀ k, mz (wdk g p k)
  | 0 => h.pd hp
  | k + 1 => mz_beh h hp (mz_wdk h hp k) _
theorem fst_neg (hk : k ≤ 24) : (0 ≤ fst g j k) ↔ ¬ bkk g j k = 0 := by
  have h := bkk_le g j k
  unfold fst
  by_cases e : bkk g j k = 0
  · rw [if_pos e]
    simp only [e, not_true_eq_false, iff_false]
    decide
  · rw [if_neg e]
    simp only [e, not_false_eq_true, iff_true]
    exact nI_pos' (by omega)
theorem fst_y (h1 : stt g j = 1) (hh : hld g j = true) (hb : bkk g j i = 0) (hw : wbr g j (wdk g (jp g j) (i + 1)) = true) : nI (i + 1) = fst g j (i + 1) := by
  have e : bkk g j (i + 1) = i + 1 := by rw [bkk, if_pos ⟨hh, hb, hw⟩]
  unfold fst
  rw [e, if_neg (Nat.succ_ne_zero i)]
theorem fst_n (h : hld g j = false ∨ ¬ bkk g j i = 0 ∨ wbr g j (wdk g (jp g j) (i + 1)) = false) : fst g j i = fst g j (i + 1) := by
  have e : bkk g j (i + 1) = bkk g j i := by
    rw [bkk, if_neg]
    rintro ⟨h1, h2, h3⟩
    rcases h with h | h | h
    · rw [h] at h1; cases h1
    · exact h h2
    · rw [h] at h3; cases h3
  unfold fst
  rw [e]
theorem hld_1 (h : BD g) (hj : j < nj g) (hs : stt g j = 1) : hld g j = true := by
  rcases stt_c h hj with ⟨a, -, -⟩ | ⟨-, a1, a2⟩ | ⟨a, -, -⟩
  · rw [a] at hs; exact absurd hs (by decide)
  · simp [hld, a1, a2]
  · rw [a] at hs; exact absurd hs (by decide)
theorem hld_0 (h : BD g) (hj : j < nj g) (hs : ¬ stt g j = 1) : hld g j = false := by
  rcases stt_c h hj with ⟨-, a, -⟩ | ⟨a, -, -⟩ | ⟨-, -, a⟩
  · simp [hld, a]
  · exact absurd a hs
  · simp [hld, a]
theorem la_b (h : BD g) (ha : AR g gm) (hj : j < nj g) (hs : stt g j = 1) (k : Nat) : lbr (gm 6 (5 * j)) (nI (jp g j % 3)) (gm 6 (5 * j + 2)) (gm 6 (5 * j + 3)) (gm 6 (5 * j + 4)) (gm 3 (jp g j)) (gm 2 (jp g j)) (wdk g (jp g j) k) = wbr g j (wdk g (jp g j) k) := by
  have hp := h.ljp hj
  have hn := h.lj
  rcases stt_c h hj with ⟨a, -, -⟩ | ⟨-, a1, a2⟩ | ⟨a, -, -⟩
  · rw [a] at hs; exact absurd hs (by decide)
  · rw [ha.j0 hj, ha.j2 hj, ha.j3 hj, ha.j4 (by omega), ha.a3 hp, ha.a2 hp, h.br hj (by rw [a1]; decide) (mz_wdk h hp k)]
  · rw [a] at hs; exact absurd hs (by decide)
theorem t_through (g : GS) (h1 : 1 ≤ i) (h2 : i ≤ 24) : sp_through g (nI i) = (0, setN (nj g) (fun j => decide (0 < bkk g j i)), g) := by
  have w1 : wi (nI i) 1 24 = true := wi_y (lo := 1) (hi := 24) h1 (by omega) (by decide)
  rw [sp_through, if_pos w1, tNn (show i < 2 ^ 31 by omega)]
theorem t_breaksIn (h : BD g) (hj : j < nj g) (h1 : 1 ≤ i) (h2 : i ≤ 24) : sp_breaksIn g (nI j) (nI i) = if stt g j = 1 then (0, fst g j i, g) else bad 3 g := by
  have hn := h.lj
  have w1 : wi (nI i) 1 24 = true := wi_y (lo := 1) (hi := 24) h1 (by omega) (by decide)
  rw [sp_breaksIn, if_pos (isJ_y h hj), if_pos w1, tNn (show i < 2 ^ 31 by omega), tNn (show j < 2 ^ 31 by omega)]
  by_cases hs : stt g j = 1
  · rw [if_pos (hld_1 h hj hs), if_pos hs]
    unfold fst
    by_cases e : bkk g j i = 0
    · rw [if_neg (by omega), if_pos e]
    · rw [if_pos (by omega), if_neg e]
  · rw [if_neg (by rw [hld_0 h hj hs]; decide), if_neg hs]
theorem t_ofPart (h : BD g) (hp : p < 6) : sp_ofPart g (nI p) 2 = (0, g 22 p, g) ∧ sp_ofPart g (nI p) 1 = (0, wAt g p (g 22 p), g) ∧ sp_ofPart g (nI p) 3 = (0, g 23 p, g) := by
  have e : tN (nI p) = p := tNn (by omega)
  refine ⟨?_, ?_, ?_⟩
  · rw [sp_ofPart, if_pos (isP_y h hp), if_pos (by decide), e]; rfl
  · rw [sp_ofPart, if_pos (isP_y h hp), if_pos (by decide), e]; rfl
  · rw [sp_ofPart, if_pos (isP_y h hp), if_pos (by decide), e]; rfl
theorem t_ofBoard (h : BD g) (hp : p < 3) : sp_ofBoard g (nI p) 0 = (0, g 12 p, g) := by
  have e : tN (nI p) = p := tNn (by omega)
  rw [sp_ofBoard, if_pos (isB_y h hp), if_pos (by decide), e]; rfl
theorem t_ofJoint (h : BD g) (hj : j < nj g) : sp_ofJoint g (nI j) 0 = (0, sta g j, g) ∧ sp_ofJoint g (nI j) 1 = (0, g 28 j, g) := by
  have hn := h.lj
  have e : tN (nI j) = j := tNn (by omega)
  refine ⟨?_, ?_⟩
  · rw [sp_ofJoint, if_pos (isJ_y h hj), if_pos (by decide), e]; rfl
  · rw [sp_ofJoint, if_pos (isJ_y h hj), if_pos (by decide), e]; rfl
theorem set_y {n : Nat} {f : Nat → Bool} (h : f n = true) : setN (n + 1) f = setN n f ||| ((1 : Int32) <<< (nI n &&& 31)) := by rw [setN, if_pos h]
theorem set_n {n : Nat} {f : Nat → Bool} (h : f n = false) : setN (n + 1) f = setN n f ||| 0 := by rw [setN, if_neg (by rw [h]; decide), Int32.or_zero]
theorem fst_pos (hk : k ≤ 24) : (fst g j k ≤ 0) ↔ ¬ 0 < bkk g j k := by
  have h := bkk_le g j k
  unfold fst
  by_cases e : bkk g j k = 0
  · rw [if_pos e]
    simp only [e, Nat.lt_irrefl, not_false_eq_true, iff_true]
    decide
  · rw [if_neg e, show (0 : Int32) = nI 0 from rfl, nI_leI (by omega) (by decide)]
    omega
end TRC
