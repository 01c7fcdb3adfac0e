/-! ===== joints are made, glued, repaired ===== -/
section TRB
variable {g gm : GS} {i j p b : Nat} {x : Int32}
theorem jst_o {kd sz tg : Int32} {p q k i : Nat} (h : i ≠ nj g) (h1 : k ≠ 3) (h2 : k ≠ 24) : jst g kd p q sz tg k i = g k i := by
  simp [jst, gup, h, h1, h2]
theorem jst_n {kd sz tg : Int32} {p q : Nat} : nj (jst g kd p q sz tg) = (nI (nj g + 1)).toNatClampNeg := by
  unfold nj
  rw [jst, gup_s]
  rfl
theorem hd_le {k : Nat} (h : k < 3) : ∃ d : Nat, d ≤ 100 ∧ hd (nI k) = nI d ∧ hd (nI k) ≤ 100 ∧ (100 : Int32) - hd (nI k) = nI (100 - d) := by
  rcases (show k = 0 ∨ k = 1 ∨ k = 2 by omega) with rfl | rfl | rfl
  · exact ⟨2, by decide, by decide, by decide, by decide⟩
  · exact ⟨4, by decide, by decide, by decide, by decide⟩
  · exact ⟨7, by decide, by decide, by decide, by decide⟩
/-- what joint's arguments are, as the law makes them -/
def jok (g : GS) (kd p : Nat) (tg sz : Nat) : Prop :=
  kd < 3 ∧ p < 6 ∧ (10 ≤ sz ∧ sz ≤ 6000) ∧ tg ≤ 60 ∧ (kd = 2 → 1 ≤ tg) ∧ (kd ≠ 2 → tg = 0) ∧ (kd = 0 → sz ≤ 200) ∧ (kd ≠ 0 → ∃ n : Nat, n ≤ 6000 ∧ wAt g p (g 22 p) = nI n ∧ (kd = 1 → sz = n) ∧ (kd = 2 → n ≤ sz ∧ sz ≤ n + 2 * tg))
theorem jok_fit (h : BD g) {kd p tg sz : Nat} (hj : jok g kd p tg sz) : fit g (nI kd) p (nI sz) (nI tg) = true := by
  obtain ⟨h1, h2, h3, h4, h5, h6, h7, h8⟩ := hj
  unfold fit
  rcases (show kd = 0 ∨ kd = 1 ∨ kd = 2 by omega) with rfl | rfl | rfl
  · rw [if_pos (show nI 0 = 0 from rfl), h.pl h2, show (200 : Int32) = nI 200 from rfl, decide_eq_false (nI_nlt (h7 rfl) (by decide))]
    rfl
  · obtain ⟨n, hn, e, e1, -⟩ := h8 (by decide)
    rw [if_neg (by decide), if_pos (show nI 1 = 1 from rfl), e, decide_eq_false (nI_nlt (Nat.le_of_eq (e1 rfl)) (by omega))]
    rfl
  · obtain ⟨n, hn, e, -, e2⟩ := h8 (by decide)
    have e3 := e2 rfl
    rw [if_neg (by decide), if_neg (by decide), e, show (2 : Int32) * nI tg = nI (2 * tg) from pk_mul 2 tg, decide_eq_false (nI_nlt e3.1 (by omega)), decide_eq_false (fun q => by
      rw [Int32.lt_iff_toInt_lt, pk_sub_toInt (by omega) (by omega), nI_toInt (by omega)] at q
      omega)]
    rfl
theorem t_joint (h : BD g) (hc : g 3 1 = 100) (hn : nj g < 12) {kd p q tg sz : Nat} (hj : jok g kd p tg sz) (hq : q < 6) (hpq : p ≠ q) : sp_joint g (nI kd) (nI p) (nI q) (nI sz) (nI tg) = (0, nI (nj g), jst g (nI kd) p q (nI sz) (nI tg)) := by
  have hf := jok_fit h hj
  obtain ⟨h1, h2, h3, h4, h5, h6, h7, h8⟩ := hj
  have ep : tN (nI p) = p := tNn (by omega)
  have eq : tN (nI q) = q := tNn (by omega)
  have w1 : wi (nI kd) 0 2 = true := wi_y (lo := 0) (hi := 2) (Nat.zero_le _) (by omega) (by decide)
  have w2 : wi (nI sz) 10 30000 = true := wi_y (lo := 10) (hi := 30000) h3.1 (by omega) (by decide)
  have w3 : tgok (nI kd) (nI tg) = true := by
    unfold tgok
    by_cases e : kd = 2
    · subst e
      rw [if_pos (show nI 2 = 2 from rfl)]
      exact wi_y (lo := 1) (hi := 200) (h5 rfl) (by omega) (by decide)
    · rw [if_neg (fun q => e ((nI_eq (by omega) (by omega)).mp (q.trans (show (2 : Int32) = nI 2 from rfl)))), h6 e]
      rfl
  have w4 : ¬ nI p = nI q := fun z => hpq ((nI_eq (by omega) (by omega)).mp z)
  have hk := Nat.mod_lt p (show 0 < 3 by decide)
  obtain ⟨d, -, -, d3, -⟩ := hd_le hk
  rw [sp_joint, if_pos ⟨isP_y h h2, isP_y h hq⟩, if_pos ⟨⟨w1, w2, w3⟩, w4⟩, if_neg (by omega), ep, eq, if_pos hf, h.spp h2, hc, if_pos d3]
theorem bd_j (h : BD g) (hc : g 3 1 = 100) (hn : nj g < 12) {kd p q tg sz : Nat} (hj : jok g kd p tg sz) (hq : q < 6) (hpq : p ≠ q) : BD (jst g (nI kd) p q (nI sz) (nI tg)) := by
  have ho := ok_joint h.ok (nI kd) (nI p) (nI q) (nI sz) (nI tg)
  rw [t_joint h hc hn hj hq hpq] at ho
  obtain ⟨h1, h2, h3, h4, h5, h6, h7, h8⟩ := hj
  have hk := Nat.mod_lt p (show 0 < 3 by decide)
  obtain ⟨d, d1, d2, -, d4⟩ := hd_le hk
  have en : nj (jst g (nI kd) p q (nI sz) (nI tg)) = nj g + 1 := jst_n.trans (nI_clamp (by omega))
  refine ⟨ho, ⟨h.eb, h.ep, by rw [en]; omega, h.cl, 100 - d, by omega, ?_⟩, h.2.2.1, h.2.2.2.1, h.2.2.2.2.1, fun k hk2 => ?_⟩
  · show jst g (nI kd) p q (nI sz) (nI tg) 3 1 = _
    have e : jst g (nI kd) p q (nI sz) (nI tg) 3 1 = g 3 1 - hd (g 6 (pb g p)) := by simp [jst, gup]
    rw [e, h.spp h2, hc, d4]
  · rw [en] at hk2
    by_cases e : k = nj g
    · subst e
      have q9 := h.ok.2.2.2.2.2.2 (nj g) (Nat.le_refl _)
      refine ⟨⟨sz, h3.1, h3.2, by simp [jst, gup]⟩, ⟨tg, h4, by simp [jst, gup]⟩, ?_, Or.inl ?_⟩
      · have e2 : jst g (nI kd) p q (nI sz) (nI tg) 30 (nj g) = g 30 (nj g) := by simp [jst, gup]
        rw [e2]; exact q9.1
      · have e2 : jst g (nI kd) p q (nI sz) (nI tg) 31 (nj g) = g 31 (nj g) := by simp [jst, gup]
        rw [e2]; exact q9.2.1
    · have hk3 : k < nj g := by omega
      rw [jst_o e (by decide) (by decide), jst_o e (by decide) (by decide), jst_o e (by decide) (by decide), jst_o e (by decide) (by decide), jst_o e (by decide) (by decide)]
      exact h.2.2.2.2.2 k hk3
theorem ar_j (h : BD g) (ha : AR g gm) (hn : nj g < 12) {kd p q : Nat} {sz tg : Int32} (hp : p < 6) : AR (jst g (nI kd) p q sz tg) (gup (gup (gup (gup gm 6 (5 * nj g) (nI kd)) 6 (5 * nj g + 1) (nI p)) 6 (5 * nj g + 2) sz) 6 (5 * nj g + 3) tg) := by
  have en : nj (jst g (nI kd) p q sz tg) = nj g + 1 := jst_n.trans (nI_clamp (by omega))
  refine ⟨ha.1, ha.2.1, ha.2.2.1, fun k hk => ?_, fun k hk => ⟨?_, ?_⟩⟩
  · rw [en] at hk
    by_cases e : k = nj g
    · subst e
      refine ⟨?_, ?_, ?_, ?_⟩
      · rw [gup_i (by omega), gup_i (by omega), gup_i (by omega), gup_s]; simp [jst, gup]
      · rw [gup_i (by omega), gup_i (by omega), gup_s]
        have e2 : jp (jst g (nI kd) p q sz tg) (nj g) = p := by
          unfold jp
          rw [show jst g (nI kd) p q sz tg 26 (nj g) = nI p by simp [jst, gup]]
          exact nI_clamp (by omega)
        rw [e2]
      · rw [gup_i (by omega), gup_s]; simp [jst, gup]
      · rw [gup_s]; simp [jst, gup]
    · have hk3 : k < nj g := by omega
      have e2 : jp (jst g (nI kd) p q sz tg) k = jp g k := by
        unfold jp
        rw [jst_o e (by decide) (by decide)]
      rw [e2, jst_o e (by decide) (by decide), jst_o e (by decide) (by decide), jst_o e (by decide) (by decide)]
      refine ⟨?_, ?_, ?_, ?_⟩
      · rw [gup_i (by omega), gup_i (by omega), gup_i (by omega), gup_i (by omega)]; exact ha.j0 hk3
      · rw [gup_i (by omega), gup_i (by omega), gup_i (by omega), gup_i (by omega)]; exact ha.j1 hk3
      · rw [gup_i (by omega), gup_i (by omega), gup_i (by omega), gup_i (by omega)]; exact ha.j2 hk3
      · rw [gup_i (by omega), gup_i (by omega), gup_i (by omega), gup_i (by omega)]; exact ha.j3 hk3
  · rw [gup_i (by omega), gup_i (by omega), gup_i (by omega), gup_i (by omega), ha.j4 hk]
    simp [jst, gup]
  · rw [gup_k (by decide), gup_k (by decide), gup_k (by decide), gup_k (by decide), ha.a7 hk]
    simp [stt, jst, gup]
/-! gluing one joint -/
theorem bt1 : ∀ j, j < 12 → ∀ i, i < 12 → btS ((1 : Int32) <<< (nI j &&& 31)) i = decide (i = j) := by decide +kernel
theorem sh1 : ∀ n, n < 13 → ∀ j, j < n → ((((1 : Int32) <<< (nI j &&& 31)) >>> (nI n &&& 31)) = 0) := by decide +kernel
theorem lt1 : ∀ j, j < 12 → ¬ ((1 : Int32) <<< (nI j &&& 31)) < 1 := by decide +kernel
theorem mi1 (hj : j < 12) : ∀ n, n ≤ 12 → miN g ((1 : Int32) <<< (nI j &&& 31)) n = if j < n then 3 + g 28 j / 1000 else 0
  | 0, _ => by rw [if_neg (Nat.not_lt_zero _)]; rfl
  | n + 1, h => by
    rw [miN, mi1 hj n (by omega), bt1 j hj n (by omega)]
    by_cases e : n = j
    · subst e
      rw [if_pos (by simp), if_neg (by omega), if_pos (by omega), Int32.zero_add]
    · rw [if_neg (by simp [e])]
      by_cases e2 : j < n
      · rw [if_pos e2, if_pos (by omega)]
      · rw [if_neg e2, if_neg (by omega)]
theorem ta1 (hj : j < 12) : ∀ n, n ≤ 12 → taN g ((1 : Int32) <<< (nI j &&& 31)) n = if j < n then 1 + g 28 j / 500 else 0
  | 0, _ => by rw [if_neg (Nat.not_lt_zero _)]; rfl
  | n + 1, h => by
    rw [taN, ta1 hj n (by omega), bt1 j hj n (by omega)]
    by_cases e : n = j
    · subst e
      rw [if_pos (by simp), if_neg (by omega), if_pos (by omega), Int32.zero_add]
    · rw [if_neg (by simp [e])]
      by_cases e2 : j < n
      · rw [if_pos e2, if_pos (by omega)]
      · rw [if_neg e2, if_neg (by omega)]
theorem my1 (hj : j < 12) (h30 : g 30 j = 0) (dn : Int32) : ∀ n, n ≤ 12 → myN g ((1 : Int32) <<< (nI j &&& 31)) dn n = if j < n then decide (g 31 j = 0) else true
  | 0, _ => by rw [if_neg (Nat.not_lt_zero _)]; rfl
  | n + 1, h => by
    rw [myN, my1 hj h30 dn n (by omega), bt1 j hj n (by omega)]
    by_cases e : n = j
    · subst e
      have e3 : ndz (g 30 n) dn = true := by
        unfold ndz
        rw [h30, Int32.zero_and]
        rfl
      rw [if_pos (by simp), if_neg (by omega), if_pos (by omega), e3]
      simp
    · rw [if_neg (by simp [e])]
      by_cases e2 : j < n
      · rw [if_pos e2, if_pos (by omega)]
      · rw [if_neg e2, if_neg (by omega)]
theorem gst1 (hj : j < nj g) (hn : nj g ≤ 12) : gst g ((1 : Int32) <<< (nI j &&& 31)) (nj g) = gup (gup g 31 j 1) 33 j (g 22 (jp g j)) := by
  funext k i
  by_cases hi : i < nj g
  · have e := bt1 j (by omega) i (by omega)
    by_cases e2 : i = j
    · subst e2
      by_cases k1 : k = 31
      · subst k1; simp [gst, gup, e, hi]
      · by_cases k2 : k = 33
        · subst k2; simp [gst, gup, e, hi]
        · simp [gst, gup, e, hi, k1, k2]
    · simp [gst, gup, e, hi, e2]
  · have e2 : i ≠ j := by omega
    simp [gst, gup, hi, e2]
theorem t_glue (h : BD g) (hj : j < nj g) {z : Nat} (hz : g 28 j = nI z) (hz2 : z ≤ 6000) : sp_glue g ((1 : Int32) <<< (nI j &&& 31)) = if g 31 j = 0 ∧ 1 + z / 500 ≤ 6 then (0, nI (3 + z / 1000), gup (gup g 31 j 1) 33 j (g 22 (jp g j))) else bad 2 g := by
  have hn := h.lj
  have hj2 : j < 12 := by omega
  have e1 : (3 : Int32) + g 28 j / 1000 = nI (3 + z / 1000) := by
    rw [hz, show (1000 : Int32) = nI 1000 from rfl, pk_div (by omega) (by decide) (by decide)]
    exact nI_add 3 _
  have e2 : (1 : Int32) + g 28 j / 500 = nI (1 + z / 500) := by
    rw [hz, show (500 : Int32) = nI 500 from rfl, pk_div (by omega) (by decide) (by decide)]
    exact nI_add 1 _
  rw [sp_glue, if_neg (lt1 j hj2), if_pos (sh1 (nj g) (by omega) j hj), my1 hj2 (h.jn hj) _ _ hn, if_pos hj, mi1 hj2 _ hn, if_pos hj, ta1 hj2 _ hn, if_pos hj, gst1 hj hn, h.cl, e1, e2]
  by_cases c1 : g 31 j = 0
  · rw [if_pos (by simp [c1]), if_neg (by
      rw [show (30 : Int32) = nI 30 from rfl, nI_ltI (by decide) (by omega)]
      omega)]
    by_cases c2 : 1 + z / 500 ≤ 6
    · rw [if_pos (by rw [show (6 : Int32) = nI 6 from rfl, nI_leI (by omega) (by decide)]; exact c2), if_pos ⟨c1, c2⟩]
    · rw [if_neg (by rw [show (6 : Int32) = nI 6 from rfl, nI_leI (by omega) (by decide)]; exact c2), if_neg (fun q => c2 q.2)]
  · rw [if_neg (by simp [c1]), if_neg (fun q => c1 q.1)]
theorem bd_g (h : BD g) (hj : j < nj g) {z : Nat} (hz : g 28 j = nI z) (hz2 : z ≤ 6000) (c1 : g 31 j = 0) (c2 : 1 + z / 500 ≤ 6) : BD (gup (gup g 31 j 1) 33 j (g 22 (jp g j))) := by
  have ho := ok_glue h.ok ((1 : Int32) <<< (nI j &&& 31))
  rw [t_glue h hj hz hz2, if_pos ⟨c1, c2⟩] at ho
  refine ⟨ho, h.2.1, h.2.2.1, h.2.2.2.1, h.2.2.2.2.1, fun k hk => ?_⟩
  have q := h.2.2.2.2.2 k hk
  refine ⟨q.1, q.2.1, q.2.2.1, ?_⟩
  by_cases e : k = j
  · subst e
    right
    rw [gup_s]
    exact h.pd (h.ljp hj)
  · have e1 : gup (gup g 31 j 1) 33 j (g 22 (jp g j)) 31 k = g 31 k := by rw [gup_i e, gup_i e]
    have e2 : gup (gup g 31 j 1) 33 j (g 22 (jp g j)) 33 k = g 33 k := by rw [gup_i e, gup_i e]
    rw [e1, e2]
    exact q.2.2.2
theorem ar_g (h : BD g) (ha : AR g gm) (hj : j < nj g) (c1 : g 31 j = 0) : AR (gup (gup g 31 j 1) 33 j x) (gup (gup gm 7 j 1) 6 (5 * j + 4) x) := by
  refine ⟨ha.1, ha.2.1, ha.2.2.1, fun k hk => ⟨?_, ?_, ?_, ?_⟩, fun k hk => ⟨?_, ?_⟩⟩
  · rw [gup_i (show 5 * k ≠ 5 * j + 4 by omega), gup_k (by decide)]; exact ha.j0 hk
  · rw [gup_i (show 5 * k + 1 ≠ 5 * j + 4 by omega), gup_k (by decide)]; exact ha.j1 hk
  · rw [gup_i (show 5 * k + 2 ≠ 5 * j + 4 by omega), gup_k (by decide)]; exact ha.j2 hk
  · rw [gup_i (show 5 * k + 3 ≠ 5 * j + 4 by omega), gup_k (by decide)]; exact ha.j3 hk
  · by_cases e : k = j
    · subst e; rw [gup_s, gup_s]
    · have e2 : gup (gup g 31 j 1) 33 j x 33 k = g 33 k := by rw [gup_i e, gup_i e]
      rw [gup_i (show 5 * k + 4 ≠ 5 * j + 4 by omega), gup_k (by decide), e2]; exact ha.j4 hk
  · by_cases e : k = j
    · subst e
      have h32 : g 32 k = 0 := (h.ok.br hj).resolve_right (fun q => by rw [q.2] at c1; exact absurd c1 (by decide))
      rw [gup_k (by decide), gup_s]
      simp [stt, gup, h32]
    · rw [gup_k (by decide), gup_i e, ha.a7 hk]
      simp [stt, gup, e]
/-! repairing -/
theorem t_repair (h : BD g) (hj : j < nj g) : sp_repair g (nI j) = if g 32 j = 0 then bad 2 g else (0, rsz g j, gup (gup (gup g 32 j 0) 33 j (g 22 (jp g j))) 28 j (rsz g j)) := by
  have hn := h.lj
  rw [sp_repair, if_pos (isJ_y h hj), tNn (show j < 2 ^ 31 by omega)]
theorem rsz_rng (h : BD g) (hj : j < nj g) : ∃ z : Nat, 10 ≤ z ∧ z ≤ 6000 ∧ rsz g j = nI z := by
  unfold rsz
  by_cases e : g 25 j = 2
  · rw [if_pos e]
    obtain ⟨n, hn, e2⟩ := h.wa (h.ljp hj) (h.pd (h.ljp hj))
    obtain ⟨t, ht, e3⟩ := h.jt hj
    exact ⟨n + t, by omega, by omega, by rw [e2, e3, nI_add]⟩
  · rw [if_neg e]
    exact h.js hj
theorem bd_r (h : BD g) (hj : j < nj g) (c1 : ¬ g 32 j = 0) : BD (gup (gup (gup g 32 j 0) 33 j (g 22 (jp g j))) 28 j (rsz g j)) := by
  have ho := ok_repair h.ok (nI j)
  rw [t_repair h hj, if_neg c1] at ho
  refine ⟨ho, h.2.1, h.2.2.1, h.2.2.2.1, h.2.2.2.2.1, fun k hk => ?_⟩
  have q := h.2.2.2.2.2 k hk
  refine ⟨?_, q.2.1, q.2.2.1, ?_⟩
  · by_cases e : k = j
    · subst e; rw [gup_s]; exact rsz_rng h hj
    · rw [gup_i e]; exact q.1
  · by_cases e : k = j
    · subst e
      right
      rw [gup_k (by decide), gup_s]
      exact h.pd (h.ljp hj)
    · have e1 : gup (gup (gup g 32 j 0) 33 j (g 22 (jp g j))) 28 j (rsz g j) 31 k = g 31 k := by rw [gup_i e, gup_i e, gup_i e]
      have e2 : gup (gup (gup g 32 j 0) 33 j (g 22 (jp g j))) 28 j (rsz g j) 33 k = g 33 k := by rw [gup_i e, gup_i e, gup_i e]
      rw [e1, e2]
      exact q.2.2.2
theorem ar_r (h : BD g) (ha : AR g gm) (hj : j < nj g) (c1 : ¬ g 32 j = 0) {y : Int32} : AR (gup (gup (gup g 32 j 0) 33 j x) 28 j y) (gup (gup (gup gm 6 (5 * j + 2) y) 6 (5 * j + 4) x) 7 j 1) := by
  refine ⟨ha.1, ha.2.1, ha.2.2.1, fun k hk => ⟨?_, ?_, ?_, ?_⟩, fun k hk => ⟨?_, ?_⟩⟩
  · rw [gup_k (by decide), gup_i (by omega), gup_i (by omega)]; exact ha.j0 hk
  · rw [gup_k (by decide), gup_i (by omega), gup_i (by omega)]; exact ha.j1 hk
  · by_cases e : k = j
    · subst e; rw [gup_k (by decide), gup_i (by omega), gup_s, gup_s]
    · rw [gup_k (by decide), gup_i (by omega), gup_i (by omega), gup_i e]; exact ha.j2 hk
  · rw [gup_k (by decide), gup_i (by omega), gup_i (by omega)]; exact ha.j3 hk
  · by_cases e : k = j
    · subst e; rw [gup_k (by decide), gup_s, gup_k (by decide), gup_s]
    · rw [gup_k (by decide), gup_i (by omega), gup_i (by omega), gup_k (by decide), gup_i e, gup_k (by decide)]; exact ha.j4 hk
  · by_cases e : k = j
    · subst e
      rw [gup_s]
      have h31 : g 31 k = 1 := ((h.ok.br hj).resolve_left c1).2
      simp [stt, gup, h31]
    · rw [gup_i e, gup_k (by decide), gup_k (by decide), ha.a7 hk]
      simp [stt, gup, e]
end TRB
