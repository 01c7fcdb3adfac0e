/-! ===== boards are taken, parts are cut ===== -/
def IB (g : GS) (n : Nat) : Prop :=
  OKg g ∧ (nb g = n ∧ np g = 0 ∧ nj g = 0 ∧ mo g = 0 ∧ g 4 0 = 6 ∧ g 3 0 = 100 ∧ g 3 1 = 100) ∧ (∀ i, i < 12 → g 2 i = 100) ∧
  ∀ b, b < n → g 6 b = nI b ∧ g 7 b = nI b ∧ g 9 b = 6000 ∧ g 10 b = 3000 ∧ g 11 b = g 12 b ∧ mz (g 12 b)
def IC (g : GS) (n : Nat) : Prop :=
  OKg g ∧ (nb g = 3 ∧ np g = n ∧ nj g = 0 ∧ mo g = 0 ∧ g 4 0 = 6 ∧ g 3 0 = 100 ∧ g 3 1 = 100) ∧ (∀ i, i < 12 → g 2 i = 100) ∧
  (∀ b, b < 3 → g 6 b = nI b ∧ g 9 b = 6000 ∧ g 10 b = 3000 ∧ g 11 b = g 12 b ∧ mz (g 12 b)) ∧
  ∀ p, p < n → (pb g p = p % 3 ∧ g 18 p = nI (100 + 400 * p) ∧ g 19 p = 200 ∧ ∃ W : Nat, 1000 ≤ W ∧ W ≤ 5000 ∧ g 20 p = nI W) ∧ g 21 p = g 12 (p % 3) ∧ g 22 p = g 12 (p % 3) ∧ g 23 p = 0
section TRM
variable {g gm : GS} {n : Nat}
theorem t_board (h : IB g n) (hn : n < 3) {m : Nat} (hm : 40 ≤ m ∧ m ≤ 300) : sp_board g (nI n) (nI n) (nI n) 6000 3000 (nI m) = (0, nI n, bst g (nI n) (nI n) (nI n) 6000 3000 (nI m)) := by
  have w1 : wi (nI n) 0 3 = true := wi_y (lo := 0) (hi := 3) (Nat.zero_le _) (by omega) (by decide)
  have w2 : wi (nI n) 0 9 = true := wi_y (lo := 0) (hi := 9) (Nat.zero_le _) (by omega) (by decide)
  have w3 : wi (nI n) 0 20 = true := wi_y (lo := 0) (hi := 20) (Nat.zero_le _) (by omega) (by decide)
  have w6 : wi (nI m) 40 300 = true := wi_y (lo := 40) (hi := 300) hm.1 hm.2 (by decide)
  have hc : ¬ anyN (nb g) (clash g (nI n) (nI n) (nI n)) = true := by
    rw [anyN_iff]
    rintro ⟨i, hi, q⟩
    rw [h.2.1.1] at hi
    simp only [clash, Bool.and_eq_true, decide_eq_true_eq] at q
    rw [(h.2.2.2 i hi).2.1, nI_eq (by omega) (by omega)] at q
    omega
  rw [sp_board, if_pos ⟨⟨w1, w2, w3, by decide⟩, by decide, w6⟩, if_neg (by rw [h.2.1.1]; omega), if_neg hc, h.2.1.1]
theorem ib_s (h : IB g n) (hn : n < 3) {m : Nat} (hm : 40 ≤ m ∧ m ≤ 300) : IB (bst g (nI n) (nI n) (nI n) 6000 3000 (nI m)) (n + 1) ∧ ∀ b, b < n → bst g (nI n) (nI n) (nI n) 6000 3000 (nI m) 12 b = g 12 b := by
  have ho := ok_board h.1 (nI n) (nI n) (nI n) 6000 3000 (nI m)
  rw [t_board h hn hm] at ho
  have e1 := h.2.1.1
  have en : nb (bst g (nI n) (nI n) (nI n) 6000 3000 (nI m)) = n + 1 := by
    show (bst g (nI n) (nI n) (nI n) 6000 3000 (nI m) 5 0).toNatClampNeg = n + 1
    rw [show bst g (nI n) (nI n) (nI n) 6000 3000 (nI m) 5 0 = nI (nb g + 1) from gup_s, e1]
    exact nI_clamp (by omega)
  have hold : ∀ k b, b < n → k ≠ 5 → bst g (nI n) (nI n) (nI n) 6000 3000 (nI m) k b = g k b := fun k b hb hk => by
    have e2 : b ≠ nb g := by omega
    simp [bst, gup, e2, hk]
  refine ⟨⟨ho, ⟨en, h.2.1.2⟩, h.2.2.1, fun b hb => ?_⟩, fun b hb => hold 12 b hb (by decide)⟩
  by_cases e : b = n
  · subst e
    refine ⟨?_, ?_, ?_, ?_, ?_, m, hm, ?_⟩ <;> simp [bst, gup, e1]
  · have hb2 : b < n := by omega
    rw [hold 6 b hb2 (by decide), hold 7 b hb2 (by decide), hold 9 b hb2 (by decide), hold 10 b hb2 (by decide), hold 11 b hb2 (by decide), hold 12 b hb2 (by decide)]
    exact h.2.2.2 b hb2
theorem ib_ic (h : IB g 3) : IC g 0 :=
  ⟨h.1, h.2.1, h.2.2.1, fun b hb => ⟨(h.2.2.2 b hb).1, (h.2.2.2 b hb).2.2⟩, fun p hp => absurd hp (Nat.not_lt_zero p)⟩
theorem ic_bw (h : IC g n) {b : Nat} (hb : b < 3) : bWd g b = 6000 := by
  have q := h.2.2.2.1 b hb
  unfold bWd
  rw [q.2.2.2.1, q.2.1, Int32.sub_self]
  unfold mvd
  rw [Int32.mul_zero]
  decide
theorem ic_ok (h : IC g n) (hn : n < 6) {W : Nat} (hW : 1000 ≤ W ∧ W ≤ 5000) : cutok g (n % 3) (nI (100 + 400 * n)) 200 (nI W) 1 = true := by
  have hk := Nat.mod_lt n (show 0 < 3 by decide)
  have q := h.2.2.2.1 (n % 3) hk
  obtain ⟨d, -, -, d3, -⟩ := hd_le hk
  have e1 : nI (100 + 400 * n) + 200 = nI (100 + 400 * n + 200) := nI_add _ 200
  have c1 : decide (np g < 40) = true := by rw [h.2.1.2.1]; exact decide_eq_true (by omega)
  have c2 : decide (g 10 (n % 3) < nI (100 + 400 * n) + 200) = false := by
    rw [q.2.2.1, e1, show (3000 : Int32) = nI 3000 from rfl]
    exact decide_eq_false (nI_nlt (by omega) (by omega))
  have c3 : anyN (np g) (tkn g (n % 3) (nI (100 + 400 * n)) (nI (100 + 400 * n) + 200)) = false := by
    rw [← Bool.not_eq_true, anyN_iff]
    rintro ⟨i, hi, z⟩
    rw [h.2.1.2.1] at hi
    simp only [tkn, Bool.and_eq_true, Bool.not_eq_true', decide_eq_true_eq, decide_eq_false_iff_not] at z
    have r := (h.2.2.2.2 i hi).1
    refine z.2.1 ?_
    rw [r.2.1, r.2.2.1, show (200 : Int32) = nI 200 from rfl, show (30 : Int32) = nI 30 from rfl, nI_add, nI_add]
    exact nI_le (by omega) (by omega)
  have c4 : decide (bWd g (n % 3) < nI W) = false := by
    rw [ic_bw h hk, show (6000 : Int32) = nI 6000 from rfl]
    exact decide_eq_false (nI_nlt (by omega) (by omega))
  have c5 : decide (g 3 0 < hd (g 6 (n % 3))) = false := by
    rw [q.1, h.2.1.2.2.2.2.2.1]
    exact decide_eq_false (Int32.not_lt.mpr d3)
  unfold cutok
  rw [c1, c2, c3, c4, c5]
  rfl
theorem t_cut (h : IC g n) (hn : n < 6) {W : Nat} (hW : 1000 ≤ W ∧ W ≤ 5000) : sp_cut g (nI (n % 3)) (nI (100 + 400 * n)) 200 (nI W) 1 = (0, nI n, cutst g (n % 3) (nI (100 + 400 * n)) 200 (nI W)) := by
  have hk := Nat.mod_lt n (show 0 < 3 by decide)
  have hb : isB g (nI (n % 3)) = true := by
    unfold isB
    rw [h.2.1.1, show nI 3 - 1 = nI 2 by decide]
    exact wi_y (lo := 0) (hi := 2) (Nat.zero_le _) (by omega) (by decide)
  have w1 : wi (nI (100 + 400 * n)) 0 30000 = true := wi_y (lo := 0) (hi := 30000) (Nat.zero_le _) (by omega) (by decide)
  have w3 : wi (nI W) 10 6000 = true := wi_y (lo := 10) (hi := 6000) (by omega) (by omega) (by decide)
  rw [sp_cut, if_pos hb, if_pos ⟨w1, by decide, w3⟩, tNn (show n % 3 < 2 ^ 31 by omega), if_pos (ic_ok h hn hW), h.2.1.2.1]
theorem cut_ok (h : IC g n) (hn : n < 6) {W : Nat} (hW : 1000 ≤ W ∧ W ≤ 5000) : OKg (cutst g (n % 3) (nI (100 + 400 * n)) 200 (nI W)) := by
  have ho := ok_cut h.1 (nI (n % 3)) (nI (100 + 400 * n)) 200 (nI W) 1
  rw [t_cut h hn hW] at ho
  exact ho
theorem cut_saw (h : IC g n) (W : Nat) : ∃ d : Nat, d ≤ 98 ∧ cutst g (n % 3) (nI (100 + 400 * n)) 200 (nI W) 3 0 = nI d := by
  have hk := Nat.mod_lt n (show 0 < 3 by decide)
  have e : cutst g (n % 3) (nI (100 + 400 * n)) 200 (nI W) 3 0 = g 3 0 - hd (g 6 (n % 3)) := by simp [cutst, gup]
  rw [e, (h.2.2.2.1 _ hk).1, h.2.1.2.2.2.2.2.1]
  generalize n % 3 = k at hk
  rcases (show k = 0 ∨ k = 1 ∨ k = 2 by omega) with rfl | rfl | rfl
  · exact ⟨98, by decide, by decide⟩
  · exact ⟨96, by decide, by decide⟩
  · exact ⟨93, by decide, by decide⟩
theorem t_saw (g : GS) : sp_sharpen g 0 = (0, g 3 0, gup g 3 0 100) := rfl
theorem ic_s (h : IC g n) (hn : n < 6) {W : Nat} (hW : 1000 ≤ W ∧ W ≤ 5000) : IC (gup (cutst g (n % 3) (nI (100 + 400 * n)) 200 (nI W)) 3 0 100) (n + 1) ∧ (∀ k p, 17 ≤ k → k ≤ 23 → p < n → gup (cutst g (n % 3) (nI (100 + 400 * n)) 200 (nI W)) 3 0 100 k p = g k p) ∧ gup (cutst g (n % 3) (nI (100 + 400 * n)) 200 (nI W)) 3 0 100 20 n = nI W ∧ gup (cutst g (n % 3) (nI (100 + 400 * n)) 200 (nI W)) 3 0 100 21 n = g 12 (n % 3) ∧ gup (cutst g (n % 3) (nI (100 + 400 * n)) 200 (nI W)) 3 0 100 22 n = g 12 (n % 3) := by
  have ho := ok_sharpen (cut_ok h hn hW) 0
  rw [t_saw] at ho
  have e1 := h.2.1.2.1
  have en : np (gup (cutst g (n % 3) (nI (100 + 400 * n)) 200 (nI W)) 3 0 100) = n + 1 := by
    show (gup (cutst g (n % 3) (nI (100 + 400 * n)) 200 (nI W)) 3 0 100 16 0).toNatClampNeg = n + 1
    rw [show gup (cutst g (n % 3) (nI (100 + 400 * n)) 200 (nI W)) 3 0 100 16 0 = nI (np g + 1) by simp [cutst, gup], e1]
    exact nI_clamp (by omega)
  have hold : ∀ k p, 17 ≤ k → k ≤ 23 → p < n → gup (cutst g (n % 3) (nI (100 + 400 * n)) 200 (nI W)) 3 0 100 k p = g k p := fun k p h1 h2 hp => by
    have e2 : p ≠ np g := by omega
    have e3 : k ≠ 3 := by omega
    have e4 : k ≠ 16 := by omega
    simp [cutst, gup, e2, e3, e4]
  have n17 : gup (cutst g (n % 3) (nI (100 + 400 * n)) 200 (nI W)) 3 0 100 17 n = nI (n % 3) := by simp [cutst, gup, e1]
  have n18 : gup (cutst g (n % 3) (nI (100 + 400 * n)) 200 (nI W)) 3 0 100 18 n = nI (100 + 400 * n) := by simp [cutst, gup, e1]
  have n19 : gup (cutst g (n % 3) (nI (100 + 400 * n)) 200 (nI W)) 3 0 100 19 n = 200 := by simp [cutst, gup, e1]
  have n20 : gup (cutst g (n % 3) (nI (100 + 400 * n)) 200 (nI W)) 3 0 100 20 n = nI W := by simp [cutst, gup, e1]
  have n21 : gup (cutst g (n % 3) (nI (100 + 400 * n)) 200 (nI W)) 3 0 100 21 n = g 12 (n % 3) := by simp [cutst, gup, e1]
  have n22 : gup (cutst g (n % 3) (nI (100 + 400 * n)) 200 (nI W)) 3 0 100 22 n = g 12 (n % 3) := by simp [cutst, gup, e1]
  have n23 : gup (cutst g (n % 3) (nI (100 + 400 * n)) 200 (nI W)) 3 0 100 23 n = g 23 n := by simp [cutst, gup]
  have n12 : ∀ b, gup (cutst g (n % 3) (nI (100 + 400 * n)) 200 (nI W)) 3 0 100 12 b = g 12 b := fun b => by simp [cutst, gup]
  have hk := Nat.mod_lt n (show 0 < 3 by decide)
  refine ⟨⟨ho, ⟨h.2.1.1, en, h.2.1.2.2.1, h.2.1.2.2.2.1, h.2.1.2.2.2.2.1, rfl, h.2.1.2.2.2.2.2.2⟩, h.2.2.1, h.2.2.2.1, fun p hp => ?_⟩, hold, n20, n21, n22⟩
  rw [n12]
  by_cases e : p = n
  · subst e
    rw [n18, n19, n20, n21, n22, n23]
    refine ⟨⟨?_, rfl, rfl, W, hW.1, hW.2, rfl⟩, rfl, rfl, h.1.2.2.2.2.2.1 p (by omega)⟩
    unfold pb
    rw [n17]
    exact nI_clamp (by omega)
  · have hp2 : p < n := by omega
    have e17 : pb (gup (cutst g (n % 3) (nI (100 + 400 * n)) 200 (nI W)) 3 0 100) p = pb g p := by
      unfold pb
      rw [hold 17 p (by decide) (by decide) hp2]
    rw [e17, hold 18 p (by decide) (by decide) hp2, hold 19 p (by decide) (by decide) hp2, hold 20 p (by decide) (by decide) hp2, hold 21 p (by decide) (by decide) hp2, hold 22 p (by decide) (by decide) hp2, hold 23 p (by decide) (by decide) hp2]
    exact h.2.2.2.2 p hp2
theorem ic_bd (h : IC g 6) : BD g := by
  have e0 := h.2.1.2.2.1
  refine ⟨h.1, ⟨h.2.1.1, h.2.1.2.1, by omega, h.2.1.2.2.2.2.1, 100, by decide, h.2.1.2.2.2.2.2.2⟩, fun i hi => ⟨100, by decide, h.2.2.1 i hi⟩, fun b hb => ⟨(h.2.2.2.1 b hb).1, (h.2.2.2.1 b hb).2.2.2.2⟩, fun p hp => ?_, fun j hj => by omega⟩
  have hk := Nat.mod_lt p (show 0 < 3 by decide)
  have q := h.2.2.2.2 p hp
  have r := (h.2.2.2.1 _ hk).2.2.2.2
  exact ⟨q.1.1, q.1.2.2.1, q.1.2.2.2, by rw [q.2.1]; exact r, by rw [q.2.2.1]; exact r⟩
theorem ic_ar (h : IC g 6) (hw : ∀ i, i < 12 → gm 0 i = 100) (h1 : ∀ b, b < 3 → gm 1 b = g 12 b) (h2 : ∀ p, p < 6 → gm 2 p = g 21 p ∧ gm 3 p = g 20 p ∧ gm 4 p = g 22 p) (hz : ∀ k, 5 ≤ k → k < 10 → ∀ i, gm k i = 0) : AR g gm := by
  have e0 := h.2.1.2.2.1
  refine ⟨fun i hi => (hw i hi).trans (h.2.2.1 i hi).symm, h1, fun p hp => ⟨(h2 p hp).1, (h2 p hp).2.1, (h2 p hp).2.2, ?_⟩, fun j hj => by omega, fun j hj => ?_⟩
  · rw [(h.2.2.2.2 p hp).2.2.2]; exact hz 5 (by decide) (by decide) p
  · have q := h.1.2.2.2.2.2.2 j (by omega)
    refine ⟨?_, ?_⟩
    · rw [q.2.2.2]; exact hz 6 (by decide) (by decide) _
    · rw [stt, if_pos q.2.1]; exact hz 7 (by decide) (by decide) _
def g00 : GS := fun k => if k = 2 then (fun j => if j < 12 then 100 else 0) else if k = 3 then upd (upd (fun _ => 0) 0 100) 1 100 else if k = 4 then upd (fun _ => 0) 0 6 else fun _ => 0
theorem ok00 : OKg g00 := by
  have n0 : nb g00 = 0 := by decide
  have n1 : np g00 = 0 := by decide
  have n2 : nj g00 = 0 := by decide
  have n3 : mo g00 = 0 := by decide
  refine ⟨⟨⟨by rw [n0]; decide, by omega⟩, ⟨by rw [n1]; decide, by omega⟩, ⟨by rw [n2]; decide, by omega⟩, ⟨by rw [n3]; decide, by omega⟩⟩, fun i hi => by omega, fun i hi => by omega, fun i hi => by omega, ⟨fun i _ => rfl, fun i _ => rfl, fun i _ => ⟨rfl, rfl, rfl, rfl⟩⟩⟩
theorem ib00 : IB g00 0 :=
  ⟨ok00, ⟨by decide, by decide, by decide, by decide, by decide, by decide, by decide⟩, fun i hi => by simp [g00, hi], fun b hb => absurd hb (Nat.not_lt_zero b)⟩
end TRM
