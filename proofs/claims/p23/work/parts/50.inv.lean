/-! ===== what holds at the head of each turn ===== -/
def stt (g : GS) (j : Nat) : Int32 := if g 31 j = 0 then 0 else if g 32 j = 0 then 1 else 2
/-- the law's arrays hold what the shop does -/
def AR (g gm : GS) : Prop :=
  (∀ i, i < 12 → gm 0 i = g 2 i) ∧ (∀ b, b < 3 → gm 1 b = g 12 b) ∧
  (∀ p, p < 6 → gm 2 p = g 21 p ∧ gm 3 p = g 20 p ∧ gm 4 p = g 22 p ∧ gm 5 p = g 23 p) ∧
  (∀ j, j < nj g → gm 6 (5 * j) = g 25 j ∧ gm 6 (5 * j + 1) = nI (jp g j) ∧ gm 6 (5 * j + 2) = g 28 j ∧ gm 6 (5 * j + 3) = g 29 j) ∧
  ∀ j, j < 12 → gm 6 (5 * j + 4) = g 33 j ∧ gm 7 j = stt g j
/-- numbers keep within their bounds -/
def BD (g : GS) : Prop :=
  OKg g ∧ (nb g = 3 ∧ np g = 6 ∧ nj g ≤ 12 ∧ g 4 0 = 6 ∧ ∃ a : Nat, a ≤ 100 ∧ g 3 1 = nI a) ∧ (∀ i, i < 12 → mz (g 2 i)) ∧
  (∀ b, b < 3 → g 6 b = nI b ∧ mz (g 12 b)) ∧
  (∀ p, p < 6 → pb g p = p % 3 ∧ g 19 p = 200 ∧ (∃ W : Nat, 1000 ≤ W ∧ W ≤ 5000 ∧ g 20 p = nI W) ∧ mz (g 21 p) ∧ mz (g 22 p)) ∧
  ∀ j, j < nj g → (∃ z : Nat, 10 ≤ z ∧ z ≤ 6000 ∧ g 28 j = nI z) ∧ (∃ t : Nat, t ≤ 60 ∧ g 29 j = nI t) ∧ g 30 j = 0 ∧ (g 31 j = 0 ∨ mz (g 33 j))
section BDA
variable {g gm : GS} {i j p b : Nat}
theorem AR.a0 (h : AR g gm) (hi : i < 12) : gm 0 i = g 2 i := h.1 i hi
theorem AR.a1 (h : AR g gm) (hi : b < 3) : gm 1 b = g 12 b := h.2.1 b hi
theorem AR.a2 (h : AR g gm) (hi : p < 6) : gm 2 p = g 21 p := (h.2.2.1 p hi).1
theorem AR.a3 (h : AR g gm) (hi : p < 6) : gm 3 p = g 20 p := (h.2.2.1 p hi).2.1
theorem AR.a4 (h : AR g gm) (hi : p < 6) : gm 4 p = g 22 p := (h.2.2.1 p hi).2.2.1
theorem AR.a5 (h : AR g gm) (hi : p < 6) : gm 5 p = g 23 p := (h.2.2.1 p hi).2.2.2
theorem AR.j0 (h : AR g gm) (hi : j < nj g) : gm 6 (5 * j) = g 25 j := (h.2.2.2.1 j hi).1
theorem AR.j1 (h : AR g gm) (hi : j < nj g) : gm 6 (5 * j + 1) = nI (jp g j) := (h.2.2.2.1 j hi).2.1
theorem AR.j2 (h : AR g gm) (hi : j < nj g) : gm 6 (5 * j + 2) = g 28 j := (h.2.2.2.1 j hi).2.2.1
theorem AR.j3 (h : AR g gm) (hi : j < nj g) : gm 6 (5 * j + 3) = g 29 j := (h.2.2.2.1 j hi).2.2.2
theorem AR.j4 (h : AR g gm) (hi : j < 12) : gm 6 (5 * j + 4) = g 33 j := (h.2.2.2.2 j hi).1
theorem AR.a7 (h : AR g gm) (hi : j < 12) : gm 7 j = stt g j := (h.2.2.2.2 j hi).2
theorem BD.ok (h : BD g) : OKg g := h.1
theorem BD.eb (h : BD g) : nb g = 3 := h.2.1.1
theorem BD.ep (h : BD g) : np g = 6 := h.2.1.2.1
theorem BD.lj (h : BD g) : nj g ≤ 12 := h.2.1.2.2.1
theorem BD.cl (h : BD g) : g 4 0 = 6 := h.2.1.2.2.2.1
theorem BD.ch (h : BD g) : ∃ a : Nat, a ≤ 100 ∧ g 3 1 = nI a := h.2.1.2.2.2.2
theorem BD.we (h : BD g) (hi : i < 12) : mz (g 2 i) := h.2.2.1 i hi
theorem BD.sp (h : BD g) (hi : b < 3) : g 6 b = nI b := (h.2.2.2.1 b hi).1
theorem BD.bm (h : BD g) (hi : b < 3) : mz (g 12 b) := (h.2.2.2.1 b hi).2
theorem BD.epb (h : BD g) (hi : p < 6) : pb g p = p % 3 := (h.2.2.2.2.1 p hi).1
theorem BD.pl (h : BD g) (hi : p < 6) : g 19 p = 200 := (h.2.2.2.2.1 p hi).2.1
theorem BD.pw (h : BD g) (hi : p < 6) : ∃ W : Nat, 1000 ≤ W ∧ W ≤ 5000 ∧ g 20 p = nI W := (h.2.2.2.2.1 p hi).2.2.1
theorem BD.pm (h : BD g) (hi : p < 6) : mz (g 21 p) := (h.2.2.2.2.1 p hi).2.2.2.1
theorem BD.pd (h : BD g) (hi : p < 6) : mz (g 22 p) := (h.2.2.2.2.1 p hi).2.2.2.2
theorem BD.js (h : BD g) (hi : j < nj g) : ∃ z : Nat, 10 ≤ z ∧ z ≤ 6000 ∧ g 28 j = nI z := (h.2.2.2.2.2 j hi).1
theorem BD.jt (h : BD g) (hi : j < nj g) : ∃ t : Nat, t ≤ 60 ∧ g 29 j = nI t := (h.2.2.2.2.2 j hi).2.1
theorem BD.jn (h : BD g) (hi : j < nj g) : g 30 j = 0 := (h.2.2.2.2.2 j hi).2.2.1
theorem BD.jg (h : BD g) (hi : j < nj g) : g 31 j = 0 ∨ mz (g 33 j) := (h.2.2.2.2.2 j hi).2.2.2
theorem BD.ljp (h : BD g) (hi : j < nj g) : jp g j < 6 := by
  have := h.ok.l26 hi
  rw [h.ep] at this
  exact this
theorem BD.spp (h : BD g) (hi : p < 6) : g 6 (pb g p) = nI (p % 3) := by rw [h.epb hi]; exact h.sp (Nat.mod_lt _ (by decide))
theorem BD.co (h : BD g) (hi : p < 6) : ∃ c : Nat, c ≤ 6 ∧ g 23 p = nI c := h.ok.cts (by rw [h.ep]; exact hi)
theorem BD.now (h : BD g) (hi : p < 6) (m : Int32) : g 20 p + lmv (g 20 p) (nI (p % 3)) (m - g 21 p) = wAt g p m := by
  rw [lmv_eq, wAt, h.spp hi]
theorem BD.wa (h : BD g) (hi : p < 6) {m : Int32} (hm : mz m) : ∃ n : Nat, (280 ≤ n ∧ n ≤ 5720) ∧ wAt g p m = nI n := by
  have hk := Nat.mod_lt p (show 0 < 3 by decide)
  obtain ⟨n, h1, h2⟩ := wid_rng (h.pw hi) (sp := nI (p % 3)) ⟨p % 3, by omega, rfl⟩ hm (h.pm hi)
  exact ⟨n, h1, by rw [wAt, h.spp hi]; exact h2⟩
theorem BD.br (h : BD g) (hi : j < nj g) (hg : ¬ g 31 j = 0) {wd : Int32} (hw : mz wd) : lbr (g 25 j) (nI (jp g j % 3)) (g 28 j) (g 29 j) (g 33 j) (g 20 (jp g j)) (g 21 (jp g j)) wd = wbr g j wd := by
  have hk := Nat.mod_lt (jp g j) (show 0 < 3 by decide)
  obtain ⟨z, h1, h2, h3⟩ := h.js hi
  exact lbr_eq (h.spp (h.ljp hi)) ⟨_, by omega, rfl⟩ ⟨z, h2, h3⟩ (h.jt hi) ((h.jg hi).resolve_left hg) (h.pw (h.ljp hi)) (h.pm (h.ljp hi)) hw
theorem stt_c (h : BD g) (hi : j < nj g) : (stt g j = 0 ∧ g 31 j = 0 ∧ g 32 j = 0) ∨ (stt g j = 1 ∧ g 31 j = 1 ∧ g 32 j = 0) ∨ (stt g j = 2 ∧ g 31 j = 1 ∧ g 32 j = 1) := by
  unfold stt
  rcases h.ok.gl hi with h1 | h1
  · rcases h.ok.br hi with h2 | ⟨h2, h3⟩
    · left; rw [h1]; exact ⟨rfl, rfl, h2⟩
    · rw [h1] at h3; exact absurd h3 (by decide)
  · rcases h.ok.br hi with h2 | ⟨h2, -⟩
    · right; left; rw [h1, h2]; exact ⟨rfl, rfl, rfl⟩
    · right; right; rw [h1, h2]; exact ⟨rfl, rfl, rfl⟩
theorem stt_0 (h : BD g) (hi : nj g ≤ j) : stt g j = 0 := by
  have := (h.ok.2.2.2.2.2.2 j hi).2.1
  unfold stt
  rw [if_pos this]
end BDA
theorem gup_self (g : GS) (k i : Nat) : gup g k i (g k i) = g := by
  funext a b
  unfold gup
  by_cases h : a = k ∧ b = i
  · rw [if_pos h, h.1, h.2]
  · rw [if_neg h]
theorem wi_y {a lo hi : Nat} (h1 : lo ≤ a) (h2 : a ≤ hi) (h3 : hi < 2 ^ 31) : wi (nI a) (nI lo) (nI hi) = true := by
  unfold wi
  rw [decide_eq_false (nI_nlt h1 (by omega)), decide_eq_false (nI_nlt h2 h3)]
  rfl
theorem isP_y {g : GS} (h : BD g) {p : Nat} (hp : p < 6) : isP g (nI p) = true := by
  unfold isP
  rw [h.ep, show nI 6 - 1 = nI 5 by decide]
  exact wi_y (lo := 0) (hi := 5) (Nat.zero_le _) (by omega) (by decide)
theorem isB_y {g : GS} (h : BD g) {p : Nat} (hp : p < 3) : isB g (nI p) = true := by
  unfold isB
  rw [h.eb, show nI 3 - 1 = nI 2 by decide]
  exact wi_y (lo := 0) (hi := 2) (Nat.zero_le _) (by omega) (by decide)
theorem isJ_y {g : GS} (h : BD g) {j : Nat} (hj : j < nj g) : isJ g (nI j) = true := by
  have := h.lj
  unfold isJ
  rw [show (1 : Int32) = nI 1 from rfl, pk_sub (by omega)]
  exact wi_y (Nat.zero_le _) (by omega) (by omega)
/-! the weather -/
section TRA
variable {g gm : GS} {i j p b : Nat} {x : Int32}
theorem bd_w (h : BD g) (hi : i < 12) (hx : mz x) : BD (gup g 2 i x) := by
  obtain ⟨v, hv, rfl⟩ := hx
  have h1 : wi (nI i) 0 11 = true := wi_y (lo := 0) (hi := 11) (Nat.zero_le _) (by omega) (by decide)
  have h2 : wi (nI v) 40 300 = true := wi_y (lo := 40) (hi := 300) hv.1 hv.2 (by decide)
  have ho := ok_weather h.ok (nI i) (nI v)
  rw [sp_weather, if_pos h1, if_pos h2, tNn (show i < 2 ^ 31 by omega)] at ho
  refine ⟨ho, h.2.1, fun k hk => ?_, h.2.2.2⟩
  by_cases e : k = i
  · subst e; rw [gup_s]; exact ⟨v, hv, rfl⟩
  · rw [gup_i e]; exact h.we hk
theorem t_weather (hi : i < 12) (hx : mz x) : sp_weather g (nI i) x = (0, g 2 i, gup g 2 i x) := by
  obtain ⟨v, hv, rfl⟩ := hx
  have h1 : wi (nI i) 0 11 = true := wi_y (lo := 0) (hi := 11) (Nat.zero_le _) (by omega) (by decide)
  have h2 : wi (nI v) 40 300 = true := wi_y (lo := 40) (hi := 300) hv.1 hv.2 (by decide)
  rw [sp_weather, if_pos h1, if_pos h2, tNn (show i < 2 ^ 31 by omega)]
theorem ar_w (h : AR g gm) : AR (gup g 2 i x) (gup gm 0 i x) := by
  refine ⟨fun k hk => ?_, h.2.1, h.2.2.1, h.2.2.2⟩
  by_cases e : k = i
  · subst e; rw [gup_s, gup_s]
  · rw [gup_i e, gup_i e]; exact h.a0 hk
/-! coats -/
theorem t_coat (h : BD g) (hp : p < 6) {c : Nat} (hc : g 23 p = nI c) (hc6 : c < 6) : sp_coat g (nI p) = (0, nI (c + 1), gup g 23 p (nI (c + 1))) := by
  rw [sp_coat, if_pos (isP_y h hp), tNn (show p < 2 ^ 31 by omega), hc, if_neg (fun q => by rw [show (6 : Int32) = nI 6 from rfl, nI_eq (by omega) (by omega)] at q; omega), nI_1]
theorem bd_c (h : BD g) (hp : p < 6) {c : Nat} (hc : g 23 p = nI c) (hc6 : c < 6) : BD (gup g 23 p (nI (c + 1))) := by
  have ho := ok_coat h.ok (nI p)
  rw [t_coat h hp hc hc6] at ho
  exact ⟨ho, h.2⟩
theorem ar_c (h : AR g gm) : AR (gup g 23 p x) (gup gm 5 p x) := by
  refine ⟨h.1, h.2.1, fun k hk => ?_, h.2.2.2⟩
  refine ⟨h.a2 hk, h.a3 hk, h.a4 hk, ?_⟩
  by_cases e : k = p
  · subst e; rw [gup_s, gup_s]
  · rw [gup_i e, gup_i e]; exact h.a5 hk
/-! the chisel -/
theorem t_sharp (g : GS) : sp_sharpen g 1 = (0, g 3 1, gup g 3 1 100) := rfl
theorem bd_s (h : BD g) : BD (gup g 3 1 100) := by
  have ho := ok_sharpen h.ok 1
  rw [t_sharp] at ho
  exact ⟨ho, ⟨h.eb, h.ep, h.lj, h.cl, 100, Nat.le_refl _, rfl⟩, h.2.2⟩
theorem ar_s (h : AR g gm) : AR (gup g 3 1 x) gm := h
end TRA
