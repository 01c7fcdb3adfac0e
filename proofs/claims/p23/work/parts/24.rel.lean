/-! ===== the shop's way and the reference's come to the same ===== -/
/-- earliest places -/
def eP (F : Nat → Bool) (S : Nat → Prop) (best : Int32) : Prop := (best = -1 ∧ ∀ x, S x → F x = false) ∨ ∃ x : Nat, x < 2 ^ 30 ∧ best = nI x ∧ F x = true ∧ ∀ y, S y → F y = true → x ≤ y
theorem m1_ne {x : Nat} (h : x < 2 ^ 30) : ¬ nI x = -1 := fun q => by
  have h1 := congrArg Int32.toInt q
  rw [nI_toInt (by omega)] at h1
  have : (-1 : Int32).toInt = -1 := by decide
  omega
theorem eP_step {g : GS} {t i k : Nat} {l : Int32} {best0 : Int32} {F : Nat → Bool} {S : Nat → Prop} {e : Nat} (he : e < 2 ^ 30) (h1 : spt g t k = nI e) (h2 : icl g i (nI e) l = F e) (h : eP F S (ebN g t i l best0 k)) : eP F (fun x => S x ∨ x = e) (ebN g t i l best0 (k + 1)) := by
  rw [ebN, h1, h2]
  rcases h with ⟨h3, h4⟩ | ⟨x, hx, h3, h4, h5⟩
  · rw [h3, if_pos (Or.inl rfl)]
    cases hF : F e with
    | false =>
      rw [if_neg (by decide)]
      left
      refine ⟨rfl, ?_⟩
      rintro y (hy | rfl)
      · exact h4 y hy
      · exact hF
    | true =>
      rw [if_pos rfl]
      right
      refine ⟨e, he, rfl, hF, ?_⟩
      rintro y (hy | rfl) hf
      · rw [h4 y hy] at hf; cases hf
      · exact Nat.le_refl _
  · rw [h3]
    by_cases hlt : nI x = -1 ∨ nI e < nI x
    · rw [if_pos hlt]
      have hlt2 : e < x := (nI_ltI (by omega) (by omega)).mp (hlt.resolve_left (m1_ne hx))
      cases hF : F e with
      | false =>
        rw [if_neg (by decide)]
        right
        refine ⟨x, hx, rfl, h4, ?_⟩
        rintro y (hy | rfl) hf
        · exact h5 y hy hf
        · rw [hF] at hf; cases hf
      | true =>
        rw [if_pos rfl]
        right
        refine ⟨e, he, rfl, hF, ?_⟩
        rintro y (hy | rfl) hf
        · have := h5 y hy hf; omega
        · exact Nat.le_refl _
    · rw [if_neg hlt]
      right
      refine ⟨x, hx, rfl, h4, ?_⟩
      rintro y (hy | rfl) hf
      · exact h5 y hy hf
      · exact Nat.not_lt.mp fun q => hlt (Or.inr ((nI_ltI (by omega) (by omega)).mpr q))
theorem eP_all {g : GS} {t i : Nat} {l : Int32} {best0 : Int32} {F : Nat → Bool} {S : Nat → Prop} {e : Nat → Nat} (n : Nat) (he : ∀ k, k < n → e k < 2 ^ 30 ∧ spt g t k = nI (e k)) (h2 : ∀ x, x < 2 ^ 30 → icl g i (nI x) l = F x) (h : eP F S best0) : eP F (fun x => S x ∨ ∃ k, k < n ∧ x = e k) (ebN g t i l best0 n) := by
  induction n with
  | zero =>
    rw [ebN]
    rcases h with ⟨h3, h4⟩ | ⟨x, hx, h3, h4, h5⟩
    · left; refine ⟨h3, ?_⟩
      rintro y (hy | ⟨k, hk, _⟩)
      · exact h4 y hy
      · omega
    · right; refine ⟨x, hx, h3, h4, ?_⟩
      rintro y (hy | ⟨k, hk, _⟩) hf
      · exact h5 y hy hf
      · omega
  | succ n ih =>
    have q := eP_step (k := n) (e := e n) (he n (by omega)).1 (he n (by omega)).2 (h2 _ (he n (by omega)).1) (ih fun k hk => he k (by omega))
    rcases q with ⟨h3, h4⟩ | ⟨x, hx, h3, h4, h5⟩
    · left; refine ⟨h3, ?_⟩
      rintro y (hy | ⟨k, hk, hy⟩)
      · exact h4 y (Or.inl (Or.inl hy))
      · by_cases e9 : k = n
        · subst e9; exact h4 y (Or.inr hy)
        · exact h4 y (Or.inl (Or.inr ⟨k, by omega, hy⟩))
    · right; refine ⟨x, hx, h3, h4, ?_⟩
      rintro y (hy | ⟨k, hk, hy⟩) hf
      · exact h5 y (Or.inl (Or.inl hy)) hf
      · by_cases e9 : k = n
        · subst e9; exact h5 y (Or.inr hy) hf
        · exact h5 y (Or.inl (Or.inr ⟨k, by omega, hy⟩)) hf
theorem cfs_is (f : Nat → Bool) : ∀ (n i : Nat), (cfs f n i = -1 ∧ ∀ x, i ≤ x → x < i + n → f x = false) ∨ ∃ x, i ≤ x ∧ x < i + n ∧ cfs f n i = nI x ∧ f x = true ∧ ∀ y, i ≤ y → y < x → f y = false
  | 0, i => Or.inl ⟨rfl, fun x _ _ => by omega⟩
  | n + 1, i => by
    unfold cfs
    by_cases h : f i = true
    · rw [if_pos h]
      exact Or.inr ⟨i, Nat.le_refl _, by omega, rfl, h, fun y _ _ => by omega⟩
    · rw [if_neg h]
      have hf : f i = false := by simpa using h
      rcases cfs_is f n (i + 1) with ⟨h1, h2⟩ | ⟨x, h1, h2, h3, h4, h5⟩
      · refine Or.inl ⟨h1, fun x q1 q2 => ?_⟩
        by_cases e : x = i
        · rw [e]; exact hf
        · exact h2 x (by omega) (by omega)
      · refine Or.inr ⟨x, by omega, by omega, h3, h4, fun y q1 q2 => ?_⟩
        by_cases e : y = i
        · rw [e]; exact hf
        · exact h5 y (by omega) (by omega)
/-- the shop's search finds what the reference's finds -/
theorem cf_eq {g : GS} (hO : OKg g) {b N L : Nat} (hb : b < nb g) (hN : g 10 b = nI N) (hN2 : N ≤ 30000) (hL1 : 10 ≤ L) (hL2 : L ≤ 30000) :
    ebN g (4 + 2 * b) b (nI L) (ebN g (3 + 2 * b) b (nI L) (if icl g b 0 (nI L) = true then 0 else -1) (ll g (3 + 2 * b))) (ll g (4 + 2 * b)) = cfs (clr g b L) (N + 1 - L) 0 := by
  have h20 := hO.l5
  have h40 := hO.l16
  have hk4 := hO.l13 hb
  obtain ⟨F, hF⟩ : ∃ F : Nat → Bool, F = fun x => decide (x + L ≤ N) && clr g b L x := ⟨_, rfl⟩
  have hicl : ∀ x, x < 2 ^ 30 → icl g b (nI x) (nI L) = F x := by
    intro x hx
    rw [hF]
    unfold icl hrm clr
    rw [hN, nI_add]
    have e1 : (!decide (nI N < nI (x + L))) = decide (x + L ≤ N) := by
      by_cases q : x + L ≤ N
      · rw [decide_eq_true q, decide_eq_false (fun z => by rw [nI_ltI (by omega) (by omega)] at z; omega)]; rfl
      · rw [decide_eq_false q, decide_eq_true ((nI_ltI (by omega) (by omega)).mpr (by omega))]; rfl
    rw [e1, Bool.and_assoc]
  -- ends of spans
  have hke : ∀ k, k < kn g b → ∃ f t : Nat, f < t ∧ t ≤ 30000 ∧ g 14 (4 * b + k) = nI f ∧ g 15 (4 * b + k) = nI t := fun k hk => hO.kts hb hk
  have hks : ∃ e : Nat → Nat, ∀ k, k < ll g (3 + 2 * b) → e k < 2 ^ 30 ∧ spt g (3 + 2 * b) k = nI (e k) := by
    refine ⟨fun k => (spt g (3 + 2 * b) k).toNatClampNeg, fun k hk => ?_⟩
    rw [ll_kn] at hk
    obtain ⟨f, t, h1, h2, h3, h4⟩ := hke k hk
    have e5 : spt g (3 + 2 * b) k = nI t := by unfold spt; rw [if_pos (by omega), show (3 + 2 * b - 3) / 2 = b by omega]; exact h4
    have e6 : (nI t).toNatClampNeg = t := nI_clamp (by omega)
    show (spt g (3 + 2 * b) k).toNatClampNeg < 2 ^ 30 ∧ _ = nI (spt g (3 + 2 * b) k).toNatClampNeg
    rw [e5, e6]
    exact ⟨by omega, rfl⟩
  have hllt : ll g (4 + 2 * b) = (tk g b).length := by
    unfold ll; rw [if_neg (by omega), if_neg (by omega), if_neg (by omega), if_neg (by omega), show (4 + 2 * b - 4) / 2 = b by omega]
  have hpe : ∀ q, q < np g → ∃ f m : Nat, f ≤ 30000 ∧ m ≤ 30000 ∧ g 18 q = nI f ∧ g 19 q = nI m := fun q hq => by
    obtain ⟨f, m, h1, h2, h3, h4, h5⟩ := hO.pl hq
    exact ⟨f, m, h1, h3, h4, h5⟩
  have hte : ∀ k, spt g (4 + 2 * b) k = g 18 ((tk g b).getD k 0) + g 19 ((tk g b).getD k 0) + 30 := fun k => by
    unfold spt; rw [if_neg (by omega), show (4 + 2 * b - 4) / 2 = b by omega]
  have hts : ∀ k, k < ll g (4 + 2 * b) → (spt g (4 + 2 * b) k).toNatClampNeg < 2 ^ 30 ∧ spt g (4 + 2 * b) k = nI (spt g (4 + 2 * b) k).toNatClampNeg := by
    intro k hk
    rw [hllt] at hk
    obtain ⟨f, m, h1, h2, h3, h4⟩ := hpe _ (tk_lt hk)
    have e5 : spt g (4 + 2 * b) k = nI (f + m + 30) := by rw [hte, h3, h4, nI_add, show (30 : Int32) = nI 30 from rfl, nI_add]
    rw [e5, nI_clamp (by omega)]
    exact ⟨by omega, rfl⟩
  obtain ⟨ek, hek⟩ := hks
  have q0 : eP F (fun x => x = 0) (if icl g b 0 (nI L) = true then 0 else -1) := by
    have e : icl g b 0 (nI L) = F 0 := hicl 0 (by decide)
    rw [e]
    cases h0 : F 0 with
    | false => rw [if_neg (by decide)]; exact Or.inl ⟨rfl, fun x hx => by rw [hx]; exact h0⟩
    | true => rw [if_pos rfl]; exact Or.inr ⟨0, by decide, rfl, h0, fun y hy _ => by omega⟩
  have q1 := eP_all (t := 3 + 2 * b) _ hek hicl q0
  have q2 := eP_all (t := 4 + 2 * b) (e := fun k => (spt g (4 + 2 * b) k).toNatClampNeg) _ hts hicl q1
  rcases cfs_is (clr g b L) (N + 1 - L) 0 with ⟨h1, h2⟩ | ⟨x, h1, h2, h3, h4, h5⟩
  · rw [h1]
    rcases q2 with ⟨h3, -⟩ | ⟨x, hx, h3, h4, -⟩
    · exact h3
    · exfalso
      rw [hF] at h4
      simp only [Bool.and_eq_true, decide_eq_true_eq] at h4
      rw [h2 x (by omega) (by omega)] at h4
      exact absurd h4.2 (by decide)
  · rw [h3]
    have hFx : F x = true := by
      rw [hF]; simp only [Bool.and_eq_true, decide_eq_true_eq]; exact ⟨by omega, h4⟩
    have hFm : ∀ y, F y = true → x ≤ y := by
      intro y hy
      rw [hF] at hy
      simp only [Bool.and_eq_true, decide_eq_true_eq] at hy
      exact Nat.not_lt.mp fun q => by
        rw [h5 y (by omega) q] at hy
        exact absurd hy.2 (by decide)
    -- x is the start, or an end
    have hS : (x = 0 ∨ ∃ k, k < ll g (3 + 2 * b) ∧ x = ek k) ∨ ∃ k, k < ll g (4 + 2 * b) ∧ x = (spt g (4 + 2 * b) k).toNatClampNeg := by
      by_cases hx0 : x = 0
      · exact Or.inl (Or.inl hx0)
      · have hp := h5 (x - 1) (by omega) (by omega)
        have hc := h4
        unfold clr at hp hc
        simp only [Bool.and_eq_true, Bool.not_eq_true', Bool.and_eq_false_iff, Bool.not_eq_false'] at hp hc
        rcases hp with hp | hp
        · obtain ⟨q, hq, hq2⟩ := anyN_iff.mp hp
          simp only [tkn, Bool.and_eq_true, Bool.not_eq_true', decide_eq_true_eq, decide_eq_false_iff_not] at hq2
          obtain ⟨f, m, f1, f2, f3, f4⟩ := hpe q hq
          have hno : tkn g b (nI x) (nI (x + L)) q = false := by
            cases hh : tkn g b (nI x) (nI (x + L)) q with
            | false => rfl
            | true => rw [anyN_iff.mpr ⟨q, hq, hh⟩] at hc; exact absurd hc.1 (by decide)
          simp only [tkn, hq2.1, decide_true, Bool.true_and, Bool.and_eq_false_iff, Bool.not_eq_false', decide_eq_true_eq] at hno
          have r1 : ¬ f + m + 30 ≤ x - 1 := fun z => hq2.2.1 (by rw [f3, f4, nI_add, show (30 : Int32) = nI 30 from rfl, nI_add, nI_leI (by omega) (by omega)]; exact z)
          have r2 : ¬ (nI (x - 1 + L) ≤ g 18 q - 30) := hq2.2.2
          have r3 : ¬ (nI (x + L) ≤ g 18 q - 30) := by
            intro z
            apply r2
            rw [Int32.le_iff_toInt_le] at z ⊢
            rw [nI_toInt (by omega)] at z ⊢
            omega
          have r4 : f + m + 30 ≤ x := by
            rcases hno with z | z
            · rw [f3, f4, nI_add, show (30 : Int32) = nI 30 from rfl, nI_add, nI_leI (by omega) (by omega)] at z; exact z
            · exact absurd z r3
          have hm : q ∈ tk g b := List.mem_filter.mpr ⟨List.mem_range.mpr hq, by simpa using hq2.1⟩
          obtain ⟨k, hk, hke⟩ := List.getElem_of_mem hm
          refine Or.inr ⟨k, by rw [hllt]; exact hk, ?_⟩
          have eg : (tk g b).getD k 0 = q := by rw [List.getD_eq_getElem?_getD, List.getElem?_eq_getElem hk]; exact hke
          rw [hte, eg, f3, f4, nI_add, show (30 : Int32) = nI 30 from rfl, nI_add, nI_clamp (by omega)]
          omega
        · obtain ⟨k, hk, hk2⟩ := anyN_iff.mp hp
          simp only [knt, Bool.and_eq_true, Bool.not_eq_true', decide_eq_false_iff_not] at hk2
          obtain ⟨f, t, f1, f2, f3, f4⟩ := hke k hk
          have hno : knt g b (nI x) (nI (x + L)) k = false := by
            cases hh : knt g b (nI x) (nI (x + L)) k with
            | false => rfl
            | true => rw [anyN_iff.mpr ⟨k, hk, hh⟩] at hc; exact absurd hc.2 (by decide)
          simp only [knt, Bool.and_eq_false_iff, Bool.not_eq_false', decide_eq_true_eq] at hno
          rw [f3, f4] at hk2 hno
          rw [nI_leI (by omega) (by omega), nI_leI (by omega) (by omega)] at hk2 hno
          have e7 := (hek k (by rw [ll_kn]; exact hk)).2
          have e8 : spt g (3 + 2 * b) k = nI t := by unfold spt; rw [if_pos (by omega), show (3 + 2 * b - 3) / 2 = b by omega]; exact f4
          rw [e8, nI_eq (by omega) (by have := (hek k (by rw [ll_kn]; exact hk)).1; omega)] at e7
          exact Or.inl (Or.inr ⟨k, by rw [ll_kn]; exact hk, by omega⟩)
    rcases q2 with ⟨h6, h7⟩ | ⟨y, hy, h6, h7, h8⟩
    · rw [h7 x hS] at hFx; cases hFx
    · rw [h6]
      have a1 := h8 x hS hFx
      have a2 := hFm y h7
      rw [show y = x by omega]
/-! months of breaking -/
theorem bkk_0s {g : GS} {j k : Nat} (h : ¬ bkk g j k = 0) : ∀ m, bkk g j (k + m) = bkk g j k
  | 0 => rfl
  | m + 1 => by
    rw [show k + (m + 1) = (k + m) + 1 by omega, bkk, bkk_0s h m, if_neg (fun q => h q.2.1)]
theorem mbk_eq {g : GS} {j : Nat} (hh : hld g j = true) : ∀ (n i : Nat), bkk g j i = 0 → mbk g j n i = if 0 < bkk g j (i + n) then nI (bkk g j (i + n)) else -1
  | 0, i, h => by rw [mbk, Nat.add_zero, h]; rfl
  | n + 1, i, h => by
    rw [mbk]
    by_cases hw : wbr g j (wdk g (jp g j) (i + 1)) = true
    · rw [if_pos hw]
      have e : bkk g j (i + 1) = i + 1 := by rw [bkk, if_pos ⟨hh, h, hw⟩]
      have e2 := bkk_0s (g := g) (j := j) (k := i + 1) (by omega) n
      rw [show i + (n + 1) = i + 1 + n by omega, e2, e, if_pos (by omega)]
    · rw [if_neg hw]
      have e : bkk g j (i + 1) = 0 := by rw [bkk, if_neg (fun q => hw q.2.2)]; exact h
      rw [mbk_eq hh n (i + 1) e, show i + 1 + n = i + (n + 1) by omega]
theorem bkk_nh {g : GS} {j : Nat} (hh : ¬ hld g j = true) : ∀ k, bkk g j k = 0
  | 0 => rfl
  | k + 1 => by rw [bkk, if_neg (fun q => hh q.1)]; exact bkk_nh hh k
theorem thr_y {g : GS} {j m : Nat} (hh : hld g j = true) (hm : m < 1000) (h : ¬ mbk g j m 0 = -1) : 0 < bkk g j m := by
  rw [mbk_eq hh m 0 rfl, Nat.zero_add] at h
  by_cases q : 0 < bkk g j m
  · exact q
  · rw [if_neg q] at h; exact absurd rfl h
theorem thr_0 {g : GS} {j m : Nat} (hm : m < 1000) (h : hld g j = false ∨ mbk g j m 0 = -1) : ¬ 0 < bkk g j m := by
  rcases h with h | h
  · rw [bkk_nh (by rw [h]; decide)]; omega
  · by_cases hh : hld g j = true
    · rw [mbk_eq hh m 0 rfl, Nat.zero_add] at h
      intro q
      rw [if_pos q] at h
      have := bkk_le g j m
      exact m1_ne (by omega) h
    · rw [bkk_nh hh]; omega
/-! gluing -/
theorem shl1 : ∀ n, n < 31 → (1 : Int32) <<< (nI n &&& 31) = nI (2 ^ n) := by decide +kernel
theorem set_lt {k n : Nat} (hk : k < 2 ^ 31) (hn : n ≤ 30) : ((nI k >>> (nI n &&& 31)) = 0) ↔ k < 2 ^ n := by
  have e : (nI k >>> (nI n &&& 31)).toInt = (k : Int) / 2 ^ n := by
    show ((nI k >>> (nI n &&& 31)).toBitVec).toInt = _
    rw [Int32.toBitVec_shiftRight]
    show ((nI k).toBitVec.sshiftRight ((nI n &&& 31).toBitVec.smod 32).toNat).toInt = _
    rw [s_l n (by omega), BitVec.toInt_sshiftRight, Int.shiftRight_eq_div_pow]
    have : (nI k).toBitVec.toInt = k := nI_toInt hk
    rw [this]
    exact congrArg (fun q : Int => (k : Int) / q) (by simp)
  constructor
  · intro h
    rw [h] at e
    have h0 : (0 : Int32).toInt = 0 := by decide
    rw [h0] at e
    have e2 : ((k / 2 ^ n : Nat) : Int) = 0 := by rw [Int.natCast_ediv]; simpa using e.symm
    have e3 : k / 2 ^ n = 0 := by exact_mod_cast e2
    exact (Nat.div_eq_zero_iff.mp e3).resolve_left (Nat.ne_of_gt (Nat.two_pow_pos n))
  · intro h
    apply Int32.toInt_inj.mp
    rw [e]
    have h0 : (0 : Int32).toInt = 0 := by decide
    rw [h0]
    have e3 : k / 2 ^ n = 0 := Nat.div_eq_of_lt h
    have : ((k / 2 ^ n : Nat) : Int) = 0 := by rw [e3]; rfl
    rw [Int.natCast_ediv] at this
    simpa using this
theorem my_at {g : GS} {set dn : Int32} : ∀ {n : Nat}, myN g set dn n = true → ∀ i, i < n → btS set i = true → g 31 i = 0
  | 0, _, i, hi, _ => by omega
  | n + 1, h, i, hi, hb => by
    unfold myN at h
    by_cases e : i = n
    · subst e
      rw [if_pos hb] at h
      simp only [Bool.and_eq_true, decide_eq_true_eq] at h
      exact h.2.1
    · by_cases hb2 : btS set n = true
      · rw [if_pos hb2] at h
        simp only [Bool.and_eq_true] at h
        exact my_at h.1 i (by omega) hb
      · rw [if_neg hb2] at h
        exact my_at h i (by omega) hb
theorem gst_h {g : GS} {set : Int32} {i : Nat} (h : btS set i = true) (h32 : g 32 i = 0) : gup (gup (gup (gst g set i) 31 i 1) 32 i 0) 33 i (g 22 (jp g i)) = gst g set (i + 1) := by
  rw [← gst_s g set i h]
  funext a b
  by_cases e : b = i
  · subst e
    by_cases e1 : a = 32
    · subst e1; simp [gup, gst, h32]
    · simp [gup, e1]
  · simp [gup, e]
