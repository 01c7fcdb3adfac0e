/-! ===== the world with new things ===== -/
/-- new things lie behind the old heap; chg are old things whose cells were written -/
theorem ww_ext {z : ZE} {w w' : WG} {g g' gm : GS} {o : Nat → Int64} {H H1 : Heap} (h : WW z w g gm o H) (hz : zB z ≤ H.size) (new chg : Nat → Nat → Prop)
    (hold : ∀ k i, lv_e g' k i → ¬ new k i → lv_e g k i ∧ wad w' k i = wad w k i)
    (hct : ∀ k i, lv_e g' k i → ¬ new k i → ¬ chg k i → ct z w' g' gm o k i = ct z w g gm o k i)
    (hkeep : ∀ k i, lv_e g k i → ¬ chg k i → H1[wad w k i]? = H[wad w k i]?)
    (hat : ∀ k i, lv_e g' k i → chg k i ∨ new k i → va_at (zD z) vwCl (wad w' k i, ct z w' g' gm o k i) H1)
    (hfresh : ∀ k i, lv_e g' k i → new k i → H.size ≤ wad w' k i)
    (hinj : ∀ k i k' i', lv_e g' k i → lv_e g' k' i' → new k i → new k' i' → wad w' k i = wad w' k' i' → k = k' ∧ i = i')
    (hL : ∀ i, i < 3 + 2 * nb g' → ll g' i ≤ wcp w' i ∧ (10 ≤ wcp w' i ∧ wcp w' i ≤ 100) ∧ ∀ j, j < ll g' i → wel w' i j = some (wad w' (lk i) (li g' i j))) : WW z w' g' gm o H1 := by
  refine ⟨fun k i hk => ?_, fun k i k' i' h1 h2 h3 => ?_, fun k i h1 => ?_, hL⟩
  · by_cases hn : new k i
    · exact hat k i hk (Or.inr hn)
    · by_cases hc : chg k i
      · exact hat k i hk (Or.inl hc)
      · obtain ⟨a1, a2⟩ := hold k i hk hn
        rw [a2, hct k i hk hn hc]
        exact (h.1 k i a1).kept (hkeep k i a1 hc)
  · by_cases hn : new k i
    · by_cases hn' : new k' i'
      · exact hinj k i k' i' h1 h2 hn hn' h3
      · exfalso
        obtain ⟨a1, a2⟩ := hold k' i' h2 hn'
        have := hfresh k i h1 hn
        have := (h.1 k' i' a1).lt
        rw [h3, a2] at *
        omega
    · obtain ⟨b1, b2⟩ := hold k i h1 hn
      by_cases hn' : new k' i'
      · exfalso
        have := hfresh k' i' h2 hn'
        have := (h.1 k i b1).lt
        rw [← h3, b2] at *
        omega
      · obtain ⟨a1, a2⟩ := hold k' i' h2 hn'
        exact h.2.1 k i k' i' b1 a1 (by rw [← b2, ← a2]; exact h3)
  · by_cases hn : new k i
    · exact Nat.le_trans hz (hfresh k i h1 hn)
    · obtain ⟨b1, b2⟩ := hold k i h1 hn
      rw [b2]
      exact h.2.2.1 k i b1
