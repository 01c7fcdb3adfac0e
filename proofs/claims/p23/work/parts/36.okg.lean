/-! ===== each call keeps what holds of every state ===== -/
theorem ok_weather {g : GS} (h : OKg g) (a b : Int32) : OKg (sp_weather g a b).2.2 := by
  unfold sp_weather
  split
  · split
    · exact h
    · exact h
  · exact h
theorem ok_sharpen {g : GS} (h : OKg g) (a : Int32) : OKg (sp_sharpen g a).2.2 := by
  unfold sp_sharpen
  split
  · exact h
  · exact h
theorem ok_clamps {g : GS} (h : OKg g) (a : Int32) : OKg (sp_clamps g a).2.2 := by
  unfold sp_clamps
  split
  · exact h
  · exact h
theorem ok_match {g : GS} (h : OKg g) (a b : Int32) : OKg (sp_match g a b).2.2 := by
  unfold sp_match
  split
  · split
    · exact h
    · exact h
  · exact h
theorem ok_ofBoard {g : GS} (h : OKg g) (a b : Int32) : OKg (sp_ofBoard g a b).2.2 := by
  unfold sp_ofBoard
  split
  · split
    · exact h
    · exact h
  · exact h
theorem ok_ofPart {g : GS} (h : OKg g) (a b : Int32) : OKg (sp_ofPart g a b).2.2 := by
  unfold sp_ofPart
  split
  · split
    · exact h
    · exact h
  · exact h
theorem ok_ofJoint {g : GS} (h : OKg g) (a b : Int32) : OKg (sp_ofJoint g a b).2.2 := by
  unfold sp_ofJoint
  split
  · split
    · exact h
    · exact h
  · exact h
theorem ok_clearFrom {g : GS} (h : OKg g) (a b : Int32) : OKg (sp_clearFrom g a b).2.2 := by
  unfold sp_clearFrom
  split
  · split
    · exact h
    · exact h
  · exact h
theorem ok_through {g : GS} (h : OKg g) (a : Int32) : OKg (sp_through g a).2.2 := by
  unfold sp_through
  split
  · exact h
  · exact h
theorem ok_breaksIn {g : GS} (h : OKg g) (a b : Int32) : OKg (sp_breaksIn g a b).2.2 := by
  unfold sp_breaksIn
  split
  · split
    · split
      · exact h
      · exact h
    · exact h
  · exact h
theorem ok_need {g : GS} (h : OKg g) (a b : Int32) : OKg (sp_need g a b).2.2 := by
  unfold sp_need
  have h30 := h.l24
  split
  · rename_i hj
    split
    · split
      · obtain ⟨i, hi, rfl⟩ := wi_lt (by omega) hj.1
        rw [tNn (n := i) (by omega)]
        refine ⟨h.1, h.2.1, h.2.2.1, h.2.2.2.1, h.2.2.2.2.1, h.2.2.2.2.2.1, fun k hk => ?_⟩
        have q := h.2.2.2.2.2.2 k hk
        have hk2 : nj g ≤ k := hk
        refine ⟨?_, q.2⟩
        have e : ∀ v, gup g 30 i v 30 k = g 30 k := fun v => gup_i (by omega)
        show gup g 30 i _ 30 k = 0
        rw [e]
        exact q.1
      · exact h
    · exact h
  · exact h
theorem ok_coat {g : GS} (h : OKg g) (a : Int32) : OKg (sp_coat g a).2.2 := by
  unfold sp_coat
  have h40 := h.l16
  split
  · rename_i hj
    split
    · exact h
    · rename_i h6
      obtain ⟨i, hi, rfl⟩ := wi_lt (by omega) hj
      rw [tNn (n := i) (by omega)] at h6 ⊢
      obtain ⟨c, hc, ec⟩ := h.cts hi
      have hc6 : c ≠ 6 := fun e => h6 (by rw [ec, e]; rfl)
      refine ⟨h.1, h.2.1, fun k hk => ?_, h.2.2.2.1, h.2.2.2.2.1, fun k hk => ?_, h.2.2.2.2.2.2⟩
      · have q := h.2.2.1 k hk
        refine ⟨q.1, ?_, q.2.2⟩
        by_cases e : k = i
        · subst e
          refine ⟨c + 1, by omega, ?_⟩
          show gup g 23 k _ 23 k = _
          rw [gup_s, ec, show (1 : Int32) = nI 1 from rfl, nI_add]
        · obtain ⟨c2, hc2, ec2⟩ := q.2.1
          refine ⟨c2, hc2, ?_⟩
          show gup g 23 i _ 23 k = _
          rw [gup_i e]
          exact ec2
      · have hk2 : np g ≤ k := hk
        show gup g 23 i _ 23 k = _
        rw [gup_i (by omega)]
        exact h.2.2.2.2.2.1 k hk
  · exact h
theorem ok_pass {g : GS} (h : OKg g) (a : Int32) : OKg (sp_pass g a).2.2 := by
  unfold sp_pass
  split
  · rename_i hj
    split
    · exact h
    · rename_i h6
      exact (OKg_pas h (tN a) (by omega)).1
  · exact h
theorem ok_repair {g : GS} (h : OKg g) (a : Int32) : OKg (sp_repair g a).2.2 := by
  unfold sp_repair
  have h30 := h.l24
  split
  · rename_i hj
    split
    · exact h
    · obtain ⟨i, hi, rfl⟩ := wi_lt (by omega) hj
      rw [tNn (n := i) (by omega)]
      exact (h.rep hi (g 22 (jp g i)))
  · exact h
theorem ok_glue {g : GS} (h : OKg g) (a : Int32) : OKg (sp_glue g a).2.2 := by
  unfold sp_glue
  split
  · exact h
  · split
    · split
      · rename_i hmy
        split
        · exact h
        · split
          · show OKg (gst g a (nj g))
            refine ⟨h.1, h.2.1, h.2.2.1, fun k hk => ?_, h.2.2.2.2.1, h.2.2.2.2.2.1, fun k hk => ?_⟩
            · have hk2 : k < nj g := hk
              have q := h.2.2.2.1 k hk2
              refine ⟨q.1, q.2.1, q.2.2.1, ?_, ?_⟩
              · by_cases e : btS a k = true
                · right; simp [gst, hk2, e]
                · have e2 : gst g a (nj g) 31 k = g 31 k := by simp [gst, e]
                  rw [e2]; exact q.2.2.2.1
              · have e3 : gst g a (nj g) 32 k = g 32 k := by simp [gst]
                rw [e3]
                by_cases e : btS a k = true
                · have h31 := my_at hmy k hk2 e
                  rcases q.2.2.2.2 with z | z
                  · exact Or.inl z
                  · exact absurd (h31.symm.trans z.2) (by decide)
                · have e2 : gst g a (nj g) 31 k = g 31 k := by simp [gst, e]
                  rw [e2]; exact q.2.2.2.2
            · have hk2 : nj g ≤ k := hk
              have q := h.2.2.2.2.2.2 k hk2
              have e1 : gst g a (nj g) 31 k = g 31 k := by simp [gst, show ¬ k < nj g by omega]
              have e2 : gst g a (nj g) 33 k = g 33 k := by simp [gst, show ¬ k < nj g by omega]
              exact ⟨q.1, e1.trans q.2.1, q.2.2.1, e2.trans q.2.2.2⟩
          · exact h
      · exact h
    · exact h
theorem ok_joint {g : GS} (h : OKg g) (kd p q sz tg : Int32) : OKg (sp_joint g kd p q sz tg).2.2 := by
  unfold sp_joint
  have h30 := h.l24
  have h40 := h.l16
  split
  · rename_i hj
    split
    · rename_i hk
      split
      · exact h
      · rename_i hn30
        split
        · split
          · obtain ⟨i, hi, rfl⟩ := wi_lt (by omega) hj.1
            obtain ⟨i2, hi2, rfl⟩ := wi_lt (by omega) hj.2
            obtain ⟨k, hk3, rfl⟩ := wi_nat (n := 2) (by decide) hk.1.1
            rw [tNn (n := i) (by omega), tNn (n := i2) (by omega)]
            show OKg (jst g (nI k) i i2 sz tg)
            have en : nj (jst g (nI k) i i2 sz tg) = nj g + 1 := by
              show (jst g (nI k) i i2 sz tg 24 0).toNatClampNeg = _
              rw [show jst g (nI k) i i2 sz tg 24 0 = nI (nj g + 1) from gup_s]
              exact nI_clamp (by omega)
            have e31 : ∀ x, jst g (nI k) i i2 sz tg 31 x = g 31 x := fun _ => rfl
            refine ⟨⟨h.1.1, h.1.2.1, ⟨?_, ?_⟩, h.1.2.2.2⟩, h.2.1, h.2.2.1, fun x hx => ?_, h.2.2.2.2.1, h.2.2.2.2.2.1, fun x hx => ?_⟩
            · rw [en]; exact gup_s
            · rw [en]; omega
            · rw [en] at hx
              by_cases e : x = nj g
              · subst e
                have z0 := h.2.2.2.2.2.2 (nj g) (Nat.le_refl _)
                have a26 : jst g (nI k) i i2 sz tg 26 (nj g) = nI i := by simp [jst, gup]
                have a27 : jst g (nI k) i i2 sz tg 27 (nj g) = nI i2 := by simp [jst, gup]
                have a25 : jst g (nI k) i i2 sz tg 25 (nj g) = nI k := by simp [jst, gup]
                have bp : jp (jst g (nI k) i i2 sz tg) (nj g) = i := by
                  show (jst g (nI k) i i2 sz tg 26 (nj g)).toNatClampNeg = i
                  rw [a26]; exact nI_clamp (by omega)
                have bo : jo (jst g (nI k) i i2 sz tg) (nj g) = i2 := by
                  show (jst g (nI k) i i2 sz tg 27 (nj g)).toNatClampNeg = i2
                  rw [a27]; exact nI_clamp (by omega)
                refine ⟨⟨by rw [bp]; exact a26, by rw [bp]; exact hi⟩, ⟨by rw [bo]; exact a27, by rw [bo]; exact hi2⟩, ⟨k, by omega, a25⟩, Or.inl z0.2.1, Or.inl z0.2.2.1⟩
              · have z := h.2.2.2.1 x (by omega)
                have a26 : jst g (nI k) i i2 sz tg 26 x = g 26 x := by simp [jst, gup, e]
                have a27 : jst g (nI k) i i2 sz tg 27 x = g 27 x := by simp [jst, gup, e]
                have a25 : jst g (nI k) i i2 sz tg 25 x = g 25 x := by simp [jst, gup, e]
                have bp : jp (jst g (nI k) i i2 sz tg) x = jp g x := by
                  show (jst g (nI k) i i2 sz tg 26 x).toNatClampNeg = _
                  rw [a26]; rfl
                have bo : jo (jst g (nI k) i i2 sz tg) x = jo g x := by
                  show (jst g (nI k) i i2 sz tg 27 x).toNatClampNeg = _
                  rw [a27]; rfl
                refine ⟨⟨by rw [bp, a26]; exact z.1.1, by rw [bp]; exact z.1.2⟩, ⟨by rw [bo, a27]; exact z.2.1.1, by rw [bo]; exact z.2.1.2⟩, ?_, z.2.2.2⟩
                rw [a25]; exact z.2.2.1
            · rw [en] at hx
              exact h.2.2.2.2.2.2 x (by omega)
          · exact h
        · exact h
    · exact h
  · exact h
theorem ok_board {g : GS} (h : OKg g) (s f p w l m : Int32) : OKg (sp_board g s f p w l m).2.2 := by
  unfold sp_board
  have h20 := h.l5
  split
  · rename_i hk
    split
    · exact h
    · rename_i hn
      split
      · exact h
      · obtain ⟨k, hk3, rfl⟩ := wi_nat (n := 3) (by decide) hk.1.1
        obtain ⟨L, hL1, hL2, rfl⟩ := wi_rng (a := 100) (b := 30000) (by decide) (by decide) hk.2.1
        show OKg (bst g (nI k) f p w (nI L) m)
        have en : nb (bst g (nI k) f p w (nI L) m) = nb g + 1 := by
          show (bst g (nI k) f p w (nI L) m 5 0).toNatClampNeg = _
          rw [show bst g (nI k) f p w (nI L) m 5 0 = nI (nb g + 1) from gup_s]
          exact nI_clamp (by omega)
        refine ⟨⟨⟨?_, ?_⟩, h.1.2⟩, fun x hx => ?_, fun x hx => ?_, h.2.2.2.1, fun x hx => ?_, h.2.2.2.2.2⟩
        · rw [en]; exact gup_s
        · rw [en]; omega
        · rw [en] at hx
          by_cases e : x = nb g
          · subst e
            have z0 := h.2.2.2.2.1 (nb g) (Nat.le_refl _)
            have kz : kn (bst g (nI k) f p w (nI L) m) (nb g) = 0 := by
              show (g 13 (nb g)).toNatClampNeg = 0
              rw [z0]; decide
            refine ⟨⟨k, by omega, by simp [bst, gup]⟩, ⟨?_, by rw [kz]; omega⟩, ⟨L, hL1, hL2, by simp [bst, gup]⟩, fun k2 hk2 => ?_⟩
            · rw [kz]; exact z0
            · rw [kz] at hk2; omega
          · have z := h.2.1 x (by omega)
            refine ⟨?_, z.2.1, ?_, z.2.2.2⟩
            · have a : bst g (nI k) f p w (nI L) m 6 x = g 6 x := by simp [bst, gup, e]
              rw [a]; exact z.1
            · have a : bst g (nI k) f p w (nI L) m 10 x = g 10 x := by simp [bst, gup, e]
              rw [a]; exact z.2.2.1
        · have z := h.2.2.1 x hx
          refine ⟨⟨z.1.1, ?_⟩, z.2⟩
          rw [en]
          exact Nat.lt_succ_of_lt z.1.2
        · rw [en] at hx
          exact h.2.2.2.2.1 x (by omega)
  · exact h
theorem ok_cut {g : GS} (h : OKg g) (b f l w hid : Int32) : OKg (sp_cut g b f l w hid).2.2 := by
  unfold sp_cut
  have h20 := h.l5
  have h40 := h.l16
  split
  · rename_i hj
    split
    · rename_i hk
      split
      · rename_i hc
        obtain ⟨i, hi, rfl⟩ := wi_lt (by omega) hj
        obtain ⟨F, hF, rfl⟩ := wi_nat (n := 30000) (by decide) hk.1
        obtain ⟨L, hL1, hL2, rfl⟩ := wi_rng (a := 10) (b := 30000) (by decide) (by decide) hk.2.1
        rw [tNn (n := i) (by omega)] at hc ⊢
        have hn40 : np g < 40 := by
          unfold cutok at hc
          simp only [Bool.and_eq_true, decide_eq_true_eq] at hc
          exact hc.1.1
        show OKg (cutst g i (nI F) (nI L) w)
        have en : np (cutst g i (nI F) (nI L) w) = np g + 1 := by
          show (cutst g i (nI F) (nI L) w 16 0).toNatClampNeg = _
          rw [show cutst g i (nI F) (nI L) w 16 0 = nI (np g + 1) from gup_s]
          exact nI_clamp (by omega)
        refine ⟨⟨h.1.1, ⟨?_, ?_⟩, h.1.2.2⟩, h.2.1, fun x hx => ?_, fun x hx => ?_, h.2.2.2.2.1, fun x hx => ?_, h.2.2.2.2.2.2⟩
        · rw [en]; exact gup_s
        · rw [en]; omega
        · rw [en] at hx
          by_cases e : x = np g
          · subst e
            have a17 : cutst g i (nI F) (nI L) w 17 (np g) = nI i := by simp [cutst, gup]
            have bp : pb (cutst g i (nI F) (nI L) w) (np g) = i := by
              show (cutst g i (nI F) (nI L) w 17 (np g)).toNatClampNeg = i
              rw [a17]; exact nI_clamp (by omega)
            refine ⟨⟨by rw [bp]; exact a17, by rw [bp]; exact hi⟩, ⟨0, by omega, h.2.2.2.2.2.1 (np g) (Nat.le_refl _)⟩, F, L, hF, hL1, hL2, by simp [cutst, gup], by simp [cutst, gup]⟩
          · have z := h.2.2.1 x (by omega)
            have a17 : cutst g i (nI F) (nI L) w 17 x = g 17 x := by simp [cutst, gup, e]
            have bp : pb (cutst g i (nI F) (nI L) w) x = pb g x := by
              show (cutst g i (nI F) (nI L) w 17 x).toNatClampNeg = _
              rw [a17]; rfl
            have a18 : cutst g i (nI F) (nI L) w 18 x = g 18 x := by simp [cutst, gup, e]
            have a19 : cutst g i (nI F) (nI L) w 19 x = g 19 x := by simp [cutst, gup, e]
            refine ⟨⟨by rw [bp, a17]; exact z.1.1, by rw [bp]; exact z.1.2⟩, z.2.1, ?_⟩
            rw [a18, a19]; exact z.2.2
        · have z := h.2.2.2.1 x hx
          refine ⟨⟨z.1.1, ?_⟩, ⟨z.2.1.1, ?_⟩, z.2.2⟩
          · rw [en]; exact Nat.lt_succ_of_lt z.1.2
          · rw [en]; exact Nat.lt_succ_of_lt z.2.1.2
        · rw [en] at hx
          exact h.2.2.2.2.2.1 x (by omega)
      · exact h
    · exact h
  · exact h
theorem ok_knot {g : GS} (h : OKg g) (b f t : Int32) : OKg (sp_knot g b f t).2.2 := by
  unfold sp_knot
  have h20 := h.l5
  split
  · rename_i hj
    split
    · rename_i hk
      split
      · exact h
      · rename_i h4
        split
        · exact h
        · obtain ⟨i, hi, rfl⟩ := wi_lt (by omega) hj
          rw [tNn (n := i) (by omega)] at hk h4 ⊢
          obtain ⟨L, hL1, hL2, hL⟩ := h.len hi
          have hk4 := h.l13 hi
          rw [hL] at hk
          have hf := hk.1
          rw [show (1 : Int32) = nI 1 from rfl, pk_sub (by omega)] at hf
          obtain ⟨F, hF, rfl⟩ := wi_nat (n := L - 1) (by omega) hf
          have ht := hk.2
          rw [show (1 : Int32) = nI 1 from rfl, nI_add] at ht
          obtain ⟨T, hT1, hT2, rfl⟩ := wi_rng (a := F + 1) (b := L) (by omega) (by omega) ht
          obtain ⟨K, hK⟩ : ∃ K : GS, K = gup (gup (gup g 14 (4 * i + kn g i) (nI F)) 15 (4 * i + kn g i) (nI T)) 13 i (nI (kn g i + 1)) := ⟨_, rfl⟩
          show OKg (gup (gup (gup g 14 (4 * i + kn g i) (nI F)) 15 (4 * i + kn g i) (nI T)) 13 i (nI (kn g i + 1)))
          have e13 : ∀ x, K 13 x = if x = i then nI (kn g i + 1) else g 13 x := fun x => by rw [hK]; simp [gup]
          have e14 : ∀ x, K 14 x = if x = 4 * i + kn g i then nI F else g 14 x := fun x => by rw [hK]; simp [gup]
          have e15 : ∀ x, K 15 x = if x = 4 * i + kn g i then nI T else g 15 x := fun x => by rw [hK]; simp [gup]
          have ek : ∀ x, kn K x = if x = i then kn g i + 1 else kn g x := fun x => by
            show (K 13 x).toNatClampNeg = _
            rw [e13]
            split
            · exact nI_clamp (by omega)
            · rfl
          have o : ∀ a x, a ≠ 13 → a ≠ 14 → a ≠ 15 → K a x = g a x := fun a x h1 h2 h3 => by rw [hK]; simp [gup, h1, h2, h3]
          have en : nb K = nb g := by show (K 5 0).toNatClampNeg = _; rw [o 5 0 (by decide) (by decide) (by decide)]; rfl
          rw [← hK]
          have hrest : OKg K ↔ OKg K := Iff.rfl
          refine ⟨?_, fun x hx => ?_, ?_, ?_, fun x hx => ?_, ?_⟩
          · rw [hK]; exact h.1
          · rw [en] at hx
            have z := h.2.1 x hx
            refine ⟨by rw [o 6 x (by decide) (by decide) (by decide)]; exact z.1, ?_, by rw [o 10 x (by decide) (by decide) (by decide)]; exact z.2.2.1, fun k hk9 => ?_⟩
            · rw [ek, e13]
              split
              · exact ⟨rfl, by omega⟩
              · exact z.2.1
            · rw [ek] at hk9
              rw [e14, e15]
              by_cases e : 4 * x + k = 4 * i + kn g i
              · rw [if_pos e, if_pos e]
                exact ⟨F, T, by omega, by omega, rfl, rfl⟩
              · rw [if_neg e, if_neg e]
                refine z.2.2.2 k ?_
                split at hk9
                · rename_i ex
                  subst ex
                  omega
                · exact hk9
          · rw [hK]; exact h.2.2.1
          · rw [hK]; exact h.2.2.2.1
          · rw [en] at hx
            rw [e13, if_neg (by omega)]
            exact h.2.2.2.2.1 x hx
          · rw [hK]; exact h.2.2.2.2.2
    · exact h
  · exact h
