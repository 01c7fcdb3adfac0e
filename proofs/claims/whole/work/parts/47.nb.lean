/-! ===== which classes a call does not throw ===== -/
theorem nb_weather (k : Int32) (hk : k = 3) (g : GS) (a1 a2 : Int32) : ¬ sp_weather g a1 a2 = bad k g := by
  intro h
  unfold sp_weather at h
  subst hk
  (repeat' split at h) <;> simp [bad] at h
theorem nb_pass (k : Int32) (hk : k = 3) (g : GS) (a1 : Int32) : ¬ sp_pass g a1 = bad k g := by
  intro h
  unfold sp_pass at h
  subst hk
  (repeat' split at h) <;> simp [bad] at h
theorem nb_board (k : Int32) (hk : k = 3) (g : GS) (a1 a2 a3 a4 a5 a6 : Int32) : ¬ sp_board g a1 a2 a3 a4 a5 a6 = bad k g := by
  intro h
  unfold sp_board at h
  subst hk
  (repeat' split at h) <;> simp [bad] at h
theorem nb_sharpen (k : Int32) (hk : k = 2 ∨ k = 3) (g : GS) (a1 : Int32) : ¬ sp_sharpen g a1 = bad k g := by
  intro h
  unfold sp_sharpen at h
  rcases hk with rfl | rfl <;> (repeat' split at h) <;> simp [bad] at h
theorem nb_clearFrom (k : Int32) (hk : k = 3) (g : GS) (a1 a2 : Int32) : ¬ sp_clearFrom g a1 a2 = bad k g := by
  intro h
  unfold sp_clearFrom at h
  subst hk
  (repeat' split at h) <;> simp [bad] at h
theorem nb_coat (k : Int32) (hk : k = 3) (g : GS) (a1 : Int32) : ¬ sp_coat g a1 = bad k g := by
  intro h
  unfold sp_coat at h
  subst hk
  (repeat' split at h) <;> simp [bad] at h
theorem nb_match (k : Int32) (hk : k = 3) (g : GS) (a1 a2 : Int32) : ¬ sp_match g a1 a2 = bad k g := by
  intro h
  unfold sp_match at h
  subst hk
  (repeat' split at h) <;> simp [bad] at h
theorem nb_clamps (k : Int32) (hk : k = 2 ∨ k = 3) (g : GS) (a1 : Int32) : ¬ sp_clamps g a1 = bad k g := by
  intro h
  unfold sp_clamps at h
  rcases hk with rfl | rfl <;> (repeat' split at h) <;> simp [bad] at h
theorem nb_glue (k : Int32) (hk : k = 3) (g : GS) (a1 : Int32) : ¬ sp_glue g a1 = bad k g := by
  intro h
  unfold sp_glue at h
  subst hk
  (repeat' split at h) <;> simp [bad] at h
theorem nb_repair (k : Int32) (hk : k = 3) (g : GS) (a1 : Int32) : ¬ sp_repair g a1 = bad k g := by
  intro h
  unfold sp_repair at h
  subst hk
  (repeat' split at h) <;> simp [bad] at h
theorem nb_through (k : Int32) (hk : k = 2 ∨ k = 3) (g : GS) (a1 : Int32) : ¬ sp_through g a1 = bad k g := by
  intro h
  unfold sp_through at h
  rcases hk with rfl | rfl <;> (repeat' split at h) <;> simp [bad] at h
theorem nb_ofBoard (k : Int32) (hk : k = 3) (g : GS) (a1 a2 : Int32) : ¬ sp_ofBoard g a1 a2 = bad k g := by
  intro h
  unfold sp_ofBoard at h
  subst hk
  (repeat' split at h) <;> simp [bad] at h
theorem nb_ofPart (k : Int32) (hk : k = 3) (g : GS) (a1 a2 : Int32) : ¬ sp_ofPart g a1 a2 = bad k g := by
  intro h
  unfold sp_ofPart at h
  subst hk
  (repeat' split at h) <;> simp [bad] at h
theorem nb_ofJoint (k : Int32) (hk : k = 3) (g : GS) (a1 a2 : Int32) : ¬ sp_ofJoint g a1 a2 = bad k g := by
  intro h
  unfold sp_ofJoint at h
  subst hk
  (repeat' split at h) <;> simp [bad] at h
