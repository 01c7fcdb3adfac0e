/-! ===== the reference is made ===== -/
/-- the state at the start -/
def g00 : GS := fun k => if k = 2 then (fun j => if j < 12 then 100 else 0) else if k = 3 then upd (upd (fun _ => 0) 0 100) 1 100 else if k = 4 then upd (fun _ => 0) 0 6 else fun _ => 0
theorem map_set36 (F : Nat → Value) {k : Nat} {v : Value} (hk : k < 36) : ((List.range 36).map F).set k v = (List.range 36).map (fun i => if i = k then v else F i) := by
  have hg : ∀ (G : Nat → Value) j, j < 36 → ((List.range 36).map G)[j]? = some (G j) := fun G j hj => by
    rw [List.getElem?_map, List.getElem?_range hj]; rfl
  apply List.ext_getElem?
  intro j
  by_cases hj : j = k
  · subst hj
    rw [List.getElem?_set_self (by simpa using hk), hg _ _ hk]
    simp
  · rw [List.getElem?_set_ne (Ne.symm hj)]
    by_cases h6 : j < 36
    · rw [hg _ _ h6, hg _ _ h6]
      simp [hj]
    · rw [List.getElem?_eq_none (by simpa using h6), List.getElem?_eq_none (by simpa using h6)]
/-- the reference half made: the array fields below k are laid -/
def IF9 (k : Nat) (A : Nat → Nat) (i : Nat) : Value := if isA i then (if i < k then .ref (A i) else .null) else .int (if i = 4 ∧ 4 < k then 6 else 0)
def IM (z : ZE) (q h0 k : Nat) (A : Nat → Nat) (H : Heap) : Prop :=
  va_at (zD z) vwCl (q, .inr (6, (List.range 36).map (IF9 k A))) H ∧ (∀ i, i < k → isA i = true → h0 ≤ A i ∧ va_at (zD z) vwCl (A i, cI (if isZ i then zZ z else zI z) (ln i) (fun _ => 0)) H) ∧ ∀ i j, i < k → j < k → isA i = true → isA j = true → A i = A j → i = j
theorem IM.skip {z : ZE} {q h0 k : Nat} {A : Nat → Nat} {H : Heap} (h : IM z q h0 k A H) (hk : isA k = false) (h4 : k ≠ 4) : IM z q h0 (k + 1) A H := by
  have lt : ∀ i, isA i = true → i < k + 1 → i < k := fun i hi h1 => by
    rcases Nat.lt_or_ge i k with h2 | h2
    · exact h2
    · obtain rfl : i = k := by omega
      rw [hk] at hi; cases hi
  refine ⟨?_, fun i hi hA => h.2.1 i (lt i hA hi) hA, fun i j h1 h2 h3 h5 h6 => h.2.2 i j (lt i h3 h1) (lt j h5 h2) h3 h5 h6⟩
  rw [show IF9 (k + 1) A = IF9 k A from funext fun i => by
    unfold IF9
    by_cases hA : isA i = true
    · rw [if_pos hA, if_pos hA]
      by_cases h1 : i < k
      · rw [if_pos h1, if_pos (by omega)]
      · rw [if_neg h1, if_neg (fun q => h1 (lt i hA q))]
    · rw [if_neg hA, if_neg hA]
      have e : (i = 4 ∧ 4 < k + 1) = (i = 4 ∧ 4 < k) := by apply propext; omega
      simp only [e]]
  exact h.1
theorem IM.put4 {z : ZE} {q h0 : Nat} {A : Nat → Nat} {H H1 : Heap} (h : IM z q h0 4 A H) (hq : q < h0) (he : va_at (zD z) vwCl (q, .inr (6, ((List.range 36).map (IF9 4 A)).set 4 (.int 6))) H1) (oq : ∀ x : Nat, x ≠ q → H1[x]? = H[x]?) : IM z q h0 5 A H1 := by
  have lt : ∀ i, isA i = true → i < 5 → i < 4 := fun i hi h1 => by
    rcases Nat.lt_or_ge i 4 with h2 | h2
    · exact h2
    · obtain rfl : i = 4 := by omega
      cases hi
  refine ⟨?_, fun i hi hA => ⟨(h.2.1 i (lt i hA hi) hA).1, (h.2.1 i (lt i hA hi) hA).2.kept (oq _ (by have := (h.2.1 i (lt i hA hi) hA).1; show A i ≠ q; omega))⟩, fun i j h1 h2 h3 h5 h6 => h.2.2 i j (lt i h3 h1) (lt j h5 h2) h3 h5 h6⟩
  rw [map_set36 _ (by decide)] at he
  rw [show IF9 5 A = fun i => if i = 4 then .int 6 else IF9 4 A i from funext fun i => by
    unfold IF9
    by_cases e4 : i = 4
    · subst e4; rfl
    · rw [if_neg e4]
      by_cases hA : isA i = true
      · rw [if_pos hA, if_pos hA]
        by_cases h1 : i < 4
        · rw [if_pos h1, if_pos (by omega)]
        · rw [if_neg h1, if_neg (by omega)]
      · rw [if_neg hA, if_neg hA, if_neg (by omega), if_neg (by omega)]]
  exact he
theorem IM.step {z : ZE} {q h0 k a : Nat} {A : Nat → Nat} {H H1 H2 : Heap} (h : IM z q h0 k A H) (hA : isA k = true) (hk : k < 36) (hq : q < h0) (hh : h0 ≤ a) (ha : H.size = a) (hn : va_at (zD z) vwCl (a, cI (if isZ k then zZ z else zI z) (ln k) (fun _ => 0)) H1) (o1 : ∀ x : Nat, x < a → H1[x]? = H[x]?)
    (he : va_at (zD z) vwCl (q, .inr (6, ((List.range 36).map (IF9 k A)).set k (.ref a))) H2) (o2 : ∀ x : Nat, x ≠ q → H2[x]? = H1[x]?) : IM z q h0 (k + 1) (fun i => if i = k then a else A i) H2 := by
  have lt : ∀ i, i < k → A i < H.size ∨ isA i = false := fun i hi => by
    by_cases hAi : isA i = true
    · exact Or.inl (h.2.1 i hi hAi).2.lt
    · exact Or.inr (by simpa using hAi)
  refine ⟨?_, fun i hi hAi => ?_, fun i j h1 h2 h3 h5 h6 => ?_⟩
  · rw [map_set36 _ hk] at he
    rw [show IF9 (k + 1) (fun i => if i = k then a else A i) = fun i => if i = k then .ref a else IF9 k A i from funext fun i => by
      unfold IF9
      by_cases e : i = k
      · subst e
        rw [if_pos hA, if_pos (by omega), if_pos rfl]
        simp
      · simp only [if_neg e]
        by_cases hAi : isA i = true
        · rw [if_pos hAi, if_pos hAi]
          by_cases h1 : i < k
          · rw [if_pos h1, if_pos (by omega)]
          · rw [if_neg h1, if_neg (by omega)]
        · rw [if_neg hAi, if_neg hAi]
          have e4 : k ≠ 4 := fun e => by subst e; cases hA
          have e5 : (i = 4 ∧ 4 < k + 1) = (i = 4 ∧ 4 < k) := by apply propext; omega
          simp only [e5]]
    exact he
  · by_cases e : i = k
    · subst e
      simp only [if_pos]
      exact ⟨hh, hn.kept (o2 a (by omega))⟩
    · simp only [if_neg e]
      have b := h.2.1 i (by omega) hAi
      have b2 : A i < H.size := b.2.lt
      exact ⟨b.1, (b.2.kept (o1 (A i) (by omega))).kept (o2 (A i) (by omega))⟩
  · simp only at h6
    by_cases e : i = k
    · by_cases e2 : j = k
      · omega
      · rw [if_pos e, if_neg e2] at h6
        have b2 : A j < H.size := (h.2.1 j (by omega) h5).2.lt
        omega
    · by_cases e2 : j = k
      · rw [if_neg e, if_pos e2] at h6
        have b2 : A i < H.size := (h.2.1 i (by omega) h3).2.lt
        omega
      · rw [if_neg e, if_neg e2] at h6
        exact h.2.2 i j (by omega) (by omega) h3 h5 h6
section GIM
variable {p : Program} {l : Launch} {e : Env} {R : Room} {s : State} {m : MethodId} {args : Array Value} {below : List Frame} {meth : Method} {c : Code} {H : Heap} {locs : List Loc} {cells slots mc ms : Nat} {Q : State → Prop}
variable {cc : ByteArray} {pc nL : Nat} {ls : Array Slot} {z : ZE}
/-- new array, put into the field k -/
theorem x_marr (S : CallFix p m c cc nL s args wU RX6) (hE : EV z s s.heap) (hS : va_S (zA z) s.heap H locs) (hin9 : meth.name = "<init>") {q h0 k N idx : Nat} {A : Nat → Nat} (hz : zB z ≤ q) (hq : q < h0) (hh : h0 ≤ H.size) (hI : IM z q h0 k A H) (hA : isA k = true) (hZ : isZ k = false) (hk : k < 36) (hN : N = ln k ∧ N ≤ 1000) (hf : cells + 1 ≤ R.cells ∧ slots + N ≤ R.slots)
    (hlink : Cond.fieldLink RX6 idx (TX6 k).1 (TX6 k).2.1 (TX6 k).2.2.1 ∈ wU) (hfin : (TX6 k).2.2.2 = false ∨ ((TX6 k).2.2.2 = true ∧ meth.name = "<init>" ∧ (TX6 k).1 = RX6)) (hnw : narrow (tyX6 k) (.ref H.size) = .ref H.size) (hft : fits (tyX6 k) (.ref H.size) = true) (d1 : decode cc pc = .ok (.newarray .int, 2)) (d2 : decode cc (pc + 2) = .ok (.putfield idx, 3))
    (kk : ∀ (H1 : Heap) (locs1 : List Loc) (A1 : Nat → Nat), IM z q h0 (k + 1) A1 H1 → H.size ≤ H1.size → (∀ x : Nat, x < H.size → ¬ x = q → H1[x]? = H[x]?) → va_S (zA z) s.heap H1 locs1 → W p l e R s m args below meth c H1 locs1 (cells + 1) (slots + N) Q (F0 m (pc + 5) ls [])) : W p l e R s m args below meth c H locs cells slots Q (F0 m pc ls [.int (nI N), .ref q]) := by
  refine g_newI S hE hS tw_86 hN.2 hf d1 rfl (fun H1 hn z1 o1 hS1 => ?_)
  have hqs : q < H.size := hI.1.lt
  have hob := hI.1.kept (H1 := H1) (o1 q hqs)
  refine g_put S hE hS1 hob hz (C := RX6) (T := TX6) (N := 36) rfl inU6 tyX6 tyX6_ok nmX6 k hk hlink (Or.inl rfl) hfin (v := .ref H.size) hnw hft (by simpa using hk) d2 (fun H2 locs2 he oq z2 hS2 => ?_)
  refine kk H2 locs2 _ (hI.step hA hk hq (a := H.size) hh rfl (by rw [hZ, ← hN.1]; exact hn) o1 he oq) (by omega) (fun x h1 h2 => (oq x h2).trans (o1 x h1)) hS2
theorem x_marrZ (S : CallFix p m c cc nL s args wU RX6) (hE : EV z s s.heap) (hS : va_S (zA z) s.heap H locs) (hin9 : meth.name = "<init>") {q h0 k N idx : Nat} {A : Nat → Nat} (hz : zB z ≤ q) (hq : q < h0) (hh : h0 ≤ H.size) (hI : IM z q h0 k A H) (hA : isA k = true) (hZ : isZ k = true) (hk : k < 36) (hN : N = ln k ∧ N ≤ 1000) (hf : cells + 1 ≤ R.cells ∧ slots + N ≤ R.slots)
    (hlink : Cond.fieldLink RX6 idx (TX6 k).1 (TX6 k).2.1 (TX6 k).2.2.1 ∈ wU) (hfin : (TX6 k).2.2.2 = false ∨ ((TX6 k).2.2.2 = true ∧ meth.name = "<init>" ∧ (TX6 k).1 = RX6)) (hnw : narrow (tyX6 k) (.ref H.size) = .ref H.size) (hft : fits (tyX6 k) (.ref H.size) = true) (d1 : decode cc pc = .ok (.newarray .boolean, 2)) (d2 : decode cc (pc + 2) = .ok (.putfield idx, 3))
    (kk : ∀ (H1 : Heap) (locs1 : List Loc) (A1 : Nat → Nat), IM z q h0 (k + 1) A1 H1 → H.size ≤ H1.size → (∀ x : Nat, x < H.size → ¬ x = q → H1[x]? = H[x]?) → va_S (zA z) s.heap H1 locs1 → W p l e R s m args below meth c H1 locs1 (cells + 1) (slots + N) Q (F0 m (pc + 5) ls [])) : W p l e R s m args below meth c H locs cells slots Q (F0 m pc ls [.int (nI N), .ref q]) := by
  refine g_newZ S hE hS tw_849 hN.2 hf d1 rfl (fun H1 hn z1 o1 hS1 => ?_)
  have hqs : q < H.size := hI.1.lt
  have hob := hI.1.kept (H1 := H1) (o1 q hqs)
  refine g_put S hE hS1 hob hz (C := RX6) (T := TX6) (N := 36) rfl inU6 tyX6 tyX6_ok nmX6 k hk hlink (Or.inl rfl) hfin (v := .ref H.size) hnw hft (by simpa using hk) d2 (fun H2 locs2 he oq z2 hS2 => ?_)
  refine kk H2 locs2 _ (hI.step hA hk hq (a := H.size) hh rfl (by rw [hZ, ← hN.1]; exact hn) o1 he oq) (by omega) (fun x h1 h2 => (oq x h2).trans (o1 x h1)) hS2
end GIM
theorem isA36 {i : Nat} (h : isA i = true) : i < 36 := by
  unfold isA at h
  simp only [Bool.and_eq_true, decide_eq_true_eq] at h
  exact h.1
theorem IF9_36 (A : Nat → Nat) : (List.range 36).map (IF9 36 A) = (List.range 36).map (fun i => if isA i then .ref (A i) else .int (g00 i 0)) := by
  refine List.map_congr_left (fun i hi => ?_)
  have h36 := List.mem_range.mp hi
  unfold IF9
  by_cases hA : isA i = true
  · rw [if_pos hA, if_pos hA, if_pos h36]
  · rw [if_neg hA, if_neg hA]
    have h2 : i ≠ 2 := fun e => hA (by subst e; rfl)
    have h3 : i ≠ 3 := fun e => hA (by subst e; rfl)
    by_cases e4 : i = 4
    · subst e4; rfl
    · rw [if_neg (by omega)]
      simp [g00, h2, h3, e4]
theorem g00_i {i : Nat} (h : isA i = true) (h3 : i ≠ 3) : g00 i = if i = 2 then (fun j => if j < 12 then 100 else 0) else fun _ => 0 := by
  have h4 : i ≠ 4 := fun e => by subst e; cases h
  unfold g00
  by_cases h2 : i = 2
  · rw [if_pos h2, if_pos h2]
  · rw [if_neg h2, if_neg h2, if_neg h3, if_neg h4]
set_option maxHeartbeats 4000000 in
set_option maxRecDepth 100000 in
/-- DovetailRowModel() -/
theorem c_X6_init (l : Launch) (z : ZE) (q h0 : Nat) (A0 : Nat → Nat) : Met l yX6_init (.code yX6_init cX6_init 2 none :: wU) ({ frames := 1, cells := 30, slots := 954, locals := 20 }) (PE z [.ref (q)] (fun H => H.size = h0 ∧ (zB z ≤ q ∧ q < h0) ∧ va_at (zD z) vwCl (q, .inr (6, (List.range 36).map (IF9 0 A0))) H)) (qC (fun x => x = q) (fun H => ∃ A : Nat → Nat, va_at (zD z) vwCl (q, .inr (6, (List.range 36).map (fun i => if isA i then .ref (A i) else .int (g00 i 0)))) H ∧ (∀ i, isA i = true → h0 ≤ A i ∧ va_at (zD z) vwCl (A i, cI (if isZ i then zZ z else zI z) (ln i) (g00 i)) H) ∧ ∀ i j, isA i = true → isA j = true → A i = A j → i = j)) 30 954 (zA z) := by
  refine Met.ofW (cc := cX6_init) (maxL := 2) (ret := none) (by decide) rfl ?_
  intro p e s m args below meth c s₁ BD hml hv
  obtain ⟨rfl, hE, hW⟩ := hv
  have hts : ∀ w ∈ wU, w.before _ s = true := fun w h => atoms_spec (ws := .code yX6_init cX6_init 2 none :: wU) BD.pre w (List.mem_cons_of_mem _ h)
  have S : CallFix p m c cX6_init 2 s ([.ref (q)] : List Value).toArray wU RX6 := ⟨BD.exec, BD.bytes, hml, findClass_of_methodNamed BD.named, hts⟩
  have hx := S.1
  have hb := S.2.1
  have hr := BD.returns
  have hlocks := BD.notSynchronized
  have hS : va_S (zA z) s.heap s.heap [] := va_S.rf
  have hin9 : meth.name = "<init>" := (name_of_methodNamed BD.named BD.method).1
  have hl := lv_entry ([.ref (q)]) (n := 2) (Nat.le_of_ble_eq_true rfl)
  rw [lg_entry_eq]
  generalize (lg_sl ([.ref (q)]) ++ List.replicate (2 - (lg_sl ([.ref (q)])).length) Slot.unset).toArray = ls at hl ⊢
  have hl : lv_has ls 2 [(0, .ref (q))] := hl
  obtain ⟨hsz0, ⟨hz, hqh⟩, hob⟩ := hW
  have hI : IM z q h0 0 A0 s.heap := ⟨hob, fun i hi => absurd hi (Nat.not_lt_zero i), fun i j hi => absurd hi (Nat.not_lt_zero i)⟩
  have hh : h0 ≤ s.heap.size := Nat.le_of_eq hsz0.symm
  have hfr : ∀ x : Nat, x < s.heap.size → ¬ x = q → s.heap[x]? = s.heap[x]? := fun _ _ _ => rfl
  have hsz : s.heap.size ≤ s.heap.size := Nat.le_refl _
  generalize hA9 : A0 = A at hI
  refine lv_aload_n hx hb dX6_init_0 rfl (lv_at hl 0 rfl) ?_
  refine g_obj S tw_739 hl.1 ⟨Nat.le_of_ble_eq_true rfl, Nat.le_of_ble_eq_true rfl⟩ (Nat.le_of_ble_eq_true rfl) dX6_init_1 ?_
  refine lv_aload_n hx hb dX6_init_4 rfl (lv_at hl 0 rfl) ?_
  refine lv_bipush (v := nI 12) hx hb dX6_init_5 (by decide) ?_
  replace hI := hI.skip (k := 0) rfl (by decide)
  replace hI := hI.skip (k := 1) rfl (by decide)
  refine x_marr S hE hS hin9 (k := 2) (N := 12) (idx := 7) hz hqh hh hI rfl rfl (by decide) ⟨rfl, by decide⟩ ⟨Nat.le_of_ble_eq_true rfl, Nat.le_of_ble_eq_true rfl⟩ tw_742 (Or.inr ⟨rfl, hin9, rfl⟩) rfl rfl dX6_init_7 dX6_init_9 (fun H locs A hI z9 o9 hS => ?_)
  replace hh := Nat.le_trans hh z9
  replace hfr := fun (x : Nat) (h1 : x < s.heap.size) (h2 : ¬ x = q) => (o9 x (Nat.lt_of_lt_of_le h1 hsz) h2).trans (hfr x h1 h2)
  replace hsz := Nat.le_trans hsz z9
  refine lv_aload_n hx hb dX6_init_12 rfl (lv_at hl 0 rfl) ?_
  refine lv_iconst (v := nI 2) hx hb dX6_init_13 (by decide) ?_
  refine x_marr S hE hS hin9 (k := 3) (N := 2) (idx := 13) hz hqh hh hI rfl rfl (by decide) ⟨rfl, by decide⟩ ⟨Nat.le_of_ble_eq_true rfl, Nat.le_of_ble_eq_true rfl⟩ tw_743 (Or.inr ⟨rfl, hin9, rfl⟩) rfl rfl dX6_init_14 dX6_init_16 (fun H locs A hI z9 o9 hS => ?_)
  replace hh := Nat.le_trans hh z9
  replace hfr := fun (x : Nat) (h1 : x < s.heap.size) (h2 : ¬ x = q) => (o9 x (Nat.lt_of_lt_of_le h1 hsz) h2).trans (hfr x h1 h2)
  replace hsz := Nat.le_trans hsz z9
  refine lv_aload_n hx hb dX6_init_19 rfl (lv_at hl 0 rfl) ?_
  refine lv_bipush (v := 6) hx hb dX6_init_20 (by decide) ?_
  refine g_put S hE hS hI.1 hz (C := RX6) (T := TX6) (N := 36) rfl inU6 tyX6 tyX6_ok nmX6 4 (by decide) tw_744 (Or.inl rfl) (Or.inl rfl) (v := .int 6) rfl rfl (Nat.le_of_ble_eq_true rfl) dX6_init_22 (fun H locs he oq z9 hS => ?_)
  replace hI := hI.put4 hqh he oq
  replace hh : h0 ≤ H.size := by omega
  replace hfr := fun (x : Nat) (h1 : x < s.heap.size) (h2 : ¬ x = q) => (oq x h2).trans (hfr x h1 h2)
  replace hsz : s.heap.size ≤ H.size := by omega
  refine lv_aload_n hx hb dX6_init_25 rfl (lv_at hl 0 rfl) ?_
  refine lv_bipush (v := nI 20) hx hb dX6_init_26 (by decide) ?_
  replace hI := hI.skip (k := 5) rfl (by decide)
  refine x_marr S hE hS hin9 (k := 6) (N := 20) (idx := 20) hz hqh hh hI rfl rfl (by decide) ⟨rfl, by decide⟩ ⟨Nat.le_of_ble_eq_true rfl, Nat.le_of_ble_eq_true rfl⟩ tw_746 (Or.inr ⟨rfl, hin9, rfl⟩) rfl rfl dX6_init_28 dX6_init_30 (fun H locs A hI z9 o9 hS => ?_)
  replace hh := Nat.le_trans hh z9
  replace hfr := fun (x : Nat) (h1 : x < s.heap.size) (h2 : ¬ x = q) => (o9 x (Nat.lt_of_lt_of_le h1 hsz) h2).trans (hfr x h1 h2)
  replace hsz := Nat.le_trans hsz z9
  refine lv_aload_n hx hb dX6_init_33 rfl (lv_at hl 0 rfl) ?_
  refine lv_bipush (v := nI 20) hx hb dX6_init_34 (by decide) ?_
  refine x_marr S hE hS hin9 (k := 7) (N := 20) (idx := 23) hz hqh hh hI rfl rfl (by decide) ⟨rfl, by decide⟩ ⟨Nat.le_of_ble_eq_true rfl, Nat.le_of_ble_eq_true rfl⟩ tw_747 (Or.inr ⟨rfl, hin9, rfl⟩) rfl rfl dX6_init_36 dX6_init_38 (fun H locs A hI z9 o9 hS => ?_)
  replace hh := Nat.le_trans hh z9
  replace hfr := fun (x : Nat) (h1 : x < s.heap.size) (h2 : ¬ x = q) => (o9 x (Nat.lt_of_lt_of_le h1 hsz) h2).trans (hfr x h1 h2)
  replace hsz := Nat.le_trans hsz z9
  refine lv_aload_n hx hb dX6_init_41 rfl (lv_at hl 0 rfl) ?_
  refine lv_bipush (v := nI 20) hx hb dX6_init_42 (by decide) ?_
  refine x_marr S hE hS hin9 (k := 8) (N := 20) (idx := 26) hz hqh hh hI rfl rfl (by decide) ⟨rfl, by decide⟩ ⟨Nat.le_of_ble_eq_true rfl, Nat.le_of_ble_eq_true rfl⟩ tw_748 (Or.inr ⟨rfl, hin9, rfl⟩) rfl rfl dX6_init_44 dX6_init_46 (fun H locs A hI z9 o9 hS => ?_)
  replace hh := Nat.le_trans hh z9
  replace hfr := fun (x : Nat) (h1 : x < s.heap.size) (h2 : ¬ x = q) => (o9 x (Nat.lt_of_lt_of_le h1 hsz) h2).trans (hfr x h1 h2)
  replace hsz := Nat.le_trans hsz z9
  refine lv_aload_n hx hb dX6_init_49 rfl (lv_at hl 0 rfl) ?_
  refine lv_bipush (v := nI 20) hx hb dX6_init_50 (by decide) ?_
  refine x_marr S hE hS hin9 (k := 9) (N := 20) (idx := 29) hz hqh hh hI rfl rfl (by decide) ⟨rfl, by decide⟩ ⟨Nat.le_of_ble_eq_true rfl, Nat.le_of_ble_eq_true rfl⟩ tw_749 (Or.inr ⟨rfl, hin9, rfl⟩) rfl rfl dX6_init_52 dX6_init_54 (fun H locs A hI z9 o9 hS => ?_)
  replace hh := Nat.le_trans hh z9
  replace hfr := fun (x : Nat) (h1 : x < s.heap.size) (h2 : ¬ x = q) => (o9 x (Nat.lt_of_lt_of_le h1 hsz) h2).trans (hfr x h1 h2)
  replace hsz := Nat.le_trans hsz z9
  refine lv_aload_n hx hb dX6_init_57 rfl (lv_at hl 0 rfl) ?_
  refine lv_bipush (v := nI 20) hx hb dX6_init_58 (by decide) ?_
  refine x_marr S hE hS hin9 (k := 10) (N := 20) (idx := 32) hz hqh hh hI rfl rfl (by decide) ⟨rfl, by decide⟩ ⟨Nat.le_of_ble_eq_true rfl, Nat.le_of_ble_eq_true rfl⟩ tw_750 (Or.inr ⟨rfl, hin9, rfl⟩) rfl rfl dX6_init_60 dX6_init_62 (fun H locs A hI z9 o9 hS => ?_)
  replace hh := Nat.le_trans hh z9
  replace hfr := fun (x : Nat) (h1 : x < s.heap.size) (h2 : ¬ x = q) => (o9 x (Nat.lt_of_lt_of_le h1 hsz) h2).trans (hfr x h1 h2)
  replace hsz := Nat.le_trans hsz z9
  refine lv_aload_n hx hb dX6_init_65 rfl (lv_at hl 0 rfl) ?_
  refine lv_bipush (v := nI 20) hx hb dX6_init_66 (by decide) ?_
  refine x_marr S hE hS hin9 (k := 11) (N := 20) (idx := 35) hz hqh hh hI rfl rfl (by decide) ⟨rfl, by decide⟩ ⟨Nat.le_of_ble_eq_true rfl, Nat.le_of_ble_eq_true rfl⟩ tw_751 (Or.inr ⟨rfl, hin9, rfl⟩) rfl rfl dX6_init_68 dX6_init_70 (fun H locs A hI z9 o9 hS => ?_)
  replace hh := Nat.le_trans hh z9
  replace hfr := fun (x : Nat) (h1 : x < s.heap.size) (h2 : ¬ x = q) => (o9 x (Nat.lt_of_lt_of_le h1 hsz) h2).trans (hfr x h1 h2)
  replace hsz := Nat.le_trans hsz z9
  refine lv_aload_n hx hb dX6_init_73 rfl (lv_at hl 0 rfl) ?_
  refine lv_bipush (v := nI 20) hx hb dX6_init_74 (by decide) ?_
  refine x_marr S hE hS hin9 (k := 12) (N := 20) (idx := 38) hz hqh hh hI rfl rfl (by decide) ⟨rfl, by decide⟩ ⟨Nat.le_of_ble_eq_true rfl, Nat.le_of_ble_eq_true rfl⟩ tw_752 (Or.inr ⟨rfl, hin9, rfl⟩) rfl rfl dX6_init_76 dX6_init_78 (fun H locs A hI z9 o9 hS => ?_)
  replace hh := Nat.le_trans hh z9
  replace hfr := fun (x : Nat) (h1 : x < s.heap.size) (h2 : ¬ x = q) => (o9 x (Nat.lt_of_lt_of_le h1 hsz) h2).trans (hfr x h1 h2)
  replace hsz := Nat.le_trans hsz z9
  refine lv_aload_n hx hb dX6_init_81 rfl (lv_at hl 0 rfl) ?_
  refine lv_bipush (v := nI 20) hx hb dX6_init_82 (by decide) ?_
  refine x_marr S hE hS hin9 (k := 13) (N := 20) (idx := 41) hz hqh hh hI rfl rfl (by decide) ⟨rfl, by decide⟩ ⟨Nat.le_of_ble_eq_true rfl, Nat.le_of_ble_eq_true rfl⟩ tw_753 (Or.inr ⟨rfl, hin9, rfl⟩) rfl rfl dX6_init_84 dX6_init_86 (fun H locs A hI z9 o9 hS => ?_)
  replace hh := Nat.le_trans hh z9
  replace hfr := fun (x : Nat) (h1 : x < s.heap.size) (h2 : ¬ x = q) => (o9 x (Nat.lt_of_lt_of_le h1 hsz) h2).trans (hfr x h1 h2)
  replace hsz := Nat.le_trans hsz z9
  refine lv_aload_n hx hb dX6_init_89 rfl (lv_at hl 0 rfl) ?_
  refine lv_bipush (v := nI 80) hx hb dX6_init_90 (by decide) ?_
  refine x_marr S hE hS hin9 (k := 14) (N := 80) (idx := 44) hz hqh hh hI rfl rfl (by decide) ⟨rfl, by decide⟩ ⟨Nat.le_of_ble_eq_true rfl, Nat.le_of_ble_eq_true rfl⟩ tw_754 (Or.inr ⟨rfl, hin9, rfl⟩) rfl rfl dX6_init_92 dX6_init_94 (fun H locs A hI z9 o9 hS => ?_)
  replace hh := Nat.le_trans hh z9
  replace hfr := fun (x : Nat) (h1 : x < s.heap.size) (h2 : ¬ x = q) => (o9 x (Nat.lt_of_lt_of_le h1 hsz) h2).trans (hfr x h1 h2)
  replace hsz := Nat.le_trans hsz z9
  refine lv_aload_n hx hb dX6_init_97 rfl (lv_at hl 0 rfl) ?_
  refine lv_bipush (v := nI 80) hx hb dX6_init_98 (by decide) ?_
  refine x_marr S hE hS hin9 (k := 15) (N := 80) (idx := 47) hz hqh hh hI rfl rfl (by decide) ⟨rfl, by decide⟩ ⟨Nat.le_of_ble_eq_true rfl, Nat.le_of_ble_eq_true rfl⟩ tw_755 (Or.inr ⟨rfl, hin9, rfl⟩) rfl rfl dX6_init_100 dX6_init_102 (fun H locs A hI z9 o9 hS => ?_)
  replace hh := Nat.le_trans hh z9
  replace hfr := fun (x : Nat) (h1 : x < s.heap.size) (h2 : ¬ x = q) => (o9 x (Nat.lt_of_lt_of_le h1 hsz) h2).trans (hfr x h1 h2)
  replace hsz := Nat.le_trans hsz z9
  refine lv_aload_n hx hb dX6_init_105 rfl (lv_at hl 0 rfl) ?_
  refine lv_bipush (v := nI 40) hx hb dX6_init_106 (by decide) ?_
  replace hI := hI.skip (k := 16) rfl (by decide)
  refine x_marr S hE hS hin9 (k := 17) (N := 40) (idx := 50) hz hqh hh hI rfl rfl (by decide) ⟨rfl, by decide⟩ ⟨Nat.le_of_ble_eq_true rfl, Nat.le_of_ble_eq_true rfl⟩ tw_757 (Or.inr ⟨rfl, hin9, rfl⟩) rfl rfl dX6_init_108 dX6_init_110 (fun H locs A hI z9 o9 hS => ?_)
  replace hh := Nat.le_trans hh z9
  replace hfr := fun (x : Nat) (h1 : x < s.heap.size) (h2 : ¬ x = q) => (o9 x (Nat.lt_of_lt_of_le h1 hsz) h2).trans (hfr x h1 h2)
  replace hsz := Nat.le_trans hsz z9
  refine lv_aload_n hx hb dX6_init_113 rfl (lv_at hl 0 rfl) ?_
  refine lv_bipush (v := nI 40) hx hb dX6_init_114 (by decide) ?_
  refine x_marr S hE hS hin9 (k := 18) (N := 40) (idx := 53) hz hqh hh hI rfl rfl (by decide) ⟨rfl, by decide⟩ ⟨Nat.le_of_ble_eq_true rfl, Nat.le_of_ble_eq_true rfl⟩ tw_758 (Or.inr ⟨rfl, hin9, rfl⟩) rfl rfl dX6_init_116 dX6_init_118 (fun H locs A hI z9 o9 hS => ?_)
  replace hh := Nat.le_trans hh z9
  replace hfr := fun (x : Nat) (h1 : x < s.heap.size) (h2 : ¬ x = q) => (o9 x (Nat.lt_of_lt_of_le h1 hsz) h2).trans (hfr x h1 h2)
  replace hsz := Nat.le_trans hsz z9
  refine lv_aload_n hx hb dX6_init_121 rfl (lv_at hl 0 rfl) ?_
  refine lv_bipush (v := nI 40) hx hb dX6_init_122 (by decide) ?_
  refine x_marr S hE hS hin9 (k := 19) (N := 40) (idx := 56) hz hqh hh hI rfl rfl (by decide) ⟨rfl, by decide⟩ ⟨Nat.le_of_ble_eq_true rfl, Nat.le_of_ble_eq_true rfl⟩ tw_759 (Or.inr ⟨rfl, hin9, rfl⟩) rfl rfl dX6_init_124 dX6_init_126 (fun H locs A hI z9 o9 hS => ?_)
  replace hh := Nat.le_trans hh z9
  replace hfr := fun (x : Nat) (h1 : x < s.heap.size) (h2 : ¬ x = q) => (o9 x (Nat.lt_of_lt_of_le h1 hsz) h2).trans (hfr x h1 h2)
  replace hsz := Nat.le_trans hsz z9
  refine lv_aload_n hx hb dX6_init_129 rfl (lv_at hl 0 rfl) ?_
  refine lv_bipush (v := nI 40) hx hb dX6_init_130 (by decide) ?_
  refine x_marr S hE hS hin9 (k := 20) (N := 40) (idx := 59) hz hqh hh hI rfl rfl (by decide) ⟨rfl, by decide⟩ ⟨Nat.le_of_ble_eq_true rfl, Nat.le_of_ble_eq_true rfl⟩ tw_760 (Or.inr ⟨rfl, hin9, rfl⟩) rfl rfl dX6_init_132 dX6_init_134 (fun H locs A hI z9 o9 hS => ?_)
  replace hh := Nat.le_trans hh z9
  replace hfr := fun (x : Nat) (h1 : x < s.heap.size) (h2 : ¬ x = q) => (o9 x (Nat.lt_of_lt_of_le h1 hsz) h2).trans (hfr x h1 h2)
  replace hsz := Nat.le_trans hsz z9
  refine lv_aload_n hx hb dX6_init_137 rfl (lv_at hl 0 rfl) ?_
  refine lv_bipush (v := nI 40) hx hb dX6_init_138 (by decide) ?_
  refine x_marr S hE hS hin9 (k := 21) (N := 40) (idx := 62) hz hqh hh hI rfl rfl (by decide) ⟨rfl, by decide⟩ ⟨Nat.le_of_ble_eq_true rfl, Nat.le_of_ble_eq_true rfl⟩ tw_761 (Or.inr ⟨rfl, hin9, rfl⟩) rfl rfl dX6_init_140 dX6_init_142 (fun H locs A hI z9 o9 hS => ?_)
  replace hh := Nat.le_trans hh z9
  replace hfr := fun (x : Nat) (h1 : x < s.heap.size) (h2 : ¬ x = q) => (o9 x (Nat.lt_of_lt_of_le h1 hsz) h2).trans (hfr x h1 h2)
  replace hsz := Nat.le_trans hsz z9
  refine lv_aload_n hx hb dX6_init_145 rfl (lv_at hl 0 rfl) ?_
  refine lv_bipush (v := nI 40) hx hb dX6_init_146 (by decide) ?_
  refine x_marr S hE hS hin9 (k := 22) (N := 40) (idx := 65) hz hqh hh hI rfl rfl (by decide) ⟨rfl, by decide⟩ ⟨Nat.le_of_ble_eq_true rfl, Nat.le_of_ble_eq_true rfl⟩ tw_762 (Or.inr ⟨rfl, hin9, rfl⟩) rfl rfl dX6_init_148 dX6_init_150 (fun H locs A hI z9 o9 hS => ?_)
  replace hh := Nat.le_trans hh z9
  replace hfr := fun (x : Nat) (h1 : x < s.heap.size) (h2 : ¬ x = q) => (o9 x (Nat.lt_of_lt_of_le h1 hsz) h2).trans (hfr x h1 h2)
  replace hsz := Nat.le_trans hsz z9
  refine lv_aload_n hx hb dX6_init_153 rfl (lv_at hl 0 rfl) ?_
  refine lv_bipush (v := nI 40) hx hb dX6_init_154 (by decide) ?_
  refine x_marr S hE hS hin9 (k := 23) (N := 40) (idx := 68) hz hqh hh hI rfl rfl (by decide) ⟨rfl, by decide⟩ ⟨Nat.le_of_ble_eq_true rfl, Nat.le_of_ble_eq_true rfl⟩ tw_763 (Or.inr ⟨rfl, hin9, rfl⟩) rfl rfl dX6_init_156 dX6_init_158 (fun H locs A hI z9 o9 hS => ?_)
  replace hh := Nat.le_trans hh z9
  replace hfr := fun (x : Nat) (h1 : x < s.heap.size) (h2 : ¬ x = q) => (o9 x (Nat.lt_of_lt_of_le h1 hsz) h2).trans (hfr x h1 h2)
  replace hsz := Nat.le_trans hsz z9
  refine lv_aload_n hx hb dX6_init_161 rfl (lv_at hl 0 rfl) ?_
  refine lv_bipush (v := nI 30) hx hb dX6_init_162 (by decide) ?_
  replace hI := hI.skip (k := 24) rfl (by decide)
  refine x_marr S hE hS hin9 (k := 25) (N := 30) (idx := 71) hz hqh hh hI rfl rfl (by decide) ⟨rfl, by decide⟩ ⟨Nat.le_of_ble_eq_true rfl, Nat.le_of_ble_eq_true rfl⟩ tw_765 (Or.inr ⟨rfl, hin9, rfl⟩) rfl rfl dX6_init_164 dX6_init_166 (fun H locs A hI z9 o9 hS => ?_)
  replace hh := Nat.le_trans hh z9
  replace hfr := fun (x : Nat) (h1 : x < s.heap.size) (h2 : ¬ x = q) => (o9 x (Nat.lt_of_lt_of_le h1 hsz) h2).trans (hfr x h1 h2)
  replace hsz := Nat.le_trans hsz z9
  refine lv_aload_n hx hb dX6_init_169 rfl (lv_at hl 0 rfl) ?_
  refine lv_bipush (v := nI 30) hx hb dX6_init_170 (by decide) ?_
  refine x_marr S hE hS hin9 (k := 26) (N := 30) (idx := 74) hz hqh hh hI rfl rfl (by decide) ⟨rfl, by decide⟩ ⟨Nat.le_of_ble_eq_true rfl, Nat.le_of_ble_eq_true rfl⟩ tw_766 (Or.inr ⟨rfl, hin9, rfl⟩) rfl rfl dX6_init_172 dX6_init_174 (fun H locs A hI z9 o9 hS => ?_)
  replace hh := Nat.le_trans hh z9
  replace hfr := fun (x : Nat) (h1 : x < s.heap.size) (h2 : ¬ x = q) => (o9 x (Nat.lt_of_lt_of_le h1 hsz) h2).trans (hfr x h1 h2)
  replace hsz := Nat.le_trans hsz z9
  refine lv_aload_n hx hb dX6_init_177 rfl (lv_at hl 0 rfl) ?_
  refine lv_bipush (v := nI 30) hx hb dX6_init_178 (by decide) ?_
  refine x_marr S hE hS hin9 (k := 27) (N := 30) (idx := 77) hz hqh hh hI rfl rfl (by decide) ⟨rfl, by decide⟩ ⟨Nat.le_of_ble_eq_true rfl, Nat.le_of_ble_eq_true rfl⟩ tw_767 (Or.inr ⟨rfl, hin9, rfl⟩) rfl rfl dX6_init_180 dX6_init_182 (fun H locs A hI z9 o9 hS => ?_)
  replace hh := Nat.le_trans hh z9
  replace hfr := fun (x : Nat) (h1 : x < s.heap.size) (h2 : ¬ x = q) => (o9 x (Nat.lt_of_lt_of_le h1 hsz) h2).trans (hfr x h1 h2)
  replace hsz := Nat.le_trans hsz z9
  refine lv_aload_n hx hb dX6_init_185 rfl (lv_at hl 0 rfl) ?_
  refine lv_bipush (v := nI 30) hx hb dX6_init_186 (by decide) ?_
  refine x_marr S hE hS hin9 (k := 28) (N := 30) (idx := 80) hz hqh hh hI rfl rfl (by decide) ⟨rfl, by decide⟩ ⟨Nat.le_of_ble_eq_true rfl, Nat.le_of_ble_eq_true rfl⟩ tw_768 (Or.inr ⟨rfl, hin9, rfl⟩) rfl rfl dX6_init_188 dX6_init_190 (fun H locs A hI z9 o9 hS => ?_)
  replace hh := Nat.le_trans hh z9
  replace hfr := fun (x : Nat) (h1 : x < s.heap.size) (h2 : ¬ x = q) => (o9 x (Nat.lt_of_lt_of_le h1 hsz) h2).trans (hfr x h1 h2)
  replace hsz := Nat.le_trans hsz z9
  refine lv_aload_n hx hb dX6_init_193 rfl (lv_at hl 0 rfl) ?_
  refine lv_bipush (v := nI 30) hx hb dX6_init_194 (by decide) ?_
  refine x_marr S hE hS hin9 (k := 29) (N := 30) (idx := 83) hz hqh hh hI rfl rfl (by decide) ⟨rfl, by decide⟩ ⟨Nat.le_of_ble_eq_true rfl, Nat.le_of_ble_eq_true rfl⟩ tw_769 (Or.inr ⟨rfl, hin9, rfl⟩) rfl rfl dX6_init_196 dX6_init_198 (fun H locs A hI z9 o9 hS => ?_)
  replace hh := Nat.le_trans hh z9
  replace hfr := fun (x : Nat) (h1 : x < s.heap.size) (h2 : ¬ x = q) => (o9 x (Nat.lt_of_lt_of_le h1 hsz) h2).trans (hfr x h1 h2)
  replace hsz := Nat.le_trans hsz z9
  refine lv_aload_n hx hb dX6_init_201 rfl (lv_at hl 0 rfl) ?_
  refine lv_bipush (v := nI 30) hx hb dX6_init_202 (by decide) ?_
  refine x_marr S hE hS hin9 (k := 30) (N := 30) (idx := 86) hz hqh hh hI rfl rfl (by decide) ⟨rfl, by decide⟩ ⟨Nat.le_of_ble_eq_true rfl, Nat.le_of_ble_eq_true rfl⟩ tw_770 (Or.inr ⟨rfl, hin9, rfl⟩) rfl rfl dX6_init_204 dX6_init_206 (fun H locs A hI z9 o9 hS => ?_)
  replace hh := Nat.le_trans hh z9
  replace hfr := fun (x : Nat) (h1 : x < s.heap.size) (h2 : ¬ x = q) => (o9 x (Nat.lt_of_lt_of_le h1 hsz) h2).trans (hfr x h1 h2)
  replace hsz := Nat.le_trans hsz z9
  refine lv_aload_n hx hb dX6_init_209 rfl (lv_at hl 0 rfl) ?_
  refine lv_bipush (v := nI 30) hx hb dX6_init_210 (by decide) ?_
  refine x_marrZ S hE hS hin9 (k := 31) (N := 30) (idx := 89) hz hqh hh hI rfl rfl (by decide) ⟨rfl, by decide⟩ ⟨Nat.le_of_ble_eq_true rfl, Nat.le_of_ble_eq_true rfl⟩ tw_771 (Or.inr ⟨rfl, hin9, rfl⟩) rfl rfl dX6_init_212 dX6_init_214 (fun H locs A hI z9 o9 hS => ?_)
  replace hh := Nat.le_trans hh z9
  replace hfr := fun (x : Nat) (h1 : x < s.heap.size) (h2 : ¬ x = q) => (o9 x (Nat.lt_of_lt_of_le h1 hsz) h2).trans (hfr x h1 h2)
  replace hsz := Nat.le_trans hsz z9
  refine lv_aload_n hx hb dX6_init_217 rfl (lv_at hl 0 rfl) ?_
  refine lv_bipush (v := nI 30) hx hb dX6_init_218 (by decide) ?_
  refine x_marrZ S hE hS hin9 (k := 32) (N := 30) (idx := 93) hz hqh hh hI rfl rfl (by decide) ⟨rfl, by decide⟩ ⟨Nat.le_of_ble_eq_true rfl, Nat.le_of_ble_eq_true rfl⟩ tw_772 (Or.inr ⟨rfl, hin9, rfl⟩) rfl rfl dX6_init_220 dX6_init_222 (fun H locs A hI z9 o9 hS => ?_)
  replace hh := Nat.le_trans hh z9
  replace hfr := fun (x : Nat) (h1 : x < s.heap.size) (h2 : ¬ x = q) => (o9 x (Nat.lt_of_lt_of_le h1 hsz) h2).trans (hfr x h1 h2)
  replace hsz := Nat.le_trans hsz z9
  refine lv_aload_n hx hb dX6_init_225 rfl (lv_at hl 0 rfl) ?_
  refine lv_bipush (v := nI 30) hx hb dX6_init_226 (by decide) ?_
  refine x_marr S hE hS hin9 (k := 33) (N := 30) (idx := 96) hz hqh hh hI rfl rfl (by decide) ⟨rfl, by decide⟩ ⟨Nat.le_of_ble_eq_true rfl, Nat.le_of_ble_eq_true rfl⟩ tw_773 (Or.inr ⟨rfl, hin9, rfl⟩) rfl rfl dX6_init_228 dX6_init_230 (fun H locs A hI z9 o9 hS => ?_)
  replace hh := Nat.le_trans hh z9
  replace hfr := fun (x : Nat) (h1 : x < s.heap.size) (h2 : ¬ x = q) => (o9 x (Nat.lt_of_lt_of_le h1 hsz) h2).trans (hfr x h1 h2)
  replace hsz := Nat.le_trans hsz z9
  refine lv_aload_n hx hb dX6_init_233 rfl (lv_at hl 0 rfl) ?_
  refine lv_bipush (v := nI 40) hx hb dX6_init_234 (by decide) ?_
  refine x_marr S hE hS hin9 (k := 34) (N := 40) (idx := 99) hz hqh hh hI rfl rfl (by decide) ⟨rfl, by decide⟩ ⟨Nat.le_of_ble_eq_true rfl, Nat.le_of_ble_eq_true rfl⟩ tw_774 (Or.inr ⟨rfl, hin9, rfl⟩) rfl rfl dX6_init_236 dX6_init_238 (fun H locs A hI z9 o9 hS => ?_)
  replace hh := Nat.le_trans hh z9
  replace hfr := fun (x : Nat) (h1 : x < s.heap.size) (h2 : ¬ x = q) => (o9 x (Nat.lt_of_lt_of_le h1 hsz) h2).trans (hfr x h1 h2)
  replace hsz := Nat.le_trans hsz z9
  refine lv_aload_n hx hb dX6_init_241 rfl (lv_at hl 0 rfl) ?_
  refine lv_bipush (v := nI 30) hx hb dX6_init_242 (by decide) ?_
  refine x_marr S hE hS hin9 (k := 35) (N := 30) (idx := 102) hz hqh hh hI rfl rfl (by decide) ⟨rfl, by decide⟩ ⟨Nat.le_of_ble_eq_true rfl, Nat.le_of_ble_eq_true rfl⟩ tw_775 (Or.inr ⟨rfl, hin9, rfl⟩) rfl rfl dX6_init_244 dX6_init_246 (fun H locs A hI z9 o9 hS => ?_)
  replace hh := Nat.le_trans hh z9
  replace hfr := fun (x : Nat) (h1 : x < s.heap.size) (h2 : ¬ x = q) => (o9 x (Nat.lt_of_lt_of_le h1 hsz) h2).trans (hfr x h1 h2)
  replace hsz := Nat.le_trans hsz z9
  obtain ⟨hob9, har9, hij9⟩ := hI
  replace har9 : ∀ i, isA i = true → h0 ≤ A i ∧ va_at (zD z) vwCl (A i, cI (if isZ i then zZ z else zI z) (ln i) (fun _ => 0)) H := fun i hi => har9 i (isA36 hi) hi
  replace hij9 : ∀ i j, isA i = true → isA j = true → A i = A j → i = j := fun i j h1 h2 h3 => hij9 i j (isA36 h1) (isA36 h2) h1 h2 h3
  replace hob9 : va_at (zD z) vwCl (q, .inr (6, (List.range 36).map (fun i => if isA i then .ref (A i) else .int (g00 i 0)))) H := by rw [IF9_36] at hob9; exact hob9
  refine W.widen (k := 30) (n := 954) (Nat.le_of_ble_eq_true rfl) (Nat.le_of_ble_eq_true rfl) ?_
  refine lv_iconst (v := nI 0) hx hb dX6_init_249 (by decide) ?_
  refine lv_istore_n (lv' := [(1, .int (nI 0)), (0, .ref (q))]) hx hb dX6_init_250 rfl hl (by decide) rfl (fun ls hl => ?_)
  have lp : ∀ (k9 k : Nat), k ≤ 12 → 12 - k < k9 → ∀ (H : Heap) (locs : List Loc), va_at (zD z) vwCl (q, .inr (6, (List.range 36).map (fun i => if isA i then .ref (A i) else .int (g00 i 0)))) H → (∀ i, isA i = true → h0 ≤ A i ∧ va_at (zD z) vwCl (A i, cI (if isZ i then zZ z else zI z) (ln i) (if i = 2 then (fun j => if j < k then 100 else 0) else fun _ => 0)) H) → s.heap.size ≤ H.size → (∀ x : Nat, x < s.heap.size → ¬ x = q → H[x]? = s.heap[x]?) → va_S (zA z) s.heap H locs → ∀ ls : Array Slot, lv_has ls 2 [(1, .int (nI k)), (0, .ref (q))] → W p l e ({ frames := 1, cells := 30, slots := 954, locals := 20 } : Room) s m ([.ref (q)] : List Value).toArray below meth c H locs 30 954 (MQ below (qC (fun x => x = q) (fun H => ∃ A : Nat → Nat, va_at (zD z) vwCl (q, .inr (6, (List.range 36).map (fun i => if isA i then .ref (A i) else .int (g00 i 0)))) H ∧ (∀ i, isA i = true → h0 ≤ A i ∧ va_at (zD z) vwCl (A i, cI (if isZ i then zZ z else zI z) (ln i) (g00 i)) H) ∧ ∀ i j, isA i = true → isA j = true → A i = A j → i = j)) ([.ref (q)] : List Value).toArray s 30 954 (zA z)) (F0 m 251 ls []) := by
    intro k9
    induction k9 with
    | zero => intro k hk h9; exact absurd h9 (Nat.not_lt_zero _)
    | succ k9 ih =>
      intro k hk hk9 H locs hob9 har9 hsz hfr hS ls hl
      refine lv_iload_n hx hb dX6_init_251 rfl (lv_at hl 0 rfl) ?_
      refine lv_bipush (v := nI 12) hx hb dX6_init_252 (by decide) ?_
      refine g_icmp_ge S (by omega) (by omega) (tgt := 271) dX6_init_254 (by decide) (fun c7 => ?_) (fun c7 => ?_)
      · obtain rfl : k = 12 := by omega
        have h3z := (har9 3 rfl).1
        have h3a : va_at (zD z) vwCl (A 3, cI (zI z) 2 (fun _ => 0)) H := (har9 3 rfl).2
        refine lv_aload_n hx hb dX6_init_271 rfl (lv_at hl 1 rfl) ?_
        refine g_get S hE hob9 (C := RX6) (T := TX6) (N := 36) (v := .ref (A 3)) rfl inU6 3 (by decide) tw_743 (Or.inl rfl) rfl dX6_init_272 ?_
        refine lv_iconst (v := 0) hx hb dX6_init_275 (by decide) ?_
        refine lv_bipush (v := 100) hx hb dX6_init_276 (by decide) ?_
        refine g_iast S hE hS h3a (by omega) (by unfold vp_in; decide) dX6_init_278 (fun H locs he0 oq z9 hS => ?_)
        replace hob9 := hob9.kept (oq q (by omega))
        replace hfr := fun (x : Nat) (h1 : x < s.heap.size) (h2 : ¬ x = q) => (oq x (by omega)).trans (hfr x h1 h2)
        replace hsz : s.heap.size ≤ H.size := by omega
        replace har9 : ∀ i, isA i = true → i ≠ 3 → h0 ≤ A i ∧ va_at (zD z) vwCl (A i, cI (if isZ i then zZ z else zI z) (ln i) (if i = 2 then (fun j => if j < 12 then 100 else 0) else fun _ => 0)) H := fun i hi h3 => ⟨(har9 i hi).1, (har9 i hi).2.kept (oq (A i) (fun e => h3 (hij9 i 3 hi rfl e)))⟩
        refine lv_aload_n hx hb dX6_init_279 rfl (lv_at hl 1 rfl) ?_
        refine g_get S hE hob9 (C := RX6) (T := TX6) (N := 36) (v := .ref (A 3)) rfl inU6 3 (by decide) tw_743 (Or.inl rfl) rfl dX6_init_280 ?_
        refine lv_iconst (v := 1) hx hb dX6_init_283 (by decide) ?_
        refine lv_bipush (v := 100) hx hb dX6_init_284 (by decide) ?_
        refine g_iast S hE hS he0 (by omega) (by unfold vp_in; decide) dX6_init_286 (fun H locs he1 oq z9 hS => ?_)
        replace hob9 := hob9.kept (oq q (by omega))
        replace hfr := fun (x : Nat) (h1 : x < s.heap.size) (h2 : ¬ x = q) => (oq x (by omega)).trans (hfr x h1 h2)
        replace hsz : s.heap.size ≤ H.size := by omega
        replace har9 : ∀ i, isA i = true → i ≠ 3 → h0 ≤ A i ∧ va_at (zD z) vwCl (A i, cI (if isZ i then zZ z else zI z) (ln i) (if i = 2 then (fun j => if j < 12 then 100 else 0) else fun _ => 0)) H := fun i hi h3 => ⟨(har9 i hi h3).1, (har9 i hi h3).2.kept (oq (A i) (fun e => h3 (hij9 i 3 hi rfl e)))⟩
        refine c_ret S hr hlocks hS ⟨A, hob9, fun i hi => ?_, hij9⟩ ⟨hsz, hfr⟩ ⟨Nat.le_refl _, Nat.le_refl _⟩ dX6_init_287
        by_cases e3 : i = 3
        · subst e3
          exact ⟨h3z, he1⟩
        · obtain ⟨b1, b2⟩ := har9 i hi e3
          rw [g00_i hi e3]
          exact ⟨b1, b2⟩
      · have h2a := har9 2 rfl
        refine lv_aload_n hx hb dX6_init_257 rfl (lv_at hl 1 rfl) ?_
        refine g_get S hE hob9 (C := RX6) (T := TX6) (N := 36) (v := .ref (A 2)) rfl inU6 2 (by decide) tw_742 (Or.inl rfl) rfl dX6_init_258 ?_
        refine lv_iload_n hx hb dX6_init_261 rfl (lv_at hl 0 rfl) ?_
        refine lv_bipush (v := 100) hx hb dX6_init_262 (by decide) ?_
        refine g_iast S hE hS (n := 12) (f := fun j => if j < k then 100 else 0) h2a.2 (by have := h2a.1; omega) (vp_in_nI (show k < 12 by omega) (by decide)) dX6_init_264 (fun H1 locs1 he oq z1 hS1 => ?_)
        rw [show (nI k : Int32).toNatClampNeg = k from nI_clamp (by omega), fil_s] at he
        refine lv_iinc (v := nI (k + 1)) (lv' := [(1, .int (nI (k + 1))), (0, .ref (q))]) hx hb dX6_init_265 hl (k := 0) rfl (nI_1 _) (by decide) rfl (fun ls hl => ?_)
        refine lv_goto (tgt := 251) hx hb dX6_init_268 (by decide) ?_
        refine ih (k + 1) (by omega) (by omega) H1 locs1 (hob9.kept (oq q (by have := h2a.1; omega))) (fun i hi => ?_) (by omega) (fun x h1 h2 => (oq x (by have := h2a.1; omega)).trans (hfr x h1 h2)) hS1 ls hl
        by_cases e2 : i = 2
        · subst e2
          exact ⟨h2a.1, he⟩
        · have b := har9 i hi
          rw [if_neg e2] at b ⊢
          exact ⟨b.1, b.2.kept (oq (A i) (fun e => e2 (hij9 i 2 hi rfl e)))⟩
  refine lp 13 0 (Nat.zero_le _) (by omega) H locs hob9 (fun i hi => ?_) hsz hfr hS ls hl
  obtain ⟨b1, b2⟩ := har9 i hi
  rw [show (if i = 2 then (fun j => if j < 0 then (100 : Int32) else 0) else fun _ => 0) = fun _ => 0 by split <;> simp]
  exact ⟨b1, b2⟩
