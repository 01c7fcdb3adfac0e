/-! ===== the reference's own rows: its fields and arrays, by the state g, what is thrown (t), and the two arrays that it looks ahead with (A, B) ===== -/
def sim (gm g : GS) : Prop := ∀ k, k ≠ 0 → k ≠ 34 → k ≠ 35 → gm k = g k
def MW (z : ZE) (w : WG) (g1 : GS) (o : Nat → Int64) (g : GS) (t : Int32) (A B : Nat → Int32) (H : Heap) : Prop := ∃ gm, WW z w g1 gm o H ∧ sim gm g ∧ gm 0 0 = t ∧ gm 34 = A ∧ gm 35 = B
theorem MW.kept {z : ZE} {w : WG} {g1 g : GS} {o : Nat → Int64} {t : Int32} {A B : Nat → Int32} {H H1 : Heap} (h : MW z w g1 o g t A B H) (hq : ∀ q : Nat, q < H.size → H1[q]? = H[q]?) : MW z w g1 o g t A B H1 := by
  obtain ⟨gm, h1, h2⟩ := h
  exact ⟨gm, h1.kept hq, h2⟩
theorem mf_get (w : WG) (gm : GS) {k : Nat} (hk : k < 36) : ((List.range 36).map (mf w gm))[k]? = some (mf w gm k) := by
  rw [List.getElem?_map, List.getElem?_range hk]; rfl
theorem mf_put (w : WG) (gm : GS) {k : Nat} {v : Int32} (hk : k < 36) (hA : isA k = false) : ((List.range 36).map (mf w gm)).set k (.int v) = (List.range 36).map (mf w (gup gm k 0 v)) := by
  apply List.ext_getElem?
  intro j
  by_cases hj : j = k
  · subst hj
    rw [List.getElem?_set_self (by simpa using hk), mf_get _ _ hk]
    simp [mf, hA, gup]
  · rw [List.getElem?_set_ne (Ne.symm hj)]
    by_cases h6 : j < 36
    · rw [mf_get _ _ h6, mf_get _ _ h6]
      simp [mf, gup, hj]
    · rw [List.getElem?_eq_none (by simpa using h6), List.getElem?_eq_none (by simpa using h6)]
/-- a write of one of the reference's cells leaves the world -/
theorem WW.mput {z : ZE} {w : WG} {g gm : GS} {o : Nat → Int64} {H H1 : Heap} (h : WW z w g gm o H) {k : Nat} {v : Int32} (hk : k < 36) (hA : isA k = false) (he : va_at (zD z) vwCl (wad w 9 0, .inr (6, ((List.range 36).map (mf w gm)).set k (.int v))) H1) (oq : ∀ q : Nat, q ≠ wad w 9 0 → H1[q]? = H[q]?) : WW z w g (gup gm k 0 v) o H1 := by
  refine h.wr 9 0 rfl ?_ oq rfl (fun _ _ h => h) ?_ h.2.2.2
  · rw [mf_put w gm hk hA] at he
    exact he
  · intro k' i hl hne
    match k', hl with
    | 0, _ => rfl
    | 1, _ => rfl
    | 2, _ => rfl
    | 3, _ => rfl
    | 4, _ => rfl
    | 5, _ => rfl
    | 6, _ => rfl
    | 7, _ => rfl
    | 8, _ => rfl
    | 9, hl => exact absurd ⟨rfl, hl⟩ hne
    | 10, hl =>
      have hik : i ≠ k := fun e => by
        have h9 : isA i = true := hl
        rw [e, hA] at h9
        cases h9
      have e : gup gm k 0 v i = gm i := funext fun j => gup_k hik
      simp only [ct, e]
    | n + 11, _ => rfl
theorem WW.mast {z : ZE} {w : WG} {g gm : GS} {o : Nat → Int64} {H H1 : Heap} (h : WW z w g gm o H) {k i : Nat} {x : Int32} (hA : isA k = true) (he : va_at (zD z) vwCl (wad w 10 k, cI (if isZ k then zZ z else zI z) (ln k) (upd (gm k) i x)) H1) (oq : ∀ q : Nat, q ≠ wad w 10 k → H1[q]? = H[q]?) : WW z w g (gup gm k i x) o H1 := by
  have e1 : gup gm k i x k = upd (gm k) i x := funext fun j => by simp [gup, upd]
  refine h.wr 10 k hA ?_ oq rfl (fun _ _ h => h) ?_ h.2.2.2
  · show va_at (zD z) vwCl (wad w 10 k, cI (if isZ k then zZ z else zI z) (ln k) (gup gm k i x k)) H1
    rw [e1]
    exact he
  · intro k' i' hl hne
    match k', hl with
    | 0, _ => rfl
    | 1, _ => rfl
    | 2, _ => rfl
    | 3, _ => rfl
    | 4, _ => rfl
    | 5, _ => rfl
    | 6, _ => rfl
    | 7, _ => rfl
    | 8, _ => rfl
    | 9, _ =>
      have e : mf w (gup gm k i x) = mf w gm := by
        funext j
        unfold mf
        by_cases hj : isA j = true
        · simp [hj]
        · have : j ≠ k := fun q => hj (q ▸ hA)
          simp [hj, gup, this]
      show (Sum.inr (6, (List.range 36).map (mf w (gup gm k i x))) : va_E) = _
      rw [e]
      rfl
    | 10, _ =>
      have hik : i' ≠ k := fun q => hne ⟨rfl, q⟩
      have e : gup gm k i x i' = gm i' := funext fun j => gup_k hik
      simp only [ct, e]
    | n + 11, _ => rfl
theorem sim.up {gm g : GS} (h : sim gm g) (k i : Nat) (v : Int32) : sim (gup gm k i v) (gup g k i v) := fun a h0 h1 h2 => by
  funext b
  unfold gup
  rw [h a h0 h1 h2]
theorem sim.jk {gm g : GS} (h : sim gm g) {k i : Nat} {v : Int32} (hk : k = 0 ∨ k = 34 ∨ k = 35) : sim (gup gm k i v) g := fun a h0 h1 h2 => by
  funext b
  rw [gup_k (by rcases hk with rfl | rfl | rfl <;> assumption), h a h0 h1 h2]
abbrev MT : Type := GS × Int32 × (Nat → Int32) × (Nat → Int32)
abbrev qM (z : ZE) (w : WG) (g1 : GS) (o : Nat → Int64) (post : Int32 → MT → Prop) : Array Value → State → Outcome → State → Prop := va_Qi post (fun (u : MT) (st : State) => MW z w g1 o u.1 u.2.1 u.2.2.1 u.2.2.2 st.heap) (zA z)
abbrev qMv (z : ZE) (w : WG) (g1 : GS) (o : Nat → Int64) (post : MT → Prop) : Array Value → State → Outcome → State → Prop := va_Qv post (fun (u : MT) (st : State) => MW z w g1 o u.1 u.2.1 u.2.2.1 u.2.2.2 st.heap) (zA z)
section GMW
variable {p : Program} {l : Launch} {e : Env} {R : Room} {s : State} {m : MethodId} {args : Array Value} {below : List Frame} {meth : Method} {c : Code} {H : Heap} {locs : List Loc} {cells slots : Nat} {Q : State → Prop}
variable {cc : ByteArray} {pc nL : Nat} {ls : Array Slot} {rest stk : List Value} {z : ZE} {own : String} {w : WG} {g1 g : GS} {o : Nat → Int64} {t : Int32} {A B : Nat → Int32}
/-- the classes' layouts are among the words -/
theorem inU0 : ∀ w ∈ u_ws RX0 TX0 11, w ∈ wU := by
  intro w hw
  simp only [u_ws, List.range, List.range.loop, List.map, List.mem_cons, List.not_mem_nil, or_false] at hw
  rcases hw with rfl | rfl | rfl | rfl | rfl | rfl | rfl | rfl | rfl | rfl | rfl
  · exact tw_360
  · exact tw_362
  · exact tw_364
  · exact tw_366
  · exact tw_368
  · exact tw_348
  · exact tw_350
  · exact tw_352
  · exact tw_354
  · exact tw_356
  · exact tw_358
theorem inU1 : ∀ w ∈ u_ws RX1 TX1 9, w ∈ wU := by
  intro w hw
  simp only [u_ws, List.range, List.range.loop, List.map, List.mem_cons, List.not_mem_nil, or_false] at hw
  rcases hw with rfl | rfl | rfl | rfl | rfl | rfl | rfl | rfl | rfl
  · exact tw_606
  · exact tw_608
  · exact tw_610
  · exact tw_612
  · exact tw_614
  · exact tw_616
  · exact tw_618
  · exact tw_620
  · exact tw_622
theorem inU2 : ∀ w ∈ u_ws RX2 TX2 9, w ∈ wU := by
  intro w hw
  simp only [u_ws, List.range, List.range.loop, List.map, List.mem_cons, List.not_mem_nil, or_false] at hw
  rcases hw with rfl | rfl | rfl | rfl | rfl | rfl | rfl | rfl | rfl
  · exact tw_512
  · exact tw_513
  · exact tw_514
  · exact tw_515
  · exact tw_516
  · exact tw_504
  · exact tw_506
  · exact tw_508
  · exact tw_510
theorem inU3 : ∀ w ∈ u_ws RX3 TX3 2, w ∈ wU := by
  intro w hw
  simp only [u_ws, List.range, List.range.loop, List.map, List.mem_cons, List.not_mem_nil, or_false] at hw
  rcases hw with rfl | rfl
  · exact tw_459
  · exact tw_461
theorem inU5 : ∀ w ∈ u_ws RX5 TX5 8, w ∈ wU := by
  intro w hw
  simp only [u_ws, List.range, List.range.loop, List.map, List.mem_cons, List.not_mem_nil, or_false] at hw
  rcases hw with rfl | rfl | rfl | rfl | rfl | rfl | rfl | rfl
  · exact tw_69
  · exact tw_71
  · exact tw_73
  · exact tw_75
  · exact tw_77
  · exact tw_79
  · exact tw_81
  · exact tw_83
theorem inU6 : ∀ w ∈ u_ws RX6 TX6 36, w ∈ wU := by
  intro w hw
  simp only [u_ws, List.range, List.range.loop, List.map, List.mem_cons, List.not_mem_nil, or_false] at hw
  rcases hw with rfl | rfl | rfl | rfl | rfl | rfl | rfl | rfl | rfl | rfl | rfl | rfl | rfl | rfl | rfl | rfl | rfl | rfl | rfl | rfl | rfl | rfl | rfl | rfl | rfl | rfl | rfl | rfl | rfl | rfl | rfl | rfl | rfl | rfl | rfl | rfl
  · exact tw_776
  · exact tw_778
  · exact tw_780
  · exact tw_782
  · exact tw_784
  · exact tw_786
  · exact tw_788
  · exact tw_790
  · exact tw_792
  · exact tw_794
  · exact tw_796
  · exact tw_798
  · exact tw_800
  · exact tw_802
  · exact tw_804
  · exact tw_806
  · exact tw_808
  · exact tw_810
  · exact tw_812
  · exact tw_814
  · exact tw_816
  · exact tw_818
  · exact tw_820
  · exact tw_822
  · exact tw_824
  · exact tw_826
  · exact tw_828
  · exact tw_830
  · exact tw_832
  · exact tw_834
  · exact tw_836
  · exact tw_838
  · exact tw_840
  · exact tw_842
  · exact tw_844
  · exact tw_846
theorem inUL : ∀ w ∈ u_ws RJx4a65c TJx4a65c 3, w ∈ wU := by
  intro w hw
  simp only [u_ws, List.range, List.range.loop, List.map, List.mem_cons, List.not_mem_nil, or_false] at hw
  rcases hw with rfl | rfl | rfl
  · exact tw_55
  · exact tw_51
  · exact tw_53
theorem m_geti (S : CallFix p m c cc nL s args wU own) (hE : EV z s s.heap) (hW : MW z w g1 o g t A B H) (k : Nat) {index : Nat} (hk : k < 36) (hA : isA k = false) (h0 : k ≠ 0) (hlink : Cond.fieldLink own index "DovetailRowModel" (TX6 k).2.1 (TX6 k).2.2.1 ∈ wU) (hsame : (TX6 k).1 = "DovetailRowModel") {v : Int32} (hv : g k 0 = v) (hdg : decode cc pc = .ok (.getfield index, 3))
    (kk : W p l e R s m args below meth c H locs cells slots Q (F0 m (pc + 3) ls (.int v :: rest))) : W p l e R s m args below meth c H locs cells slots Q (F0 m pc ls (.ref (wad w 9 0) :: rest)) := by
  obtain ⟨gm, hW, hG, -⟩ := hW
  refine g_get S hE hW.md (C := RX6) (T := TX6) (N := 36) rfl inU6 k hk hlink (Or.inl hsame) (v := .int v) ?_ hdg kk
  rw [mf_get _ _ hk, mf, hA, hG k h0 (fun e => by rw [e] at hA; cases hA) (fun e => by rw [e] at hA; cases hA), hv]
  rfl
theorem m_gett (S : CallFix p m c cc nL s args wU own) (hE : EV z s s.heap) (hW : MW z w g1 o g t A B H) {index : Nat} (hlink : Cond.fieldLink own index "DovetailRowModel" (TX6 0).2.1 (TX6 0).2.2.1 ∈ wU) (hdg : decode cc pc = .ok (.getfield index, 3))
    (kk : W p l e R s m args below meth c H locs cells slots Q (F0 m (pc + 3) ls (.int t :: rest))) : W p l e R s m args below meth c H locs cells slots Q (F0 m pc ls (.ref (wad w 9 0) :: rest)) := by
  obtain ⟨gm, hW, hG, ht, -⟩ := hW
  refine g_get S hE hW.md (C := RX6) (T := TX6) (N := 36) rfl inU6 0 (by decide) hlink (Or.inl rfl) (v := .int t) ?_ hdg kk
  rw [mf_get _ _ (by decide), ← ht]
  rfl
theorem m_geta (S : CallFix p m c cc nL s args wU own) (hE : EV z s s.heap) (hW : MW z w g1 o g t A B H) (k : Nat) {index : Nat} (hk : k < 36) (hA : isA k = true) (hlink : Cond.fieldLink own index "DovetailRowModel" (TX6 k).2.1 (TX6 k).2.2.1 ∈ wU) (hsame : (TX6 k).1 = "DovetailRowModel") (hdg : decode cc pc = .ok (.getfield index, 3))
    (kk : W p l e R s m args below meth c H locs cells slots Q (F0 m (pc + 3) ls (.ref (wad w 10 k) :: rest))) : W p l e R s m args below meth c H locs cells slots Q (F0 m pc ls (.ref (wad w 9 0) :: rest)) := by
  obtain ⟨gm, hW, hG, -⟩ := hW
  refine g_get S hE hW.md (C := RX6) (T := TX6) (N := 36) rfl inU6 k hk hlink (Or.inl hsame) (v := .ref (wad w 10 k)) ?_ hdg kk
  rw [mf_get _ _ hk, mf, hA]
  rfl
theorem m_ald (S : CallFix p m c cc nL s args wU own) (hE : EV z s s.heap) (hW : MW z w g1 o g t A B H) {k : Nat} (hk : (isA k && !isZ k && k != 34 && k != 35) = true) {i v : Int32} (hin : vp_in i (ln k)) (hv : g k i.toNatClampNeg = v) (hdg : decode cc pc = .ok (.iaload, 1))
    (kk : W p l e R s m args below meth c H locs cells slots Q (F0 m (pc + 1) ls (.int v :: rest))) : W p l e R s m args below meth c H locs cells slots Q (F0 m pc ls (.int i :: .ref (wad w 10 k) :: rest)) := by
  obtain ⟨gm, hW, hG, -⟩ := hW
  simp only [Bool.and_eq_true, Bool.not_eq_true', bne_iff_ne] at hk
  have h0 : k ≠ 0 := fun e => by have := hk.1.1.1; rw [e] at this; cases this
  have hat := hW.ma hk.1.1.1
  rw [hk.1.1.2] at hat
  refine g_iald S hE hat hin hdg ?_
  rw [hG k h0 hk.1.2 hk.2, hv]
  exact kk
theorem m_zald (S : CallFix p m c cc nL s args wU own) (hE : EV z s s.heap) (hW : MW z w g1 o g t A B H) {k : Nat} (hk : (isA k && isZ k) = true) {i v : Int32} (hin : vp_in i (ln k)) (hv : g k i.toNatClampNeg = v) (hdg : decode cc pc = .ok (.baload, 1))
    (kk : W p l e R s m args below meth c H locs cells slots Q (F0 m (pc + 1) ls (.int v :: rest))) : W p l e R s m args below meth c H locs cells slots Q (F0 m pc ls (.int i :: .ref (wad w 10 k) :: rest)) := by
  obtain ⟨gm, hW, hG, -⟩ := hW
  simp only [Bool.and_eq_true] at hk
  have h0 : k ≠ 0 := fun e => by have := hk.1; rw [e] at this; cases this
  have h1 : k ≠ 34 := fun e => by have := hk.2; rw [e] at this; cases this
  have h2 : k ≠ 35 := fun e => by have := hk.2; rw [e] at this; cases this
  have hat := hW.ma hk.1
  rw [hk.2] at hat
  refine g_zald S hE hat hin hdg ?_
  rw [hG k h0 h1 h2, hv]
  exact kk
theorem m_ald34 (S : CallFix p m c cc nL s args wU own) (hE : EV z s s.heap) (hW : MW z w g1 o g t A B H) {i : Int32} (hin : vp_in i (ln 34)) (hdg : decode cc pc = .ok (.iaload, 1))
    (kk : W p l e R s m args below meth c H locs cells slots Q (F0 m (pc + 1) ls (.int (A i.toNatClampNeg) :: rest))) : W p l e R s m args below meth c H locs cells slots Q (F0 m pc ls (.int i :: .ref (wad w 10 34) :: rest)) := by
  obtain ⟨gm, hW, hG, -, hA, -⟩ := hW
  refine g_iald S hE (hW.ma (i := 34) rfl) hin hdg ?_
  rw [hA]
  exact kk
theorem m_ald35 (S : CallFix p m c cc nL s args wU own) (hE : EV z s s.heap) (hW : MW z w g1 o g t A B H) {i : Int32} (hin : vp_in i (ln 35)) (hdg : decode cc pc = .ok (.iaload, 1))
    (kk : W p l e R s m args below meth c H locs cells slots Q (F0 m (pc + 1) ls (.int (B i.toNatClampNeg) :: rest))) : W p l e R s m args below meth c H locs cells slots Q (F0 m pc ls (.int i :: .ref (wad w 10 35) :: rest)) := by
  obtain ⟨gm, hW, hG, -, -, hB⟩ := hW
  refine g_iald S hE (hW.ma (i := 35) rfl) hin hdg ?_
  rw [hB]
  exact kk
theorem m_putt (S : CallFix p m c cc nL s args wU own) (hE : EV z s s.heap) {H0 : Heap} (hS : va_S (zA z) H0 H locs) (hW : MW z w g1 o g t A B H) {index : Nat} (hlink : Cond.fieldLink own index "DovetailRowModel" (TX6 0).2.1 (TX6 0).2.2.1 ∈ wU) {v : Int32} (hdg : decode cc pc = .ok (.putfield index, 3))
    (kk : ∀ (H1 : Heap) (locs1 : List Loc), MW z w g1 o g v A B H1 → va_S (zA z) H0 H1 locs1 → W p l e R s m args below meth c H1 locs1 cells slots Q (F0 m (pc + 3) ls rest)) : W p l e R s m args below meth c H locs cells slots Q (F0 m pc ls (.int v :: .ref (wad w 9 0) :: rest)) := by
  obtain ⟨gm, hW, hG, ht, hA, hB⟩ := hW
  refine g_put S hE hS hW.md (hW.2.2.1 9 0 rfl) (C := RX6) (T := TX6) (N := 36) rfl inU6 tyX6 tyX6_ok nmX6 0 (by decide) hlink (Or.inl rfl) (Or.inl rfl) rfl rfl (by simp) hdg (fun H1 locs1 h1 h2 _ h4 => kk H1 locs1 ⟨_, hW.mput (k := 0) (by decide) rfl h1 h2, hG.jk (Or.inl rfl), gup_s, ?_, ?_⟩ h4)
  · rw [← hA]; funext i; exact gup_k (by decide)
  · rw [← hB]; funext i; exact gup_k (by decide)
theorem m_puti (S : CallFix p m c cc nL s args wU own) (hE : EV z s s.heap) {H0 : Heap} (hS : va_S (zA z) H0 H locs) (hW : MW z w g1 o g t A B H) (k : Nat) {index : Nat} (hk : k < 36) (hA : isA k = false) (h0 : k ≠ 0) (hlink : Cond.fieldLink own index "DovetailRowModel" (TX6 k).2.1 (TX6 k).2.2.1 ∈ wU) (hsame : (TX6 k).1 = "DovetailRowModel" ∧ (TX6 k).2.2.2 = false ∧ tyX6 k = .int) {v : Int32} (hdg : decode cc pc = .ok (.putfield index, 3))
    (kk : ∀ (H1 : Heap) (locs1 : List Loc), MW z w g1 o (gup g k 0 v) t A B H1 → va_S (zA z) H0 H1 locs1 → W p l e R s m args below meth c H1 locs1 cells slots Q (F0 m (pc + 3) ls rest)) : W p l e R s m args below meth c H locs cells slots Q (F0 m pc ls (.int v :: .ref (wad w 9 0) :: rest)) := by
  obtain ⟨gm, hW, hG, ht, hA4, hB⟩ := hW
  refine g_put S hE hS hW.md (hW.2.2.1 9 0 rfl) (C := RX6) (T := TX6) (N := 36) rfl inU6 tyX6 tyX6_ok nmX6 k hk hlink (Or.inl hsame.1) (Or.inl hsame.2.1) (by rw [hsame.2.2]; rfl) (by rw [hsame.2.2]; rfl) (by simpa using hk) hdg (fun H1 locs1 h1 h2 _ h4 => kk H1 locs1 ⟨_, hW.mput hk hA h1 h2, hG.up k 0 v, ?_, ?_, ?_⟩ h4)
  · rw [gup_k (Ne.symm h0)]; exact ht
  · rw [← hA4]; funext i; exact gup_k (fun e => by rw [← e] at hA; cases hA)
  · rw [← hB]; funext i; exact gup_k (fun e => by rw [← e] at hA; cases hA)
theorem m_ast (S : CallFix p m c cc nL s args wU own) (hE : EV z s s.heap) {H0 : Heap} (hS : va_S (zA z) H0 H locs) (hW : MW z w g1 o g t A B H) {k : Nat} (hk : (isA k && !isZ k && k != 34 && k != 35) = true) {i v : Int32} {j : Nat} (hin : vp_in i (ln k)) (hj : i.toNatClampNeg = j) (hdg : decode cc pc = .ok (.iastore, 1))
    (kk : ∀ (H1 : Heap) (locs1 : List Loc), MW z w g1 o (gup g k j v) t A B H1 → va_S (zA z) H0 H1 locs1 → W p l e R s m args below meth c H1 locs1 cells slots Q (F0 m (pc + 1) ls rest)) : W p l e R s m args below meth c H locs cells slots Q (F0 m pc ls (.int v :: .int i :: .ref (wad w 10 k) :: rest)) := by
  obtain ⟨gm, hW, hG, ht, hA4, hB⟩ := hW
  simp only [Bool.and_eq_true, Bool.not_eq_true', bne_iff_ne] at hk
  have h0 : k ≠ 0 := fun e => by have := hk.1.1.1; rw [e] at this; cases this
  have hat := hW.ma hk.1.1.1
  rw [hk.1.1.2] at hat
  subst hj
  refine g_iast S hE hS hat (hW.2.2.1 10 k hk.1.1.1) hin hdg (fun H1 locs1 h1 h2 _ h4 => kk H1 locs1 ⟨_, hW.mast (k := k) (i := i.toNatClampNeg) (x := v) hk.1.1.1 (by rw [hk.1.1.2]; exact h1) h2, hG.up k _ v, ?_, ?_, ?_⟩ h4)
  · rw [gup_k (Ne.symm h0)]; exact ht
  · rw [← hA4]; funext i; exact gup_k (Ne.symm hk.1.2)
  · rw [← hB]; funext i; exact gup_k (Ne.symm hk.2)
theorem m_zast (S : CallFix p m c cc nL s args wU own) (hE : EV z s s.heap) {H0 : Heap} (hS : va_S (zA z) H0 H locs) (hW : MW z w g1 o g t A B H) {k : Nat} (hk : (isA k && isZ k) = true) {i v : Int32} {j : Nat} (hin : vp_in i (ln k)) (hj : i.toNatClampNeg = j) (hx1 : narrow .boolean (.int v) = .int v) (hdg : decode cc pc = .ok (.bastore, 1))
    (kk : ∀ (H1 : Heap) (locs1 : List Loc), MW z w g1 o (gup g k j v) t A B H1 → va_S (zA z) H0 H1 locs1 → W p l e R s m args below meth c H1 locs1 cells slots Q (F0 m (pc + 1) ls rest)) : W p l e R s m args below meth c H locs cells slots Q (F0 m pc ls (.int v :: .int i :: .ref (wad w 10 k) :: rest)) := by
  obtain ⟨gm, hW, hG, ht, hA4, hB⟩ := hW
  simp only [Bool.and_eq_true] at hk
  have h0 : k ≠ 0 := fun e => by have := hk.1; rw [e] at this; cases this
  have h1 : k ≠ 34 := fun e => by have := hk.2; rw [e] at this; cases this
  have h2 : k ≠ 35 := fun e => by have := hk.2; rw [e] at this; cases this
  have hat := hW.ma hk.1
  rw [hk.2] at hat
  subst hj
  refine g_zast S hE hS hat (hW.2.2.1 10 k hk.1) hin hx1 hdg (fun H1 locs1 h1 h2 _ h4 => kk H1 locs1 ⟨_, hW.mast (k := k) (i := i.toNatClampNeg) (x := v) hk.1 (by rw [hk.2]; exact h1) h2, hG.up k _ v, ?_, ?_, ?_⟩ h4)
  · rw [gup_k (Ne.symm h0)]; exact ht
  · rw [← hA4]; funext i; exact gup_k (Ne.symm (by assumption))
  · rw [← hB]; funext i; exact gup_k (Ne.symm (by assumption))
theorem m_ast34 (S : CallFix p m c cc nL s args wU own) (hE : EV z s s.heap) {H0 : Heap} (hS : va_S (zA z) H0 H locs) (hW : MW z w g1 o g t A B H) {i v : Int32} {j : Nat} (hin : vp_in i (ln 34)) (hj : i.toNatClampNeg = j) (hdg : decode cc pc = .ok (.iastore, 1))
    (kk : ∀ (H1 : Heap) (locs1 : List Loc), MW z w g1 o g t (upd A j v) B H1 → va_S (zA z) H0 H1 locs1 → W p l e R s m args below meth c H1 locs1 cells slots Q (F0 m (pc + 1) ls rest)) : W p l e R s m args below meth c H locs cells slots Q (F0 m pc ls (.int v :: .int i :: .ref (wad w 10 34) :: rest)) := by
  obtain ⟨gm, hW, hG, ht, hA4, hB⟩ := hW
  subst hj
  refine g_iast S hE hS (hW.ma (i := 34) rfl) (hW.2.2.1 10 34 rfl) hin hdg (fun H1 locs1 h1 h2 _ h4 => kk H1 locs1 ⟨_, hW.mast (k := 34) (i := i.toNatClampNeg) (x := v) rfl h1 h2, hG.jk (Or.inr (Or.inl rfl)), ?_, ?_, ?_⟩ h4)
  · rw [gup_k (by decide)]; exact ht
  · rw [← hA4]; funext j; simp [gup, upd]
  · rw [← hB]; funext i; exact gup_k (by decide)
theorem m_ast35 (S : CallFix p m c cc nL s args wU own) (hE : EV z s s.heap) {H0 : Heap} (hS : va_S (zA z) H0 H locs) (hW : MW z w g1 o g t A B H) {i v : Int32} {j : Nat} (hin : vp_in i (ln 35)) (hj : i.toNatClampNeg = j) (hdg : decode cc pc = .ok (.iastore, 1))
    (kk : ∀ (H1 : Heap) (locs1 : List Loc), MW z w g1 o g t A (upd B j v) H1 → va_S (zA z) H0 H1 locs1 → W p l e R s m args below meth c H1 locs1 cells slots Q (F0 m (pc + 1) ls rest)) : W p l e R s m args below meth c H locs cells slots Q (F0 m pc ls (.int v :: .int i :: .ref (wad w 10 35) :: rest)) := by
  obtain ⟨gm, hW, hG, ht, hA4, hB⟩ := hW
  subst hj
  refine g_iast S hE hS (hW.ma (i := 35) rfl) (hW.2.2.1 10 35 rfl) hin hdg (fun H1 locs1 h1 h2 _ h4 => kk H1 locs1 ⟨_, hW.mast (k := 35) (i := i.toNatClampNeg) (x := v) rfl h1 h2, hG.jk (Or.inr (Or.inr rfl)), ?_, ?_, ?_⟩ h4)
  · rw [gup_k (by decide)]; exact ht
  · rw [← hA4]; funext i; exact gup_k (by decide)
  · rw [← hB]; funext j; simp [gup, upd]
/-- the reference's answer -/
theorem m_ret {post : Int32 → MT → Prop} (S : CallFix p m c cc nL s args wU own) (hr : meth.sig.returnType = some .int) (hlocks : meth.locks = false) (hS : va_S (zA z) s.heap H locs) (hW : MW z w g1 o g t A B H) {x : Int32} (hp : post x (g, t, A, B)) (hdg : decode cc pc = .ok (.ireturn, 1)) :
    W p l e R s m args below meth c H locs 0 0 (MQ below (qM z w g1 o post) args s 0 0 (zA z)) (F0 m pc ls [.int x]) :=
  W.iret (v := x) S.1 S.2.1 hr (fun t9 ht _ => ⟨⟨x, (g, t, A, B), rfl, hp, by show MW z w g1 o g t A B t9.heap; rw [ht]; exact hW⟩, hS.F ht⟩) hS.2.2 hdg
theorem m_vret {post : MT → Prop} (S : CallFix p m c cc nL s args wU own) (hr : meth.sig.returnType = none) (hlocks : meth.locks = false) (hS : va_S (zA z) s.heap H locs) (hW : MW z w g1 o g t A B H) (hp : post (g, t, A, B)) (hdg : decode cc pc = .ok (.return_, 1)) :
    W p l e R s m args below meth c H locs 0 0 (MQ below (qMv z w g1 o post) args s 0 0 (zA z)) (F0 m pc ls []) :=
  W.vret S.1 S.2.1 hr (fun t9 ht _ => ⟨⟨(g, t, A, B), rfl, hp, by show MW z w g1 o g t A B t9.heap; rw [ht]; exact hW⟩, hS.F ht⟩) hS.2.2 hdg
end GMW
