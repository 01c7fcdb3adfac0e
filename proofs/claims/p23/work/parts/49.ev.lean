/-! ===== what the machine holds as the law begins ===== -/
theorem str_tbl : ∀ q ∈ strL, Cond.stringRef RX5 q.1 q.2 ∈ lw_tbl := by
  intro q hq
  unfold strL at hq
  simp only [List.mem_cons, List.not_mem_nil, or_false] at hq
  rcases hq with rfl | rfl | rfl | rfl | rfl | rfl | rfl | rfl | rfl | rfl | rfl | rfl | rfl | rfl | rfl | rfl | rfl | rfl | rfl | rfl | rfl | rfl | rfl | rfl | rfl | rfl | rfl | rfl | rfl
  · exact tw_131
  · exact tw_170
  · exact tw_181
  · exact tw_191
  · exact tw_283
  · exact tw_284
  · exact tw_285
  · exact tw_290
  · exact tw_417
  · exact tw_418
  · exact tw_419
  · exact tw_439
  · exact tw_441
  · exact tw_445
  · exact tw_489
  · exact tw_498
  · exact tw_499
  · exact tw_508
  · exact tw_507
  · exact tw_509
  · exact tw_516
  · exact tw_517
  · exact tw_592
  · exact tw_612
  · exact tw_620
  · exact tw_629
  · exact tw_638
  · exact tw_646
  · exact tw_579
theorem nw_tbl : ∀ q ∈ nwL, Cond.castable q.1 q.2 ∈ lw_tbl := by
  intro q hq
  unfold nwL at hq
  simp only [List.mem_cons, List.not_mem_nil, or_false] at hq
  rcases hq with rfl | rfl | rfl | rfl | rfl | rfl | rfl
  · exact tw_667
  · exact tw_671
  · exact tw_669
  · exact tw_670
  · exact tw_92
  · exact tw_163
  · exact tw_184
theorem nd_tbl : ∀ q ∈ ndL, Cond.declares q ∈ lw_tbl := by
  intro q hq
  unfold ndL at hq
  simp only [List.mem_cons, List.not_mem_nil, or_false] at hq
  rcases hq with rfl | rfl | rfl
  · exact tw_94
  · exact tw_96
  · exact tw_98
theorem nc_fl : ∀ q ∈ ncL, Cond.not (.castable q.1 q.2) ∈ flatC (Jvm.Cond.and given_1 narrow_1) := by
  intro q hq
  unfold ncL at hq
  cases hq
theorem fl_us : Cond.isRef (.static Bundle.tN "UNASSIGNED_STACK" Bundle.steD) ∈ flatC (Jvm.Cond.and given_1 narrow_1) := by decide +kernel
theorem fl_sp : Cond.isRef (.static Bundle.tN "SUPPRESSED_SENTINEL" Bundle.listD) ∈ flatC (Jvm.Cond.and given_1 narrow_1) := by decide +kernel
theorem fl_da : Cond.arrayOf (.static "java/util/ArrayList" "DEFAULTCAPACITY_EMPTY_ELEMENTDATA" "[Ljava/lang/Object;") (.object "java/lang/Object") ∈ flatC (Jvm.Cond.and given_1 narrow_1) := by decide +kernel
theorem fl_dl : Cond.eq (.length (.static "java/util/ArrayList" "DEFAULTCAPACITY_EMPTY_ELEMENTDATA" "[Ljava/lang/Object;")) (.int 0) ∈ flatC (Jvm.Cond.and given_1 narrow_1) := by decide +kernel
theorem fl_mi : Cond.isRef (.mirror "[Ljava/lang/Object;") ∈ flatC (Jvm.Cond.and given_1 narrow_1) := by decide +kernel
theorem ev_start {s : State} {b : Nat} (hts : ∀ w ∈ lw_tbl, w.before #[Value.ref b] s = true) (hgv : (Jvm.Cond.and given_1 narrow_1).before #[Value.ref b] s = true) : ∃ z : ZE, zB z = s.heap.size ∧ EV z s s.heap := by
  have hU : ∀ w ∈ wU, w.before #[Value.ref b] s = true := fun w h => hts w (wU_tbl w h)
  have hs := flat_of_before _ hgv
  obtain ⟨c0, i0, K0⟩ := u_known (C := RJx4a65c) (T := TJx4a65c) (N := 3) (n := 3) hU inUL (hU _ tw_32)
  obtain ⟨c1, i1, K1⟩ := u_known (C := RX0) (T := TX0) (N := 11) (n := 11) hU inU0 (hU _ tw_291)
  obtain ⟨c2, i2, K2⟩ := u_known (C := RX1) (T := TX1) (N := 9) (n := 9) hU inU1 (hU _ tw_518)
  obtain ⟨c3, i3, K3⟩ := u_known (C := RX2) (T := TX2) (N := 9) (n := 9) hU inU2 (hU _ tw_446)
  obtain ⟨c4, i4, K4⟩ := u_known (C := RX3) (T := TX3) (N := 2) (n := 2) hU inU3 (hU _ tw_473)
  obtain ⟨c5, i5, K5⟩ := u_known (C := RX5) (T := TX5) (N := 8) (n := 8) hU inU5 (hU _ tw_24)
  obtain ⟨dC, dI, hKc⟩ : ∃ (dC : Nat → ClassId) (dI : Nat → Nat → Nat), ∀ (k : Nat) (q : vw_C), vwCl[k]? = some q → u_Kn s q.1 q.2.1 q.2.2 (dC k) (dI k) := by
    refine ⟨fun k => match k with | 0 => c0 | 1 => c1 | 2 => c2 | 3 => c3 | 4 => c4 | _ => c5, fun k => match k with | 0 => i0 | 1 => i1 | 2 => i2 | 3 => i3 | 4 => i4 | _ => i5, ?_⟩
    intro k q hq
    match k, hq with
    | 0, hq => cases hq; exact K0
    | 1, hq => cases hq; exact K1
    | 2, hq => cases hq; exact K2
    | 3, hq => cases hq; exact K3
    | 4, hq => cases hq; exact K4
    | 5, hq => cases hq; exact K5
    | k + 6, hq => simp [vwCl] at hq
  obtain ⟨aI, gI, mI, fI, gI1, hI⟩ := Cond.arrayClass_spec (hU _ tw_85)
  obtain ⟨mO, aO, gO, fO1, -, gO1, hO, fO⟩ := Cond.arrayOver_spec (hts _ tw_399)
  have hA : ∀ a : Nat, a < s.heap.size → ¬ (s.heap.size ≤ a) := fun a h => Nat.not_le.mpr h
  obtain ⟨t, ht, hT⟩ := va_Tof (ty := .object "java/lang/Object") (N := 0) (f := fun _ => .null) (A := fun q => s.heap.size ≤ q) (by decide) (hs _ fl_da) (va_eqt (hs _ fl_dl)) (fun j hj => absurd hj (Nat.not_lt_zero j)) hA
  have htl : t < s.heap.size := by
    obtain ⟨cell, h1, -⟩ := hT
    exact (Array.getElem?_eq_some_iff.mp h1).1
  refine ⟨((dC, dI), (aI, aI, aI, aO), t, s.heap.size), rfl, ⟨hKc, fun k q hk => ?_⟩, ⟨vx_Zqof (hts _ tw_117) (hU _ tw_6) (hs _ fl_us) hA, vx_Zqof (hts _ tw_119) (hU _ tw_6) (hs _ fl_sp) hA⟩, va_Zof (hts _ tw_44) (hU _ tw_4) ht hA, ⟨htl, hT⟩, Nat.le_refl _, ⟨va_AO.of (hts _ tw_399), va_Dc.of (hts _ tw_676), va_Mi.of (hs _ fl_mi)⟩, fun q hq => va_Nw.of rfl (hts _ (nw_tbl q hq)), ⟨va_Nw.of rfl (hts _ tw_266), va_Nw.of rfl (hts _ tw_424)⟩, fun q hq => ?_, fun q hq => va_Nc.of (hs _ (nc_fl q hq)), fun q hq => va_Nw.of rfl (hts _ (nd_tbl q hq))⟩
  · match k, hk with
    | 0, hk => cases hk; exact ⟨fun n z => ⟨fun k h => (by cases h), gI, gI1, mI, hI⟩, fI⟩
    | 1, hk => cases hk; exact ⟨fun n z => ⟨fun k h => (by cases h), gI, gI1, mI, hI⟩, fI⟩
    | 2, hk => cases hk; exact ⟨fun n z => ⟨fun k h => (by cases h), gI, gI1, mI, hI⟩, fI⟩
    | 3, hk => cases hk; exact ⟨fun n z => ⟨fun k h => (by cases h), gO, gO1, mO, hO⟩, gO, mO, gO1, hO, fO1, fO⟩
    | k + 4, hk => simp [tysZ] at hk
  · have h1 := hts _ (str_tbl q hq)
    obtain ⟨_, _, _, a, _, _, _, _, _, he⟩ := Cond.stringRef_spec K5.2.1 h1
    exact ⟨a, vk_R.of h1 he⟩
