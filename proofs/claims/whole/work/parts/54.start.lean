/-! ===== the law from its entry ===== -/
set_option maxHeartbeats 4000000 in
set_option maxRecDepth 100000 in
/-- THE LAW, from its entry -/
theorem whole_start {p : Program} {e : Env} {s : State} {m : MethodId} {below : List Frame} {meth : Method} {c : Code} (l : Launch) (hflags : l.flags = flags0) {b L : Nat} {xs : Nat → Int32} (hL : L ≤ 3584) (C0 : lw_At p s m meth c b L xs) : W p l e room_1 s m #[Value.ref b] below meth c s.heap [] 0 0 (lw_Z below #[Value.ref b] s) (entryFrame m ([Value.ref b] : List Value).toArray 7) := by
  have hst : l.stackTraces = false := by unfold Launch.stackTraces; rw [hflags]; decide
  obtain ⟨hx, hb, hr, hml, hown, hts0, hX, hbl, hlocks, hgv⟩ := id C0
  have hts : ∀ w ∈ wU, w.before #[Value.ref b] s = true := fun w h => hts0 w (wU_tbl w h)
  obtain ⟨z, hz, hE⟩ := ev_start hts0 hgv
  have S : CallFix p m c cL_law 7 s #[Value.ref b] wU RL := ⟨hx, hb, hml, hown, hts⟩
  have hS : va_S (zA z) s.heap s.heap [] := va_S.rf
  have hl := lv_entry ([.ref b]) (n := 7) (Nat.le_of_ble_eq_true rfl)
  rw [lg_entry_eq]
  generalize (lg_sl ([.ref b]) ++ List.replicate (7 - (lg_sl ([.ref b])).length) Slot.unset).toArray = ls at hl ⊢
  have hl : lv_has ls 7 [(0, .ref b)] := hl
  obtain ⟨q, hq⟩ : ∃ x : Nat, s.heap.size = x := ⟨_, rfl⟩
  refine g_new S hE hS (C := RX5) (T := TX5) (N := 8) (ci := 5) rfl inU5 tyX5 tyX5_ok tw_24 tw_25 tw_1 (fs := [.null, .null, .null, .null, .int 0, .int 0, .int 0, .int 0]) (fun j hj => by match j, hj with | 0, _ => rfl | 1, _ => rfl | 2, _ => rfl | 3, _ => rfl | 4, _ => rfl | 5, _ => rfl | 6, _ => rfl | 7, _ => rfl) ⟨Nat.le_of_ble_eq_true rfl, Nat.le_of_ble_eq_true rfl⟩ dL_law_0 hq (fun H hv zq oq hS => ?_)
  refine lv_dup hx hb dL_law_3 rfl ?_
  refine g_init (As := []) (rest := [.ref q]) S hE hS (c_X5_init l z q (q + 1) .null .null .null .null (.int 0) (.int 0) (.int 0) (.int 0)) (x_cwI 0 hts tw_26 tw_27 tw_1 tw_28 rfl rfl (by decide +kernel) ⟨Nat.le_of_ble_eq_true rfl, Nat.le_of_ble_eq_true rfl⟩ rfl) ⟨zq, ⟨by omega, by omega⟩, hv⟩ rfl hl.1 rfl (Nat.le_of_ble_eq_true rfl) dL_law_4 ⟨Nat.le_of_ble_eq_true rfl, Nat.le_of_ble_eq_true rfl⟩ (fun y _ (e9 : y = q) => by omega) (fun H2 locs hB hz2 ho2 hS => ?_)
  obtain ⟨q1, q2, q3, q4, hq14, hsh, hl1, hl2, hl3, hai⟩ := hB
  refine lv_astore_n (lv' := [(1, .ref q), (0, .ref b)]) hx hb dL_law_7 rfl hl (by decide) rfl (fun ls hl => ?_)
  have h4 : q4 < H2.size := hai.lt
  obtain ⟨md, hmd⟩ : ∃ x : Nat, H2.size = x := ⟨_, rfl⟩
  refine g_new S hE hS (C := RX6) (T := TX6) (N := 36) (ci := 6) rfl inU6 tyX6 tyX6_ok tw_734 tw_735 tw_6 (fs := (List.range 36).map (IF9 0 (fun _ => 0))) (fun j hj => by match j, hj with | 0, _ => rfl | 1, _ => rfl | 2, _ => rfl | 3, _ => rfl | 4, _ => rfl | 5, _ => rfl | 6, _ => rfl | 7, _ => rfl | 8, _ => rfl | 9, _ => rfl | 10, _ => rfl | 11, _ => rfl | 12, _ => rfl | 13, _ => rfl | 14, _ => rfl | 15, _ => rfl | 16, _ => rfl | 17, _ => rfl | 18, _ => rfl | 19, _ => rfl | 20, _ => rfl | 21, _ => rfl | 22, _ => rfl | 23, _ => rfl | 24, _ => rfl | 25, _ => rfl | 26, _ => rfl | 27, _ => rfl | 28, _ => rfl | 29, _ => rfl | 30, _ => rfl | 31, _ => rfl | 32, _ => rfl | 33, _ => rfl | 34, _ => rfl | 35, _ => rfl | n9 + 36, hj => omega) ⟨Nat.le_of_ble_eq_true rfl, Nat.le_of_ble_eq_true rfl⟩ dL_law_8 hmd (fun H3 hm zm om hS => ?_)
  refine lv_dup hx hb dL_law_11 rfl ?_
  refine g_init (As := []) (rest := [.ref md]) S hE hS (c_X6_init l z md (md + 1) (fun _ => 0)) (x_cwI 0 hts tw_736 tw_737 tw_6 tw_738 rfl rfl (by decide +kernel) ⟨Nat.le_of_ble_eq_true rfl, Nat.le_of_ble_eq_true rfl⟩ rfl) ⟨zm, ⟨by omega, by omega⟩, hm⟩ rfl hl.1 rfl (Nat.le_of_ble_eq_true rfl) dL_law_12 ⟨Nat.le_of_ble_eq_true rfl, Nat.le_of_ble_eq_true rfl⟩ (fun y _ (e9 : y = md) => by omega) (fun H4 locs hB hz4 ho4 hS => ?_)
  obtain ⟨A, hmo, har, hij⟩ := hB
  refine lv_astore_n (lv' := [(2, .ref md), (1, .ref q), (0, .ref b)]) hx hb dL_law_15 rfl hl (by decide) rfl (fun ls hl => ?_)
  refine lv_iconst (v := nI 1) hx hb dL_law_16 (by decide) ?_
  obtain ⟨u, hu⟩ : ∃ x : Nat, H4.size = x := ⟨_, rfl⟩
  refine g_newL (N := 1) S hE hS tw_1006 (by decide) ⟨Nat.le_of_ble_eq_true rfl, Nat.le_of_ble_eq_true rfl⟩ dL_law_17 hu (fun H5 hou zu ou hS => ?_)
  refine lv_astore_n (lv' := [(3, .ref u), (2, .ref md), (1, .ref q), (0, .ref b)]) hx hb dL_law_19 rfl hl (by decide) rfl (fun ls hl => ?_)
  refine lv_iconst (v := nI (7 * 0)) hx hb dL_law_20 (by decide) ?_
  refine lv_istore (lv' := [(4, .int (nI (7 * 0))), (3, .ref u), (2, .ref md), (1, .ref q), (0, .ref b)]) hx hb dL_law_21 hl (by decide) rfl (fun ls hl => ?_)
  have k5 : ∀ y : Nat, y < md → H5[y]? = H2[y]? := fun y hy => (ou y (by omega)).trans ((ho4 y (by omega) (show ¬ y = md by omega)).trans (om y (by omega)))
  have hAi : ∀ i, isA i = true → md < A i ∧ A i < u := fun i hi => by
    have h1 := (har i hi).1
    have h2 : A i < H4.size := (har i hi).2.lt
    omega
  have hmd4 : md < H4.size := hmo.lt
  obtain ⟨w, hw, hW⟩ := ww_init (z := z) (H := H5) (q := q) (l0 := q1) (l1 := q2) (l2 := q3) (ai := q4) (md := md) (u := u) (A := A) (by omega) (by omega) (by omega) (by omega) (by omega) (by omega) (by omega) hAi hij (hsh.kept (k5 q (by omega))) (hl1.kept (k5 q1 (by omega))) (hl2.kept (k5 q2 (by omega))) (hl3.kept (k5 q3 (by omega))) (hai.kept (k5 q4 (by omega))) (hmo.kept (ou md (by omega))) (fun i hi => (har i hi).2.kept (ou (A i) (hAi i hi).2)) hou
  refine W.widen (k := 37 + 4 * 0) (n := 1020 + 211 * 0) (Nat.le_of_ble_eq_true rfl) (Nat.le_of_ble_eq_true rfl) ?_
  exact law_loop l hst hL C0 hz hE (L + 1) 0 (Nat.zero_le _) (by omega) H5 _ ls ⟨w, g00, fun _ => 0, 0, fun _ => 0, fun _ => 0, hw, ok00, ⟨g00, hW, fun _ _ _ _ => rfl, rfl, rfl, rfl⟩⟩ hS (lv_sub hl [4, 3, 2, 1, 0] rfl)
