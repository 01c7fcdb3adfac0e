/-! ===== the law: parts are compared ===== -/
section LCK
variable {p : Program} {e : Env} {s : State} {m : MethodId} {args : Array Value} {below : List Frame} {meth : Method} {c : Code} {H : Heap} {locs : List Loc} {cells slots : Nat} {Q : State → Prop} {ls : Array Slot} {z : ZE} {b L qx : Nat} {qa : Nat → Nat} {xs : Nat → Int32} {g gm G : GS}
theorem ar_8 {g gm : GS} {i : Nat} {x : Int32} (h : AR g gm) : AR g (gup gm 8 i x) := h
theorem ar_9 {g gm : GS} {i : Nat} {x : Int32} (h : AR g gm) : AR g (gup gm 9 i x) := h
theorem up_all {gm : GS} {k q : Nat} {f : Nat → Int32} (h : ∀ p, p < q → gm k p = f p) : ∀ p, p < q + 1 → gup gm k q (f q) k p = f p := fun p hp => by
  by_cases e : p = q
  · subst e; exact gup_s
  · rw [gup_i e]; exact h p (by omega)
theorem up_if {gm : GS} {k q n : Nat} {f f' : Nat → Int32} (h : ∀ p, p < n → gm k p = if p < q then f' p else f p) : ∀ p, p < n → gup gm k q (f' q) k p = if p < q + 1 then f' p else f p := fun p hp => by
  by_cases e : p = q
  · subst e; rw [gup_s, if_pos (Nat.lt_succ_self _)]
  · rw [gup_i e, h p hp]
    by_cases e2 : p < q
    · rw [if_pos e2, if_pos (by omega)]
    · rw [if_neg e2, if_neg (by omega)]
theorem brk_k {g : GS} {j n : Nat} (hB : BD g) (hj : j < nj g) (h1 : 1 ≤ n) (h2 : n ≤ 24) : (sp_breaksIn g (nI j) (nI n)).1 = 0 ∨ (sp_breaksIn g (nI j) (nI n)).1 = 3 := by
  rw [t_breaksIn hB hj h1 h2]
  split
  · exact Or.inl rfl
  · exact Or.inr rfl
set_option maxHeartbeats 4000000 in
set_option maxRecDepth 100000 in
/-- the parts are as the law has them -/
theorem law_1276 (l : Launch) (hst : l.stackTraces = false) (S : CallFix p m c cL_law 26 s args wU RL) (hE : EV z s s.heap) (hB : BD g) (hA : AR g gm) (u15 ah : Nat) (ha1 : 1 ≤ ah) (ha2 : ah ≤ 24) (hW : LI z qx qa (g) gm H) (hS : va_S (zA z) s.heap H locs) (hl : lv_has ls 26 [(0, .ref (b)), (1, .ref (qx)), (2, .ref (qa 0)), (3, .ref (qa 1)), (4, .ref (qa 2)), (5, .ref (qa 3)), (6, .ref (qa 4)), (7, .ref (qa 5)), (8, .ref (qa 6)), (9, .ref (qa 7)), (10, .ref (qa 8)), (11, .ref (qa 9)), (12, .int 1), (13, .int (nI (nj g))), (14, .int (nI (mo g))), (15, .int (nI u15)), (20, .int (nI ah)), (21, .int (nI 0))]) (hf : cells + 24 ≤ room_1.cells ∧ slots + 144 ≤ room_1.slots)
    (kk : ∀ (gm : GS) (H : Heap) (locs : List Loc) (ls : Array Slot), AR g gm → (∀ p, p < 6 → gm 8 p = wdk g p 0) → LI z qx qa (g) gm H → va_S (zA z) s.heap H locs → lv_has ls 26 [(0, .ref (b)), (1, .ref (qx)), (2, .ref (qa 0)), (3, .ref (qa 1)), (4, .ref (qa 2)), (5, .ref (qa 3)), (6, .ref (qa 4)), (7, .ref (qa 5)), (8, .ref (qa 6)), (9, .ref (qa 7)), (10, .ref (qa 8)), (11, .ref (qa 9)), (12, .int 1), (13, .int (nI (nj g))), (14, .int (nI (mo g))), (15, .int (nI u15)), (20, .int (nI ah))] → W p l e room_1 s m args below meth c H locs (cells + 24) (slots + 144) Q (F0 m 1402 ls [])) : W p l e room_1 s m args below meth c H locs (cells) (slots) Q (F0 m 1276 ls []) := by
  have hx := S.1
  have hb := S.2.1
  have hown := S.2.2.2.1
  have hts := S.2.2.2.2
  have hml := S.2.2.1
  have lp_1276 : ∀ (k9 : Nat) (q : Nat) (gm : GS) (hq : q ≤ 6) (hA : AR g gm) (h8 : ∀ p, p < q → gm 8 p = wdk g p 0), 6 - q < k9 → ∀ (H : Heap) (locs : List Loc), LI z qx qa (g) gm H → va_S (zA z) s.heap H locs → ∀ (ls : Array Slot), lv_has ls 26 [(0, .ref (b)), (1, .ref (qx)), (2, .ref (qa 0)), (3, .ref (qa 1)), (4, .ref (qa 2)), (5, .ref (qa 3)), (6, .ref (qa 4)), (7, .ref (qa 5)), (8, .ref (qa 6)), (9, .ref (qa 7)), (10, .ref (qa 8)), (11, .ref (qa 9)), (12, .int 1), (13, .int (nI (nj g))), (14, .int (nI (mo g))), (15, .int (nI u15)), (20, .int (nI ah)), (21, .int (nI q))] → W p l e room_1 s m args below meth c H locs (cells + 4 * q) (slots + 24 * q) Q (F0 m 1276 ls []) := by
    intro k9
    induction k9 with
    | zero => intro q gm hq hA h8 h9; exact absurd h9 (Nat.not_lt_zero _)
    | succ k9 ih_1276 =>
      intro q gm hq hA h8 hk9 H locs hW hS ls hl
      refine lv_iload hx hb dL_law_1276 (lv_at hl 17 rfl) ?_
      refine lv_bipush (v := 6) hx hb dL_law_1278 (by decide) ?_
      rw [show (6 : Int32) = nI 6 from rfl]
      refine g_icmp_ge S (by omega) (by omega) (tgt := 1402) dL_law_1280 (by decide) (fun c_1280 => ?_) (fun c_1280 => ?_)
      · obtain rfl : q = 6 := by omega
        refine W.widen (k := cells + 24) (n := slots + 144) (by omega) (by omega) ?_
        exact kk _ _ _ _ hA h8 hW hS (lv_sub hl [0, 1, 2, 3, 4, 5, 6, 7, 8, 9, 10, 11, 12, 13, 14, 15, 16] rfl)
      · refine lv_aload hx hb dL_law_1283 (lv_at hl 10 rfl) ?_
        refine lv_iload hx hb dL_law_1285 (lv_at hl 17 rfl) ?_
        refine lv_aload hx hb dL_law_1287 (lv_at hl 6 rfl) ?_
        refine lv_iload hx hb dL_law_1289 (lv_at hl 17 rfl) ?_
        refine l_ald (v := g 22 (q)) (j := q) S hE hW 4 rfl (vp_in_nI (show q < 6 from (by omega)) (by decide)) (nI_clamp (by omega)) (hA.a4 (by omega)) dL_law_1291 ?_
        refine lv_topi (fun y_2 ey_2 => ?_)
        obtain rfl : y_2 = wdk g q 0 := ey_2.trans rfl
        refine l_ast (j := q) S hE hS hW 8 rfl (vp_in_nI (show q < 6 from (by omega)) (by decide)) (nI_clamp (by omega)) dL_law_1292 (fun H locs hW hS => ?_)
        refine lv_aload hx hb dL_law_1293 (lv_at hl 5 rfl) ?_
        refine lv_iload hx hb dL_law_1295 (lv_at hl 17 rfl) ?_
        refine l_ald (v := g 20 (q)) (j := q) S hE hW 3 rfl (vp_in_nI (show q < 6 from (by omega)) (by decide)) (nI_clamp (by omega)) ((gup_k (by decide)).trans (hA.a3 (by omega))) dL_law_1297 ?_
        refine lv_aload hx hb dL_law_1298 (lv_at hl 5 rfl) ?_
        refine lv_iload hx hb dL_law_1300 (lv_at hl 17 rfl) ?_
        refine l_ald (v := g 20 (q)) (j := q) S hE hW 3 rfl (vp_in_nI (show q < 6 from (by omega)) (by decide)) (nI_clamp (by omega)) ((gup_k (by decide)).trans (hA.a3 (by omega))) dL_law_1302 ?_
        refine lv_iload hx hb dL_law_1303 (lv_at hl 17 rfl) ?_
        refine lv_iconst (v := 3) hx hb dL_law_1305 (by decide) ?_
        refine lv_irem hx hb dL_law_1306 (by decide) ?_
        rw [show (nI q : Int32) - nI q / 3 * 3 = nI ((q) % 3) from pk_rem (d := 3) (by omega) (by decide) (by decide)]
        refine lv_aload hx hb dL_law_1307 (lv_at hl 6 rfl) ?_
        refine lv_iload hx hb dL_law_1309 (lv_at hl 17 rfl) ?_
        refine l_ald (v := g 22 (q)) (j := q) S hE hW 4 rfl (vp_in_nI (show q < 6 from (by omega)) (by decide)) (nI_clamp (by omega)) ((gup_k (by decide)).trans (hA.a4 (by omega))) dL_law_1311 ?_
        refine lv_aload hx hb dL_law_1312 (lv_at hl 4 rfl) ?_
        refine lv_iload hx hb dL_law_1314 (lv_at hl 17 rfl) ?_
        refine l_ald (v := g 21 (q)) (j := q) S hE hW 2 rfl (vp_in_nI (show q < 6 from (by omega)) (by decide)) (nI_clamp (by omega)) ((gup_k (by decide)).trans (hA.a2 (by omega))) dL_law_1316 ?_
        refine lv_isub hx hb dL_law_1317 ?_
        refine g_callS (As := [.int (g 20 (q)), .int (nI ((q) % 3)), .int ((g 22 (q)) - (g 21 (q)))]) (rest := [.int (g 20 (q))]) S hE hS (c_L_moved l z (g 20 (q)) (nI ((q) % 3)) ((g 22 (q)) - (g 21 (q)))) (cwS 3 hts (gU_S tw_650 tw_651 tw_0 tw_652) rfl rfl rfl (by decide +kernel) ⟨Nat.le_of_ble_eq_true rfl, Nat.le_of_ble_eq_true rfl⟩) trivial rfl hl.1 rfl (Nat.le_of_ble_eq_true rfl) dL_law_1318 ⟨Nat.le_trans (by omega) hf.1, Nat.le_trans (by omega) hf.2⟩ ?_
        refine lv_iadd hx hb dL_law_1321 ?_
        refine lv_topi (fun y_3 ey_3 => ?_)
        obtain rfl : y_3 = wAt g q (g 22 q) := ey_3.trans (hB.now (by omega) _)
        refine lv_istore (lv' := [(22, .int (wAt g q (g 22 q))), (0, .ref (b)), (1, .ref (qx)), (2, .ref (qa 0)), (3, .ref (qa 1)), (4, .ref (qa 2)), (5, .ref (qa 3)), (6, .ref (qa 4)), (7, .ref (qa 5)), (8, .ref (qa 6)), (9, .ref (qa 7)), (10, .ref (qa 8)), (11, .ref (qa 9)), (12, .int 1), (13, .int (nI (nj g))), (14, .int (nI (mo g))), (15, .int (nI u15)), (20, .int (nI ah)), (21, .int (nI q))]) hx hb dL_law_1322 hl (by decide) rfl (fun ls hl => ?_)
        refine lv_iload hx hb dL_law_1324 (lv_at hl 13 rfl) ?_
        refine lv_if_eq (tgt := 1393) hx hb dL_law_1326 (by decide) (fun h9 => absurd h9 (by decide)) (fun _ => ?_)
        refine lv_aload_n hx hb dL_law_1329 rfl (lv_at hl 2 rfl) ?_
        refine lv_iload hx hb dL_law_1330 (lv_at hl 18 rfl) ?_
        refine lv_iconst (v := 2) hx hb dL_law_1332 (by decide) ?_
        refine l_pcall (As := [.int (nI q), .int 2]) (rest := []) (sp := sp_ofPart g (nI q) (2)) (Ea := xI) (Eb := xA) (Ec := xI) S hE hS hW ((t_ofPart hB (by omega)).1) (fun w => c_X5_ofPart l z hst w (g) (gup gm 8 (q) (wdk g q 0)) (fun _ => 0) hB.ok (nI q) (2)) (cwV 2 hts (gU_V tw_580 tw_581 tw_582 tw_1 tw_583) rfl rfl rfl (by decide +kernel) ⟨Nat.le_of_ble_eq_true rfl, Nat.le_of_ble_eq_true rfl⟩) rfl hl.1 rfl (Nat.le_of_ble_eq_true rfl) dL_law_1333 ⟨Nat.le_trans (by omega) hf.1, Nat.le_trans (by omega) hf.2⟩ (fun H locs hW hS => ?_)
        refine lv_aload hx hb dL_law_1336 (lv_at hl 7 rfl) ?_
        refine lv_iload hx hb dL_law_1338 (lv_at hl 18 rfl) ?_
        refine l_ald (v := g 22 (q)) (j := q) S hE hW 4 rfl (vp_in_nI (show q < 6 from (by omega)) (by decide)) (nI_clamp (by omega)) ((gup_k (by decide)).trans (hA.a4 (by omega))) dL_law_1340 ?_
        refine lv_icmp_ne (tgt := 1393) hx hb dL_law_1341 (by decide) (fun q9 => absurd (rfl) q9) (fun c_1341_3 => ?_)
        refine lv_aload_n hx hb dL_law_1344 rfl (lv_at hl 2 rfl) ?_
        refine lv_iload hx hb dL_law_1345 (lv_at hl 18 rfl) ?_
        refine lv_iconst (v := 1) hx hb dL_law_1347 (by decide) ?_
        refine l_pcall (As := [.int (nI q), .int 1]) (rest := []) (sp := sp_ofPart g (nI q) (1)) (Ea := xI) (Eb := xA) (Ec := xI) S hE hS hW ((t_ofPart hB (by omega)).2.1) (fun w => c_X5_ofPart l z hst w (g) (gup gm 8 (q) (wdk g q 0)) (fun _ => 0) hB.ok (nI q) (1)) (cwV 2 hts (gU_V tw_580 tw_581 tw_582 tw_1 tw_583) rfl rfl rfl (by decide +kernel) ⟨Nat.le_of_ble_eq_true rfl, Nat.le_of_ble_eq_true rfl⟩) rfl hl.1 rfl (Nat.le_of_ble_eq_true rfl) dL_law_1348 ⟨Nat.le_trans (by omega) hf.1, Nat.le_trans (by omega) hf.2⟩ (fun H locs hW hS => ?_)
        refine lv_iload hx hb dL_law_1351 (lv_at hl 0 rfl) ?_
        refine lv_icmp_ne (tgt := 1393) hx hb dL_law_1353 (by decide) (fun q9 => absurd (rfl) q9) (fun c_1353_4 => ?_)
        refine lv_aload_n hx hb dL_law_1356 rfl (lv_at hl 2 rfl) ?_
        refine lv_iload hx hb dL_law_1357 (lv_at hl 18 rfl) ?_
        refine lv_iconst (v := 3) hx hb dL_law_1359 (by decide) ?_
        refine l_pcall (As := [.int (nI q), .int 3]) (rest := []) (sp := sp_ofPart g (nI q) (3)) (Ea := xI) (Eb := xA) (Ec := xI) S hE hS hW ((t_ofPart hB (by omega)).2.2) (fun w => c_X5_ofPart l z hst w (g) (gup gm 8 (q) (wdk g q 0)) (fun _ => 0) hB.ok (nI q) (3)) (cwV 2 hts (gU_V tw_580 tw_581 tw_582 tw_1 tw_583) rfl rfl rfl (by decide +kernel) ⟨Nat.le_of_ble_eq_true rfl, Nat.le_of_ble_eq_true rfl⟩) rfl hl.1 rfl (Nat.le_of_ble_eq_true rfl) dL_law_1360 ⟨Nat.le_trans (by omega) hf.1, Nat.le_trans (by omega) hf.2⟩ (fun H locs hW hS => ?_)
        refine lv_aload hx hb dL_law_1363 (lv_at hl 8 rfl) ?_
        refine lv_iload hx hb dL_law_1365 (lv_at hl 18 rfl) ?_
        refine l_ald (v := g 23 (q)) (j := q) S hE hW 5 rfl (vp_in_nI (show q < 6 from (by omega)) (by decide)) (nI_clamp (by omega)) ((gup_k (by decide)).trans (hA.a5 (by omega))) dL_law_1367 ?_
        refine lv_icmp_ne (tgt := 1393) hx hb dL_law_1368 (by decide) (fun q9 => absurd (rfl) q9) (fun c_1368_5 => ?_)
        refine lv_aload_n hx hb dL_law_1371 rfl (lv_at hl 2 rfl) ?_
        refine lv_iload hx hb dL_law_1372 (lv_at hl 18 rfl) ?_
        refine lv_iconst (v := 3) hx hb dL_law_1374 (by decide) ?_
        refine lv_irem hx hb dL_law_1375 (by decide) ?_
        rw [show (nI q : Int32) - nI q / 3 * 3 = nI ((q) % 3) from pk_rem (d := 3) (by omega) (by decide) (by decide)]
        refine lv_iconst (v := 0) hx hb dL_law_1376 (by decide) ?_
        refine l_pcall (As := [.int (nI ((q) % 3)), .int 0]) (rest := []) (sp := sp_ofBoard g (nI ((q) % 3)) (0)) (Ea := xI) (Eb := xA) (Ec := xI) S hE hS hW (t_ofBoard hB (by omega)) (fun w => c_X5_ofBoard l z hst w (g) (gup gm 8 (q) (wdk g q 0)) (fun _ => 0) hB.ok (nI ((q) % 3)) (0)) (cwV 2 hts (gU_V tw_575 tw_576 tw_577 tw_1 tw_578) rfl rfl rfl (by decide +kernel) ⟨Nat.le_of_ble_eq_true rfl, Nat.le_of_ble_eq_true rfl⟩) rfl hl.1 rfl (Nat.le_of_ble_eq_true rfl) dL_law_1377 ⟨Nat.le_trans (by omega) hf.1, Nat.le_trans (by omega) hf.2⟩ (fun H locs hW hS => ?_)
        refine lv_aload_n hx hb dL_law_1380 rfl (lv_at hl 4 rfl) ?_
        refine lv_iload hx hb dL_law_1381 (lv_at hl 18 rfl) ?_
        refine lv_iconst (v := 3) hx hb dL_law_1383 (by decide) ?_
        refine lv_irem hx hb dL_law_1384 (by decide) ?_
        rw [show (nI q : Int32) - nI q / 3 * 3 = nI ((q) % 3) from pk_rem (d := 3) (by omega) (by decide) (by decide)]
        refine l_ald (v := g 12 ((q) % 3)) (j := (q) % 3) S hE hW 1 rfl (vp_in_nI (show (q) % 3 < 3 from (by omega)) (by decide)) (nI_clamp (by omega)) ((gup_k (by decide)).trans (hA.a1 (by omega))) dL_law_1385 ?_
        refine lv_icmp_ne (tgt := 1393) hx hb dL_law_1386 (by decide) (fun q9 => absurd (rfl) q9) (fun c_1386_6 => ?_)
        refine lv_iconst (v := 1) hx hb dL_law_1389 (by decide) ?_
        refine lv_goto (tgt := 1394) hx hb dL_law_1390 (by decide) ?_
        refine lv_istore (lv' := [(12, .int 1), (22, .int (wAt g q (g 22 q))), (0, .ref (b)), (1, .ref (qx)), (2, .ref (qa 0)), (3, .ref (qa 1)), (4, .ref (qa 2)), (5, .ref (qa 3)), (6, .ref (qa 4)), (7, .ref (qa 5)), (8, .ref (qa 6)), (9, .ref (qa 7)), (10, .ref (qa 8)), (11, .ref (qa 9)), (13, .int (nI (nj g))), (14, .int (nI (mo g))), (15, .int (nI u15)), (20, .int (nI ah)), (21, .int (nI q))]) hx hb dL_law_1394 hl (by decide) rfl (fun ls hl => ?_)
        refine lv_iinc (v := nI (q + 1)) (lv' := [(21, .int (nI (q + 1))), (12, .int 1), (22, .int (wAt g q (g 22 q))), (0, .ref (b)), (1, .ref (qx)), (2, .ref (qa 0)), (3, .ref (qa 1)), (4, .ref (qa 2)), (5, .ref (qa 3)), (6, .ref (qa 4)), (7, .ref (qa 5)), (8, .ref (qa 6)), (9, .ref (qa 7)), (10, .ref (qa 8)), (11, .ref (qa 9)), (13, .int (nI (nj g))), (14, .int (nI (mo g))), (15, .int (nI u15)), (20, .int (nI ah))]) hx hb dL_law_1396 hl (k := 18) rfl (nI_1 _) (by decide) rfl (fun ls hl => ?_)
        refine lv_goto (tgt := 1276) hx hb dL_law_1399 (by decide) ?_
        refine W.widen (k := cells + 4 * (q + 1)) (n := slots + 24 * (q + 1)) (by omega) (by omega) ?_
        exact ih_1276 (q + 1) _ (by omega) (ar_8 hA) (up_all (f := fun p => wdk g p 0) h8) (by omega) _ _ hW hS ls (lv_sub hl [3, 4, 5, 6, 7, 8, 9, 10, 11, 12, 13, 14, 1, 15, 16, 17, 18, 0] rfl)
  refine W.widen (k := cells + 4 * 0) (n := slots + 24 * 0) (by omega) (by omega) ?_
  exact lp_1276 ((6 - 0) + 1) 0 _ (by omega) hA (fun p hp => absurd hp (Nat.not_lt_zero p)) (Nat.lt_succ_self _) _ _ hW hS ls (lv_sub hl [0, 1, 2, 3, 4, 5, 6, 7, 8, 9, 10, 11, 12, 13, 14, 15, 16, 17] rfl)
set_option maxHeartbeats 4000000 in
set_option maxRecDepth 100000 in
/-- first -/
theorem law_1405 (l : Launch) (hst : l.stackTraces = false) (S : CallFix p m c cL_law 26 s args wU RL) (hE : EV z s s.heap) (hB : BD g) (hA : AR g gm) (u15 ah : Nat) (ha1 : 1 ≤ ah) (ha2 : ah ≤ 24) (h8 : ∀ p, p < 6 → gm 8 p = wdk g p 0) (hW : LI z qx qa (g) gm H) (hS : va_S (zA z) s.heap H locs) (hl : lv_has ls 26 [(0, .ref (b)), (1, .ref (qx)), (2, .ref (qa 0)), (3, .ref (qa 1)), (4, .ref (qa 2)), (5, .ref (qa 3)), (6, .ref (qa 4)), (7, .ref (qa 5)), (8, .ref (qa 6)), (9, .ref (qa 7)), (10, .ref (qa 8)), (11, .ref (qa 9)), (12, .int 1), (13, .int (nI (nj g))), (14, .int (nI (mo g))), (15, .int (nI u15)), (20, .int (nI ah)), (21, .int (nI 0))]) (hf : cells + 0 ≤ room_1.cells ∧ slots + 0 ≤ room_1.slots)
    (kk : ∀ (gm : GS) (H : Heap) (locs : List Loc) (ls : Array Slot), AR g gm → (∀ p, p < 6 → gm 8 p = wdk g p 0) → (∀ j, j < nj g → gm 9 j = fst g j 0) → LI z qx qa (g) gm H → va_S (zA z) s.heap H locs → lv_has ls 26 [(0, .ref (b)), (1, .ref (qx)), (2, .ref (qa 0)), (3, .ref (qa 1)), (4, .ref (qa 2)), (5, .ref (qa 3)), (6, .ref (qa 4)), (7, .ref (qa 5)), (8, .ref (qa 6)), (9, .ref (qa 7)), (10, .ref (qa 8)), (11, .ref (qa 9)), (12, .int 1), (13, .int (nI (nj g))), (14, .int (nI (mo g))), (15, .int (nI u15)), (20, .int (nI ah))] → W p l e room_1 s m args below meth c H locs (cells + 0) (slots + 0) Q (F0 m 1424 ls [])) : W p l e room_1 s m args below meth c H locs (cells) (slots) Q (F0 m 1405 ls []) := by
  have hx := S.1
  have hb := S.2.1
  have hown := S.2.2.2.1
  have hts := S.2.2.2.2
  have hml := S.2.2.1
  have hnj := hB.lj
  have lp_1405 : ∀ (k9 : Nat) (i : Nat) (gm : GS) (hi : i ≤ nj g) (hA : AR g gm) (h8 : ∀ p, p < 6 → gm 8 p = wdk g p 0) (h9 : ∀ j, j < i → gm 9 j = fst g j 0), nj g - i < k9 → ∀ (H : Heap) (locs : List Loc), LI z qx qa (g) gm H → va_S (zA z) s.heap H locs → ∀ (ls : Array Slot), lv_has ls 26 [(0, .ref (b)), (1, .ref (qx)), (2, .ref (qa 0)), (3, .ref (qa 1)), (4, .ref (qa 2)), (5, .ref (qa 3)), (6, .ref (qa 4)), (7, .ref (qa 5)), (8, .ref (qa 6)), (9, .ref (qa 7)), (10, .ref (qa 8)), (11, .ref (qa 9)), (12, .int 1), (13, .int (nI (nj g))), (14, .int (nI (mo g))), (15, .int (nI u15)), (20, .int (nI ah)), (21, .int (nI i))] → W p l e room_1 s m args below meth c H locs (cells) (slots) Q (F0 m 1405 ls []) := by
    intro k9
    induction k9 with
    | zero => intro i gm hi hA h8 h9 h9; exact absurd h9 (Nat.not_lt_zero _)
    | succ k9 ih_1405 =>
      intro i gm hi hA h8 h9 hk9 H locs hW hS ls hl
      refine lv_iload hx hb dL_law_1405 (lv_at hl 17 rfl) ?_
      refine lv_iload hx hb dL_law_1407 (lv_at hl 13 rfl) ?_
      refine g_icmp_ge S (by omega) (by omega) (tgt := 1424) dL_law_1409 (by decide) (fun c_1409 => ?_) (fun c_1409 => ?_)
      · obtain rfl : i = nj g := by omega
        refine W.widen (k := cells + 0) (n := slots + 0) (by omega) (by omega) ?_
        exact kk _ _ _ _ hA h8 h9 hW hS (lv_sub hl [0, 1, 2, 3, 4, 5, 6, 7, 8, 9, 10, 11, 12, 13, 14, 15, 16] rfl)
      · refine lv_aload hx hb dL_law_1412 (lv_at hl 11 rfl) ?_
        refine lv_iload hx hb dL_law_1414 (lv_at hl 17 rfl) ?_
        refine lv_iconst (v := (-1)) hx hb dL_law_1416 (by decide) ?_
        refine lv_topi (fun y_2 ey_2 => ?_)
        obtain rfl : y_2 = fst g i 0 := ey_2.trans rfl
        refine l_ast (j := i) S hE hS hW 9 rfl (vp_in_nI (show i < 12 from (by omega)) (by decide)) (nI_clamp (by omega)) dL_law_1417 (fun H locs hW hS => ?_)
        refine lv_iinc (v := nI (i + 1)) (lv' := [(21, .int (nI (i + 1))), (0, .ref (b)), (1, .ref (qx)), (2, .ref (qa 0)), (3, .ref (qa 1)), (4, .ref (qa 2)), (5, .ref (qa 3)), (6, .ref (qa 4)), (7, .ref (qa 5)), (8, .ref (qa 6)), (9, .ref (qa 7)), (10, .ref (qa 8)), (11, .ref (qa 9)), (12, .int 1), (13, .int (nI (nj g))), (14, .int (nI (mo g))), (15, .int (nI u15)), (20, .int (nI ah))]) hx hb dL_law_1418 hl (k := 17) rfl (nI_1 _) (by decide) rfl (fun ls hl => ?_)
        refine lv_goto (tgt := 1405) hx hb dL_law_1421 (by decide) ?_
        exact ih_1405 (i + 1) _ (by omega) (ar_9 hA) h8 (up_all (f := fun j => fst g j 0) h9) (by omega) _ _ hW hS ls (lv_sub hl [1, 2, 3, 4, 5, 6, 7, 8, 9, 10, 11, 12, 13, 14, 15, 16, 17, 0] rfl)
  exact lp_1405 ((nj g - 0) + 1) 0 _ (Nat.zero_le _) hA h8 (fun p hp => absurd hp (Nat.not_lt_zero p)) (Nat.lt_succ_self _) _ _ hW hS ls (lv_sub hl [0, 1, 2, 3, 4, 5, 6, 7, 8, 9, 10, 11, 12, 13, 14, 15, 16, 17] rfl)
end LCK
