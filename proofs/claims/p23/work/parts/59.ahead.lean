/-! ===== the law: the look ahead ===== -/
section LCK
variable {p : Program} {e : Env} {s : State} {m : MethodId} {args : Array Value} {below : List Frame} {meth : Method} {c : Code} {H : Heap} {locs : List Loc} {cells slots : Nat} {Q : State → Prop} {ls : Array Slot} {z : ZE} {b L qx : Nat} {qa : Nat → Nat} {xs : Nat → Int32} {g gm G : GS}
set_option maxHeartbeats 4000000 in
set_option maxRecDepth 100000 in
/-- a month ahead: the parts -/
theorem law_1437 (l : Launch) (hst : l.stackTraces = false) (S : CallFix p m c cL_law 26 s args wU RL) (hE : EV z s s.heap) (hB : BD g) (hA : AR g gm) (u15 ah : Nat) (ha1 : 1 ≤ ah) (ha2 : ah ≤ 24) (k : Nat) (hk : k < ah) (h8 : ∀ p, p < 6 → gm 8 p = wdk g p k) (h9 : ∀ j, j < nj g → gm 9 j = fst g j k) (hW : LI z qx qa (g) gm H) (hS : va_S (zA z) s.heap H locs) (hl : lv_has ls 26 [(0, .ref (b)), (1, .ref (qx)), (2, .ref (qa 0)), (3, .ref (qa 1)), (4, .ref (qa 2)), (5, .ref (qa 3)), (6, .ref (qa 4)), (7, .ref (qa 5)), (8, .ref (qa 6)), (9, .ref (qa 7)), (10, .ref (qa 8)), (11, .ref (qa 9)), (12, .int 1), (13, .int (nI (nj g))), (14, .int (nI (mo g))), (15, .int (nI u15)), (20, .int (nI ah)), (21, .int (nI k)), (22, .int (nI 0))]) (hf : cells + 0 ≤ room_1.cells ∧ slots + 0 ≤ room_1.slots)
    (kk : ∀ (gm : GS) (H : Heap) (locs : List Loc) (ls : Array Slot), AR g gm → (∀ p, p < 6 → gm 8 p = wdk g p (k + 1)) → (∀ j, j < nj g → gm 9 j = fst g j k) → LI z qx qa (g) gm H → va_S (zA z) s.heap H locs → lv_has ls 26 [(0, .ref (b)), (1, .ref (qx)), (2, .ref (qa 0)), (3, .ref (qa 1)), (4, .ref (qa 2)), (5, .ref (qa 3)), (6, .ref (qa 4)), (7, .ref (qa 5)), (8, .ref (qa 6)), (9, .ref (qa 7)), (10, .ref (qa 8)), (11, .ref (qa 9)), (12, .int 1), (13, .int (nI (nj g))), (14, .int (nI (mo g))), (15, .int (nI u15)), (20, .int (nI ah)), (21, .int (nI k))] → W p l e room_1 s m args below meth c H locs (cells + 0) (slots + 0) Q (F0 m 1478 ls [])) : W p l e room_1 s m args below meth c H locs (cells) (slots) Q (F0 m 1437 ls []) := by
  have hx := S.1
  have hb := S.2.1
  have hown := S.2.2.2.1
  have hts := S.2.2.2.2
  have hml := S.2.2.1
  have hmo := hB.ok.l1
  have lp_1437 : ∀ (k9 : Nat) (q : Nat) (gm : GS) (hq : q ≤ 6) (hA : AR g gm) (h8 : ∀ p, p < 6 → gm 8 p = if p < q then wdk g p (k + 1) else wdk g p k) (h9 : ∀ j, j < nj g → gm 9 j = fst g j k), 6 - q < k9 → ∀ (H : Heap) (locs : List Loc), LI z qx qa (g) gm H → va_S (zA z) s.heap H locs → ∀ (ls : Array Slot), lv_has ls 26 [(0, .ref (b)), (1, .ref (qx)), (2, .ref (qa 0)), (3, .ref (qa 1)), (4, .ref (qa 2)), (5, .ref (qa 3)), (6, .ref (qa 4)), (7, .ref (qa 5)), (8, .ref (qa 6)), (9, .ref (qa 7)), (10, .ref (qa 8)), (11, .ref (qa 9)), (12, .int 1), (13, .int (nI (nj g))), (14, .int (nI (mo g))), (15, .int (nI u15)), (20, .int (nI ah)), (21, .int (nI k)), (22, .int (nI q))] → W p l e room_1 s m args below meth c H locs (cells) (slots) Q (F0 m 1437 ls []) := by
    intro k9
    induction k9 with
    | zero => intro q gm hq hA h8 h9 h9; exact absurd h9 (Nat.not_lt_zero _)
    | succ k9 ih_1437 =>
      intro q gm hq hA h8 h9 hk9 H locs hW hS ls hl
      refine lv_iload hx hb dL_law_1437 (lv_at hl 18 rfl) ?_
      refine lv_bipush (v := 6) hx hb dL_law_1439 (by decide) ?_
      rw [show (6 : Int32) = nI 6 from rfl]
      refine g_icmp_ge S (by omega) (by omega) (tgt := 1478) dL_law_1441 (by decide) (fun c_1441 => ?_) (fun c_1441 => ?_)
      · obtain rfl : q = 6 := by omega
        refine W.widen (k := cells + 0) (n := slots + 0) (by omega) (by omega) ?_
        exact kk _ _ _ _ hA (fun p hp => (h8 p hp).trans (if_pos hp)) h9 hW hS (lv_sub hl [0, 1, 2, 3, 4, 5, 6, 7, 8, 9, 10, 11, 12, 13, 14, 15, 16, 17] rfl)
      · refine lv_aload hx hb dL_law_1444 (lv_at hl 10 rfl) ?_
        refine lv_iload hx hb dL_law_1446 (lv_at hl 18 rfl) ?_
        refine lv_aload hx hb dL_law_1448 (lv_at hl 10 rfl) ?_
        refine lv_iload hx hb dL_law_1450 (lv_at hl 18 rfl) ?_
        refine l_ald (v := wdk g q k) (j := q) S hE hW 8 rfl (vp_in_nI (show q < 6 from (by omega)) (by decide)) (nI_clamp (by omega)) ((h8 q (by omega)).trans (if_neg (Nat.lt_irrefl _))) dL_law_1452 ?_
        refine lv_aload_n hx hb dL_law_1453 rfl (lv_at hl 2 rfl) ?_
        refine lv_iload hx hb dL_law_1454 (lv_at hl 14 rfl) ?_
        refine lv_iload hx hb dL_law_1456 (lv_at hl 17 rfl) ?_
        refine g_iadd S dL_law_1458 ?_
        refine lv_bipush (v := 12) hx hb dL_law_1459 (by decide) ?_
        refine lv_irem hx hb dL_law_1461 (by decide) ?_
        rw [show (nI ((mo g) + k) : Int32) - nI ((mo g) + k) / 12 * 12 = nI (((mo g) + k) % 12) from pk_rem (d := 12) (by omega) (by decide) (by decide)]
        refine l_ald (v := wea g (mo g + k)) (j := ((mo g) + k) % 12) S hE hW 0 rfl (vp_in_nI (show ((mo g) + k) % 12 < 12 from (by omega)) (by decide)) (nI_clamp (by omega)) (hA.a0 (Nat.mod_lt _ (by decide))) dL_law_1462 ?_
        refine lv_aload hx hb dL_law_1463 (lv_at hl 7 rfl) ?_
        refine lv_iload hx hb dL_law_1465 (lv_at hl 18 rfl) ?_
        refine l_ald (v := g 23 (q)) (j := q) S hE hW 5 rfl (vp_in_nI (show q < 6 from (by omega)) (by decide)) (nI_clamp (by omega)) (hA.a5 (by omega)) dL_law_1467 ?_
        refine g_callS (As := [.int (wdk g q k), .int (wea g (mo g + k)), .int (g 23 (q))]) (rest := [.int (nI q), .ref (qa 8)]) S hE hS (c_L_behind l z (wdk g q k) (wea g (mo g + k)) (g 23 (q)) (by obtain ⟨c9, hc9, ec9⟩ := hB.co (show q < 6 by omega); rw [ec9]; exact co_ne hc9)) (cwS 3 hts (gU_S tw_647 tw_648 tw_0 tw_649) rfl rfl rfl (by decide +kernel) ⟨Nat.le_of_ble_eq_true rfl, Nat.le_of_ble_eq_true rfl⟩) trivial rfl hl.1 rfl (Nat.le_of_ble_eq_true rfl) dL_law_1468 ⟨Nat.le_trans (by omega) hf.1, Nat.le_trans (by omega) hf.2⟩ ?_
        refine lv_topi (fun y_2 ey_2 => ?_)
        obtain rfl : y_2 = wdk g q (k + 1) := ey_2.trans (mz_lbh (mz_wdk hB (by omega) k) (hB.wea _) _)
        refine l_ast (j := q) S hE hS hW 8 rfl (vp_in_nI (show q < 6 from (by omega)) (by decide)) (nI_clamp (by omega)) dL_law_1471 (fun H locs hW hS => ?_)
        refine lv_iinc (v := nI (q + 1)) (lv' := [(22, .int (nI (q + 1))), (0, .ref (b)), (1, .ref (qx)), (2, .ref (qa 0)), (3, .ref (qa 1)), (4, .ref (qa 2)), (5, .ref (qa 3)), (6, .ref (qa 4)), (7, .ref (qa 5)), (8, .ref (qa 6)), (9, .ref (qa 7)), (10, .ref (qa 8)), (11, .ref (qa 9)), (12, .int 1), (13, .int (nI (nj g))), (14, .int (nI (mo g))), (15, .int (nI u15)), (20, .int (nI ah)), (21, .int (nI k))]) hx hb dL_law_1472 hl (k := 18) rfl (nI_1 _) (by decide) rfl (fun ls hl => ?_)
        refine lv_goto (tgt := 1437) hx hb dL_law_1475 (by decide) ?_
        exact ih_1437 (q + 1) _ (by omega) (ar_8 hA) (up_if (f' := fun p => wdk g p (k + 1)) (f := fun p => wdk g p k) h8) h9 (by omega) _ _ hW hS ls (lv_sub hl [1, 2, 3, 4, 5, 6, 7, 8, 9, 10, 11, 12, 13, 14, 15, 16, 17, 18, 0] rfl)
  exact lp_1437 ((6 - 0) + 1) 0 _ (by omega) hA (fun p hp => (h8 p hp).trans (if_neg (Nat.not_lt_zero p)).symm) h9 (Nat.lt_succ_self _) _ _ hW hS ls (lv_sub hl [0, 1, 2, 3, 4, 5, 6, 7, 8, 9, 10, 11, 12, 13, 14, 15, 16, 17, 18] rfl)
set_option maxHeartbeats 4000000 in
set_option maxRecDepth 100000 in
/-- a month ahead: the joints -/
theorem law_1481 (l : Launch) (hst : l.stackTraces = false) (S : CallFix p m c cL_law 26 s args wU RL) (hE : EV z s s.heap) (hB : BD g) (hA : AR g gm) (u15 ah : Nat) (ha1 : 1 ≤ ah) (ha2 : ah ≤ 24) (k : Nat) (hk : k < ah) (h8 : ∀ p, p < 6 → gm 8 p = wdk g p (k + 1)) (h9 : ∀ j, j < nj g → gm 9 j = fst g j k) (hW : LI z qx qa (g) gm H) (hS : va_S (zA z) s.heap H locs) (hl : lv_has ls 26 [(0, .ref (b)), (1, .ref (qx)), (2, .ref (qa 0)), (3, .ref (qa 1)), (4, .ref (qa 2)), (5, .ref (qa 3)), (6, .ref (qa 4)), (7, .ref (qa 5)), (8, .ref (qa 6)), (9, .ref (qa 7)), (10, .ref (qa 8)), (11, .ref (qa 9)), (12, .int 1), (13, .int (nI (nj g))), (14, .int (nI (mo g))), (15, .int (nI u15)), (20, .int (nI ah)), (21, .int (nI k)), (22, .int (nI 0))]) (hf : cells + 0 ≤ room_1.cells ∧ slots + 0 ≤ room_1.slots)
    (kk : ∀ (gm : GS) (H : Heap) (locs : List Loc) (ls : Array Slot), AR g gm → (∀ p, p < 6 → gm 8 p = wdk g p (k + 1)) → (∀ j, j < nj g → gm 9 j = fst g j (k + 1)) → LI z qx qa (g) gm H → va_S (zA z) s.heap H locs → lv_has ls 26 [(0, .ref (b)), (1, .ref (qx)), (2, .ref (qa 0)), (3, .ref (qa 1)), (4, .ref (qa 2)), (5, .ref (qa 3)), (6, .ref (qa 4)), (7, .ref (qa 5)), (8, .ref (qa 6)), (9, .ref (qa 7)), (10, .ref (qa 8)), (11, .ref (qa 9)), (12, .int 1), (13, .int (nI (nj g))), (14, .int (nI (mo g))), (15, .int (nI u15)), (20, .int (nI ah)), (21, .int (nI k))] → W p l e room_1 s m args below meth c H locs (cells + 0) (slots + 0) Q (F0 m 1566 ls [])) : W p l e room_1 s m args below meth c H locs (cells) (slots) Q (F0 m 1481 ls []) := by
  have hx := S.1
  have hb := S.2.1
  have hown := S.2.2.2.1
  have hts := S.2.2.2.2
  have hml := S.2.2.1
  have hnj := hB.lj
  have lp_1481 : ∀ (k9 : Nat) (i : Nat) (gm : GS) (hi : i ≤ nj g) (hA : AR g gm) (h8 : ∀ p, p < 6 → gm 8 p = wdk g p (k + 1)) (h9 : ∀ j, j < nj g → gm 9 j = if j < i then fst g j (k + 1) else fst g j k), nj g - i < k9 → ∀ (H : Heap) (locs : List Loc), LI z qx qa (g) gm H → va_S (zA z) s.heap H locs → ∀ (ls : Array Slot), lv_has ls 26 [(0, .ref (b)), (1, .ref (qx)), (2, .ref (qa 0)), (3, .ref (qa 1)), (4, .ref (qa 2)), (5, .ref (qa 3)), (6, .ref (qa 4)), (7, .ref (qa 5)), (8, .ref (qa 6)), (9, .ref (qa 7)), (10, .ref (qa 8)), (11, .ref (qa 9)), (12, .int 1), (13, .int (nI (nj g))), (14, .int (nI (mo g))), (15, .int (nI u15)), (20, .int (nI ah)), (21, .int (nI k)), (22, .int (nI i))] → W p l e room_1 s m args below meth c H locs (cells) (slots) Q (F0 m 1481 ls []) := by
    intro k9
    induction k9 with
    | zero => intro i gm hi hA h8 h9 h9; exact absurd h9 (Nat.not_lt_zero _)
    | succ k9 ih_1481 =>
      intro i gm hi hA h8 h9 hk9 H locs hW hS ls hl
      refine lv_iload hx hb dL_law_1481 (lv_at hl 18 rfl) ?_
      refine lv_iload hx hb dL_law_1483 (lv_at hl 13 rfl) ?_
      refine g_icmp_ge S (by omega) (by omega) (tgt := 1566) dL_law_1485 (by decide) (fun c_1485 => ?_) (fun c_1485 => ?_)
      · obtain rfl : i = nj g := by omega
        refine W.widen (k := cells + 0) (n := slots + 0) (by omega) (by omega) ?_
        exact kk _ _ _ _ hA h8 (fun j hj => (h9 j hj).trans (if_pos hj)) hW hS (lv_sub hl [0, 1, 2, 3, 4, 5, 6, 7, 8, 9, 10, 11, 12, 13, 14, 15, 16, 17] rfl)
      · refine lv_aload hx hb dL_law_1488 (lv_at hl 9 rfl) ?_
        refine lv_iload hx hb dL_law_1490 (lv_at hl 18 rfl) ?_
        refine l_ald (v := stt g (i)) (j := i) S hE hW 7 rfl (vp_in_nI (show i < 12 from (by omega)) (by decide)) (nI_clamp (by omega)) (hA.a7 (by omega)) dL_law_1492 ?_
        refine lv_iconst (v := 1) hx hb dL_law_1493 (by decide) ?_
        refine lv_icmp_ne (tgt := 1535) hx hb dL_law_1494 (by decide) (fun c_1494_1 => ?_) (fun c_1494_1 => ?_)
        · refine lv_iconst (v := nI 0) hx hb dL_law_1535 (by decide) ?_
          refine lv_istore (lv' := [(23, .int (nI 0)), (0, .ref (b)), (1, .ref (qx)), (2, .ref (qa 0)), (3, .ref (qa 1)), (4, .ref (qa 2)), (5, .ref (qa 3)), (6, .ref (qa 4)), (7, .ref (qa 5)), (8, .ref (qa 6)), (9, .ref (qa 7)), (10, .ref (qa 8)), (11, .ref (qa 9)), (12, .int 1), (13, .int (nI (nj g))), (14, .int (nI (mo g))), (15, .int (nI u15)), (20, .int (nI ah)), (21, .int (nI k)), (22, .int (nI i))]) hx hb dL_law_1536 hl (by decide) rfl (fun ls hl => ?_)
          refine lv_aload hx hb dL_law_1538 (lv_at hl 12 rfl) ?_
          refine lv_iload hx hb dL_law_1540 (lv_at hl 19 rfl) ?_
          refine lv_iload hx hb dL_law_1542 (lv_at hl 0 rfl) ?_
          refine lv_if_eq (tgt := 1554) hx hb dL_law_1544 (by decide) (fun _ => ?_) (fun h9 => absurd h9 (by decide))
          refine lv_aload hx hb dL_law_1554 (lv_at hl 12 rfl) ?_
          refine lv_iload hx hb dL_law_1556 (lv_at hl 19 rfl) ?_
          refine l_ald (v := fst g i k) (j := i) S hE hW 9 rfl (vp_in_nI (show i < 12 from (by omega)) (by decide)) (nI_clamp (by omega)) ((h9 i (by omega)).trans (if_neg (Nat.lt_irrefl _))) dL_law_1558 ?_
          refine lv_topi (fun y_9 ey_9 => ?_)
          obtain rfl : y_9 = fst g i (k + 1) := ey_9.trans (fst_n (Or.inl (hld_0 hB (by omega) c_1494_1)))
          refine l_ast (j := i) S hE hS hW 9 rfl (vp_in_nI (show i < 12 from (by omega)) (by decide)) (nI_clamp (by omega)) dL_law_1559 (fun H locs hW hS => ?_)
          refine lv_iinc (v := nI (i + 1)) (lv' := [(22, .int (nI (i + 1))), (23, .int (nI 0)), (0, .ref (b)), (1, .ref (qx)), (2, .ref (qa 0)), (3, .ref (qa 1)), (4, .ref (qa 2)), (5, .ref (qa 3)), (6, .ref (qa 4)), (7, .ref (qa 5)), (8, .ref (qa 6)), (9, .ref (qa 7)), (10, .ref (qa 8)), (11, .ref (qa 9)), (12, .int 1), (13, .int (nI (nj g))), (14, .int (nI (mo g))), (15, .int (nI u15)), (20, .int (nI ah)), (21, .int (nI k))]) hx hb dL_law_1560 hl (k := 19) rfl (nI_1 _) (by decide) rfl (fun ls hl => ?_)
          refine lv_goto (tgt := 1481) hx hb dL_law_1563 (by decide) ?_
          exact ih_1481 (i + 1) _ (by omega) (ar_9 hA) h8 (up_if (f' := fun j => fst g j (k + 1)) (f := fun j => fst g j k) h9) (by omega) _ _ hW hS ls (lv_sub hl [2, 3, 4, 5, 6, 7, 8, 9, 10, 11, 12, 13, 14, 15, 16, 17, 18, 19, 0] rfl)
        · refine lv_aload hx hb dL_law_1497 (lv_at hl 11 rfl) ?_
          refine lv_iload hx hb dL_law_1499 (lv_at hl 18 rfl) ?_
          refine l_ald (v := fst g i k) (j := i) S hE hW 9 rfl (vp_in_nI (show i < 12 from (by omega)) (by decide)) (nI_clamp (by omega)) ((h9 i (by omega)).trans (if_neg (Nat.lt_irrefl _))) dL_law_1501 ?_
          refine lv_if_ge (tgt := 1535) hx hb dL_law_1502 (by decide) (fun c_1502_2 => ?_) (fun c_1502_2 => ?_)
          · refine lv_iconst (v := nI 0) hx hb dL_law_1535 (by decide) ?_
            refine lv_istore (lv' := [(23, .int (nI 0)), (0, .ref (b)), (1, .ref (qx)), (2, .ref (qa 0)), (3, .ref (qa 1)), (4, .ref (qa 2)), (5, .ref (qa 3)), (6, .ref (qa 4)), (7, .ref (qa 5)), (8, .ref (qa 6)), (9, .ref (qa 7)), (10, .ref (qa 8)), (11, .ref (qa 9)), (12, .int 1), (13, .int (nI (nj g))), (14, .int (nI (mo g))), (15, .int (nI u15)), (20, .int (nI ah)), (21, .int (nI k)), (22, .int (nI i))]) hx hb dL_law_1536 hl (by decide) rfl (fun ls hl => ?_)
            refine lv_aload hx hb dL_law_1538 (lv_at hl 12 rfl) ?_
            refine lv_iload hx hb dL_law_1540 (lv_at hl 19 rfl) ?_
            refine lv_iload hx hb dL_law_1542 (lv_at hl 0 rfl) ?_
            refine lv_if_eq (tgt := 1554) hx hb dL_law_1544 (by decide) (fun _ => ?_) (fun h9 => absurd h9 (by decide))
            refine lv_aload hx hb dL_law_1554 (lv_at hl 12 rfl) ?_
            refine lv_iload hx hb dL_law_1556 (lv_at hl 19 rfl) ?_
            refine l_ald (v := fst g i k) (j := i) S hE hW 9 rfl (vp_in_nI (show i < 12 from (by omega)) (by decide)) (nI_clamp (by omega)) ((h9 i (by omega)).trans (if_neg (Nat.lt_irrefl _))) dL_law_1558 ?_
            refine lv_topi (fun y_9 ey_9 => ?_)
            obtain rfl : y_9 = fst g i (k + 1) := ey_9.trans (fst_n (Or.inr (Or.inl ((fst_neg (by omega)).mp c_1502_2))))
            refine l_ast (j := i) S hE hS hW 9 rfl (vp_in_nI (show i < 12 from (by omega)) (by decide)) (nI_clamp (by omega)) dL_law_1559 (fun H locs hW hS => ?_)
            refine lv_iinc (v := nI (i + 1)) (lv' := [(22, .int (nI (i + 1))), (23, .int (nI 0)), (0, .ref (b)), (1, .ref (qx)), (2, .ref (qa 0)), (3, .ref (qa 1)), (4, .ref (qa 2)), (5, .ref (qa 3)), (6, .ref (qa 4)), (7, .ref (qa 5)), (8, .ref (qa 6)), (9, .ref (qa 7)), (10, .ref (qa 8)), (11, .ref (qa 9)), (12, .int 1), (13, .int (nI (nj g))), (14, .int (nI (mo g))), (15, .int (nI u15)), (20, .int (nI ah)), (21, .int (nI k))]) hx hb dL_law_1560 hl (k := 19) rfl (nI_1 _) (by decide) rfl (fun ls hl => ?_)
            refine lv_goto (tgt := 1481) hx hb dL_law_1563 (by decide) ?_
            exact ih_1481 (i + 1) _ (by omega) (ar_9 hA) h8 (up_if (f' := fun j => fst g j (k + 1)) (f := fun j => fst g j k) h9) (by omega) _ _ hW hS ls (lv_sub hl [2, 3, 4, 5, 6, 7, 8, 9, 10, 11, 12, 13, 14, 15, 16, 17, 18, 19, 0] rfl)
          · have hjp := hB.ljp (show i < nj g by omega)
            refine lv_aload hx hb dL_law_1505 (lv_at hl 8 rfl) ?_
            refine lv_iload hx hb dL_law_1507 (lv_at hl 18 rfl) ?_
            refine lv_aload hx hb dL_law_1509 (lv_at hl 5 rfl) ?_
            refine lv_aload hx hb dL_law_1511 (lv_at hl 4 rfl) ?_
            refine lv_aload hx hb dL_law_1513 (lv_at hl 10 rfl) ?_
            refine lv_aload hx hb dL_law_1515 (lv_at hl 8 rfl) ?_
            refine lv_iconst (v := 5) hx hb dL_law_1517 (by decide) ?_
            refine lv_iload hx hb dL_law_1518 (lv_at hl 18 rfl) ?_
            refine lv_imul hx hb dL_law_1520 ?_
            rw [show (5 : Int32) * nI i = nI (5 * (i)) from pk_mul 5 _]
            refine lv_iconst (v := 1) hx hb dL_law_1521 (by decide) ?_
            refine lv_iadd hx hb dL_law_1522 ?_
            rw [show (nI (5 * (i)) : Int32) + 1 = nI ((5 * (i)) + 1) from nI_add _ 1]
            refine l_ald (v := nI (jp g (i))) (j := (5 * (i)) + 1) S hE hW 6 rfl (vp_in_nI (show (5 * (i)) + 1 < 60 from (by omega)) (by decide)) (nI_clamp (by omega)) (hA.j1 (by omega)) dL_law_1523 ?_
            refine l_ald (v := wdk g (jp g (i)) (k + 1)) (j := jp g (i)) S hE hW 8 rfl (vp_in_nI (show jp g (i) < 6 from (by omega)) (by decide)) (nI_clamp (by omega)) (h8 _ (by omega)) dL_law_1524 ?_
            refine g_callS (As := [.ref (qa 6), .int (nI i), .ref (qa 3), .ref (qa 2), .int (wdk g (jp g (i)) (k + 1))]) (rest := []) S hE hS (c_L_breaks l z qx qa g gm (i) (jp g i) (by omega) (hA.j1 (by omega)) (by omega) (wdk g (jp g (i)) (k + 1))) (cwS 5 hts (gU_S tw_653 tw_654 tw_0 tw_655) rfl rfl rfl (by decide +kernel) ⟨Nat.le_of_ble_eq_true rfl, Nat.le_of_ble_eq_true rfl⟩) hW rfl hl.1 rfl (Nat.le_of_ble_eq_true rfl) dL_law_1525 ⟨Nat.le_trans (by omega) hf.1, Nat.le_trans (by omega) hf.2⟩ ?_
            rw [(la_b hB hA (by omega) c_1494_1 (k + 1))]
            refine g_if_eq S (tgt := 1535) dL_law_1528 (by decide) (fun c_1528_3 => ?_) (fun c_1528_3 => ?_)
            · refine lv_iconst (v := nI 0) hx hb dL_law_1535 (by decide) ?_
              refine lv_istore (lv' := [(23, .int (nI 0)), (0, .ref (b)), (1, .ref (qx)), (2, .ref (qa 0)), (3, .ref (qa 1)), (4, .ref (qa 2)), (5, .ref (qa 3)), (6, .ref (qa 4)), (7, .ref (qa 5)), (8, .ref (qa 6)), (9, .ref (qa 7)), (10, .ref (qa 8)), (11, .ref (qa 9)), (12, .int 1), (13, .int (nI (nj g))), (14, .int (nI (mo g))), (15, .int (nI u15)), (20, .int (nI ah)), (21, .int (nI k)), (22, .int (nI i))]) hx hb dL_law_1536 hl (by decide) rfl (fun ls hl => ?_)
              refine lv_aload hx hb dL_law_1538 (lv_at hl 12 rfl) ?_
              refine lv_iload hx hb dL_law_1540 (lv_at hl 19 rfl) ?_
              refine lv_iload hx hb dL_law_1542 (lv_at hl 0 rfl) ?_
              refine lv_if_eq (tgt := 1554) hx hb dL_law_1544 (by decide) (fun _ => ?_) (fun h9 => absurd h9 (by decide))
              refine lv_aload hx hb dL_law_1554 (lv_at hl 12 rfl) ?_
              refine lv_iload hx hb dL_law_1556 (lv_at hl 19 rfl) ?_
              refine l_ald (v := fst g i k) (j := i) S hE hW 9 rfl (vp_in_nI (show i < 12 from (by omega)) (by decide)) (nI_clamp (by omega)) ((h9 i (by omega)).trans (if_neg (Nat.lt_irrefl _))) dL_law_1558 ?_
              refine lv_topi (fun y_9 ey_9 => ?_)
              obtain rfl : y_9 = fst g i (k + 1) := ey_9.trans (fst_n (Or.inr (Or.inr c_1528_3)))
              refine l_ast (j := i) S hE hS hW 9 rfl (vp_in_nI (show i < 12 from (by omega)) (by decide)) (nI_clamp (by omega)) dL_law_1559 (fun H locs hW hS => ?_)
              refine lv_iinc (v := nI (i + 1)) (lv' := [(22, .int (nI (i + 1))), (23, .int (nI 0)), (0, .ref (b)), (1, .ref (qx)), (2, .ref (qa 0)), (3, .ref (qa 1)), (4, .ref (qa 2)), (5, .ref (qa 3)), (6, .ref (qa 4)), (7, .ref (qa 5)), (8, .ref (qa 6)), (9, .ref (qa 7)), (10, .ref (qa 8)), (11, .ref (qa 9)), (12, .int 1), (13, .int (nI (nj g))), (14, .int (nI (mo g))), (15, .int (nI u15)), (20, .int (nI ah)), (21, .int (nI k))]) hx hb dL_law_1560 hl (k := 19) rfl (nI_1 _) (by decide) rfl (fun ls hl => ?_)
              refine lv_goto (tgt := 1481) hx hb dL_law_1563 (by decide) ?_
              exact ih_1481 (i + 1) _ (by omega) (ar_9 hA) h8 (up_if (f' := fun j => fst g j (k + 1)) (f := fun j => fst g j k) h9) (by omega) _ _ hW hS ls (lv_sub hl [2, 3, 4, 5, 6, 7, 8, 9, 10, 11, 12, 13, 14, 15, 16, 17, 18, 19, 0] rfl)
            · refine lv_iconst (v := 1) hx hb dL_law_1531 (by decide) ?_
              refine lv_goto (tgt := 1536) hx hb dL_law_1532 (by decide) ?_
              refine lv_istore (lv' := [(23, .int 1), (0, .ref (b)), (1, .ref (qx)), (2, .ref (qa 0)), (3, .ref (qa 1)), (4, .ref (qa 2)), (5, .ref (qa 3)), (6, .ref (qa 4)), (7, .ref (qa 5)), (8, .ref (qa 6)), (9, .ref (qa 7)), (10, .ref (qa 8)), (11, .ref (qa 9)), (12, .int 1), (13, .int (nI (nj g))), (14, .int (nI (mo g))), (15, .int (nI u15)), (20, .int (nI ah)), (21, .int (nI k)), (22, .int (nI i))]) hx hb dL_law_1536 hl (by decide) rfl (fun ls hl => ?_)
              refine lv_aload hx hb dL_law_1538 (lv_at hl 12 rfl) ?_
              refine lv_iload hx hb dL_law_1540 (lv_at hl 19 rfl) ?_
              refine lv_iload hx hb dL_law_1542 (lv_at hl 0 rfl) ?_
              refine lv_if_eq (tgt := 1554) hx hb dL_law_1544 (by decide) (fun h9 => absurd h9 (by decide)) (fun _ => ?_)
              refine lv_iload hx hb dL_law_1547 (lv_at hl 18 rfl) ?_
              refine lv_iconst (v := 1) hx hb dL_law_1549 (by decide) ?_
              refine lv_iadd hx hb dL_law_1550 ?_
              rw [show (nI k : Int32) + 1 = nI (k + 1) from nI_add _ 1]
              refine lv_goto (tgt := 1559) hx hb dL_law_1551 (by decide) ?_
              refine lv_topi (fun y_9 ey_9 => ?_)
              obtain rfl : y_9 = fst g i (k + 1) := ey_9.trans (fst_y c_1494_1 (hld_1 hB (by omega) c_1494_1) (Decidable.not_not.mp fun q => c_1502_2 ((fst_neg (by omega)).mpr q)) c_1528_3)
              refine l_ast (j := i) S hE hS hW 9 rfl (vp_in_nI (show i < 12 from (by omega)) (by decide)) (nI_clamp (by omega)) dL_law_1559 (fun H locs hW hS => ?_)
              refine lv_iinc (v := nI (i + 1)) (lv' := [(22, .int (nI (i + 1))), (23, .int 1), (0, .ref (b)), (1, .ref (qx)), (2, .ref (qa 0)), (3, .ref (qa 1)), (4, .ref (qa 2)), (5, .ref (qa 3)), (6, .ref (qa 4)), (7, .ref (qa 5)), (8, .ref (qa 6)), (9, .ref (qa 7)), (10, .ref (qa 8)), (11, .ref (qa 9)), (12, .int 1), (13, .int (nI (nj g))), (14, .int (nI (mo g))), (15, .int (nI u15)), (20, .int (nI ah)), (21, .int (nI k))]) hx hb dL_law_1560 hl (k := 19) rfl (nI_1 _) (by decide) rfl (fun ls hl => ?_)
              refine lv_goto (tgt := 1481) hx hb dL_law_1563 (by decide) ?_
              exact ih_1481 (i + 1) _ (by omega) (ar_9 hA) h8 (up_if (f' := fun j => fst g j (k + 1)) (f := fun j => fst g j k) h9) (by omega) _ _ hW hS ls (lv_sub hl [2, 3, 4, 5, 6, 7, 8, 9, 10, 11, 12, 13, 14, 15, 16, 17, 18, 19, 0] rfl)
  exact lp_1481 ((nj g - 0) + 1) 0 _ (Nat.zero_le _) hA h8 (fun p hp => (h9 p hp).trans (if_neg (Nat.not_lt_zero p)).symm) (Nat.lt_succ_self _) _ _ hW hS ls (lv_sub hl [0, 1, 2, 3, 4, 5, 6, 7, 8, 9, 10, 11, 12, 13, 14, 15, 16, 17, 18] rfl)
set_option maxHeartbeats 4000000 in
set_option maxRecDepth 100000 in
/-- the look ahead -/
theorem law_1427 (l : Launch) (hst : l.stackTraces = false) (S : CallFix p m c cL_law 26 s args wU RL) (hE : EV z s s.heap) (hB : BD g) (hA : AR g gm) (u15 ah : Nat) (ha1 : 1 ≤ ah) (ha2 : ah ≤ 24) (h8 : ∀ p, p < 6 → gm 8 p = wdk g p 0) (h9 : ∀ j, j < nj g → gm 9 j = fst g j 0) (hW : LI z qx qa (g) gm H) (hS : va_S (zA z) s.heap H locs) (hl : lv_has ls 26 [(0, .ref (b)), (1, .ref (qx)), (2, .ref (qa 0)), (3, .ref (qa 1)), (4, .ref (qa 2)), (5, .ref (qa 3)), (6, .ref (qa 4)), (7, .ref (qa 5)), (8, .ref (qa 6)), (9, .ref (qa 7)), (10, .ref (qa 8)), (11, .ref (qa 9)), (12, .int 1), (13, .int (nI (nj g))), (14, .int (nI (mo g))), (15, .int (nI u15)), (20, .int (nI ah)), (21, .int (nI 0))]) (hf : cells + 0 ≤ room_1.cells ∧ slots + 0 ≤ room_1.slots)
    (kk : ∀ (gm : GS) (H : Heap) (locs : List Loc) (ls : Array Slot), AR g gm → (∀ j, j < nj g → gm 9 j = fst g j ah) → LI z qx qa (g) gm H → va_S (zA z) s.heap H locs → lv_has ls 26 [(0, .ref (b)), (1, .ref (qx)), (2, .ref (qa 0)), (3, .ref (qa 1)), (4, .ref (qa 2)), (5, .ref (qa 3)), (6, .ref (qa 4)), (7, .ref (qa 5)), (8, .ref (qa 6)), (9, .ref (qa 7)), (10, .ref (qa 8)), (11, .ref (qa 9)), (12, .int 1), (13, .int (nI (nj g))), (14, .int (nI (mo g))), (15, .int (nI u15)), (20, .int (nI ah))] → W p l e room_1 s m args below meth c H locs (cells + 0) (slots + 0) Q (F0 m 1572 ls [])) : W p l e room_1 s m args below meth c H locs (cells) (slots) Q (F0 m 1427 ls []) := by
  have hx := S.1
  have hb := S.2.1
  have hown := S.2.2.2.1
  have hts := S.2.2.2.2
  have hml := S.2.2.1
  have lp_1427 : ∀ (k9 : Nat) (k : Nat) (gm : GS) (hk : k ≤ ah) (hA : AR g gm) (h8 : ∀ p, p < 6 → gm 8 p = wdk g p k) (h9 : ∀ j, j < nj g → gm 9 j = fst g j k), ah - k < k9 → ∀ (H : Heap) (locs : List Loc), LI z qx qa (g) gm H → va_S (zA z) s.heap H locs → ∀ (ls : Array Slot), lv_has ls 26 [(0, .ref (b)), (1, .ref (qx)), (2, .ref (qa 0)), (3, .ref (qa 1)), (4, .ref (qa 2)), (5, .ref (qa 3)), (6, .ref (qa 4)), (7, .ref (qa 5)), (8, .ref (qa 6)), (9, .ref (qa 7)), (10, .ref (qa 8)), (11, .ref (qa 9)), (12, .int 1), (13, .int (nI (nj g))), (14, .int (nI (mo g))), (15, .int (nI u15)), (20, .int (nI ah)), (21, .int (nI k))] → W p l e room_1 s m args below meth c H locs (cells) (slots) Q (F0 m 1427 ls []) := by
    intro k9
    induction k9 with
    | zero => intro k gm hk hA h8 h9 h9; exact absurd h9 (Nat.not_lt_zero _)
    | succ k9 ih_1427 =>
      intro k gm hk hA h8 h9 hk9 H locs hW hS ls hl
      refine lv_iload hx hb dL_law_1427 (lv_at hl 17 rfl) ?_
      refine lv_iload hx hb dL_law_1429 (lv_at hl 16 rfl) ?_
      refine g_icmp_ge S (by omega) (by omega) (tgt := 1572) dL_law_1431 (by decide) (fun c_1431 => ?_) (fun c_1431 => ?_)
      · obtain rfl : k = ah := by omega
        refine W.widen (k := cells + 0) (n := slots + 0) (by omega) (by omega) ?_
        exact kk _ _ _ _ hA h9 hW hS (lv_sub hl [0, 1, 2, 3, 4, 5, 6, 7, 8, 9, 10, 11, 12, 13, 14, 15, 16] rfl)
      · refine lv_iconst (v := nI 0) hx hb dL_law_1434 (by decide) ?_
        refine lv_istore (lv' := [(22, .int (nI 0)), (0, .ref (b)), (1, .ref (qx)), (2, .ref (qa 0)), (3, .ref (qa 1)), (4, .ref (qa 2)), (5, .ref (qa 3)), (6, .ref (qa 4)), (7, .ref (qa 5)), (8, .ref (qa 6)), (9, .ref (qa 7)), (10, .ref (qa 8)), (11, .ref (qa 9)), (12, .int 1), (13, .int (nI (nj g))), (14, .int (nI (mo g))), (15, .int (nI u15)), (20, .int (nI ah)), (21, .int (nI k))]) hx hb dL_law_1435 hl (by decide) rfl (fun ls hl => ?_)
        refine law_1437 l hst S hE hB hA u15 ah ha1 ha2 k (by omega) h8 h9 hW hS (lv_sub hl [1, 2, 3, 4, 5, 6, 7, 8, 9, 10, 11, 12, 13, 14, 15, 16, 17, 18, 0] rfl) ⟨Nat.le_trans (by omega) hf.1, Nat.le_trans (by omega) hf.2⟩ (fun gm H locs ls hA h8 h9 hW hS hl => ?_)
        refine lv_iconst (v := nI 0) hx hb dL_law_1478 (by decide) ?_
        refine lv_istore (lv' := [(22, .int (nI 0)), (0, .ref (b)), (1, .ref (qx)), (2, .ref (qa 0)), (3, .ref (qa 1)), (4, .ref (qa 2)), (5, .ref (qa 3)), (6, .ref (qa 4)), (7, .ref (qa 5)), (8, .ref (qa 6)), (9, .ref (qa 7)), (10, .ref (qa 8)), (11, .ref (qa 9)), (12, .int 1), (13, .int (nI (nj g))), (14, .int (nI (mo g))), (15, .int (nI u15)), (20, .int (nI ah)), (21, .int (nI k))]) hx hb dL_law_1479 hl (by decide) rfl (fun ls hl => ?_)
        refine law_1481 l hst S hE hB hA u15 ah ha1 ha2 k (by omega) h8 h9 hW hS (lv_sub hl [1, 2, 3, 4, 5, 6, 7, 8, 9, 10, 11, 12, 13, 14, 15, 16, 17, 18, 0] rfl) ⟨Nat.le_trans (by omega) hf.1, Nat.le_trans (by omega) hf.2⟩ (fun gm H locs ls hA h8 h9 hW hS hl => ?_)
        refine lv_iinc (v := nI (k + 1)) (lv' := [(21, .int (nI (k + 1))), (0, .ref (b)), (1, .ref (qx)), (2, .ref (qa 0)), (3, .ref (qa 1)), (4, .ref (qa 2)), (5, .ref (qa 3)), (6, .ref (qa 4)), (7, .ref (qa 5)), (8, .ref (qa 6)), (9, .ref (qa 7)), (10, .ref (qa 8)), (11, .ref (qa 9)), (12, .int 1), (13, .int (nI (nj g))), (14, .int (nI (mo g))), (15, .int (nI u15)), (20, .int (nI ah))]) hx hb dL_law_1566 hl (k := 17) rfl (nI_1 _) (by decide) rfl (fun ls hl => ?_)
        refine lv_goto (tgt := 1427) hx hb dL_law_1569 (by decide) ?_
        exact ih_1427 (k + 1) _ (by omega) hA h8 h9 (by omega) _ _ hW hS ls (lv_sub hl [1, 2, 3, 4, 5, 6, 7, 8, 9, 10, 11, 12, 13, 14, 15, 16, 17, 0] rfl)
  exact lp_1427 ((ah - 0) + 1) 0 _ (Nat.zero_le _) hA h8 h9 (Nat.lt_succ_self _) _ _ hW hS ls (lv_sub hl [0, 1, 2, 3, 4, 5, 6, 7, 8, 9, 10, 11, 12, 13, 14, 15, 16, 17] rfl)
end LCK
