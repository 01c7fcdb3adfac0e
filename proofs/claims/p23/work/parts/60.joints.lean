/-! ===== the law: joints are compared ===== -/
section LCK
variable {p : Program} {e : Env} {s : State} {m : MethodId} {args : Array Value} {below : List Frame} {meth : Method} {c : Code} {H : Heap} {locs : List Loc} {cells slots : Nat} {Q : State → Prop} {ls : Array Slot} {z : ZE} {b L qx : Nat} {qa : Nat → Nat} {xs : Nat → Int32} {g gm G : GS}
set_option maxHeartbeats 4000000 in
set_option maxRecDepth 100000 in
/-- the joints are as the law has them -/
theorem law_1578 (l : Launch) (hst : l.stackTraces = false) (S : CallFix p m c cL_law 26 s args wU RL) (hE : EV z s s.heap) (hB : BD g) (hA : AR g gm) (u15 ah : Nat) (ha1 : 1 ≤ ah) (ha2 : ah ≤ 24) (h9 : ∀ j, j < nj g → gm 9 j = fst g j ah) (hu : u15 < 1000) (hW : LI z qx qa (g) gm H) (hS : va_S (zA z) s.heap H locs) (hl : lv_has ls 26 [(0, .ref (b)), (1, .ref (qx)), (2, .ref (qa 0)), (3, .ref (qa 1)), (4, .ref (qa 2)), (5, .ref (qa 3)), (6, .ref (qa 4)), (7, .ref (qa 5)), (8, .ref (qa 6)), (9, .ref (qa 7)), (10, .ref (qa 8)), (11, .ref (qa 9)), (12, .int 1), (13, .int (nI (nj g))), (14, .int (nI (mo g))), (15, .int (nI u15)), (20, .int (nI ah)), (21, .int (setN 0 (fun j => decide (0 < bkk g j ah)))), (22, .int (nI 0))]) (hf : cells + 37 ≤ room_1.cells ∧ slots + 222 ≤ room_1.slots)
    (kk : ∀ (gm : GS) (H : Heap) (locs : List Loc) (ls : Array Slot), AR g gm → LI z qx qa (g) gm H → va_S (zA z) s.heap H locs → lv_has ls 26 [(0, .ref (b)), (1, .ref (qx)), (2, .ref (qa 0)), (3, .ref (qa 1)), (4, .ref (qa 2)), (5, .ref (qa 3)), (6, .ref (qa 4)), (7, .ref (qa 5)), (8, .ref (qa 6)), (9, .ref (qa 7)), (10, .ref (qa 8)), (11, .ref (qa 9)), (12, .int 1), (13, .int (nI (nj g))), (14, .int (nI (mo g))), (15, .int (nI (u15 + 1)))] → W p l e room_1 s m args below meth c H locs (cells + 37) (slots + 222) Q (F0 m 287 ls [])) : W p l e room_1 s m args below meth c H locs (cells) (slots) Q (F0 m 1578 ls []) := by
  have hx := S.1
  have hb := S.2.1
  have hown := S.2.2.2.1
  have hts := S.2.2.2.2
  have hml := S.2.2.1
  have hnj := hB.lj
  have lp_1578 : ∀ (k9 : Nat) (i : Nat) (hi : i ≤ nj g), nj g - i < k9 → ∀ (H : Heap) (locs : List Loc), LI z qx qa (g) gm H → va_S (zA z) s.heap H locs → ∀ (ls : Array Slot), lv_has ls 26 [(0, .ref (b)), (1, .ref (qx)), (2, .ref (qa 0)), (3, .ref (qa 1)), (4, .ref (qa 2)), (5, .ref (qa 3)), (6, .ref (qa 4)), (7, .ref (qa 5)), (8, .ref (qa 6)), (9, .ref (qa 7)), (10, .ref (qa 8)), (11, .ref (qa 9)), (12, .int 1), (13, .int (nI (nj g))), (14, .int (nI (mo g))), (15, .int (nI u15)), (20, .int (nI ah)), (21, .int (setN i (fun j => decide (0 < bkk g j ah)))), (22, .int (nI i))] → W p l e room_1 s m args below meth c H locs (cells + 3 * i) (slots + 18 * i) Q (F0 m 1578 ls []) := by
    intro k9
    induction k9 with
    | zero => intro i hi h9; exact absurd h9 (Nat.not_lt_zero _)
    | succ k9 ih_1578 =>
      intro i hi hk9 H locs hW hS ls hl
      refine lv_iload hx hb dL_law_1578 (lv_at hl 18 rfl) ?_
      refine lv_iload hx hb dL_law_1580 (lv_at hl 13 rfl) ?_
      refine g_icmp_ge S (by omega) (by omega) (tgt := 1785) dL_law_1582 (by decide) (fun c_1582 => ?_) (fun c_1582 => ?_)
      · obtain rfl : i = nj g := by omega
        refine lv_iload hx hb dL_law_1785 (lv_at hl 12 rfl) ?_
        refine lv_if_eq (tgt := 1805) hx hb dL_law_1787 (by decide) (fun h9 => absurd h9 (by decide)) (fun _ => ?_)
        refine lv_aload_n hx hb dL_law_1790 rfl (lv_at hl 1 rfl) ?_
        refine lv_iload hx hb dL_law_1791 (lv_at hl 16 rfl) ?_
        refine l_pcall (As := [.int (nI ah)]) (rest := []) (sp := sp_through g (nI ah)) (Ea := xA) (Eb := xI) (Ec := xI) S hE hS hW (t_through g ha1 ha2) (fun w => c_X5_through l z hst w (g) gm (fun _ => 0) hB.ok (nI ah)) (cwV 1 hts (gU_V tw_559 tw_560 tw_561 tw_1 tw_562) rfl rfl rfl (by decide +kernel) ⟨Nat.le_of_ble_eq_true rfl, Nat.le_of_ble_eq_true rfl⟩) rfl hl.1 rfl (Nat.le_of_ble_eq_true rfl) dL_law_1793 ⟨Nat.le_trans (by omega) hf.1, Nat.le_trans (by omega) hf.2⟩ (fun H locs hW hS => ?_)
        refine lv_iload hx hb dL_law_1796 (lv_at hl 17 rfl) ?_
        refine lv_icmp_ne (tgt := 1805) hx hb dL_law_1798 (by decide) (fun q9 => absurd (rfl) q9) (fun c_1798_1 => ?_)
        refine lv_iconst (v := 1) hx hb dL_law_1801 (by decide) ?_
        refine lv_goto (tgt := 1806) hx hb dL_law_1802 (by decide) ?_
        refine lv_istore (lv' := [(12, .int 1), (0, .ref (b)), (1, .ref (qx)), (2, .ref (qa 0)), (3, .ref (qa 1)), (4, .ref (qa 2)), (5, .ref (qa 3)), (6, .ref (qa 4)), (7, .ref (qa 5)), (8, .ref (qa 6)), (9, .ref (qa 7)), (10, .ref (qa 8)), (11, .ref (qa 9)), (13, .int (nI (nj g))), (14, .int (nI (mo g))), (15, .int (nI u15)), (20, .int (nI ah)), (21, .int (setN (nj g) (fun j => decide (0 < bkk g j ah)))), (22, .int (nI (nj g)))]) hx hb dL_law_1806 hl (by decide) rfl (fun ls hl => ?_)
        refine lv_iinc (v := nI (u15 + 1)) (lv' := [(15, .int (nI (u15 + 1))), (12, .int 1), (0, .ref (b)), (1, .ref (qx)), (2, .ref (qa 0)), (3, .ref (qa 1)), (4, .ref (qa 2)), (5, .ref (qa 3)), (6, .ref (qa 4)), (7, .ref (qa 5)), (8, .ref (qa 6)), (9, .ref (qa 7)), (10, .ref (qa 8)), (11, .ref (qa 9)), (13, .int (nI (nj g))), (14, .int (nI (mo g))), (20, .int (nI ah)), (21, .int (setN (nj g) (fun j => decide (0 < bkk g j ah)))), (22, .int (nI (nj g)))]) hx hb dL_law_1808 hl (k := 15) rfl (nI_1 _) (by decide) rfl (fun ls hl => ?_)
        refine lv_goto (tgt := 287) hx hb dL_law_1811 (by decide) ?_
        refine W.widen (k := cells + 37) (n := slots + 222) (by omega) (by omega) ?_
        exact kk _ _ _ _ hA hW hS (lv_sub hl [2, 3, 4, 5, 6, 7, 8, 9, 10, 11, 12, 13, 1, 14, 15, 0] rfl)
      · have hi9 : i < nj g := by omega
        have hjp := hB.ljp hi9
        rcases stt_c hB hi9 with ⟨es, e31, e32⟩ | ⟨es, e31, e32⟩ | ⟨es, e31, e32⟩
        · refine lv_aload hx hb dL_law_1585 (lv_at hl 8 rfl) ?_
          refine lv_iconst (v := 5) hx hb dL_law_1587 (by decide) ?_
          refine lv_iload hx hb dL_law_1588 (lv_at hl 18 rfl) ?_
          refine lv_imul hx hb dL_law_1590 ?_
          rw [show (5 : Int32) * nI i = nI (5 * (i)) from pk_mul 5 _]
          refine lv_iconst (v := 1) hx hb dL_law_1591 (by decide) ?_
          refine lv_iadd hx hb dL_law_1592 ?_
          rw [show (nI (5 * (i)) : Int32) + 1 = nI ((5 * (i)) + 1) from nI_add _ 1]
          refine l_ald (v := nI (jp g (i))) (j := (5 * (i)) + 1) S hE hW 6 rfl (vp_in_nI (show (5 * (i)) + 1 < 60 from (by omega)) (by decide)) (nI_clamp (by omega)) (hA.j1 (by omega)) dL_law_1593 ?_
          refine lv_istore (lv' := [(23, .int (nI (jp g (i)))), (0, .ref (b)), (1, .ref (qx)), (2, .ref (qa 0)), (3, .ref (qa 1)), (4, .ref (qa 2)), (5, .ref (qa 3)), (6, .ref (qa 4)), (7, .ref (qa 5)), (8, .ref (qa 6)), (9, .ref (qa 7)), (10, .ref (qa 8)), (11, .ref (qa 9)), (12, .int 1), (13, .int (nI (nj g))), (14, .int (nI (mo g))), (15, .int (nI u15)), (20, .int (nI ah)), (21, .int (setN i (fun j => decide (0 < bkk g j ah)))), (22, .int (nI i))]) hx hb dL_law_1594 hl (by decide) rfl (fun ls hl => ?_)
          refine lv_aload hx hb dL_law_1596 (lv_at hl 6 rfl) ?_
          refine lv_iload hx hb dL_law_1598 (lv_at hl 0 rfl) ?_
          refine l_ald (v := g 20 (jp g (i))) (j := jp g (i)) S hE hW 3 rfl (vp_in_nI (show jp g (i) < 6 from (by omega)) (by decide)) (nI_clamp (by omega)) (hA.a3 (by omega)) dL_law_1600 ?_
          refine lv_aload hx hb dL_law_1601 (lv_at hl 6 rfl) ?_
          refine lv_iload hx hb dL_law_1603 (lv_at hl 0 rfl) ?_
          refine l_ald (v := g 20 (jp g (i))) (j := jp g (i)) S hE hW 3 rfl (vp_in_nI (show jp g (i) < 6 from (by omega)) (by decide)) (nI_clamp (by omega)) (hA.a3 (by omega)) dL_law_1605 ?_
          refine lv_iload hx hb dL_law_1606 (lv_at hl 0 rfl) ?_
          refine lv_iconst (v := 3) hx hb dL_law_1608 (by decide) ?_
          refine lv_irem hx hb dL_law_1609 (by decide) ?_
          rw [show (nI (jp g (i)) : Int32) - nI (jp g (i)) / 3 * 3 = nI ((jp g (i)) % 3) from pk_rem (d := 3) (by omega) (by decide) (by decide)]
          refine lv_aload hx hb dL_law_1610 (lv_at hl 7 rfl) ?_
          refine lv_iload hx hb dL_law_1612 (lv_at hl 0 rfl) ?_
          refine l_ald (v := g 22 (jp g (i))) (j := jp g (i)) S hE hW 4 rfl (vp_in_nI (show jp g (i) < 6 from (by omega)) (by decide)) (nI_clamp (by omega)) (hA.a4 (by omega)) dL_law_1614 ?_
          refine lv_aload hx hb dL_law_1615 (lv_at hl 5 rfl) ?_
          refine lv_iload hx hb dL_law_1617 (lv_at hl 0 rfl) ?_
          refine l_ald (v := g 21 (jp g (i))) (j := jp g (i)) S hE hW 2 rfl (vp_in_nI (show jp g (i) < 6 from (by omega)) (by decide)) (nI_clamp (by omega)) (hA.a2 (by omega)) dL_law_1619 ?_
          refine lv_isub hx hb dL_law_1620 ?_
          refine g_callS (As := [.int (g 20 (jp g (i))), .int (nI ((jp g (i)) % 3)), .int ((g 22 (jp g (i))) - (g 21 (jp g (i))))]) (rest := [.int (g 20 (jp g (i)))]) S hE hS (c_L_moved l z (g 20 (jp g (i))) (nI ((jp g (i)) % 3)) ((g 22 (jp g (i))) - (g 21 (jp g (i))))) (cwS 3 hts (gU_S tw_650 tw_651 tw_0 tw_652) rfl rfl rfl (by decide +kernel) ⟨Nat.le_of_ble_eq_true rfl, Nat.le_of_ble_eq_true rfl⟩) trivial rfl hl.1 rfl (Nat.le_of_ble_eq_true rfl) dL_law_1621 ⟨Nat.le_trans (by omega) hf.1, Nat.le_trans (by omega) hf.2⟩ ?_
          refine lv_iadd hx hb dL_law_1624 ?_
          refine lv_topi (fun y_3 ey_3 => ?_)
          obtain rfl : y_3 = wAt g (jp g (i)) (g 22 (jp g (i))) := ey_3.trans (hB.now hjp _)
          refine lv_istore (lv' := [(24, .int (wAt g (jp g (i)) (g 22 (jp g (i))))), (23, .int (nI (jp g (i)))), (0, .ref (b)), (1, .ref (qx)), (2, .ref (qa 0)), (3, .ref (qa 1)), (4, .ref (qa 2)), (5, .ref (qa 3)), (6, .ref (qa 4)), (7, .ref (qa 5)), (8, .ref (qa 6)), (9, .ref (qa 7)), (10, .ref (qa 8)), (11, .ref (qa 9)), (12, .int 1), (13, .int (nI (nj g))), (14, .int (nI (mo g))), (15, .int (nI u15)), (20, .int (nI ah)), (21, .int (setN i (fun j => decide (0 < bkk g j ah)))), (22, .int (nI i))]) hx hb dL_law_1625 hl (by decide) rfl (fun ls hl => ?_)
          refine lv_aload hx hb dL_law_1627 (lv_at hl 11 rfl) ?_
          refine lv_iload hx hb dL_law_1629 (lv_at hl 20 rfl) ?_
          refine l_ald (v := 0) (j := i) S hE hW 7 rfl (vp_in_nI (show i < 12 from (by omega)) (by decide)) (nI_clamp (by omega)) ((hA.a7 (by omega)).trans es) dL_law_1631 ?_
          refine lv_if_ne (tgt := 1639) hx hb dL_law_1632 (by decide) (fun h9 => absurd h9 (by decide)) (fun _ => ?_)
          refine lv_iconst (v := 0) hx hb dL_law_1635 (by decide) ?_
          refine lv_goto (tgt := 1682) hx hb dL_law_1636 (by decide) ?_
          refine lv_topi (fun y_9 ey_9 => ?_)
          obtain rfl : y_9 = sta g i := ey_9.trans (by simp [sta, e31, e32])
          refine lv_istore (lv' := [(25, .int (sta g i)), (24, .int (wAt g (jp g (i)) (g 22 (jp g (i))))), (23, .int (nI (jp g (i)))), (0, .ref (b)), (1, .ref (qx)), (2, .ref (qa 0)), (3, .ref (qa 1)), (4, .ref (qa 2)), (5, .ref (qa 3)), (6, .ref (qa 4)), (7, .ref (qa 5)), (8, .ref (qa 6)), (9, .ref (qa 7)), (10, .ref (qa 8)), (11, .ref (qa 9)), (12, .int 1), (13, .int (nI (nj g))), (14, .int (nI (mo g))), (15, .int (nI u15)), (20, .int (nI ah)), (21, .int (setN i (fun j => decide (0 < bkk g j ah)))), (22, .int (nI i))]) hx hb dL_law_1682 hl (by decide) rfl (fun ls hl => ?_)
          refine lv_iload hx hb dL_law_1684 (lv_at hl 15 rfl) ?_
          refine lv_if_eq (tgt := 1755) hx hb dL_law_1686 (by decide) (fun h9 => absurd h9 (by decide)) (fun _ => ?_)
          refine lv_aload_n hx hb dL_law_1689 rfl (lv_at hl 4 rfl) ?_
          refine lv_iload hx hb dL_law_1690 (lv_at hl 21 rfl) ?_
          refine lv_iconst (v := 0) hx hb dL_law_1692 (by decide) ?_
          refine l_pcall (As := [.int (nI i), .int 0]) (rest := []) (sp := sp_ofJoint g (nI i) (0)) (Ea := xI) (Eb := xA) (Ec := xI) S hE hS hW ((t_ofJoint hB hi9).1) (fun w => c_X5_ofJoint l z hst w (g) gm (fun _ => 0) hB.ok (nI i) (0)) (cwV 2 hts (gU_V tw_584 tw_585 tw_586 tw_1 tw_587) rfl rfl rfl (by decide +kernel) ⟨Nat.le_of_ble_eq_true rfl, Nat.le_of_ble_eq_true rfl⟩) rfl hl.1 rfl (Nat.le_of_ble_eq_true rfl) dL_law_1693 ⟨Nat.le_trans (by omega) hf.1, Nat.le_trans (by omega) hf.2⟩ (fun H locs hW hS => ?_)
          refine lv_iload hx hb dL_law_1696 (lv_at hl 0 rfl) ?_
          refine lv_icmp_ne (tgt := 1755) hx hb dL_law_1698 (by decide) (fun q9 => absurd (rfl) q9) (fun c_1698_3 => ?_)
          refine lv_aload_n hx hb dL_law_1701 rfl (lv_at hl 4 rfl) ?_
          refine lv_iload hx hb dL_law_1702 (lv_at hl 21 rfl) ?_
          refine lv_iconst (v := 1) hx hb dL_law_1704 (by decide) ?_
          refine l_pcall (As := [.int (nI i), .int 1]) (rest := []) (sp := sp_ofJoint g (nI i) (1)) (Ea := xI) (Eb := xA) (Ec := xI) S hE hS hW ((t_ofJoint hB hi9).2) (fun w => c_X5_ofJoint l z hst w (g) gm (fun _ => 0) hB.ok (nI i) (1)) (cwV 2 hts (gU_V tw_584 tw_585 tw_586 tw_1 tw_587) rfl rfl rfl (by decide +kernel) ⟨Nat.le_of_ble_eq_true rfl, Nat.le_of_ble_eq_true rfl⟩) rfl hl.1 rfl (Nat.le_of_ble_eq_true rfl) dL_law_1705 ⟨Nat.le_trans (by omega) hf.1, Nat.le_trans (by omega) hf.2⟩ (fun H locs hW hS => ?_)
          refine lv_aload hx hb dL_law_1708 (lv_at hl 11 rfl) ?_
          refine lv_iconst (v := 5) hx hb dL_law_1710 (by decide) ?_
          refine lv_iload hx hb dL_law_1711 (lv_at hl 21 rfl) ?_
          refine lv_imul hx hb dL_law_1713 ?_
          rw [show (5 : Int32) * nI i = nI (5 * (i)) from pk_mul 5 _]
          refine lv_iconst (v := 2) hx hb dL_law_1714 (by decide) ?_
          refine lv_iadd hx hb dL_law_1715 ?_
          rw [show (nI (5 * (i)) : Int32) + 2 = nI ((5 * (i)) + 2) from nI_add _ 2]
          refine l_ald (v := g 28 (i)) (j := (5 * (i)) + 2) S hE hW 6 rfl (vp_in_nI (show (5 * (i)) + 2 < 60 from (by omega)) (by decide)) (nI_clamp (by omega)) (hA.j2 (by omega)) dL_law_1716 ?_
          refine lv_icmp_ne (tgt := 1755) hx hb dL_law_1717 (by decide) (fun q9 => absurd (rfl) q9) (fun c_1717_4 => ?_)
          refine lv_aload_n hx hb dL_law_1720 rfl (lv_at hl 4 rfl) ?_
          refine lv_iload hx hb dL_law_1721 (lv_at hl 21 rfl) ?_
          refine lv_iload hx hb dL_law_1723 (lv_at hl 19 rfl) ?_
          refine l_wcall (As := [.ref (qx), .int (nI i), .int (nI ah)]) (rest := []) (sp := sp_breaksIn g (nI i) (nI ah)) S hE hS hW (c_L_breaksIn l z hst qx qa (g) gm hB.ok (nI i) (nI ah) (brk_k hB hi9 ha1 ha2)) (vx_cwSW 3 hts (gU_w tw_639 tw_640 tw_0 tw_641) rfl rfl rfl (by decide +kernel) ⟨Nat.le_of_ble_eq_true rfl, Nat.le_of_ble_eq_true rfl⟩) rfl hl.1 rfl (Nat.le_of_ble_eq_true rfl) dL_law_1725 ⟨Nat.le_trans (by omega) hf.1, Nat.le_trans (by omega) hf.2⟩ (fun H locs hW hS => ?_)
          rw [t_breaksIn hB hi9 ha1 ha2, if_neg (fun q => absurd (es.symm.trans q) (by decide))] at hW ⊢
          rw [show ares (bad 3 g) = -1003 from rfl]
          have hW : LI z qx qa g gm H := hW
          refine lv_aload hx hb dL_law_1728 (lv_at hl 12 rfl) ?_
          refine lv_iload hx hb dL_law_1730 (lv_at hl 21 rfl) ?_
          refine l_ald (v := 0) (j := i) S hE hW 7 rfl (vp_in_nI (show i < 12 from (by omega)) (by decide)) (nI_clamp (by omega)) ((hA.a7 (by omega)).trans es) dL_law_1732 ?_
          refine lv_iconst (v := 1) hx hb dL_law_1733 (by decide) ?_
          refine lv_icmp_ne (tgt := 1745) hx hb dL_law_1734 (by decide) (fun _ => ?_) (fun h9 => absurd h9 (by decide))
          refine lv_sipush (v := (-1003)) hx hb dL_law_1745 (by decide) ?_
          refine lv_icmp_ne (tgt := 1755) hx hb dL_law_1748 (by decide) (fun q9 => absurd (rfl) q9) (fun c_1748_5 => ?_)
          refine lv_iconst (v := 1) hx hb dL_law_1751 (by decide) ?_
          refine lv_goto (tgt := 1756) hx hb dL_law_1752 (by decide) ?_
          refine lv_istore (lv' := [(12, .int 1), (25, .int (sta g i)), (24, .int (wAt g (jp g (i)) (g 22 (jp g (i))))), (23, .int (nI (jp g (i)))), (0, .ref (b)), (1, .ref (qx)), (2, .ref (qa 0)), (3, .ref (qa 1)), (4, .ref (qa 2)), (5, .ref (qa 3)), (6, .ref (qa 4)), (7, .ref (qa 5)), (8, .ref (qa 6)), (9, .ref (qa 7)), (10, .ref (qa 8)), (11, .ref (qa 9)), (13, .int (nI (nj g))), (14, .int (nI (mo g))), (15, .int (nI u15)), (20, .int (nI ah)), (21, .int (setN i (fun j => decide (0 < bkk g j ah)))), (22, .int (nI i))]) hx hb dL_law_1756 hl (by decide) rfl (fun ls hl => ?_)
          refine lv_iload hx hb dL_law_1758 (lv_at hl 20 rfl) ?_
          refine lv_aload hx hb dL_law_1760 (lv_at hl 15 rfl) ?_
          refine lv_iload hx hb dL_law_1762 (lv_at hl 21 rfl) ?_
          refine l_ald (v := fst g i ah) (j := i) S hE hW 9 rfl (vp_in_nI (show i < 12 from (by omega)) (by decide)) (nI_clamp (by omega)) (h9 i (by omega)) dL_law_1764 ?_
          refine lv_if_le (tgt := 1775) hx hb dL_law_1765 (by decide) (fun c_1765_6 => ?_) (fun c_1765_6 => ?_)
          · refine lv_iconst (v := 0) hx hb dL_law_1775 (by decide) ?_
            refine lv_ior hx hb dL_law_1776 ?_
            refine lv_topi (fun y_9 ey_9 => ?_)
            obtain rfl : y_9 = setN (i + 1) (fun j => decide (0 < bkk g j ah)) := ey_9.trans (set_n (f := (fun j => decide (0 < bkk g j ah))) (decide_eq_false ((fst_pos ha2).mp c_1765_6))).symm
            refine lv_istore (lv' := [(21, .int (setN (i + 1) (fun j => decide (0 < bkk g j ah)))), (12, .int 1), (25, .int (sta g i)), (24, .int (wAt g (jp g (i)) (g 22 (jp g (i))))), (23, .int (nI (jp g (i)))), (0, .ref (b)), (1, .ref (qx)), (2, .ref (qa 0)), (3, .ref (qa 1)), (4, .ref (qa 2)), (5, .ref (qa 3)), (6, .ref (qa 4)), (7, .ref (qa 5)), (8, .ref (qa 6)), (9, .ref (qa 7)), (10, .ref (qa 8)), (11, .ref (qa 9)), (13, .int (nI (nj g))), (14, .int (nI (mo g))), (15, .int (nI u15)), (20, .int (nI ah)), (22, .int (nI i))]) hx hb dL_law_1777 hl (by decide) rfl (fun ls hl => ?_)
            refine lv_iinc (v := nI (i + 1)) (lv' := [(22, .int (nI (i + 1))), (21, .int (setN (i + 1) (fun j => decide (0 < bkk g j ah)))), (12, .int 1), (25, .int (sta g i)), (24, .int (wAt g (jp g (i)) (g 22 (jp g (i))))), (23, .int (nI (jp g (i)))), (0, .ref (b)), (1, .ref (qx)), (2, .ref (qa 0)), (3, .ref (qa 1)), (4, .ref (qa 2)), (5, .ref (qa 3)), (6, .ref (qa 4)), (7, .ref (qa 5)), (8, .ref (qa 6)), (9, .ref (qa 7)), (10, .ref (qa 8)), (11, .ref (qa 9)), (13, .int (nI (nj g))), (14, .int (nI (mo g))), (15, .int (nI u15)), (20, .int (nI ah))]) hx hb dL_law_1779 hl (k := 21) rfl (nI_1 _) (by decide) rfl (fun ls hl => ?_)
            refine lv_goto (tgt := 1578) hx hb dL_law_1782 (by decide) ?_
            refine W.widen (k := cells + 3 * (i + 1)) (n := slots + 18 * (i + 1)) (by omega) (by omega) ?_
            exact ih_1578 (i + 1) (by omega) (by omega) _ _ hW hS ls (lv_sub hl [6, 7, 8, 9, 10, 11, 12, 13, 14, 15, 16, 17, 2, 18, 19, 20, 21, 1, 0] rfl)
          · refine lv_iconst (v := 1) hx hb dL_law_1768 (by decide) ?_
            refine lv_iload hx hb dL_law_1769 (lv_at hl 21 rfl) ?_
            refine lv_ishl hx hb dL_law_1771 ?_
            refine lv_goto (tgt := 1776) hx hb dL_law_1772 (by decide) ?_
            refine lv_ior hx hb dL_law_1776 ?_
            refine lv_topi (fun y_9 ey_9 => ?_)
            obtain rfl : y_9 = setN (i + 1) (fun j => decide (0 < bkk g j ah)) := ey_9.trans (set_y (f := (fun j => decide (0 < bkk g j ah))) (decide_eq_true (Decidable.not_not.mp fun q => c_1765_6 ((fst_pos ha2).mpr q)))).symm
            refine lv_istore (lv' := [(21, .int (setN (i + 1) (fun j => decide (0 < bkk g j ah)))), (12, .int 1), (25, .int (sta g i)), (24, .int (wAt g (jp g (i)) (g 22 (jp g (i))))), (23, .int (nI (jp g (i)))), (0, .ref (b)), (1, .ref (qx)), (2, .ref (qa 0)), (3, .ref (qa 1)), (4, .ref (qa 2)), (5, .ref (qa 3)), (6, .ref (qa 4)), (7, .ref (qa 5)), (8, .ref (qa 6)), (9, .ref (qa 7)), (10, .ref (qa 8)), (11, .ref (qa 9)), (13, .int (nI (nj g))), (14, .int (nI (mo g))), (15, .int (nI u15)), (20, .int (nI ah)), (22, .int (nI i))]) hx hb dL_law_1777 hl (by decide) rfl (fun ls hl => ?_)
            refine lv_iinc (v := nI (i + 1)) (lv' := [(22, .int (nI (i + 1))), (21, .int (setN (i + 1) (fun j => decide (0 < bkk g j ah)))), (12, .int 1), (25, .int (sta g i)), (24, .int (wAt g (jp g (i)) (g 22 (jp g (i))))), (23, .int (nI (jp g (i)))), (0, .ref (b)), (1, .ref (qx)), (2, .ref (qa 0)), (3, .ref (qa 1)), (4, .ref (qa 2)), (5, .ref (qa 3)), (6, .ref (qa 4)), (7, .ref (qa 5)), (8, .ref (qa 6)), (9, .ref (qa 7)), (10, .ref (qa 8)), (11, .ref (qa 9)), (13, .int (nI (nj g))), (14, .int (nI (mo g))), (15, .int (nI u15)), (20, .int (nI ah))]) hx hb dL_law_1779 hl (k := 21) rfl (nI_1 _) (by decide) rfl (fun ls hl => ?_)
            refine lv_goto (tgt := 1578) hx hb dL_law_1782 (by decide) ?_
            refine W.widen (k := cells + 3 * (i + 1)) (n := slots + 18 * (i + 1)) (by omega) (by omega) ?_
            exact ih_1578 (i + 1) (by omega) (by omega) _ _ hW hS ls (lv_sub hl [6, 7, 8, 9, 10, 11, 12, 13, 14, 15, 16, 17, 2, 18, 19, 20, 21, 1, 0] rfl)
        · refine lv_aload hx hb dL_law_1585 (lv_at hl 8 rfl) ?_
          refine lv_iconst (v := 5) hx hb dL_law_1587 (by decide) ?_
          refine lv_iload hx hb dL_law_1588 (lv_at hl 18 rfl) ?_
          refine lv_imul hx hb dL_law_1590 ?_
          rw [show (5 : Int32) * nI i = nI (5 * (i)) from pk_mul 5 _]
          refine lv_iconst (v := 1) hx hb dL_law_1591 (by decide) ?_
          refine lv_iadd hx hb dL_law_1592 ?_
          rw [show (nI (5 * (i)) : Int32) + 1 = nI ((5 * (i)) + 1) from nI_add _ 1]
          refine l_ald (v := nI (jp g (i))) (j := (5 * (i)) + 1) S hE hW 6 rfl (vp_in_nI (show (5 * (i)) + 1 < 60 from (by omega)) (by decide)) (nI_clamp (by omega)) (hA.j1 (by omega)) dL_law_1593 ?_
          refine lv_istore (lv' := [(23, .int (nI (jp g (i)))), (0, .ref (b)), (1, .ref (qx)), (2, .ref (qa 0)), (3, .ref (qa 1)), (4, .ref (qa 2)), (5, .ref (qa 3)), (6, .ref (qa 4)), (7, .ref (qa 5)), (8, .ref (qa 6)), (9, .ref (qa 7)), (10, .ref (qa 8)), (11, .ref (qa 9)), (12, .int 1), (13, .int (nI (nj g))), (14, .int (nI (mo g))), (15, .int (nI u15)), (20, .int (nI ah)), (21, .int (setN i (fun j => decide (0 < bkk g j ah)))), (22, .int (nI i))]) hx hb dL_law_1594 hl (by decide) rfl (fun ls hl => ?_)
          refine lv_aload hx hb dL_law_1596 (lv_at hl 6 rfl) ?_
          refine lv_iload hx hb dL_law_1598 (lv_at hl 0 rfl) ?_
          refine l_ald (v := g 20 (jp g (i))) (j := jp g (i)) S hE hW 3 rfl (vp_in_nI (show jp g (i) < 6 from (by omega)) (by decide)) (nI_clamp (by omega)) (hA.a3 (by omega)) dL_law_1600 ?_
          refine lv_aload hx hb dL_law_1601 (lv_at hl 6 rfl) ?_
          refine lv_iload hx hb dL_law_1603 (lv_at hl 0 rfl) ?_
          refine l_ald (v := g 20 (jp g (i))) (j := jp g (i)) S hE hW 3 rfl (vp_in_nI (show jp g (i) < 6 from (by omega)) (by decide)) (nI_clamp (by omega)) (hA.a3 (by omega)) dL_law_1605 ?_
          refine lv_iload hx hb dL_law_1606 (lv_at hl 0 rfl) ?_
          refine lv_iconst (v := 3) hx hb dL_law_1608 (by decide) ?_
          refine lv_irem hx hb dL_law_1609 (by decide) ?_
          rw [show (nI (jp g (i)) : Int32) - nI (jp g (i)) / 3 * 3 = nI ((jp g (i)) % 3) from pk_rem (d := 3) (by omega) (by decide) (by decide)]
          refine lv_aload hx hb dL_law_1610 (lv_at hl 7 rfl) ?_
          refine lv_iload hx hb dL_law_1612 (lv_at hl 0 rfl) ?_
          refine l_ald (v := g 22 (jp g (i))) (j := jp g (i)) S hE hW 4 rfl (vp_in_nI (show jp g (i) < 6 from (by omega)) (by decide)) (nI_clamp (by omega)) (hA.a4 (by omega)) dL_law_1614 ?_
          refine lv_aload hx hb dL_law_1615 (lv_at hl 5 rfl) ?_
          refine lv_iload hx hb dL_law_1617 (lv_at hl 0 rfl) ?_
          refine l_ald (v := g 21 (jp g (i))) (j := jp g (i)) S hE hW 2 rfl (vp_in_nI (show jp g (i) < 6 from (by omega)) (by decide)) (nI_clamp (by omega)) (hA.a2 (by omega)) dL_law_1619 ?_
          refine lv_isub hx hb dL_law_1620 ?_
          refine g_callS (As := [.int (g 20 (jp g (i))), .int (nI ((jp g (i)) % 3)), .int ((g 22 (jp g (i))) - (g 21 (jp g (i))))]) (rest := [.int (g 20 (jp g (i)))]) S hE hS (c_L_moved l z (g 20 (jp g (i))) (nI ((jp g (i)) % 3)) ((g 22 (jp g (i))) - (g 21 (jp g (i))))) (cwS 3 hts (gU_S tw_650 tw_651 tw_0 tw_652) rfl rfl rfl (by decide +kernel) ⟨Nat.le_of_ble_eq_true rfl, Nat.le_of_ble_eq_true rfl⟩) trivial rfl hl.1 rfl (Nat.le_of_ble_eq_true rfl) dL_law_1621 ⟨Nat.le_trans (by omega) hf.1, Nat.le_trans (by omega) hf.2⟩ ?_
          refine lv_iadd hx hb dL_law_1624 ?_
          refine lv_topi (fun y_8 ey_8 => ?_)
          obtain rfl : y_8 = wAt g (jp g (i)) (g 22 (jp g (i))) := ey_8.trans (hB.now hjp _)
          refine lv_istore (lv' := [(24, .int (wAt g (jp g (i)) (g 22 (jp g (i))))), (23, .int (nI (jp g (i)))), (0, .ref (b)), (1, .ref (qx)), (2, .ref (qa 0)), (3, .ref (qa 1)), (4, .ref (qa 2)), (5, .ref (qa 3)), (6, .ref (qa 4)), (7, .ref (qa 5)), (8, .ref (qa 6)), (9, .ref (qa 7)), (10, .ref (qa 8)), (11, .ref (qa 9)), (12, .int 1), (13, .int (nI (nj g))), (14, .int (nI (mo g))), (15, .int (nI u15)), (20, .int (nI ah)), (21, .int (setN i (fun j => decide (0 < bkk g j ah)))), (22, .int (nI i))]) hx hb dL_law_1625 hl (by decide) rfl (fun ls hl => ?_)
          refine lv_aload hx hb dL_law_1627 (lv_at hl 11 rfl) ?_
          refine lv_iload hx hb dL_law_1629 (lv_at hl 20 rfl) ?_
          refine l_ald (v := 1) (j := i) S hE hW 7 rfl (vp_in_nI (show i < 12 from (by omega)) (by decide)) (nI_clamp (by omega)) ((hA.a7 (by omega)).trans es) dL_law_1631 ?_
          refine lv_if_ne (tgt := 1639) hx hb dL_law_1632 (by decide) (fun _ => ?_) (fun h9 => absurd h9 (by decide))
          refine lv_aload hx hb dL_law_1639 (lv_at hl 11 rfl) ?_
          refine lv_iload hx hb dL_law_1641 (lv_at hl 20 rfl) ?_
          refine l_ald (v := 1) (j := i) S hE hW 7 rfl (vp_in_nI (show i < 12 from (by omega)) (by decide)) (nI_clamp (by omega)) ((hA.a7 (by omega)).trans es) dL_law_1643 ?_
          refine lv_iconst (v := 2) hx hb dL_law_1644 (by decide) ?_
          refine lv_icmp_ne (tgt := 1652) hx hb dL_law_1645 (by decide) (fun _ => ?_) (fun h9 => absurd h9 (by decide))
          refine lv_aload hx hb dL_law_1652 (lv_at hl 10 rfl) ?_
          refine lv_iconst (v := 5) hx hb dL_law_1654 (by decide) ?_
          refine lv_iload hx hb dL_law_1655 (lv_at hl 20 rfl) ?_
          refine lv_imul hx hb dL_law_1657 ?_
          rw [show (5 : Int32) * nI i = nI (5 * (i)) from pk_mul 5 _]
          refine l_ald (v := g 25 (i)) (j := 5 * (i)) S hE hW 6 rfl (vp_in_nI (show 5 * (i) < 60 from (by omega)) (by decide)) (nI_clamp (by omega)) (hA.j0 (by omega)) dL_law_1658 ?_
          refine lv_iconst (v := 2) hx hb dL_law_1659 (by decide) ?_
          refine lv_icmp_ne (tgt := 1681) hx hb dL_law_1660 (by decide) (fun c_1660_8 => ?_) (fun c_1660_8 => ?_)
          · refine lv_iconst (v := 1) hx hb dL_law_1681 (by decide) ?_
            refine lv_topi (fun y_9 ey_9 => ?_)
            obtain rfl : y_9 = sta g i := ey_9.trans (by simp [sta, e31, e32, c_1660_8])
            refine lv_istore (lv' := [(25, .int (sta g i)), (24, .int (wAt g (jp g (i)) (g 22 (jp g (i))))), (23, .int (nI (jp g (i)))), (0, .ref (b)), (1, .ref (qx)), (2, .ref (qa 0)), (3, .ref (qa 1)), (4, .ref (qa 2)), (5, .ref (qa 3)), (6, .ref (qa 4)), (7, .ref (qa 5)), (8, .ref (qa 6)), (9, .ref (qa 7)), (10, .ref (qa 8)), (11, .ref (qa 9)), (12, .int 1), (13, .int (nI (nj g))), (14, .int (nI (mo g))), (15, .int (nI u15)), (20, .int (nI ah)), (21, .int (setN i (fun j => decide (0 < bkk g j ah)))), (22, .int (nI i))]) hx hb dL_law_1682 hl (by decide) rfl (fun ls hl => ?_)
            refine lv_iload hx hb dL_law_1684 (lv_at hl 15 rfl) ?_
            refine lv_if_eq (tgt := 1755) hx hb dL_law_1686 (by decide) (fun h9 => absurd h9 (by decide)) (fun _ => ?_)
            refine lv_aload_n hx hb dL_law_1689 rfl (lv_at hl 4 rfl) ?_
            refine lv_iload hx hb dL_law_1690 (lv_at hl 21 rfl) ?_
            refine lv_iconst (v := 0) hx hb dL_law_1692 (by decide) ?_
            refine l_pcall (As := [.int (nI i), .int 0]) (rest := []) (sp := sp_ofJoint g (nI i) (0)) (Ea := xI) (Eb := xA) (Ec := xI) S hE hS hW ((t_ofJoint hB hi9).1) (fun w => c_X5_ofJoint l z hst w (g) gm (fun _ => 0) hB.ok (nI i) (0)) (cwV 2 hts (gU_V tw_584 tw_585 tw_586 tw_1 tw_587) rfl rfl rfl (by decide +kernel) ⟨Nat.le_of_ble_eq_true rfl, Nat.le_of_ble_eq_true rfl⟩) rfl hl.1 rfl (Nat.le_of_ble_eq_true rfl) dL_law_1693 ⟨Nat.le_trans (by omega) hf.1, Nat.le_trans (by omega) hf.2⟩ (fun H locs hW hS => ?_)
            refine lv_iload hx hb dL_law_1696 (lv_at hl 0 rfl) ?_
            refine lv_icmp_ne (tgt := 1755) hx hb dL_law_1698 (by decide) (fun q9 => absurd (rfl) q9) (fun c_1698_9 => ?_)
            refine lv_aload_n hx hb dL_law_1701 rfl (lv_at hl 4 rfl) ?_
            refine lv_iload hx hb dL_law_1702 (lv_at hl 21 rfl) ?_
            refine lv_iconst (v := 1) hx hb dL_law_1704 (by decide) ?_
            refine l_pcall (As := [.int (nI i), .int 1]) (rest := []) (sp := sp_ofJoint g (nI i) (1)) (Ea := xI) (Eb := xA) (Ec := xI) S hE hS hW ((t_ofJoint hB hi9).2) (fun w => c_X5_ofJoint l z hst w (g) gm (fun _ => 0) hB.ok (nI i) (1)) (cwV 2 hts (gU_V tw_584 tw_585 tw_586 tw_1 tw_587) rfl rfl rfl (by decide +kernel) ⟨Nat.le_of_ble_eq_true rfl, Nat.le_of_ble_eq_true rfl⟩) rfl hl.1 rfl (Nat.le_of_ble_eq_true rfl) dL_law_1705 ⟨Nat.le_trans (by omega) hf.1, Nat.le_trans (by omega) hf.2⟩ (fun H locs hW hS => ?_)
            refine lv_aload hx hb dL_law_1708 (lv_at hl 11 rfl) ?_
            refine lv_iconst (v := 5) hx hb dL_law_1710 (by decide) ?_
            refine lv_iload hx hb dL_law_1711 (lv_at hl 21 rfl) ?_
            refine lv_imul hx hb dL_law_1713 ?_
            rw [show (5 : Int32) * nI i = nI (5 * (i)) from pk_mul 5 _]
            refine lv_iconst (v := 2) hx hb dL_law_1714 (by decide) ?_
            refine lv_iadd hx hb dL_law_1715 ?_
            rw [show (nI (5 * (i)) : Int32) + 2 = nI ((5 * (i)) + 2) from nI_add _ 2]
            refine l_ald (v := g 28 (i)) (j := (5 * (i)) + 2) S hE hW 6 rfl (vp_in_nI (show (5 * (i)) + 2 < 60 from (by omega)) (by decide)) (nI_clamp (by omega)) (hA.j2 (by omega)) dL_law_1716 ?_
            refine lv_icmp_ne (tgt := 1755) hx hb dL_law_1717 (by decide) (fun q9 => absurd (rfl) q9) (fun c_1717_10 => ?_)
            refine lv_aload_n hx hb dL_law_1720 rfl (lv_at hl 4 rfl) ?_
            refine lv_iload hx hb dL_law_1721 (lv_at hl 21 rfl) ?_
            refine lv_iload hx hb dL_law_1723 (lv_at hl 19 rfl) ?_
            refine l_wcall (As := [.ref (qx), .int (nI i), .int (nI ah)]) (rest := []) (sp := sp_breaksIn g (nI i) (nI ah)) S hE hS hW (c_L_breaksIn l z hst qx qa (g) gm hB.ok (nI i) (nI ah) (brk_k hB hi9 ha1 ha2)) (vx_cwSW 3 hts (gU_w tw_639 tw_640 tw_0 tw_641) rfl rfl rfl (by decide +kernel) ⟨Nat.le_of_ble_eq_true rfl, Nat.le_of_ble_eq_true rfl⟩) rfl hl.1 rfl (Nat.le_of_ble_eq_true rfl) dL_law_1725 ⟨Nat.le_trans (by omega) hf.1, Nat.le_trans (by omega) hf.2⟩ (fun H locs hW hS => ?_)
            rw [t_breaksIn hB hi9 ha1 ha2, if_pos es] at hW ⊢
            rw [show ares (0, fst g i ah, g) = fst g i ah from rfl]
            have hW : LI z qx qa g gm H := hW
            refine lv_aload hx hb dL_law_1728 (lv_at hl 12 rfl) ?_
            refine lv_iload hx hb dL_law_1730 (lv_at hl 21 rfl) ?_
            refine l_ald (v := 1) (j := i) S hE hW 7 rfl (vp_in_nI (show i < 12 from (by omega)) (by decide)) (nI_clamp (by omega)) ((hA.a7 (by omega)).trans es) dL_law_1732 ?_
            refine lv_iconst (v := 1) hx hb dL_law_1733 (by decide) ?_
            refine lv_icmp_ne (tgt := 1745) hx hb dL_law_1734 (by decide) (fun h9 => absurd h9 (by decide)) (fun _ => ?_)
            refine lv_aload hx hb dL_law_1737 (lv_at hl 14 rfl) ?_
            refine lv_iload hx hb dL_law_1739 (lv_at hl 21 rfl) ?_
            refine l_ald (v := fst g i ah) (j := i) S hE hW 9 rfl (vp_in_nI (show i < 12 from (by omega)) (by decide)) (nI_clamp (by omega)) (h9 i (by omega)) dL_law_1741 ?_
            refine lv_goto (tgt := 1748) hx hb dL_law_1742 (by decide) ?_
            refine lv_icmp_ne (tgt := 1755) hx hb dL_law_1748 (by decide) (fun q9 => absurd (rfl) q9) (fun c_1748_11 => ?_)
            refine lv_iconst (v := 1) hx hb dL_law_1751 (by decide) ?_
            refine lv_goto (tgt := 1756) hx hb dL_law_1752 (by decide) ?_
            refine lv_istore (lv' := [(12, .int 1), (25, .int (sta g i)), (24, .int (wAt g (jp g (i)) (g 22 (jp g (i))))), (23, .int (nI (jp g (i)))), (0, .ref (b)), (1, .ref (qx)), (2, .ref (qa 0)), (3, .ref (qa 1)), (4, .ref (qa 2)), (5, .ref (qa 3)), (6, .ref (qa 4)), (7, .ref (qa 5)), (8, .ref (qa 6)), (9, .ref (qa 7)), (10, .ref (qa 8)), (11, .ref (qa 9)), (13, .int (nI (nj g))), (14, .int (nI (mo g))), (15, .int (nI u15)), (20, .int (nI ah)), (21, .int (setN i (fun j => decide (0 < bkk g j ah)))), (22, .int (nI i))]) hx hb dL_law_1756 hl (by decide) rfl (fun ls hl => ?_)
            refine lv_iload hx hb dL_law_1758 (lv_at hl 20 rfl) ?_
            refine lv_aload hx hb dL_law_1760 (lv_at hl 15 rfl) ?_
            refine lv_iload hx hb dL_law_1762 (lv_at hl 21 rfl) ?_
            refine l_ald (v := fst g i ah) (j := i) S hE hW 9 rfl (vp_in_nI (show i < 12 from (by omega)) (by decide)) (nI_clamp (by omega)) (h9 i (by omega)) dL_law_1764 ?_
            refine lv_if_le (tgt := 1775) hx hb dL_law_1765 (by decide) (fun c_1765_12 => ?_) (fun c_1765_12 => ?_)
            · refine lv_iconst (v := 0) hx hb dL_law_1775 (by decide) ?_
              refine lv_ior hx hb dL_law_1776 ?_
              refine lv_topi (fun y_9 ey_9 => ?_)
              obtain rfl : y_9 = setN (i + 1) (fun j => decide (0 < bkk g j ah)) := ey_9.trans (set_n (f := (fun j => decide (0 < bkk g j ah))) (decide_eq_false ((fst_pos ha2).mp c_1765_12))).symm
              refine lv_istore (lv' := [(21, .int (setN (i + 1) (fun j => decide (0 < bkk g j ah)))), (12, .int 1), (25, .int (sta g i)), (24, .int (wAt g (jp g (i)) (g 22 (jp g (i))))), (23, .int (nI (jp g (i)))), (0, .ref (b)), (1, .ref (qx)), (2, .ref (qa 0)), (3, .ref (qa 1)), (4, .ref (qa 2)), (5, .ref (qa 3)), (6, .ref (qa 4)), (7, .ref (qa 5)), (8, .ref (qa 6)), (9, .ref (qa 7)), (10, .ref (qa 8)), (11, .ref (qa 9)), (13, .int (nI (nj g))), (14, .int (nI (mo g))), (15, .int (nI u15)), (20, .int (nI ah)), (22, .int (nI i))]) hx hb dL_law_1777 hl (by decide) rfl (fun ls hl => ?_)
              refine lv_iinc (v := nI (i + 1)) (lv' := [(22, .int (nI (i + 1))), (21, .int (setN (i + 1) (fun j => decide (0 < bkk g j ah)))), (12, .int 1), (25, .int (sta g i)), (24, .int (wAt g (jp g (i)) (g 22 (jp g (i))))), (23, .int (nI (jp g (i)))), (0, .ref (b)), (1, .ref (qx)), (2, .ref (qa 0)), (3, .ref (qa 1)), (4, .ref (qa 2)), (5, .ref (qa 3)), (6, .ref (qa 4)), (7, .ref (qa 5)), (8, .ref (qa 6)), (9, .ref (qa 7)), (10, .ref (qa 8)), (11, .ref (qa 9)), (13, .int (nI (nj g))), (14, .int (nI (mo g))), (15, .int (nI u15)), (20, .int (nI ah))]) hx hb dL_law_1779 hl (k := 21) rfl (nI_1 _) (by decide) rfl (fun ls hl => ?_)
              refine lv_goto (tgt := 1578) hx hb dL_law_1782 (by decide) ?_
              refine W.widen (k := cells + 3 * (i + 1)) (n := slots + 18 * (i + 1)) (by omega) (by omega) ?_
              exact ih_1578 (i + 1) (by omega) (by omega) _ _ hW hS ls (lv_sub hl [6, 7, 8, 9, 10, 11, 12, 13, 14, 15, 16, 17, 2, 18, 19, 20, 21, 1, 0] rfl)
            · refine lv_iconst (v := 1) hx hb dL_law_1768 (by decide) ?_
              refine lv_iload hx hb dL_law_1769 (lv_at hl 21 rfl) ?_
              refine lv_ishl hx hb dL_law_1771 ?_
              refine lv_goto (tgt := 1776) hx hb dL_law_1772 (by decide) ?_
              refine lv_ior hx hb dL_law_1776 ?_
              refine lv_topi (fun y_9 ey_9 => ?_)
              obtain rfl : y_9 = setN (i + 1) (fun j => decide (0 < bkk g j ah)) := ey_9.trans (set_y (f := (fun j => decide (0 < bkk g j ah))) (decide_eq_true (Decidable.not_not.mp fun q => c_1765_12 ((fst_pos ha2).mpr q)))).symm
              refine lv_istore (lv' := [(21, .int (setN (i + 1) (fun j => decide (0 < bkk g j ah)))), (12, .int 1), (25, .int (sta g i)), (24, .int (wAt g (jp g (i)) (g 22 (jp g (i))))), (23, .int (nI (jp g (i)))), (0, .ref (b)), (1, .ref (qx)), (2, .ref (qa 0)), (3, .ref (qa 1)), (4, .ref (qa 2)), (5, .ref (qa 3)), (6, .ref (qa 4)), (7, .ref (qa 5)), (8, .ref (qa 6)), (9, .ref (qa 7)), (10, .ref (qa 8)), (11, .ref (qa 9)), (13, .int (nI (nj g))), (14, .int (nI (mo g))), (15, .int (nI u15)), (20, .int (nI ah)), (22, .int (nI i))]) hx hb dL_law_1777 hl (by decide) rfl (fun ls hl => ?_)
              refine lv_iinc (v := nI (i + 1)) (lv' := [(22, .int (nI (i + 1))), (21, .int (setN (i + 1) (fun j => decide (0 < bkk g j ah)))), (12, .int 1), (25, .int (sta g i)), (24, .int (wAt g (jp g (i)) (g 22 (jp g (i))))), (23, .int (nI (jp g (i)))), (0, .ref (b)), (1, .ref (qx)), (2, .ref (qa 0)), (3, .ref (qa 1)), (4, .ref (qa 2)), (5, .ref (qa 3)), (6, .ref (qa 4)), (7, .ref (qa 5)), (8, .ref (qa 6)), (9, .ref (qa 7)), (10, .ref (qa 8)), (11, .ref (qa 9)), (13, .int (nI (nj g))), (14, .int (nI (mo g))), (15, .int (nI u15)), (20, .int (nI ah))]) hx hb dL_law_1779 hl (k := 21) rfl (nI_1 _) (by decide) rfl (fun ls hl => ?_)
              refine lv_goto (tgt := 1578) hx hb dL_law_1782 (by decide) ?_
              refine W.widen (k := cells + 3 * (i + 1)) (n := slots + 18 * (i + 1)) (by omega) (by omega) ?_
              exact ih_1578 (i + 1) (by omega) (by omega) _ _ hW hS ls (lv_sub hl [6, 7, 8, 9, 10, 11, 12, 13, 14, 15, 16, 17, 2, 18, 19, 20, 21, 1, 0] rfl)
          · refine lv_iload hx hb dL_law_1663 (lv_at hl 0 rfl) ?_
            refine lv_aload hx hb dL_law_1665 (lv_at hl 10 rfl) ?_
            refine lv_iconst (v := 5) hx hb dL_law_1667 (by decide) ?_
            refine lv_iload hx hb dL_law_1668 (lv_at hl 20 rfl) ?_
            refine lv_imul hx hb dL_law_1670 ?_
            rw [show (5 : Int32) * nI i = nI (5 * (i)) from pk_mul 5 _]
            refine lv_iconst (v := 2) hx hb dL_law_1671 (by decide) ?_
            refine lv_iadd hx hb dL_law_1672 ?_
            rw [show (nI (5 * (i)) : Int32) + 2 = nI ((5 * (i)) + 2) from nI_add _ 2]
            refine l_ald (v := g 28 (i)) (j := (5 * (i)) + 2) S hE hW 6 rfl (vp_in_nI (show (5 * (i)) + 2 < 60 from (by omega)) (by decide)) (nI_clamp (by omega)) (hA.j2 (by omega)) dL_law_1673 ?_
            refine lv_icmp_le (tgt := 1681) hx hb dL_law_1674 (by decide) (fun c_1674_13 => ?_) (fun c_1674_13 => ?_)
            · refine lv_iconst (v := 1) hx hb dL_law_1681 (by decide) ?_
              refine lv_topi (fun y_9 ey_9 => ?_)
              obtain rfl : y_9 = sta g i := ey_9.trans (by simp [sta, e31, e32, c_1660_8, c_1674_13])
              refine lv_istore (lv' := [(25, .int (sta g i)), (24, .int (wAt g (jp g (i)) (g 22 (jp g (i))))), (23, .int (nI (jp g (i)))), (0, .ref (b)), (1, .ref (qx)), (2, .ref (qa 0)), (3, .ref (qa 1)), (4, .ref (qa 2)), (5, .ref (qa 3)), (6, .ref (qa 4)), (7, .ref (qa 5)), (8, .ref (qa 6)), (9, .ref (qa 7)), (10, .ref (qa 8)), (11, .ref (qa 9)), (12, .int 1), (13, .int (nI (nj g))), (14, .int (nI (mo g))), (15, .int (nI u15)), (20, .int (nI ah)), (21, .int (setN i (fun j => decide (0 < bkk g j ah)))), (22, .int (nI i))]) hx hb dL_law_1682 hl (by decide) rfl (fun ls hl => ?_)
              refine lv_iload hx hb dL_law_1684 (lv_at hl 15 rfl) ?_
              refine lv_if_eq (tgt := 1755) hx hb dL_law_1686 (by decide) (fun h9 => absurd h9 (by decide)) (fun _ => ?_)
              refine lv_aload_n hx hb dL_law_1689 rfl (lv_at hl 4 rfl) ?_
              refine lv_iload hx hb dL_law_1690 (lv_at hl 21 rfl) ?_
              refine lv_iconst (v := 0) hx hb dL_law_1692 (by decide) ?_
              refine l_pcall (As := [.int (nI i), .int 0]) (rest := []) (sp := sp_ofJoint g (nI i) (0)) (Ea := xI) (Eb := xA) (Ec := xI) S hE hS hW ((t_ofJoint hB hi9).1) (fun w => c_X5_ofJoint l z hst w (g) gm (fun _ => 0) hB.ok (nI i) (0)) (cwV 2 hts (gU_V tw_584 tw_585 tw_586 tw_1 tw_587) rfl rfl rfl (by decide +kernel) ⟨Nat.le_of_ble_eq_true rfl, Nat.le_of_ble_eq_true rfl⟩) rfl hl.1 rfl (Nat.le_of_ble_eq_true rfl) dL_law_1693 ⟨Nat.le_trans (by omega) hf.1, Nat.le_trans (by omega) hf.2⟩ (fun H locs hW hS => ?_)
              refine lv_iload hx hb dL_law_1696 (lv_at hl 0 rfl) ?_
              refine lv_icmp_ne (tgt := 1755) hx hb dL_law_1698 (by decide) (fun q9 => absurd (rfl) q9) (fun c_1698_14 => ?_)
              refine lv_aload_n hx hb dL_law_1701 rfl (lv_at hl 4 rfl) ?_
              refine lv_iload hx hb dL_law_1702 (lv_at hl 21 rfl) ?_
              refine lv_iconst (v := 1) hx hb dL_law_1704 (by decide) ?_
              refine l_pcall (As := [.int (nI i), .int 1]) (rest := []) (sp := sp_ofJoint g (nI i) (1)) (Ea := xI) (Eb := xA) (Ec := xI) S hE hS hW ((t_ofJoint hB hi9).2) (fun w => c_X5_ofJoint l z hst w (g) gm (fun _ => 0) hB.ok (nI i) (1)) (cwV 2 hts (gU_V tw_584 tw_585 tw_586 tw_1 tw_587) rfl rfl rfl (by decide +kernel) ⟨Nat.le_of_ble_eq_true rfl, Nat.le_of_ble_eq_true rfl⟩) rfl hl.1 rfl (Nat.le_of_ble_eq_true rfl) dL_law_1705 ⟨Nat.le_trans (by omega) hf.1, Nat.le_trans (by omega) hf.2⟩ (fun H locs hW hS => ?_)
              refine lv_aload hx hb dL_law_1708 (lv_at hl 11 rfl) ?_
              refine lv_iconst (v := 5) hx hb dL_law_1710 (by decide) ?_
              refine lv_iload hx hb dL_law_1711 (lv_at hl 21 rfl) ?_
              refine lv_imul hx hb dL_law_1713 ?_
              rw [show (5 : Int32) * nI i = nI (5 * (i)) from pk_mul 5 _]
              refine lv_iconst (v := 2) hx hb dL_law_1714 (by decide) ?_
              refine lv_iadd hx hb dL_law_1715 ?_
              rw [show (nI (5 * (i)) : Int32) + 2 = nI ((5 * (i)) + 2) from nI_add _ 2]
              refine l_ald (v := g 28 (i)) (j := (5 * (i)) + 2) S hE hW 6 rfl (vp_in_nI (show (5 * (i)) + 2 < 60 from (by omega)) (by decide)) (nI_clamp (by omega)) (hA.j2 (by omega)) dL_law_1716 ?_
              refine lv_icmp_ne (tgt := 1755) hx hb dL_law_1717 (by decide) (fun q9 => absurd (rfl) q9) (fun c_1717_15 => ?_)
              refine lv_aload_n hx hb dL_law_1720 rfl (lv_at hl 4 rfl) ?_
              refine lv_iload hx hb dL_law_1721 (lv_at hl 21 rfl) ?_
              refine lv_iload hx hb dL_law_1723 (lv_at hl 19 rfl) ?_
              refine l_wcall (As := [.ref (qx), .int (nI i), .int (nI ah)]) (rest := []) (sp := sp_breaksIn g (nI i) (nI ah)) S hE hS hW (c_L_breaksIn l z hst qx qa (g) gm hB.ok (nI i) (nI ah) (brk_k hB hi9 ha1 ha2)) (vx_cwSW 3 hts (gU_w tw_639 tw_640 tw_0 tw_641) rfl rfl rfl (by decide +kernel) ⟨Nat.le_of_ble_eq_true rfl, Nat.le_of_ble_eq_true rfl⟩) rfl hl.1 rfl (Nat.le_of_ble_eq_true rfl) dL_law_1725 ⟨Nat.le_trans (by omega) hf.1, Nat.le_trans (by omega) hf.2⟩ (fun H locs hW hS => ?_)
              rw [t_breaksIn hB hi9 ha1 ha2, if_pos es] at hW ⊢
              rw [show ares (0, fst g i ah, g) = fst g i ah from rfl]
              have hW : LI z qx qa g gm H := hW
              refine lv_aload hx hb dL_law_1728 (lv_at hl 12 rfl) ?_
              refine lv_iload hx hb dL_law_1730 (lv_at hl 21 rfl) ?_
              refine l_ald (v := 1) (j := i) S hE hW 7 rfl (vp_in_nI (show i < 12 from (by omega)) (by decide)) (nI_clamp (by omega)) ((hA.a7 (by omega)).trans es) dL_law_1732 ?_
              refine lv_iconst (v := 1) hx hb dL_law_1733 (by decide) ?_
              refine lv_icmp_ne (tgt := 1745) hx hb dL_law_1734 (by decide) (fun h9 => absurd h9 (by decide)) (fun _ => ?_)
              refine lv_aload hx hb dL_law_1737 (lv_at hl 14 rfl) ?_
              refine lv_iload hx hb dL_law_1739 (lv_at hl 21 rfl) ?_
              refine l_ald (v := fst g i ah) (j := i) S hE hW 9 rfl (vp_in_nI (show i < 12 from (by omega)) (by decide)) (nI_clamp (by omega)) (h9 i (by omega)) dL_law_1741 ?_
              refine lv_goto (tgt := 1748) hx hb dL_law_1742 (by decide) ?_
              refine lv_icmp_ne (tgt := 1755) hx hb dL_law_1748 (by decide) (fun q9 => absurd (rfl) q9) (fun c_1748_16 => ?_)
              refine lv_iconst (v := 1) hx hb dL_law_1751 (by decide) ?_
              refine lv_goto (tgt := 1756) hx hb dL_law_1752 (by decide) ?_
              refine lv_istore (lv' := [(12, .int 1), (25, .int (sta g i)), (24, .int (wAt g (jp g (i)) (g 22 (jp g (i))))), (23, .int (nI (jp g (i)))), (0, .ref (b)), (1, .ref (qx)), (2, .ref (qa 0)), (3, .ref (qa 1)), (4, .ref (qa 2)), (5, .ref (qa 3)), (6, .ref (qa 4)), (7, .ref (qa 5)), (8, .ref (qa 6)), (9, .ref (qa 7)), (10, .ref (qa 8)), (11, .ref (qa 9)), (13, .int (nI (nj g))), (14, .int (nI (mo g))), (15, .int (nI u15)), (20, .int (nI ah)), (21, .int (setN i (fun j => decide (0 < bkk g j ah)))), (22, .int (nI i))]) hx hb dL_law_1756 hl (by decide) rfl (fun ls hl => ?_)
              refine lv_iload hx hb dL_law_1758 (lv_at hl 20 rfl) ?_
              refine lv_aload hx hb dL_law_1760 (lv_at hl 15 rfl) ?_
              refine lv_iload hx hb dL_law_1762 (lv_at hl 21 rfl) ?_
              refine l_ald (v := fst g i ah) (j := i) S hE hW 9 rfl (vp_in_nI (show i < 12 from (by omega)) (by decide)) (nI_clamp (by omega)) (h9 i (by omega)) dL_law_1764 ?_
              refine lv_if_le (tgt := 1775) hx hb dL_law_1765 (by decide) (fun c_1765_17 => ?_) (fun c_1765_17 => ?_)
              · refine lv_iconst (v := 0) hx hb dL_law_1775 (by decide) ?_
                refine lv_ior hx hb dL_law_1776 ?_
                refine lv_topi (fun y_9 ey_9 => ?_)
                obtain rfl : y_9 = setN (i + 1) (fun j => decide (0 < bkk g j ah)) := ey_9.trans (set_n (f := (fun j => decide (0 < bkk g j ah))) (decide_eq_false ((fst_pos ha2).mp c_1765_17))).symm
                refine lv_istore (lv' := [(21, .int (setN (i + 1) (fun j => decide (0 < bkk g j ah)))), (12, .int 1), (25, .int (sta g i)), (24, .int (wAt g (jp g (i)) (g 22 (jp g (i))))), (23, .int (nI (jp g (i)))), (0, .ref (b)), (1, .ref (qx)), (2, .ref (qa 0)), (3, .ref (qa 1)), (4, .ref (qa 2)), (5, .ref (qa 3)), (6, .ref (qa 4)), (7, .ref (qa 5)), (8, .ref (qa 6)), (9, .ref (qa 7)), (10, .ref (qa 8)), (11, .ref (qa 9)), (13, .int (nI (nj g))), (14, .int (nI (mo g))), (15, .int (nI u15)), (20, .int (nI ah)), (22, .int (nI i))]) hx hb dL_law_1777 hl (by decide) rfl (fun ls hl => ?_)
                refine lv_iinc (v := nI (i + 1)) (lv' := [(22, .int (nI (i + 1))), (21, .int (setN (i + 1) (fun j => decide (0 < bkk g j ah)))), (12, .int 1), (25, .int (sta g i)), (24, .int (wAt g (jp g (i)) (g 22 (jp g (i))))), (23, .int (nI (jp g (i)))), (0, .ref (b)), (1, .ref (qx)), (2, .ref (qa 0)), (3, .ref (qa 1)), (4, .ref (qa 2)), (5, .ref (qa 3)), (6, .ref (qa 4)), (7, .ref (qa 5)), (8, .ref (qa 6)), (9, .ref (qa 7)), (10, .ref (qa 8)), (11, .ref (qa 9)), (13, .int (nI (nj g))), (14, .int (nI (mo g))), (15, .int (nI u15)), (20, .int (nI ah))]) hx hb dL_law_1779 hl (k := 21) rfl (nI_1 _) (by decide) rfl (fun ls hl => ?_)
                refine lv_goto (tgt := 1578) hx hb dL_law_1782 (by decide) ?_
                refine W.widen (k := cells + 3 * (i + 1)) (n := slots + 18 * (i + 1)) (by omega) (by omega) ?_
                exact ih_1578 (i + 1) (by omega) (by omega) _ _ hW hS ls (lv_sub hl [6, 7, 8, 9, 10, 11, 12, 13, 14, 15, 16, 17, 2, 18, 19, 20, 21, 1, 0] rfl)
              · refine lv_iconst (v := 1) hx hb dL_law_1768 (by decide) ?_
                refine lv_iload hx hb dL_law_1769 (lv_at hl 21 rfl) ?_
                refine lv_ishl hx hb dL_law_1771 ?_
                refine lv_goto (tgt := 1776) hx hb dL_law_1772 (by decide) ?_
                refine lv_ior hx hb dL_law_1776 ?_
                refine lv_topi (fun y_9 ey_9 => ?_)
                obtain rfl : y_9 = setN (i + 1) (fun j => decide (0 < bkk g j ah)) := ey_9.trans (set_y (f := (fun j => decide (0 < bkk g j ah))) (decide_eq_true (Decidable.not_not.mp fun q => c_1765_17 ((fst_pos ha2).mpr q)))).symm
                refine lv_istore (lv' := [(21, .int (setN (i + 1) (fun j => decide (0 < bkk g j ah)))), (12, .int 1), (25, .int (sta g i)), (24, .int (wAt g (jp g (i)) (g 22 (jp g (i))))), (23, .int (nI (jp g (i)))), (0, .ref (b)), (1, .ref (qx)), (2, .ref (qa 0)), (3, .ref (qa 1)), (4, .ref (qa 2)), (5, .ref (qa 3)), (6, .ref (qa 4)), (7, .ref (qa 5)), (8, .ref (qa 6)), (9, .ref (qa 7)), (10, .ref (qa 8)), (11, .ref (qa 9)), (13, .int (nI (nj g))), (14, .int (nI (mo g))), (15, .int (nI u15)), (20, .int (nI ah)), (22, .int (nI i))]) hx hb dL_law_1777 hl (by decide) rfl (fun ls hl => ?_)
                refine lv_iinc (v := nI (i + 1)) (lv' := [(22, .int (nI (i + 1))), (21, .int (setN (i + 1) (fun j => decide (0 < bkk g j ah)))), (12, .int 1), (25, .int (sta g i)), (24, .int (wAt g (jp g (i)) (g 22 (jp g (i))))), (23, .int (nI (jp g (i)))), (0, .ref (b)), (1, .ref (qx)), (2, .ref (qa 0)), (3, .ref (qa 1)), (4, .ref (qa 2)), (5, .ref (qa 3)), (6, .ref (qa 4)), (7, .ref (qa 5)), (8, .ref (qa 6)), (9, .ref (qa 7)), (10, .ref (qa 8)), (11, .ref (qa 9)), (13, .int (nI (nj g))), (14, .int (nI (mo g))), (15, .int (nI u15)), (20, .int (nI ah))]) hx hb dL_law_1779 hl (k := 21) rfl (nI_1 _) (by decide) rfl (fun ls hl => ?_)
                refine lv_goto (tgt := 1578) hx hb dL_law_1782 (by decide) ?_
                refine W.widen (k := cells + 3 * (i + 1)) (n := slots + 18 * (i + 1)) (by omega) (by omega) ?_
                exact ih_1578 (i + 1) (by omega) (by omega) _ _ hW hS ls (lv_sub hl [6, 7, 8, 9, 10, 11, 12, 13, 14, 15, 16, 17, 2, 18, 19, 20, 21, 1, 0] rfl)
            · refine lv_iconst (v := 2) hx hb dL_law_1677 (by decide) ?_
              refine lv_goto (tgt := 1682) hx hb dL_law_1678 (by decide) ?_
              refine lv_topi (fun y_9 ey_9 => ?_)
              obtain rfl : y_9 = sta g i := ey_9.trans (by simp [sta, e31, e32, c_1660_8, c_1674_13])
              refine lv_istore (lv' := [(25, .int (sta g i)), (24, .int (wAt g (jp g (i)) (g 22 (jp g (i))))), (23, .int (nI (jp g (i)))), (0, .ref (b)), (1, .ref (qx)), (2, .ref (qa 0)), (3, .ref (qa 1)), (4, .ref (qa 2)), (5, .ref (qa 3)), (6, .ref (qa 4)), (7, .ref (qa 5)), (8, .ref (qa 6)), (9, .ref (qa 7)), (10, .ref (qa 8)), (11, .ref (qa 9)), (12, .int 1), (13, .int (nI (nj g))), (14, .int (nI (mo g))), (15, .int (nI u15)), (20, .int (nI ah)), (21, .int (setN i (fun j => decide (0 < bkk g j ah)))), (22, .int (nI i))]) hx hb dL_law_1682 hl (by decide) rfl (fun ls hl => ?_)
              refine lv_iload hx hb dL_law_1684 (lv_at hl 15 rfl) ?_
              refine lv_if_eq (tgt := 1755) hx hb dL_law_1686 (by decide) (fun h9 => absurd h9 (by decide)) (fun _ => ?_)
              refine lv_aload_n hx hb dL_law_1689 rfl (lv_at hl 4 rfl) ?_
              refine lv_iload hx hb dL_law_1690 (lv_at hl 21 rfl) ?_
              refine lv_iconst (v := 0) hx hb dL_law_1692 (by decide) ?_
              refine l_pcall (As := [.int (nI i), .int 0]) (rest := []) (sp := sp_ofJoint g (nI i) (0)) (Ea := xI) (Eb := xA) (Ec := xI) S hE hS hW ((t_ofJoint hB hi9).1) (fun w => c_X5_ofJoint l z hst w (g) gm (fun _ => 0) hB.ok (nI i) (0)) (cwV 2 hts (gU_V tw_584 tw_585 tw_586 tw_1 tw_587) rfl rfl rfl (by decide +kernel) ⟨Nat.le_of_ble_eq_true rfl, Nat.le_of_ble_eq_true rfl⟩) rfl hl.1 rfl (Nat.le_of_ble_eq_true rfl) dL_law_1693 ⟨Nat.le_trans (by omega) hf.1, Nat.le_trans (by omega) hf.2⟩ (fun H locs hW hS => ?_)
              refine lv_iload hx hb dL_law_1696 (lv_at hl 0 rfl) ?_
              refine lv_icmp_ne (tgt := 1755) hx hb dL_law_1698 (by decide) (fun q9 => absurd (rfl) q9) (fun c_1698_18 => ?_)
              refine lv_aload_n hx hb dL_law_1701 rfl (lv_at hl 4 rfl) ?_
              refine lv_iload hx hb dL_law_1702 (lv_at hl 21 rfl) ?_
              refine lv_iconst (v := 1) hx hb dL_law_1704 (by decide) ?_
              refine l_pcall (As := [.int (nI i), .int 1]) (rest := []) (sp := sp_ofJoint g (nI i) (1)) (Ea := xI) (Eb := xA) (Ec := xI) S hE hS hW ((t_ofJoint hB hi9).2) (fun w => c_X5_ofJoint l z hst w (g) gm (fun _ => 0) hB.ok (nI i) (1)) (cwV 2 hts (gU_V tw_584 tw_585 tw_586 tw_1 tw_587) rfl rfl rfl (by decide +kernel) ⟨Nat.le_of_ble_eq_true rfl, Nat.le_of_ble_eq_true rfl⟩) rfl hl.1 rfl (Nat.le_of_ble_eq_true rfl) dL_law_1705 ⟨Nat.le_trans (by omega) hf.1, Nat.le_trans (by omega) hf.2⟩ (fun H locs hW hS => ?_)
              refine lv_aload hx hb dL_law_1708 (lv_at hl 11 rfl) ?_
              refine lv_iconst (v := 5) hx hb dL_law_1710 (by decide) ?_
              refine lv_iload hx hb dL_law_1711 (lv_at hl 21 rfl) ?_
              refine lv_imul hx hb dL_law_1713 ?_
              rw [show (5 : Int32) * nI i = nI (5 * (i)) from pk_mul 5 _]
              refine lv_iconst (v := 2) hx hb dL_law_1714 (by decide) ?_
              refine lv_iadd hx hb dL_law_1715 ?_
              rw [show (nI (5 * (i)) : Int32) + 2 = nI ((5 * (i)) + 2) from nI_add _ 2]
              refine l_ald (v := g 28 (i)) (j := (5 * (i)) + 2) S hE hW 6 rfl (vp_in_nI (show (5 * (i)) + 2 < 60 from (by omega)) (by decide)) (nI_clamp (by omega)) (hA.j2 (by omega)) dL_law_1716 ?_
              refine lv_icmp_ne (tgt := 1755) hx hb dL_law_1717 (by decide) (fun q9 => absurd (rfl) q9) (fun c_1717_19 => ?_)
              refine lv_aload_n hx hb dL_law_1720 rfl (lv_at hl 4 rfl) ?_
              refine lv_iload hx hb dL_law_1721 (lv_at hl 21 rfl) ?_
              refine lv_iload hx hb dL_law_1723 (lv_at hl 19 rfl) ?_
              refine l_wcall (As := [.ref (qx), .int (nI i), .int (nI ah)]) (rest := []) (sp := sp_breaksIn g (nI i) (nI ah)) S hE hS hW (c_L_breaksIn l z hst qx qa (g) gm hB.ok (nI i) (nI ah) (brk_k hB hi9 ha1 ha2)) (vx_cwSW 3 hts (gU_w tw_639 tw_640 tw_0 tw_641) rfl rfl rfl (by decide +kernel) ⟨Nat.le_of_ble_eq_true rfl, Nat.le_of_ble_eq_true rfl⟩) rfl hl.1 rfl (Nat.le_of_ble_eq_true rfl) dL_law_1725 ⟨Nat.le_trans (by omega) hf.1, Nat.le_trans (by omega) hf.2⟩ (fun H locs hW hS => ?_)
              rw [t_breaksIn hB hi9 ha1 ha2, if_pos es] at hW ⊢
              rw [show ares (0, fst g i ah, g) = fst g i ah from rfl]
              have hW : LI z qx qa g gm H := hW
              refine lv_aload hx hb dL_law_1728 (lv_at hl 12 rfl) ?_
              refine lv_iload hx hb dL_law_1730 (lv_at hl 21 rfl) ?_
              refine l_ald (v := 1) (j := i) S hE hW 7 rfl (vp_in_nI (show i < 12 from (by omega)) (by decide)) (nI_clamp (by omega)) ((hA.a7 (by omega)).trans es) dL_law_1732 ?_
              refine lv_iconst (v := 1) hx hb dL_law_1733 (by decide) ?_
              refine lv_icmp_ne (tgt := 1745) hx hb dL_law_1734 (by decide) (fun h9 => absurd h9 (by decide)) (fun _ => ?_)
              refine lv_aload hx hb dL_law_1737 (lv_at hl 14 rfl) ?_
              refine lv_iload hx hb dL_law_1739 (lv_at hl 21 rfl) ?_
              refine l_ald (v := fst g i ah) (j := i) S hE hW 9 rfl (vp_in_nI (show i < 12 from (by omega)) (by decide)) (nI_clamp (by omega)) (h9 i (by omega)) dL_law_1741 ?_
              refine lv_goto (tgt := 1748) hx hb dL_law_1742 (by decide) ?_
              refine lv_icmp_ne (tgt := 1755) hx hb dL_law_1748 (by decide) (fun q9 => absurd (rfl) q9) (fun c_1748_20 => ?_)
              refine lv_iconst (v := 1) hx hb dL_law_1751 (by decide) ?_
              refine lv_goto (tgt := 1756) hx hb dL_law_1752 (by decide) ?_
              refine lv_istore (lv' := [(12, .int 1), (25, .int (sta g i)), (24, .int (wAt g (jp g (i)) (g 22 (jp g (i))))), (23, .int (nI (jp g (i)))), (0, .ref (b)), (1, .ref (qx)), (2, .ref (qa 0)), (3, .ref (qa 1)), (4, .ref (qa 2)), (5, .ref (qa 3)), (6, .ref (qa 4)), (7, .ref (qa 5)), (8, .ref (qa 6)), (9, .ref (qa 7)), (10, .ref (qa 8)), (11, .ref (qa 9)), (13, .int (nI (nj g))), (14, .int (nI (mo g))), (15, .int (nI u15)), (20, .int (nI ah)), (21, .int (setN i (fun j => decide (0 < bkk g j ah)))), (22, .int (nI i))]) hx hb dL_law_1756 hl (by decide) rfl (fun ls hl => ?_)
              refine lv_iload hx hb dL_law_1758 (lv_at hl 20 rfl) ?_
              refine lv_aload hx hb dL_law_1760 (lv_at hl 15 rfl) ?_
              refine lv_iload hx hb dL_law_1762 (lv_at hl 21 rfl) ?_
              refine l_ald (v := fst g i ah) (j := i) S hE hW 9 rfl (vp_in_nI (show i < 12 from (by omega)) (by decide)) (nI_clamp (by omega)) (h9 i (by omega)) dL_law_1764 ?_
              refine lv_if_le (tgt := 1775) hx hb dL_law_1765 (by decide) (fun c_1765_21 => ?_) (fun c_1765_21 => ?_)
              · refine lv_iconst (v := 0) hx hb dL_law_1775 (by decide) ?_
                refine lv_ior hx hb dL_law_1776 ?_
                refine lv_topi (fun y_9 ey_9 => ?_)
                obtain rfl : y_9 = setN (i + 1) (fun j => decide (0 < bkk g j ah)) := ey_9.trans (set_n (f := (fun j => decide (0 < bkk g j ah))) (decide_eq_false ((fst_pos ha2).mp c_1765_21))).symm
                refine lv_istore (lv' := [(21, .int (setN (i + 1) (fun j => decide (0 < bkk g j ah)))), (12, .int 1), (25, .int (sta g i)), (24, .int (wAt g (jp g (i)) (g 22 (jp g (i))))), (23, .int (nI (jp g (i)))), (0, .ref (b)), (1, .ref (qx)), (2, .ref (qa 0)), (3, .ref (qa 1)), (4, .ref (qa 2)), (5, .ref (qa 3)), (6, .ref (qa 4)), (7, .ref (qa 5)), (8, .ref (qa 6)), (9, .ref (qa 7)), (10, .ref (qa 8)), (11, .ref (qa 9)), (13, .int (nI (nj g))), (14, .int (nI (mo g))), (15, .int (nI u15)), (20, .int (nI ah)), (22, .int (nI i))]) hx hb dL_law_1777 hl (by decide) rfl (fun ls hl => ?_)
                refine lv_iinc (v := nI (i + 1)) (lv' := [(22, .int (nI (i + 1))), (21, .int (setN (i + 1) (fun j => decide (0 < bkk g j ah)))), (12, .int 1), (25, .int (sta g i)), (24, .int (wAt g (jp g (i)) (g 22 (jp g (i))))), (23, .int (nI (jp g (i)))), (0, .ref (b)), (1, .ref (qx)), (2, .ref (qa 0)), (3, .ref (qa 1)), (4, .ref (qa 2)), (5, .ref (qa 3)), (6, .ref (qa 4)), (7, .ref (qa 5)), (8, .ref (qa 6)), (9, .ref (qa 7)), (10, .ref (qa 8)), (11, .ref (qa 9)), (13, .int (nI (nj g))), (14, .int (nI (mo g))), (15, .int (nI u15)), (20, .int (nI ah))]) hx hb dL_law_1779 hl (k := 21) rfl (nI_1 _) (by decide) rfl (fun ls hl => ?_)
                refine lv_goto (tgt := 1578) hx hb dL_law_1782 (by decide) ?_
                refine W.widen (k := cells + 3 * (i + 1)) (n := slots + 18 * (i + 1)) (by omega) (by omega) ?_
                exact ih_1578 (i + 1) (by omega) (by omega) _ _ hW hS ls (lv_sub hl [6, 7, 8, 9, 10, 11, 12, 13, 14, 15, 16, 17, 2, 18, 19, 20, 21, 1, 0] rfl)
              · refine lv_iconst (v := 1) hx hb dL_law_1768 (by decide) ?_
                refine lv_iload hx hb dL_law_1769 (lv_at hl 21 rfl) ?_
                refine lv_ishl hx hb dL_law_1771 ?_
                refine lv_goto (tgt := 1776) hx hb dL_law_1772 (by decide) ?_
                refine lv_ior hx hb dL_law_1776 ?_
                refine lv_topi (fun y_9 ey_9 => ?_)
                obtain rfl : y_9 = setN (i + 1) (fun j => decide (0 < bkk g j ah)) := ey_9.trans (set_y (f := (fun j => decide (0 < bkk g j ah))) (decide_eq_true (Decidable.not_not.mp fun q => c_1765_21 ((fst_pos ha2).mpr q)))).symm
                refine lv_istore (lv' := [(21, .int (setN (i + 1) (fun j => decide (0 < bkk g j ah)))), (12, .int 1), (25, .int (sta g i)), (24, .int (wAt g (jp g (i)) (g 22 (jp g (i))))), (23, .int (nI (jp g (i)))), (0, .ref (b)), (1, .ref (qx)), (2, .ref (qa 0)), (3, .ref (qa 1)), (4, .ref (qa 2)), (5, .ref (qa 3)), (6, .ref (qa 4)), (7, .ref (qa 5)), (8, .ref (qa 6)), (9, .ref (qa 7)), (10, .ref (qa 8)), (11, .ref (qa 9)), (13, .int (nI (nj g))), (14, .int (nI (mo g))), (15, .int (nI u15)), (20, .int (nI ah)), (22, .int (nI i))]) hx hb dL_law_1777 hl (by decide) rfl (fun ls hl => ?_)
                refine lv_iinc (v := nI (i + 1)) (lv' := [(22, .int (nI (i + 1))), (21, .int (setN (i + 1) (fun j => decide (0 < bkk g j ah)))), (12, .int 1), (25, .int (sta g i)), (24, .int (wAt g (jp g (i)) (g 22 (jp g (i))))), (23, .int (nI (jp g (i)))), (0, .ref (b)), (1, .ref (qx)), (2, .ref (qa 0)), (3, .ref (qa 1)), (4, .ref (qa 2)), (5, .ref (qa 3)), (6, .ref (qa 4)), (7, .ref (qa 5)), (8, .ref (qa 6)), (9, .ref (qa 7)), (10, .ref (qa 8)), (11, .ref (qa 9)), (13, .int (nI (nj g))), (14, .int (nI (mo g))), (15, .int (nI u15)), (20, .int (nI ah))]) hx hb dL_law_1779 hl (k := 21) rfl (nI_1 _) (by decide) rfl (fun ls hl => ?_)
                refine lv_goto (tgt := 1578) hx hb dL_law_1782 (by decide) ?_
                refine W.widen (k := cells + 3 * (i + 1)) (n := slots + 18 * (i + 1)) (by omega) (by omega) ?_
                exact ih_1578 (i + 1) (by omega) (by omega) _ _ hW hS ls (lv_sub hl [6, 7, 8, 9, 10, 11, 12, 13, 14, 15, 16, 17, 2, 18, 19, 20, 21, 1, 0] rfl)
        · refine lv_aload hx hb dL_law_1585 (lv_at hl 8 rfl) ?_
          refine lv_iconst (v := 5) hx hb dL_law_1587 (by decide) ?_
          refine lv_iload hx hb dL_law_1588 (lv_at hl 18 rfl) ?_
          refine lv_imul hx hb dL_law_1590 ?_
          rw [show (5 : Int32) * nI i = nI (5 * (i)) from pk_mul 5 _]
          refine lv_iconst (v := 1) hx hb dL_law_1591 (by decide) ?_
          refine lv_iadd hx hb dL_law_1592 ?_
          rw [show (nI (5 * (i)) : Int32) + 1 = nI ((5 * (i)) + 1) from nI_add _ 1]
          refine l_ald (v := nI (jp g (i))) (j := (5 * (i)) + 1) S hE hW 6 rfl (vp_in_nI (show (5 * (i)) + 1 < 60 from (by omega)) (by decide)) (nI_clamp (by omega)) (hA.j1 (by omega)) dL_law_1593 ?_
          refine lv_istore (lv' := [(23, .int (nI (jp g (i)))), (0, .ref (b)), (1, .ref (qx)), (2, .ref (qa 0)), (3, .ref (qa 1)), (4, .ref (qa 2)), (5, .ref (qa 3)), (6, .ref (qa 4)), (7, .ref (qa 5)), (8, .ref (qa 6)), (9, .ref (qa 7)), (10, .ref (qa 8)), (11, .ref (qa 9)), (12, .int 1), (13, .int (nI (nj g))), (14, .int (nI (mo g))), (15, .int (nI u15)), (20, .int (nI ah)), (21, .int (setN i (fun j => decide (0 < bkk g j ah)))), (22, .int (nI i))]) hx hb dL_law_1594 hl (by decide) rfl (fun ls hl => ?_)
          refine lv_aload hx hb dL_law_1596 (lv_at hl 6 rfl) ?_
          refine lv_iload hx hb dL_law_1598 (lv_at hl 0 rfl) ?_
          refine l_ald (v := g 20 (jp g (i))) (j := jp g (i)) S hE hW 3 rfl (vp_in_nI (show jp g (i) < 6 from (by omega)) (by decide)) (nI_clamp (by omega)) (hA.a3 (by omega)) dL_law_1600 ?_
          refine lv_aload hx hb dL_law_1601 (lv_at hl 6 rfl) ?_
          refine lv_iload hx hb dL_law_1603 (lv_at hl 0 rfl) ?_
          refine l_ald (v := g 20 (jp g (i))) (j := jp g (i)) S hE hW 3 rfl (vp_in_nI (show jp g (i) < 6 from (by omega)) (by decide)) (nI_clamp (by omega)) (hA.a3 (by omega)) dL_law_1605 ?_
          refine lv_iload hx hb dL_law_1606 (lv_at hl 0 rfl) ?_
          refine lv_iconst (v := 3) hx hb dL_law_1608 (by decide) ?_
          refine lv_irem hx hb dL_law_1609 (by decide) ?_
          rw [show (nI (jp g (i)) : Int32) - nI (jp g (i)) / 3 * 3 = nI ((jp g (i)) % 3) from pk_rem (d := 3) (by omega) (by decide) (by decide)]
          refine lv_aload hx hb dL_law_1610 (lv_at hl 7 rfl) ?_
          refine lv_iload hx hb dL_law_1612 (lv_at hl 0 rfl) ?_
          refine l_ald (v := g 22 (jp g (i))) (j := jp g (i)) S hE hW 4 rfl (vp_in_nI (show jp g (i) < 6 from (by omega)) (by decide)) (nI_clamp (by omega)) (hA.a4 (by omega)) dL_law_1614 ?_
          refine lv_aload hx hb dL_law_1615 (lv_at hl 5 rfl) ?_
          refine lv_iload hx hb dL_law_1617 (lv_at hl 0 rfl) ?_
          refine l_ald (v := g 21 (jp g (i))) (j := jp g (i)) S hE hW 2 rfl (vp_in_nI (show jp g (i) < 6 from (by omega)) (by decide)) (nI_clamp (by omega)) (hA.a2 (by omega)) dL_law_1619 ?_
          refine lv_isub hx hb dL_law_1620 ?_
          refine g_callS (As := [.int (g 20 (jp g (i))), .int (nI ((jp g (i)) % 3)), .int ((g 22 (jp g (i))) - (g 21 (jp g (i))))]) (rest := [.int (g 20 (jp g (i)))]) S hE hS (c_L_moved l z (g 20 (jp g (i))) (nI ((jp g (i)) % 3)) ((g 22 (jp g (i))) - (g 21 (jp g (i))))) (cwS 3 hts (gU_S tw_650 tw_651 tw_0 tw_652) rfl rfl rfl (by decide +kernel) ⟨Nat.le_of_ble_eq_true rfl, Nat.le_of_ble_eq_true rfl⟩) trivial rfl hl.1 rfl (Nat.le_of_ble_eq_true rfl) dL_law_1621 ⟨Nat.le_trans (by omega) hf.1, Nat.le_trans (by omega) hf.2⟩ ?_
          refine lv_iadd hx hb dL_law_1624 ?_
          refine lv_topi (fun y_23 ey_23 => ?_)
          obtain rfl : y_23 = wAt g (jp g (i)) (g 22 (jp g (i))) := ey_23.trans (hB.now hjp _)
          refine lv_istore (lv' := [(24, .int (wAt g (jp g (i)) (g 22 (jp g (i))))), (23, .int (nI (jp g (i)))), (0, .ref (b)), (1, .ref (qx)), (2, .ref (qa 0)), (3, .ref (qa 1)), (4, .ref (qa 2)), (5, .ref (qa 3)), (6, .ref (qa 4)), (7, .ref (qa 5)), (8, .ref (qa 6)), (9, .ref (qa 7)), (10, .ref (qa 8)), (11, .ref (qa 9)), (12, .int 1), (13, .int (nI (nj g))), (14, .int (nI (mo g))), (15, .int (nI u15)), (20, .int (nI ah)), (21, .int (setN i (fun j => decide (0 < bkk g j ah)))), (22, .int (nI i))]) hx hb dL_law_1625 hl (by decide) rfl (fun ls hl => ?_)
          refine lv_aload hx hb dL_law_1627 (lv_at hl 11 rfl) ?_
          refine lv_iload hx hb dL_law_1629 (lv_at hl 20 rfl) ?_
          refine l_ald (v := 2) (j := i) S hE hW 7 rfl (vp_in_nI (show i < 12 from (by omega)) (by decide)) (nI_clamp (by omega)) ((hA.a7 (by omega)).trans es) dL_law_1631 ?_
          refine lv_if_ne (tgt := 1639) hx hb dL_law_1632 (by decide) (fun _ => ?_) (fun h9 => absurd h9 (by decide))
          refine lv_aload hx hb dL_law_1639 (lv_at hl 11 rfl) ?_
          refine lv_iload hx hb dL_law_1641 (lv_at hl 20 rfl) ?_
          refine l_ald (v := 2) (j := i) S hE hW 7 rfl (vp_in_nI (show i < 12 from (by omega)) (by decide)) (nI_clamp (by omega)) ((hA.a7 (by omega)).trans es) dL_law_1643 ?_
          refine lv_iconst (v := 2) hx hb dL_law_1644 (by decide) ?_
          refine lv_icmp_ne (tgt := 1652) hx hb dL_law_1645 (by decide) (fun h9 => absurd h9 (by decide)) (fun _ => ?_)
          refine lv_iconst (v := 3) hx hb dL_law_1648 (by decide) ?_
          refine lv_goto (tgt := 1682) hx hb dL_law_1649 (by decide) ?_
          refine lv_topi (fun y_9 ey_9 => ?_)
          obtain rfl : y_9 = sta g i := ey_9.trans (by simp [sta, e31, e32])
          refine lv_istore (lv' := [(25, .int (sta g i)), (24, .int (wAt g (jp g (i)) (g 22 (jp g (i))))), (23, .int (nI (jp g (i)))), (0, .ref (b)), (1, .ref (qx)), (2, .ref (qa 0)), (3, .ref (qa 1)), (4, .ref (qa 2)), (5, .ref (qa 3)), (6, .ref (qa 4)), (7, .ref (qa 5)), (8, .ref (qa 6)), (9, .ref (qa 7)), (10, .ref (qa 8)), (11, .ref (qa 9)), (12, .int 1), (13, .int (nI (nj g))), (14, .int (nI (mo g))), (15, .int (nI u15)), (20, .int (nI ah)), (21, .int (setN i (fun j => decide (0 < bkk g j ah)))), (22, .int (nI i))]) hx hb dL_law_1682 hl (by decide) rfl (fun ls hl => ?_)
          refine lv_iload hx hb dL_law_1684 (lv_at hl 15 rfl) ?_
          refine lv_if_eq (tgt := 1755) hx hb dL_law_1686 (by decide) (fun h9 => absurd h9 (by decide)) (fun _ => ?_)
          refine lv_aload_n hx hb dL_law_1689 rfl (lv_at hl 4 rfl) ?_
          refine lv_iload hx hb dL_law_1690 (lv_at hl 21 rfl) ?_
          refine lv_iconst (v := 0) hx hb dL_law_1692 (by decide) ?_
          refine l_pcall (As := [.int (nI i), .int 0]) (rest := []) (sp := sp_ofJoint g (nI i) (0)) (Ea := xI) (Eb := xA) (Ec := xI) S hE hS hW ((t_ofJoint hB hi9).1) (fun w => c_X5_ofJoint l z hst w (g) gm (fun _ => 0) hB.ok (nI i) (0)) (cwV 2 hts (gU_V tw_584 tw_585 tw_586 tw_1 tw_587) rfl rfl rfl (by decide +kernel) ⟨Nat.le_of_ble_eq_true rfl, Nat.le_of_ble_eq_true rfl⟩) rfl hl.1 rfl (Nat.le_of_ble_eq_true rfl) dL_law_1693 ⟨Nat.le_trans (by omega) hf.1, Nat.le_trans (by omega) hf.2⟩ (fun H locs hW hS => ?_)
          refine lv_iload hx hb dL_law_1696 (lv_at hl 0 rfl) ?_
          refine lv_icmp_ne (tgt := 1755) hx hb dL_law_1698 (by decide) (fun q9 => absurd (rfl) q9) (fun c_1698_23 => ?_)
          refine lv_aload_n hx hb dL_law_1701 rfl (lv_at hl 4 rfl) ?_
          refine lv_iload hx hb dL_law_1702 (lv_at hl 21 rfl) ?_
          refine lv_iconst (v := 1) hx hb dL_law_1704 (by decide) ?_
          refine l_pcall (As := [.int (nI i), .int 1]) (rest := []) (sp := sp_ofJoint g (nI i) (1)) (Ea := xI) (Eb := xA) (Ec := xI) S hE hS hW ((t_ofJoint hB hi9).2) (fun w => c_X5_ofJoint l z hst w (g) gm (fun _ => 0) hB.ok (nI i) (1)) (cwV 2 hts (gU_V tw_584 tw_585 tw_586 tw_1 tw_587) rfl rfl rfl (by decide +kernel) ⟨Nat.le_of_ble_eq_true rfl, Nat.le_of_ble_eq_true rfl⟩) rfl hl.1 rfl (Nat.le_of_ble_eq_true rfl) dL_law_1705 ⟨Nat.le_trans (by omega) hf.1, Nat.le_trans (by omega) hf.2⟩ (fun H locs hW hS => ?_)
          refine lv_aload hx hb dL_law_1708 (lv_at hl 11 rfl) ?_
          refine lv_iconst (v := 5) hx hb dL_law_1710 (by decide) ?_
          refine lv_iload hx hb dL_law_1711 (lv_at hl 21 rfl) ?_
          refine lv_imul hx hb dL_law_1713 ?_
          rw [show (5 : Int32) * nI i = nI (5 * (i)) from pk_mul 5 _]
          refine lv_iconst (v := 2) hx hb dL_law_1714 (by decide) ?_
          refine lv_iadd hx hb dL_law_1715 ?_
          rw [show (nI (5 * (i)) : Int32) + 2 = nI ((5 * (i)) + 2) from nI_add _ 2]
          refine l_ald (v := g 28 (i)) (j := (5 * (i)) + 2) S hE hW 6 rfl (vp_in_nI (show (5 * (i)) + 2 < 60 from (by omega)) (by decide)) (nI_clamp (by omega)) (hA.j2 (by omega)) dL_law_1716 ?_
          refine lv_icmp_ne (tgt := 1755) hx hb dL_law_1717 (by decide) (fun q9 => absurd (rfl) q9) (fun c_1717_24 => ?_)
          refine lv_aload_n hx hb dL_law_1720 rfl (lv_at hl 4 rfl) ?_
          refine lv_iload hx hb dL_law_1721 (lv_at hl 21 rfl) ?_
          refine lv_iload hx hb dL_law_1723 (lv_at hl 19 rfl) ?_
          refine l_wcall (As := [.ref (qx), .int (nI i), .int (nI ah)]) (rest := []) (sp := sp_breaksIn g (nI i) (nI ah)) S hE hS hW (c_L_breaksIn l z hst qx qa (g) gm hB.ok (nI i) (nI ah) (brk_k hB hi9 ha1 ha2)) (vx_cwSW 3 hts (gU_w tw_639 tw_640 tw_0 tw_641) rfl rfl rfl (by decide +kernel) ⟨Nat.le_of_ble_eq_true rfl, Nat.le_of_ble_eq_true rfl⟩) rfl hl.1 rfl (Nat.le_of_ble_eq_true rfl) dL_law_1725 ⟨Nat.le_trans (by omega) hf.1, Nat.le_trans (by omega) hf.2⟩ (fun H locs hW hS => ?_)
          rw [t_breaksIn hB hi9 ha1 ha2, if_neg (fun q => absurd (es.symm.trans q) (by decide))] at hW ⊢
          rw [show ares (bad 3 g) = -1003 from rfl]
          have hW : LI z qx qa g gm H := hW
          refine lv_aload hx hb dL_law_1728 (lv_at hl 12 rfl) ?_
          refine lv_iload hx hb dL_law_1730 (lv_at hl 21 rfl) ?_
          refine l_ald (v := 2) (j := i) S hE hW 7 rfl (vp_in_nI (show i < 12 from (by omega)) (by decide)) (nI_clamp (by omega)) ((hA.a7 (by omega)).trans es) dL_law_1732 ?_
          refine lv_iconst (v := 1) hx hb dL_law_1733 (by decide) ?_
          refine lv_icmp_ne (tgt := 1745) hx hb dL_law_1734 (by decide) (fun _ => ?_) (fun h9 => absurd h9 (by decide))
          refine lv_sipush (v := (-1003)) hx hb dL_law_1745 (by decide) ?_
          refine lv_icmp_ne (tgt := 1755) hx hb dL_law_1748 (by decide) (fun q9 => absurd (rfl) q9) (fun c_1748_25 => ?_)
          refine lv_iconst (v := 1) hx hb dL_law_1751 (by decide) ?_
          refine lv_goto (tgt := 1756) hx hb dL_law_1752 (by decide) ?_
          refine lv_istore (lv' := [(12, .int 1), (25, .int (sta g i)), (24, .int (wAt g (jp g (i)) (g 22 (jp g (i))))), (23, .int (nI (jp g (i)))), (0, .ref (b)), (1, .ref (qx)), (2, .ref (qa 0)), (3, .ref (qa 1)), (4, .ref (qa 2)), (5, .ref (qa 3)), (6, .ref (qa 4)), (7, .ref (qa 5)), (8, .ref (qa 6)), (9, .ref (qa 7)), (10, .ref (qa 8)), (11, .ref (qa 9)), (13, .int (nI (nj g))), (14, .int (nI (mo g))), (15, .int (nI u15)), (20, .int (nI ah)), (21, .int (setN i (fun j => decide (0 < bkk g j ah)))), (22, .int (nI i))]) hx hb dL_law_1756 hl (by decide) rfl (fun ls hl => ?_)
          refine lv_iload hx hb dL_law_1758 (lv_at hl 20 rfl) ?_
          refine lv_aload hx hb dL_law_1760 (lv_at hl 15 rfl) ?_
          refine lv_iload hx hb dL_law_1762 (lv_at hl 21 rfl) ?_
          refine l_ald (v := fst g i ah) (j := i) S hE hW 9 rfl (vp_in_nI (show i < 12 from (by omega)) (by decide)) (nI_clamp (by omega)) (h9 i (by omega)) dL_law_1764 ?_
          refine lv_if_le (tgt := 1775) hx hb dL_law_1765 (by decide) (fun c_1765_26 => ?_) (fun c_1765_26 => ?_)
          · refine lv_iconst (v := 0) hx hb dL_law_1775 (by decide) ?_
            refine lv_ior hx hb dL_law_1776 ?_
            refine lv_topi (fun y_9 ey_9 => ?_)
            obtain rfl : y_9 = setN (i + 1) (fun j => decide (0 < bkk g j ah)) := ey_9.trans (set_n (f := (fun j => decide (0 < bkk g j ah))) (decide_eq_false ((fst_pos ha2).mp c_1765_26))).symm
            refine lv_istore (lv' := [(21, .int (setN (i + 1) (fun j => decide (0 < bkk g j ah)))), (12, .int 1), (25, .int (sta g i)), (24, .int (wAt g (jp g (i)) (g 22 (jp g (i))))), (23, .int (nI (jp g (i)))), (0, .ref (b)), (1, .ref (qx)), (2, .ref (qa 0)), (3, .ref (qa 1)), (4, .ref (qa 2)), (5, .ref (qa 3)), (6, .ref (qa 4)), (7, .ref (qa 5)), (8, .ref (qa 6)), (9, .ref (qa 7)), (10, .ref (qa 8)), (11, .ref (qa 9)), (13, .int (nI (nj g))), (14, .int (nI (mo g))), (15, .int (nI u15)), (20, .int (nI ah)), (22, .int (nI i))]) hx hb dL_law_1777 hl (by decide) rfl (fun ls hl => ?_)
            refine lv_iinc (v := nI (i + 1)) (lv' := [(22, .int (nI (i + 1))), (21, .int (setN (i + 1) (fun j => decide (0 < bkk g j ah)))), (12, .int 1), (25, .int (sta g i)), (24, .int (wAt g (jp g (i)) (g 22 (jp g (i))))), (23, .int (nI (jp g (i)))), (0, .ref (b)), (1, .ref (qx)), (2, .ref (qa 0)), (3, .ref (qa 1)), (4, .ref (qa 2)), (5, .ref (qa 3)), (6, .ref (qa 4)), (7, .ref (qa 5)), (8, .ref (qa 6)), (9, .ref (qa 7)), (10, .ref (qa 8)), (11, .ref (qa 9)), (13, .int (nI (nj g))), (14, .int (nI (mo g))), (15, .int (nI u15)), (20, .int (nI ah))]) hx hb dL_law_1779 hl (k := 21) rfl (nI_1 _) (by decide) rfl (fun ls hl => ?_)
            refine lv_goto (tgt := 1578) hx hb dL_law_1782 (by decide) ?_
            refine W.widen (k := cells + 3 * (i + 1)) (n := slots + 18 * (i + 1)) (by omega) (by omega) ?_
            exact ih_1578 (i + 1) (by omega) (by omega) _ _ hW hS ls (lv_sub hl [6, 7, 8, 9, 10, 11, 12, 13, 14, 15, 16, 17, 2, 18, 19, 20, 21, 1, 0] rfl)
          · refine lv_iconst (v := 1) hx hb dL_law_1768 (by decide) ?_
            refine lv_iload hx hb dL_law_1769 (lv_at hl 21 rfl) ?_
            refine lv_ishl hx hb dL_law_1771 ?_
            refine lv_goto (tgt := 1776) hx hb dL_law_1772 (by decide) ?_
            refine lv_ior hx hb dL_law_1776 ?_
            refine lv_topi (fun y_9 ey_9 => ?_)
            obtain rfl : y_9 = setN (i + 1) (fun j => decide (0 < bkk g j ah)) := ey_9.trans (set_y (f := (fun j => decide (0 < bkk g j ah))) (decide_eq_true (Decidable.not_not.mp fun q => c_1765_26 ((fst_pos ha2).mpr q)))).symm
            refine lv_istore (lv' := [(21, .int (setN (i + 1) (fun j => decide (0 < bkk g j ah)))), (12, .int 1), (25, .int (sta g i)), (24, .int (wAt g (jp g (i)) (g 22 (jp g (i))))), (23, .int (nI (jp g (i)))), (0, .ref (b)), (1, .ref (qx)), (2, .ref (qa 0)), (3, .ref (qa 1)), (4, .ref (qa 2)), (5, .ref (qa 3)), (6, .ref (qa 4)), (7, .ref (qa 5)), (8, .ref (qa 6)), (9, .ref (qa 7)), (10, .ref (qa 8)), (11, .ref (qa 9)), (13, .int (nI (nj g))), (14, .int (nI (mo g))), (15, .int (nI u15)), (20, .int (nI ah)), (22, .int (nI i))]) hx hb dL_law_1777 hl (by decide) rfl (fun ls hl => ?_)
            refine lv_iinc (v := nI (i + 1)) (lv' := [(22, .int (nI (i + 1))), (21, .int (setN (i + 1) (fun j => decide (0 < bkk g j ah)))), (12, .int 1), (25, .int (sta g i)), (24, .int (wAt g (jp g (i)) (g 22 (jp g (i))))), (23, .int (nI (jp g (i)))), (0, .ref (b)), (1, .ref (qx)), (2, .ref (qa 0)), (3, .ref (qa 1)), (4, .ref (qa 2)), (5, .ref (qa 3)), (6, .ref (qa 4)), (7, .ref (qa 5)), (8, .ref (qa 6)), (9, .ref (qa 7)), (10, .ref (qa 8)), (11, .ref (qa 9)), (13, .int (nI (nj g))), (14, .int (nI (mo g))), (15, .int (nI u15)), (20, .int (nI ah))]) hx hb dL_law_1779 hl (k := 21) rfl (nI_1 _) (by decide) rfl (fun ls hl => ?_)
            refine lv_goto (tgt := 1578) hx hb dL_law_1782 (by decide) ?_
            refine W.widen (k := cells + 3 * (i + 1)) (n := slots + 18 * (i + 1)) (by omega) (by omega) ?_
            exact ih_1578 (i + 1) (by omega) (by omega) _ _ hW hS ls (lv_sub hl [6, 7, 8, 9, 10, 11, 12, 13, 14, 15, 16, 17, 2, 18, 19, 20, 21, 1, 0] rfl)
  refine W.widen (k := cells + 3 * 0) (n := slots + 18 * 0) (by omega) (by omega) ?_
  exact lp_1578 ((nj g - 0) + 1) 0 (Nat.zero_le _) (Nat.lt_succ_self _) _ _ hW hS ls (lv_sub hl [0, 1, 2, 3, 4, 5, 6, 7, 8, 9, 10, 11, 12, 13, 14, 15, 16, 17, 18] rfl)
end LCK
