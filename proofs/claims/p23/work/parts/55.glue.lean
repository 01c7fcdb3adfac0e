/-! ===== the law: what a turn does: glue ===== -/
section LTU
variable {p : Program} {e : Env} {s : State} {m : MethodId} {args : Array Value} {below : List Frame} {meth : Method} {c : Code} {H : Heap} {locs : List Loc} {cells slots : Nat} {Q : State → Prop} {ls : Array Slot} {z : ZE} {b L qx : Nat} {qa : Nat → Nat} {xs : Nat → Int32} {g gm G : GS}
set_option maxHeartbeats 4000000 in
set_option maxRecDepth 100000 in
/-- the turn: glue -/
theorem law_654 (l : Launch) (hst : l.stackTraces = false) (S : CallFix p m c cL_law 26 s args wU RL) (hE : EV z s s.heap) (hB : BD g) (hA : AR g gm) (t : Nat) (ht : t < 40) (hmo : mo g ≤ 5 * t) (v : Int32) (wh p9 : Nat) (hwh : wh < 9) (hp9 : p9 < 6) (hW : LI z qx qa (g) gm H) (hS : va_S (zA z) s.heap H locs) (hl : lv_has ls 26 [(0, .ref (b)), (1, .ref (qx)), (2, .ref (qa 0)), (3, .ref (qa 1)), (4, .ref (qa 2)), (5, .ref (qa 3)), (6, .ref (qa 4)), (7, .ref (qa 5)), (8, .ref (qa 6)), (9, .ref (qa 7)), (10, .ref (qa 8)), (11, .ref (qa 9)), (12, .int 1), (13, .int (nI (nj g))), (14, .int (nI (mo g))), (15, .int (nI t)), (16, .int v), (17, .int (nI wh)), (18, .int (nI p9))]) (hf : cells + 3 ≤ room_1.cells ∧ slots + 300 ≤ room_1.slots)
    (kk : ∀ (g gm : GS) (H : Heap) (locs : List Loc) (ls : Array Slot), BD g → AR g gm → mo g ≤ 5 * t + 5 → LI z qx qa g gm H → va_S (zA z) s.heap H locs → lv_has ls 26 [(0, .ref (b)), (1, .ref (qx)), (2, .ref (qa 0)), (3, .ref (qa 1)), (4, .ref (qa 2)), (5, .ref (qa 3)), (6, .ref (qa 4)), (7, .ref (qa 5)), (8, .ref (qa 6)), (9, .ref (qa 7)), (10, .ref (qa 8)), (11, .ref (qa 9)), (12, .int 1), (13, .int (nI (nj g))), (14, .int (nI (mo g))), (15, .int (nI t))] → W p l e room_1 s m args below meth c H locs (cells + 3) (slots + 300) Q (F0 m 1264 ls [])) : W p l e room_1 s m args below meth c H locs (cells) (slots) Q (F0 m 654 ls []) := by
  have hx := S.1
  have hb := S.2.1
  have hown := S.2.2.2.1
  have hts := S.2.2.2.2
  have hml := S.2.2.1
  have hnj := hB.lj
  refine lv_iload hx hb dL_law_654 (lv_at hl 17 rfl) ?_
  refine lv_bipush (v := 6) hx hb dL_law_656 (by decide) ?_
  rw [show (6 : Int32) = nI 6 from rfl]
  refine g_icmp_ge S (by omega) (by omega) (tgt := 800) dL_law_658 (by decide) (fun c_658 => ?_) (fun c_658 => ?_)
  · exact law_800 l hst S hE hB hA t ht hmo v wh p9 hwh hp9 hW hS (lv_sub hl [0, 1, 2, 3, 4, 5, 6, 7, 8, 9, 10, 11, 12, 13, 14, 15, 16, 17, 18] rfl) hf kk
  · refine lv_iload hx hb dL_law_661 (lv_at hl 13 rfl) ?_
    refine lv_if_le (tgt := 800) hx hb dL_law_663 (by decide) (fun c_663_1 => ?_) (fun c_663_1 => ?_)
    · exact law_800 l hst S hE hB hA t ht hmo v wh p9 hwh hp9 hW hS (lv_sub hl [0, 1, 2, 3, 4, 5, 6, 7, 8, 9, 10, 11, 12, 13, 14, 15, 16, 17, 18] rfl) hf kk
    · have hn0 : 0 < nj g := pos_of c_663_1
      refine lv_iload hx hb dL_law_666 (lv_at hl 16 rfl) ?_
      refine lv_sipush (v := 128) hx hb dL_law_668 (by decide) ?_
      refine lv_idiv hx hb dL_law_671 (by decide) ?_
      refine lv_iload hx hb dL_law_672 (lv_at hl 13 rfl) ?_
      refine g_callS (As := [.int ((v) / (128)), .int (nI (nj g))]) (rest := []) S hE hS (c_L_up l z ((v) / (128)) (nj g) (by omega) (by omega)) (cwS 2 hts (gU_S tw_598 tw_599 tw_0 tw_600) rfl rfl rfl (by decide +kernel) ⟨Nat.le_of_ble_eq_true rfl, Nat.le_of_ble_eq_true rfl⟩) trivial rfl hl.1 rfl (Nat.le_of_ble_eq_true rfl) dL_law_674 ⟨Nat.le_trans (by omega) hf.1, Nat.le_trans (by omega) hf.2⟩ ?_
      obtain ⟨j, hj, ej⟩ : ∃ y : Nat, (y < nj g) ∧ upN ((v) / (128)) (nj g) = y := ⟨_, (upN_lt _ (by omega)), rfl⟩
      rw [ej]
      refine lv_istore (lv' := [(20, .int (nI j)), (0, .ref (b)), (1, .ref (qx)), (2, .ref (qa 0)), (3, .ref (qa 1)), (4, .ref (qa 2)), (5, .ref (qa 3)), (6, .ref (qa 4)), (7, .ref (qa 5)), (8, .ref (qa 6)), (9, .ref (qa 7)), (10, .ref (qa 8)), (11, .ref (qa 9)), (12, .int 1), (13, .int (nI (nj g))), (14, .int (nI (mo g))), (15, .int (nI t)), (16, .int v), (17, .int (nI wh)), (18, .int (nI p9))]) hx hb dL_law_677 hl (by decide) rfl (fun ls hl => ?_)
      have hjp := hB.ljp hj
      obtain ⟨zz, hz1, hz2, ez⟩ := hB.js hj
      refine lv_iconst (v := 3) hx hb dL_law_679 (by decide) ?_
      refine lv_aload hx hb dL_law_680 (lv_at hl 9 rfl) ?_
      refine lv_iconst (v := 5) hx hb dL_law_682 (by decide) ?_
      refine lv_iload hx hb dL_law_683 (lv_at hl 0 rfl) ?_
      refine lv_imul hx hb dL_law_685 ?_
      rw [show (5 : Int32) * nI j = nI (5 * (j)) from pk_mul 5 _]
      refine lv_iconst (v := 2) hx hb dL_law_686 (by decide) ?_
      refine lv_iadd hx hb dL_law_687 ?_
      rw [show (nI (5 * (j)) : Int32) + 2 = nI ((5 * (j)) + 2) from nI_add _ 2]
      refine l_ald (v := nI zz) (j := (5 * (j)) + 2) S hE hW 6 rfl (vp_in_nI (show (5 * (j)) + 2 < 60 from (by omega)) (by decide)) (nI_clamp (by omega)) ((hA.j2 (by omega)).trans ez) dL_law_688 ?_
      refine lv_sipush (v := 1000) hx hb dL_law_689 (by decide) ?_
      refine lv_idiv hx hb dL_law_692 (by decide) ?_
      rw [show (nI zz : Int32) / 1000 = nI (zz / 1000) from pk_div (by omega) (by decide) (by decide)]
      refine lv_iadd hx hb dL_law_693 ?_
      rw [show (3 : Int32) + nI (zz / 1000) = nI (3 + (zz / 1000)) from nI_add 3 _]
      refine lv_istore (lv' := [(21, .int (nI (3 + (zz / 1000)))), (20, .int (nI j)), (0, .ref (b)), (1, .ref (qx)), (2, .ref (qa 0)), (3, .ref (qa 1)), (4, .ref (qa 2)), (5, .ref (qa 3)), (6, .ref (qa 4)), (7, .ref (qa 5)), (8, .ref (qa 6)), (9, .ref (qa 7)), (10, .ref (qa 8)), (11, .ref (qa 9)), (12, .int 1), (13, .int (nI (nj g))), (14, .int (nI (mo g))), (15, .int (nI t)), (16, .int v), (17, .int (nI wh)), (18, .int (nI p9))]) hx hb dL_law_694 hl (by decide) rfl (fun ls hl => ?_)
      refine lv_iconst (v := 1) hx hb dL_law_696 (by decide) ?_
      refine lv_aload hx hb dL_law_697 (lv_at hl 10 rfl) ?_
      refine lv_iconst (v := 5) hx hb dL_law_699 (by decide) ?_
      refine lv_iload hx hb dL_law_700 (lv_at hl 1 rfl) ?_
      refine lv_imul hx hb dL_law_702 ?_
      rw [show (5 : Int32) * nI j = nI (5 * (j)) from pk_mul 5 _]
      refine lv_iconst (v := 2) hx hb dL_law_703 (by decide) ?_
      refine lv_iadd hx hb dL_law_704 ?_
      rw [show (nI (5 * (j)) : Int32) + 2 = nI ((5 * (j)) + 2) from nI_add _ 2]
      refine l_ald (v := nI zz) (j := (5 * (j)) + 2) S hE hW 6 rfl (vp_in_nI (show (5 * (j)) + 2 < 60 from (by omega)) (by decide)) (nI_clamp (by omega)) ((hA.j2 (by omega)).trans ez) dL_law_705 ?_
      refine lv_sipush (v := 500) hx hb dL_law_706 (by decide) ?_
      refine lv_idiv hx hb dL_law_709 (by decide) ?_
      rw [show (nI zz : Int32) / 500 = nI (zz / 500) from pk_div (by omega) (by decide) (by decide)]
      refine lv_iadd hx hb dL_law_710 ?_
      rw [show (1 : Int32) + nI (zz / 500) = nI (1 + (zz / 500)) from nI_add 1 _]
      refine lv_istore (lv' := [(22, .int (nI (1 + (zz / 500)))), (21, .int (nI (3 + (zz / 1000)))), (20, .int (nI j)), (0, .ref (b)), (1, .ref (qx)), (2, .ref (qa 0)), (3, .ref (qa 1)), (4, .ref (qa 2)), (5, .ref (qa 3)), (6, .ref (qa 4)), (7, .ref (qa 5)), (8, .ref (qa 6)), (9, .ref (qa 7)), (10, .ref (qa 8)), (11, .ref (qa 9)), (12, .int 1), (13, .int (nI (nj g))), (14, .int (nI (mo g))), (15, .int (nI t)), (16, .int v), (17, .int (nI wh)), (18, .int (nI p9))]) hx hb dL_law_711 hl (by decide) rfl (fun ls hl => ?_)
      rcases stt_c hB hj with ⟨es, e31, e32⟩ | ⟨es, e31, e32⟩ | ⟨es, e31, e32⟩
      · by_cases c6 : 1 + zz / 500 ≤ 6
        · refine lv_aload_n hx hb dL_law_713 rfl (lv_at hl 4 rfl) ?_
          refine lv_iconst (v := 0) hx hb dL_law_714 (by decide) ?_
          refine lv_iconst (v := 1) hx hb dL_law_715 (by decide) ?_
          refine lv_iload hx hb dL_law_716 (lv_at hl 2 rfl) ?_
          refine lv_ishl hx hb dL_law_718 ?_
          refine l_wcall (As := [.ref (qx), .int 0, .int (1 <<< ((nI j) &&& 31))]) (rest := []) (sp := sp_glue g ((1 : Int32) <<< (nI j &&& 31))) S hE hS hW (c_L_act0 l z hst qx qa (g) gm hB.ok ((1 : Int32) <<< (nI j &&& 31)) (glu_k hB hj ez hz2)) (vx_cwSW 3 hts (gU_w tw_604 tw_605 tw_0 tw_606) rfl rfl rfl (by decide +kernel) ⟨Nat.le_of_ble_eq_true rfl, Nat.le_of_ble_eq_true rfl⟩) rfl hl.1 rfl (Nat.le_of_ble_eq_true rfl) dL_law_719 ⟨Nat.le_trans (by omega) hf.1, Nat.le_trans (by omega) hf.2⟩ (fun H locs hW hS => ?_)
          rw [t_glue hB hj ez hz2, if_pos ⟨e31, c6⟩] at hW ⊢
          rw [show ares (0, nI (3 + zz / 1000), gup (gup g 31 j 1) 33 j (g 22 (jp g j))) = nI (3 + zz / 1000) from rfl]
          have hW : LI z qx qa (gup (gup g 31 j 1) 33 j (g 22 (jp g j))) gm H := hW
          refine lv_aload hx hb dL_law_722 (lv_at hl 12 rfl) ?_
          refine lv_iload hx hb dL_law_724 (lv_at hl 2 rfl) ?_
          refine l_ald (v := 0) (j := j) S hE hW 7 rfl (vp_in_nI (show j < 12 from (by omega)) (by decide)) (nI_clamp (by omega)) ((hA.a7 (by omega)).trans es) dL_law_726 ?_
          refine lv_if_gt (tgt := 737) hx hb dL_law_727 (by decide) (fun h9 => absurd h9 (by decide)) (fun _ => ?_)
          refine lv_iload hx hb dL_law_730 (lv_at hl 0 rfl) ?_
          refine lv_bipush (v := 6) hx hb dL_law_732 (by decide) ?_
          rw [show (6 : Int32) = nI 6 from rfl]
          refine g_icmp_le S (by omega) (by omega) (tgt := 743) dL_law_734 (by decide) (fun c_734_2 => ?_) (fun h9 => absurd h9 (by omega))
          refine lv_iload hx hb dL_law_743 (lv_at hl 1 rfl) ?_
          refine lv_icmp_ne (tgt := 752) hx hb dL_law_745 (by decide) (fun q9 => absurd (rfl) q9) (fun c_745_3 => ?_)
          refine lv_iconst (v := 1) hx hb dL_law_748 (by decide) ?_
          refine lv_goto (tgt := 753) hx hb dL_law_749 (by decide) ?_
          refine lv_istore (lv' := [(12, .int 1), (22, .int (nI (1 + (zz / 500)))), (21, .int (nI (3 + (zz / 1000)))), (20, .int (nI j)), (0, .ref (b)), (1, .ref (qx)), (2, .ref (qa 0)), (3, .ref (qa 1)), (4, .ref (qa 2)), (5, .ref (qa 3)), (6, .ref (qa 4)), (7, .ref (qa 5)), (8, .ref (qa 6)), (9, .ref (qa 7)), (10, .ref (qa 8)), (11, .ref (qa 9)), (13, .int (nI (nj g))), (14, .int (nI (mo g))), (15, .int (nI t)), (16, .int v), (17, .int (nI wh)), (18, .int (nI p9))]) hx hb dL_law_753 hl (by decide) rfl (fun ls hl => ?_)
          refine lv_aload hx hb dL_law_755 (lv_at hl 13 rfl) ?_
          refine lv_iload hx hb dL_law_757 (lv_at hl 3 rfl) ?_
          refine l_ald (v := 0) (j := j) S hE hW 7 rfl (vp_in_nI (show j < 12 from (by omega)) (by decide)) (nI_clamp (by omega)) ((hA.a7 (by omega)).trans es) dL_law_759 ?_
          refine lv_if_ne (tgt := 797) hx hb dL_law_760 (by decide) (fun h9 => absurd h9 (by decide)) (fun _ => ?_)
          refine lv_iload hx hb dL_law_763 (lv_at hl 1 rfl) ?_
          refine lv_bipush (v := 6) hx hb dL_law_765 (by decide) ?_
          rw [show (6 : Int32) = nI 6 from rfl]
          refine g_icmp_gt S (by omega) (by omega) (tgt := 797) dL_law_767 (by decide) (fun h9 => absurd h9 (by omega)) (fun c_767_4 => ?_)
          refine lv_aload hx hb dL_law_770 (lv_at hl 13 rfl) ?_
          refine lv_iload hx hb dL_law_772 (lv_at hl 3 rfl) ?_
          refine lv_iconst (v := 1) hx hb dL_law_774 (by decide) ?_
          refine l_ast (j := j) S hE hS hW 7 rfl (vp_in_nI (show j < 12 from (by omega)) (by decide)) (nI_clamp (by omega)) dL_law_775 (fun H locs hW hS => ?_)
          refine lv_aload hx hb dL_law_776 (lv_at hl 12 rfl) ?_
          refine lv_iconst (v := 5) hx hb dL_law_778 (by decide) ?_
          refine lv_iload hx hb dL_law_779 (lv_at hl 3 rfl) ?_
          refine lv_imul hx hb dL_law_781 ?_
          rw [show (5 : Int32) * nI j = nI (5 * (j)) from pk_mul 5 _]
          refine lv_iconst (v := 4) hx hb dL_law_782 (by decide) ?_
          refine lv_iadd hx hb dL_law_783 ?_
          rw [show (nI (5 * (j)) : Int32) + 4 = nI ((5 * (j)) + 4) from nI_add _ 4]
          refine lv_aload hx hb dL_law_784 (lv_at hl 10 rfl) ?_
          refine lv_aload hx hb dL_law_786 (lv_at hl 12 rfl) ?_
          refine lv_iconst (v := 5) hx hb dL_law_788 (by decide) ?_
          refine lv_iload hx hb dL_law_789 (lv_at hl 3 rfl) ?_
          refine lv_imul hx hb dL_law_791 ?_
          rw [show (5 : Int32) * nI j = nI (5 * (j)) from pk_mul 5 _]
          refine lv_iconst (v := 1) hx hb dL_law_792 (by decide) ?_
          refine lv_iadd hx hb dL_law_793 ?_
          rw [show (nI (5 * (j)) : Int32) + 1 = nI ((5 * (j)) + 1) from nI_add _ 1]
          refine l_ald (v := nI (jp g (j))) (j := (5 * (j)) + 1) S hE hW 6 rfl (vp_in_nI (show (5 * (j)) + 1 < 60 from (by omega)) (by decide)) (nI_clamp (by omega)) ((gup_k (by decide)).trans (hA.j1 (by omega))) dL_law_794 ?_
          refine l_ald (v := g 22 (jp g (j))) (j := jp g (j)) S hE hW 4 rfl (vp_in_nI (show jp g (j) < 6 from (by omega)) (by decide)) (nI_clamp (by omega)) ((gup_k (by decide)).trans (hA.a4 (by omega))) dL_law_795 ?_
          refine l_ast (j := (5 * (j)) + 4) S hE hS hW 6 rfl (vp_in_nI (show (5 * (j)) + 4 < 60 from (by omega)) (by decide)) (nI_clamp (by omega)) dL_law_796 (fun H locs hW hS => ?_)
          refine lv_goto (tgt := 1264) hx hb dL_law_797 (by decide) ?_
          refine W.widen (k := cells + 3) (n := slots + 300) (by omega) (by omega) ?_
          exact kk (gup (gup g 31 j 1) 33 j (g 22 (jp g j))) _ _ _ _ (bd_g hB hj ez hz2 e31 c6) (ar_g hB hA hj e31) (show mo g ≤ 5 * t + 5 by omega) hW hS (lv_sub hl [4, 5, 6, 7, 8, 9, 10, 11, 12, 13, 14, 15, 0, 16, 17, 18] rfl)
        · refine lv_aload_n hx hb dL_law_713 rfl (lv_at hl 4 rfl) ?_
          refine lv_iconst (v := 0) hx hb dL_law_714 (by decide) ?_
          refine lv_iconst (v := 1) hx hb dL_law_715 (by decide) ?_
          refine lv_iload hx hb dL_law_716 (lv_at hl 2 rfl) ?_
          refine lv_ishl hx hb dL_law_718 ?_
          refine l_wcall (As := [.ref (qx), .int 0, .int (1 <<< ((nI j) &&& 31))]) (rest := []) (sp := sp_glue g ((1 : Int32) <<< (nI j &&& 31))) S hE hS hW (c_L_act0 l z hst qx qa (g) gm hB.ok ((1 : Int32) <<< (nI j &&& 31)) (glu_k hB hj ez hz2)) (vx_cwSW 3 hts (gU_w tw_604 tw_605 tw_0 tw_606) rfl rfl rfl (by decide +kernel) ⟨Nat.le_of_ble_eq_true rfl, Nat.le_of_ble_eq_true rfl⟩) rfl hl.1 rfl (Nat.le_of_ble_eq_true rfl) dL_law_719 ⟨Nat.le_trans (by omega) hf.1, Nat.le_trans (by omega) hf.2⟩ (fun H locs hW hS => ?_)
          rw [t_glue hB hj ez hz2, if_neg (fun q => c6 q.2)] at hW ⊢
          rw [show ares (bad 2 g) = -1003 from rfl]
          have hW : LI z qx qa g gm H := hW
          refine lv_aload hx hb dL_law_722 (lv_at hl 12 rfl) ?_
          refine lv_iload hx hb dL_law_724 (lv_at hl 2 rfl) ?_
          refine l_ald (v := 0) (j := j) S hE hW 7 rfl (vp_in_nI (show j < 12 from (by omega)) (by decide)) (nI_clamp (by omega)) ((hA.a7 (by omega)).trans es) dL_law_726 ?_
          refine lv_if_gt (tgt := 737) hx hb dL_law_727 (by decide) (fun h9 => absurd h9 (by decide)) (fun _ => ?_)
          refine lv_iload hx hb dL_law_730 (lv_at hl 0 rfl) ?_
          refine lv_bipush (v := 6) hx hb dL_law_732 (by decide) ?_
          rw [show (6 : Int32) = nI 6 from rfl]
          refine g_icmp_le S (by omega) (by omega) (tgt := 743) dL_law_734 (by decide) (fun h9 => absurd h9 (by omega)) (fun c_734_5 => ?_)
          refine lv_sipush (v := (-1003)) hx hb dL_law_737 (by decide) ?_
          refine lv_goto (tgt := 745) hx hb dL_law_740 (by decide) ?_
          refine lv_icmp_ne (tgt := 752) hx hb dL_law_745 (by decide) (fun q9 => absurd (rfl) q9) (fun c_745_6 => ?_)
          refine lv_iconst (v := 1) hx hb dL_law_748 (by decide) ?_
          refine lv_goto (tgt := 753) hx hb dL_law_749 (by decide) ?_
          refine lv_istore (lv' := [(12, .int 1), (22, .int (nI (1 + (zz / 500)))), (21, .int (nI (3 + (zz / 1000)))), (20, .int (nI j)), (0, .ref (b)), (1, .ref (qx)), (2, .ref (qa 0)), (3, .ref (qa 1)), (4, .ref (qa 2)), (5, .ref (qa 3)), (6, .ref (qa 4)), (7, .ref (qa 5)), (8, .ref (qa 6)), (9, .ref (qa 7)), (10, .ref (qa 8)), (11, .ref (qa 9)), (13, .int (nI (nj g))), (14, .int (nI (mo g))), (15, .int (nI t)), (16, .int v), (17, .int (nI wh)), (18, .int (nI p9))]) hx hb dL_law_753 hl (by decide) rfl (fun ls hl => ?_)
          refine lv_aload hx hb dL_law_755 (lv_at hl 13 rfl) ?_
          refine lv_iload hx hb dL_law_757 (lv_at hl 3 rfl) ?_
          refine l_ald (v := 0) (j := j) S hE hW 7 rfl (vp_in_nI (show j < 12 from (by omega)) (by decide)) (nI_clamp (by omega)) ((hA.a7 (by omega)).trans es) dL_law_759 ?_
          refine lv_if_ne (tgt := 797) hx hb dL_law_760 (by decide) (fun h9 => absurd h9 (by decide)) (fun _ => ?_)
          refine lv_iload hx hb dL_law_763 (lv_at hl 1 rfl) ?_
          refine lv_bipush (v := 6) hx hb dL_law_765 (by decide) ?_
          rw [show (6 : Int32) = nI 6 from rfl]
          refine g_icmp_gt S (by omega) (by omega) (tgt := 797) dL_law_767 (by decide) (fun c_767_7 => ?_) (fun h9 => absurd h9 (by omega))
          refine lv_goto (tgt := 1264) hx hb dL_law_797 (by decide) ?_
          refine W.widen (k := cells + 3) (n := slots + 300) (by omega) (by omega) ?_
          exact kk (g) _ _ _ _ (hB) (hA) (show mo g ≤ 5 * t + 5 by omega) hW hS (lv_sub hl [4, 5, 6, 7, 8, 9, 10, 11, 12, 13, 14, 15, 0, 16, 17, 18] rfl)
      · by_cases c6 : 1 + zz / 500 ≤ 6
        · refine lv_aload_n hx hb dL_law_713 rfl (lv_at hl 4 rfl) ?_
          refine lv_iconst (v := 0) hx hb dL_law_714 (by decide) ?_
          refine lv_iconst (v := 1) hx hb dL_law_715 (by decide) ?_
          refine lv_iload hx hb dL_law_716 (lv_at hl 2 rfl) ?_
          refine lv_ishl hx hb dL_law_718 ?_
          refine l_wcall (As := [.ref (qx), .int 0, .int (1 <<< ((nI j) &&& 31))]) (rest := []) (sp := sp_glue g ((1 : Int32) <<< (nI j &&& 31))) S hE hS hW (c_L_act0 l z hst qx qa (g) gm hB.ok ((1 : Int32) <<< (nI j &&& 31)) (glu_k hB hj ez hz2)) (vx_cwSW 3 hts (gU_w tw_604 tw_605 tw_0 tw_606) rfl rfl rfl (by decide +kernel) ⟨Nat.le_of_ble_eq_true rfl, Nat.le_of_ble_eq_true rfl⟩) rfl hl.1 rfl (Nat.le_of_ble_eq_true rfl) dL_law_719 ⟨Nat.le_trans (by omega) hf.1, Nat.le_trans (by omega) hf.2⟩ (fun H locs hW hS => ?_)
          rw [t_glue hB hj ez hz2, if_neg (fun q => absurd (e31.symm.trans q.1) (by decide))] at hW ⊢
          rw [show ares (bad 2 g) = -1003 from rfl]
          have hW : LI z qx qa g gm H := hW
          refine lv_aload hx hb dL_law_722 (lv_at hl 12 rfl) ?_
          refine lv_iload hx hb dL_law_724 (lv_at hl 2 rfl) ?_
          refine l_ald (v := 1) (j := j) S hE hW 7 rfl (vp_in_nI (show j < 12 from (by omega)) (by decide)) (nI_clamp (by omega)) ((hA.a7 (by omega)).trans es) dL_law_726 ?_
          refine lv_if_gt (tgt := 737) hx hb dL_law_727 (by decide) (fun _ => ?_) (fun h9 => absurd h9 (by decide))
          refine lv_sipush (v := (-1003)) hx hb dL_law_737 (by decide) ?_
          refine lv_goto (tgt := 745) hx hb dL_law_740 (by decide) ?_
          refine lv_icmp_ne (tgt := 752) hx hb dL_law_745 (by decide) (fun q9 => absurd (rfl) q9) (fun c_745_8 => ?_)
          refine lv_iconst (v := 1) hx hb dL_law_748 (by decide) ?_
          refine lv_goto (tgt := 753) hx hb dL_law_749 (by decide) ?_
          refine lv_istore (lv' := [(12, .int 1), (22, .int (nI (1 + (zz / 500)))), (21, .int (nI (3 + (zz / 1000)))), (20, .int (nI j)), (0, .ref (b)), (1, .ref (qx)), (2, .ref (qa 0)), (3, .ref (qa 1)), (4, .ref (qa 2)), (5, .ref (qa 3)), (6, .ref (qa 4)), (7, .ref (qa 5)), (8, .ref (qa 6)), (9, .ref (qa 7)), (10, .ref (qa 8)), (11, .ref (qa 9)), (13, .int (nI (nj g))), (14, .int (nI (mo g))), (15, .int (nI t)), (16, .int v), (17, .int (nI wh)), (18, .int (nI p9))]) hx hb dL_law_753 hl (by decide) rfl (fun ls hl => ?_)
          refine lv_aload hx hb dL_law_755 (lv_at hl 13 rfl) ?_
          refine lv_iload hx hb dL_law_757 (lv_at hl 3 rfl) ?_
          refine l_ald (v := 1) (j := j) S hE hW 7 rfl (vp_in_nI (show j < 12 from (by omega)) (by decide)) (nI_clamp (by omega)) ((hA.a7 (by omega)).trans es) dL_law_759 ?_
          refine lv_if_ne (tgt := 797) hx hb dL_law_760 (by decide) (fun _ => ?_) (fun h9 => absurd h9 (by decide))
          refine lv_goto (tgt := 1264) hx hb dL_law_797 (by decide) ?_
          refine W.widen (k := cells + 3) (n := slots + 300) (by omega) (by omega) ?_
          exact kk (g) _ _ _ _ (hB) (hA) (show mo g ≤ 5 * t + 5 by omega) hW hS (lv_sub hl [4, 5, 6, 7, 8, 9, 10, 11, 12, 13, 14, 15, 0, 16, 17, 18] rfl)
        · refine lv_aload_n hx hb dL_law_713 rfl (lv_at hl 4 rfl) ?_
          refine lv_iconst (v := 0) hx hb dL_law_714 (by decide) ?_
          refine lv_iconst (v := 1) hx hb dL_law_715 (by decide) ?_
          refine lv_iload hx hb dL_law_716 (lv_at hl 2 rfl) ?_
          refine lv_ishl hx hb dL_law_718 ?_
          refine l_wcall (As := [.ref (qx), .int 0, .int (1 <<< ((nI j) &&& 31))]) (rest := []) (sp := sp_glue g ((1 : Int32) <<< (nI j &&& 31))) S hE hS hW (c_L_act0 l z hst qx qa (g) gm hB.ok ((1 : Int32) <<< (nI j &&& 31)) (glu_k hB hj ez hz2)) (vx_cwSW 3 hts (gU_w tw_604 tw_605 tw_0 tw_606) rfl rfl rfl (by decide +kernel) ⟨Nat.le_of_ble_eq_true rfl, Nat.le_of_ble_eq_true rfl⟩) rfl hl.1 rfl (Nat.le_of_ble_eq_true rfl) dL_law_719 ⟨Nat.le_trans (by omega) hf.1, Nat.le_trans (by omega) hf.2⟩ (fun H locs hW hS => ?_)
          rw [t_glue hB hj ez hz2, if_neg (fun q => c6 q.2)] at hW ⊢
          rw [show ares (bad 2 g) = -1003 from rfl]
          have hW : LI z qx qa g gm H := hW
          refine lv_aload hx hb dL_law_722 (lv_at hl 12 rfl) ?_
          refine lv_iload hx hb dL_law_724 (lv_at hl 2 rfl) ?_
          refine l_ald (v := 1) (j := j) S hE hW 7 rfl (vp_in_nI (show j < 12 from (by omega)) (by decide)) (nI_clamp (by omega)) ((hA.a7 (by omega)).trans es) dL_law_726 ?_
          refine lv_if_gt (tgt := 737) hx hb dL_law_727 (by decide) (fun _ => ?_) (fun h9 => absurd h9 (by decide))
          refine lv_sipush (v := (-1003)) hx hb dL_law_737 (by decide) ?_
          refine lv_goto (tgt := 745) hx hb dL_law_740 (by decide) ?_
          refine lv_icmp_ne (tgt := 752) hx hb dL_law_745 (by decide) (fun q9 => absurd (rfl) q9) (fun c_745_9 => ?_)
          refine lv_iconst (v := 1) hx hb dL_law_748 (by decide) ?_
          refine lv_goto (tgt := 753) hx hb dL_law_749 (by decide) ?_
          refine lv_istore (lv' := [(12, .int 1), (22, .int (nI (1 + (zz / 500)))), (21, .int (nI (3 + (zz / 1000)))), (20, .int (nI j)), (0, .ref (b)), (1, .ref (qx)), (2, .ref (qa 0)), (3, .ref (qa 1)), (4, .ref (qa 2)), (5, .ref (qa 3)), (6, .ref (qa 4)), (7, .ref (qa 5)), (8, .ref (qa 6)), (9, .ref (qa 7)), (10, .ref (qa 8)), (11, .ref (qa 9)), (13, .int (nI (nj g))), (14, .int (nI (mo g))), (15, .int (nI t)), (16, .int v), (17, .int (nI wh)), (18, .int (nI p9))]) hx hb dL_law_753 hl (by decide) rfl (fun ls hl => ?_)
          refine lv_aload hx hb dL_law_755 (lv_at hl 13 rfl) ?_
          refine lv_iload hx hb dL_law_757 (lv_at hl 3 rfl) ?_
          refine l_ald (v := 1) (j := j) S hE hW 7 rfl (vp_in_nI (show j < 12 from (by omega)) (by decide)) (nI_clamp (by omega)) ((hA.a7 (by omega)).trans es) dL_law_759 ?_
          refine lv_if_ne (tgt := 797) hx hb dL_law_760 (by decide) (fun _ => ?_) (fun h9 => absurd h9 (by decide))
          refine lv_goto (tgt := 1264) hx hb dL_law_797 (by decide) ?_
          refine W.widen (k := cells + 3) (n := slots + 300) (by omega) (by omega) ?_
          exact kk (g) _ _ _ _ (hB) (hA) (show mo g ≤ 5 * t + 5 by omega) hW hS (lv_sub hl [4, 5, 6, 7, 8, 9, 10, 11, 12, 13, 14, 15, 0, 16, 17, 18] rfl)
      · by_cases c6 : 1 + zz / 500 ≤ 6
        · refine lv_aload_n hx hb dL_law_713 rfl (lv_at hl 4 rfl) ?_
          refine lv_iconst (v := 0) hx hb dL_law_714 (by decide) ?_
          refine lv_iconst (v := 1) hx hb dL_law_715 (by decide) ?_
          refine lv_iload hx hb dL_law_716 (lv_at hl 2 rfl) ?_
          refine lv_ishl hx hb dL_law_718 ?_
          refine l_wcall (As := [.ref (qx), .int 0, .int (1 <<< ((nI j) &&& 31))]) (rest := []) (sp := sp_glue g ((1 : Int32) <<< (nI j &&& 31))) S hE hS hW (c_L_act0 l z hst qx qa (g) gm hB.ok ((1 : Int32) <<< (nI j &&& 31)) (glu_k hB hj ez hz2)) (vx_cwSW 3 hts (gU_w tw_604 tw_605 tw_0 tw_606) rfl rfl rfl (by decide +kernel) ⟨Nat.le_of_ble_eq_true rfl, Nat.le_of_ble_eq_true rfl⟩) rfl hl.1 rfl (Nat.le_of_ble_eq_true rfl) dL_law_719 ⟨Nat.le_trans (by omega) hf.1, Nat.le_trans (by omega) hf.2⟩ (fun H locs hW hS => ?_)
          rw [t_glue hB hj ez hz2, if_neg (fun q => absurd (e31.symm.trans q.1) (by decide))] at hW ⊢
          rw [show ares (bad 2 g) = -1003 from rfl]
          have hW : LI z qx qa g gm H := hW
          refine lv_aload hx hb dL_law_722 (lv_at hl 12 rfl) ?_
          refine lv_iload hx hb dL_law_724 (lv_at hl 2 rfl) ?_
          refine l_ald (v := 2) (j := j) S hE hW 7 rfl (vp_in_nI (show j < 12 from (by omega)) (by decide)) (nI_clamp (by omega)) ((hA.a7 (by omega)).trans es) dL_law_726 ?_
          refine lv_if_gt (tgt := 737) hx hb dL_law_727 (by decide) (fun _ => ?_) (fun h9 => absurd h9 (by decide))
          refine lv_sipush (v := (-1003)) hx hb dL_law_737 (by decide) ?_
          refine lv_goto (tgt := 745) hx hb dL_law_740 (by decide) ?_
          refine lv_icmp_ne (tgt := 752) hx hb dL_law_745 (by decide) (fun q9 => absurd (rfl) q9) (fun c_745_10 => ?_)
          refine lv_iconst (v := 1) hx hb dL_law_748 (by decide) ?_
          refine lv_goto (tgt := 753) hx hb dL_law_749 (by decide) ?_
          refine lv_istore (lv' := [(12, .int 1), (22, .int (nI (1 + (zz / 500)))), (21, .int (nI (3 + (zz / 1000)))), (20, .int (nI j)), (0, .ref (b)), (1, .ref (qx)), (2, .ref (qa 0)), (3, .ref (qa 1)), (4, .ref (qa 2)), (5, .ref (qa 3)), (6, .ref (qa 4)), (7, .ref (qa 5)), (8, .ref (qa 6)), (9, .ref (qa 7)), (10, .ref (qa 8)), (11, .ref (qa 9)), (13, .int (nI (nj g))), (14, .int (nI (mo g))), (15, .int (nI t)), (16, .int v), (17, .int (nI wh)), (18, .int (nI p9))]) hx hb dL_law_753 hl (by decide) rfl (fun ls hl => ?_)
          refine lv_aload hx hb dL_law_755 (lv_at hl 13 rfl) ?_
          refine lv_iload hx hb dL_law_757 (lv_at hl 3 rfl) ?_
          refine l_ald (v := 2) (j := j) S hE hW 7 rfl (vp_in_nI (show j < 12 from (by omega)) (by decide)) (nI_clamp (by omega)) ((hA.a7 (by omega)).trans es) dL_law_759 ?_
          refine lv_if_ne (tgt := 797) hx hb dL_law_760 (by decide) (fun _ => ?_) (fun h9 => absurd h9 (by decide))
          refine lv_goto (tgt := 1264) hx hb dL_law_797 (by decide) ?_
          refine W.widen (k := cells + 3) (n := slots + 300) (by omega) (by omega) ?_
          exact kk (g) _ _ _ _ (hB) (hA) (show mo g ≤ 5 * t + 5 by omega) hW hS (lv_sub hl [4, 5, 6, 7, 8, 9, 10, 11, 12, 13, 14, 15, 0, 16, 17, 18] rfl)
        · refine lv_aload_n hx hb dL_law_713 rfl (lv_at hl 4 rfl) ?_
          refine lv_iconst (v := 0) hx hb dL_law_714 (by decide) ?_
          refine lv_iconst (v := 1) hx hb dL_law_715 (by decide) ?_
          refine lv_iload hx hb dL_law_716 (lv_at hl 2 rfl) ?_
          refine lv_ishl hx hb dL_law_718 ?_
          refine l_wcall (As := [.ref (qx), .int 0, .int (1 <<< ((nI j) &&& 31))]) (rest := []) (sp := sp_glue g ((1 : Int32) <<< (nI j &&& 31))) S hE hS hW (c_L_act0 l z hst qx qa (g) gm hB.ok ((1 : Int32) <<< (nI j &&& 31)) (glu_k hB hj ez hz2)) (vx_cwSW 3 hts (gU_w tw_604 tw_605 tw_0 tw_606) rfl rfl rfl (by decide +kernel) ⟨Nat.le_of_ble_eq_true rfl, Nat.le_of_ble_eq_true rfl⟩) rfl hl.1 rfl (Nat.le_of_ble_eq_true rfl) dL_law_719 ⟨Nat.le_trans (by omega) hf.1, Nat.le_trans (by omega) hf.2⟩ (fun H locs hW hS => ?_)
          rw [t_glue hB hj ez hz2, if_neg (fun q => c6 q.2)] at hW ⊢
          rw [show ares (bad 2 g) = -1003 from rfl]
          have hW : LI z qx qa g gm H := hW
          refine lv_aload hx hb dL_law_722 (lv_at hl 12 rfl) ?_
          refine lv_iload hx hb dL_law_724 (lv_at hl 2 rfl) ?_
          refine l_ald (v := 2) (j := j) S hE hW 7 rfl (vp_in_nI (show j < 12 from (by omega)) (by decide)) (nI_clamp (by omega)) ((hA.a7 (by omega)).trans es) dL_law_726 ?_
          refine lv_if_gt (tgt := 737) hx hb dL_law_727 (by decide) (fun _ => ?_) (fun h9 => absurd h9 (by decide))
          refine lv_sipush (v := (-1003)) hx hb dL_law_737 (by decide) ?_
          refine lv_goto (tgt := 745) hx hb dL_law_740 (by decide) ?_
          refine lv_icmp_ne (tgt := 752) hx hb dL_law_745 (by decide) (fun q9 => absurd (rfl) q9) (fun c_745_11 => ?_)
          refine lv_iconst (v := 1) hx hb dL_law_748 (by decide) ?_
          refine lv_goto (tgt := 753) hx hb dL_law_749 (by decide) ?_
          refine lv_istore (lv' := [(12, .int 1), (22, .int (nI (1 + (zz / 500)))), (21, .int (nI (3 + (zz / 1000)))), (20, .int (nI j)), (0, .ref (b)), (1, .ref (qx)), (2, .ref (qa 0)), (3, .ref (qa 1)), (4, .ref (qa 2)), (5, .ref (qa 3)), (6, .ref (qa 4)), (7, .ref (qa 5)), (8, .ref (qa 6)), (9, .ref (qa 7)), (10, .ref (qa 8)), (11, .ref (qa 9)), (13, .int (nI (nj g))), (14, .int (nI (mo g))), (15, .int (nI t)), (16, .int v), (17, .int (nI wh)), (18, .int (nI p9))]) hx hb dL_law_753 hl (by decide) rfl (fun ls hl => ?_)
          refine lv_aload hx hb dL_law_755 (lv_at hl 13 rfl) ?_
          refine lv_iload hx hb dL_law_757 (lv_at hl 3 rfl) ?_
          refine l_ald (v := 2) (j := j) S hE hW 7 rfl (vp_in_nI (show j < 12 from (by omega)) (by decide)) (nI_clamp (by omega)) ((hA.a7 (by omega)).trans es) dL_law_759 ?_
          refine lv_if_ne (tgt := 797) hx hb dL_law_760 (by decide) (fun _ => ?_) (fun h9 => absurd h9 (by decide))
          refine lv_goto (tgt := 1264) hx hb dL_law_797 (by decide) ?_
          refine W.widen (k := cells + 3) (n := slots + 300) (by omega) (by omega) ?_
          exact kk (g) _ _ _ _ (hB) (hA) (show mo g ≤ 5 * t + 5 by omega) hW hS (lv_sub hl [4, 5, 6, 7, 8, 9, 10, 11, 12, 13, 14, 15, 0, 16, 17, 18] rfl)
end LTU
