/-! ===== the law: what a turn does: joint ===== -/
section LTU
variable {p : Program} {e : Env} {s : State} {m : MethodId} {args : Array Value} {below : List Frame} {meth : Method} {c : Code} {H : Heap} {locs : List Loc} {cells slots : Nat} {Q : State → Prop} {ls : Array Slot} {z : ZE} {b L qx : Nat} {qa : Nat → Nat} {xs : Nat → Int32} {g gm G : GS}
set_option maxHeartbeats 4000000 in
set_option maxRecDepth 100000 in
/-- the turn: joint -/
theorem law_474 (l : Launch) (hst : l.stackTraces = false) (S : CallFix p m c cL_law 26 s args wU RL) (hE : EV z s s.heap) (hB : BD g) (hA : AR g gm) (t : Nat) (ht : t < 40) (hmo : mo g ≤ 5 * t) (v : Int32) (wh p9 : Nat) (hwh : wh < 9) (hp9 : p9 < 6) (nn : Nat) (hnn : 280 ≤ nn ∧ nn ≤ 5720) (enn : wAt g p9 (g 22 p9) = nI nn) (hW : LI z qx qa (g) gm H) (hS : va_S (zA z) s.heap H locs) (hl : lv_has ls 26 [(0, .ref (b)), (1, .ref (qx)), (2, .ref (qa 0)), (3, .ref (qa 1)), (4, .ref (qa 2)), (5, .ref (qa 3)), (6, .ref (qa 4)), (7, .ref (qa 5)), (8, .ref (qa 6)), (9, .ref (qa 7)), (10, .ref (qa 8)), (11, .ref (qa 9)), (12, .int 1), (13, .int (nI (nj g))), (14, .int (nI (mo g))), (15, .int (nI t)), (16, .int v), (17, .int (nI wh)), (18, .int (nI p9)), (19, .int (nI nn))]) (hf : cells + 3 ≤ room_1.cells ∧ slots + 300 ≤ room_1.slots)
    (kk : ∀ (g gm : GS) (H : Heap) (locs : List Loc) (ls : Array Slot), BD g → AR g gm → mo g ≤ 5 * t + 5 → LI z qx qa g gm H → va_S (zA z) s.heap H locs → lv_has ls 26 [(0, .ref (b)), (1, .ref (qx)), (2, .ref (qa 0)), (3, .ref (qa 1)), (4, .ref (qa 2)), (5, .ref (qa 3)), (6, .ref (qa 4)), (7, .ref (qa 5)), (8, .ref (qa 6)), (9, .ref (qa 7)), (10, .ref (qa 8)), (11, .ref (qa 9)), (12, .int 1), (13, .int (nI (nj g))), (14, .int (nI (mo g))), (15, .int (nI t))] → W p l e room_1 s m args below meth c H locs (cells + 3) (slots + 300) Q (F0 m 1264 ls [])) : W p l e room_1 s m args below meth c H locs (cells) (slots) Q (F0 m 474 ls []) := by
  have hx := S.1
  have hb := S.2.1
  have hown := S.2.2.2.1
  have hts := S.2.2.2.2
  have hml := S.2.2.1
  have hnj := hB.lj
  refine lv_iload hx hb dL_law_474 (lv_at hl 17 rfl) ?_
  refine lv_iconst (v := 4) hx hb dL_law_476 (by decide) ?_
  rw [show (4 : Int32) = nI 4 from rfl]
  refine g_icmp_ge S (by omega) (by omega) (tgt := 654) dL_law_477 (by decide) (fun c_477 => ?_) (fun c_477 => ?_)
  · exact law_654 l hst S hE hB hA t ht hmo v wh p9 hwh hp9 hW hS (lv_sub hl [0, 1, 2, 3, 4, 5, 6, 7, 8, 9, 10, 11, 12, 13, 14, 15, 16, 17, 18] rfl) hf kk
  · refine lv_iload hx hb dL_law_480 (lv_at hl 13 rfl) ?_
    refine lv_bipush (v := 12) hx hb dL_law_482 (by decide) ?_
    rw [show (12 : Int32) = nI 12 from rfl]
    refine g_icmp_ge S (by omega) (by omega) (tgt := 654) dL_law_484 (by decide) (fun c_484_1 => ?_) (fun c_484_1 => ?_)
    · exact law_654 l hst S hE hB hA t ht hmo v wh p9 hwh hp9 hW hS (lv_sub hl [0, 1, 2, 3, 4, 5, 6, 7, 8, 9, 10, 11, 12, 13, 14, 15, 16, 17, 18] rfl) hf kk
    · refine lv_iload hx hb dL_law_487 (lv_at hl 16 rfl) ?_
      refine lv_sipush (v := 128) hx hb dL_law_489 (by decide) ?_
      refine lv_idiv hx hb dL_law_492 (by decide) ?_
      refine lv_iconst (v := nI 3) hx hb dL_law_493 (by decide) ?_
      refine g_callS (As := [.int ((v) / (128)), .int (nI 3)]) (rest := []) S hE hS (c_L_up l z ((v) / (128)) (3) (by omega) (by omega)) (cwS 2 hts (gU_S tw_598 tw_599 tw_0 tw_600) rfl rfl rfl (by decide +kernel) ⟨Nat.le_of_ble_eq_true rfl, Nat.le_of_ble_eq_true rfl⟩) trivial rfl hl.1 rfl (Nat.le_of_ble_eq_true rfl) dL_law_494 ⟨Nat.le_trans (by omega) hf.1, Nat.le_trans (by omega) hf.2⟩ ?_
      obtain ⟨kd, hkd, ekd⟩ : ∃ y : Nat, (y < 3) ∧ upN ((v) / (128)) (3) = y := ⟨_, (upN_lt _ (by decide)), rfl⟩
      rw [ekd]
      refine lv_istore (lv' := [(20, .int (nI kd)), (0, .ref (b)), (1, .ref (qx)), (2, .ref (qa 0)), (3, .ref (qa 1)), (4, .ref (qa 2)), (5, .ref (qa 3)), (6, .ref (qa 4)), (7, .ref (qa 5)), (8, .ref (qa 6)), (9, .ref (qa 7)), (10, .ref (qa 8)), (11, .ref (qa 9)), (12, .int 1), (13, .int (nI (nj g))), (14, .int (nI (mo g))), (15, .int (nI t)), (16, .int v), (17, .int (nI wh)), (18, .int (nI p9)), (19, .int (nI nn))]) hx hb dL_law_497 hl (by decide) rfl (fun ls hl => ?_)
      rcases (show kd = 0 ∨ kd = 1 ∨ kd = 2 by omega) with rfl | rfl | rfl
      · refine lv_iload hx hb dL_law_499 (lv_at hl 0 rfl) ?_
        refine lv_iconst (v := 2) hx hb dL_law_501 (by decide) ?_
        refine lv_icmp_ne (tgt := 521) hx hb dL_law_502 (by decide) (fun _ => ?_) (fun h9 => absurd h9 (by decide))
        refine lv_iconst (v := nI 0) hx hb dL_law_521 (by decide) ?_
        refine lv_istore (lv' := [(21, .int (nI 0)), (20, .int (nI 0)), (0, .ref (b)), (1, .ref (qx)), (2, .ref (qa 0)), (3, .ref (qa 1)), (4, .ref (qa 2)), (5, .ref (qa 3)), (6, .ref (qa 4)), (7, .ref (qa 5)), (8, .ref (qa 6)), (9, .ref (qa 7)), (10, .ref (qa 8)), (11, .ref (qa 9)), (12, .int 1), (13, .int (nI (nj g))), (14, .int (nI (mo g))), (15, .int (nI t)), (16, .int v), (17, .int (nI wh)), (18, .int (nI p9)), (19, .int (nI nn))]) hx hb dL_law_522 hl (by decide) rfl (fun ls hl => ?_)
        refine lv_iload hx hb dL_law_524 (lv_at hl 1 rfl) ?_
        refine lv_if_ne (tgt := 534) hx hb dL_law_526 (by decide) (fun h9 => absurd h9 (by decide)) (fun _ => ?_)
        refine lv_bipush (v := nI 100) hx hb dL_law_529 (by decide) ?_
        refine lv_goto (tgt := 563) hx hb dL_law_531 (by decide) ?_
        refine lv_istore (lv' := [(22, .int (nI 100)), (21, .int (nI 0)), (20, .int (nI 0)), (0, .ref (b)), (1, .ref (qx)), (2, .ref (qa 0)), (3, .ref (qa 1)), (4, .ref (qa 2)), (5, .ref (qa 3)), (6, .ref (qa 4)), (7, .ref (qa 5)), (8, .ref (qa 6)), (9, .ref (qa 7)), (10, .ref (qa 8)), (11, .ref (qa 9)), (12, .int 1), (13, .int (nI (nj g))), (14, .int (nI (mo g))), (15, .int (nI t)), (16, .int v), (17, .int (nI wh)), (18, .int (nI p9)), (19, .int (nI nn))]) hx hb dL_law_563 hl (by decide) rfl (fun ls hl => ?_)
        obtain ⟨a9, ha9, ea9⟩ := hB.ch
        refine lv_aload_n hx hb dL_law_565 rfl (lv_at hl 4 rfl) ?_
        refine lv_iconst (v := 1) hx hb dL_law_566 (by decide) ?_
        refine l_pcall (As := [.int 1]) (rest := []) (sp := sp_sharpen g (1)) (Ea := xI) (Eb := xI) (Ec := xI) S hE hS hW (by rw [t_sharp, ea9]) (fun w => c_X5_sharpen l z hst w (g) gm (fun _ => 0) hB.ok (1)) (cwV 1 hts (gU_V tw_485 tw_486 tw_487 tw_1 tw_488) rfl rfl rfl (by decide +kernel) ⟨Nat.le_of_ble_eq_true rfl, Nat.le_of_ble_eq_true rfl⟩) rfl hl.1 rfl (Nat.le_of_ble_eq_true rfl) dL_law_567 ⟨Nat.le_trans (by omega) hf.1, Nat.le_trans (by omega) hf.2⟩ (fun H locs hW hS => ?_)
        refine lv_bipush (v := 100) hx hb dL_law_570 (by decide) ?_
        rw [show (100 : Int32) = nI 100 from rfl]
        refine g_icmp_gt S (by omega) (by omega) (tgt := 603) dL_law_572 (by decide) (fun h9 => absurd h9 (by omega)) (fun c_572_2 => ?_)
        have hB1 := bd_s hB
        have hA1 : AR (gup g 3 1 100) gm := ar_s hA
        have hjk : jok (gup g 3 1 100) 0 p9 0 100 := ⟨by decide, hp9, by omega, by omega, fun q => absurd q (by decide), fun _ => rfl, fun _ => by omega, fun q => absurd rfl q⟩
        refine lv_aload_n hx hb dL_law_575 rfl (lv_at hl 4 rfl) ?_
        refine lv_iload hx hb dL_law_576 (lv_at hl 2 rfl) ?_
        refine lv_iload hx hb dL_law_578 (lv_at hl 21 rfl) ?_
        refine lv_iload hx hb dL_law_580 (lv_at hl 21 rfl) ?_
        refine lv_iconst (v := 1) hx hb dL_law_582 (by decide) ?_
        refine lv_iadd hx hb dL_law_583 ?_
        rw [show (nI p9 : Int32) + 1 = nI (p9 + 1) from nI_add _ 1]
        refine lv_bipush (v := 6) hx hb dL_law_584 (by decide) ?_
        refine lv_irem hx hb dL_law_586 (by decide) ?_
        rw [show (nI (p9 + 1) : Int32) - nI (p9 + 1) / 6 * 6 = nI ((p9 + 1) % 6) from pk_rem (d := 6) (by omega) (by decide) (by decide)]
        refine lv_iload hx hb dL_law_587 (lv_at hl 0 rfl) ?_
        refine lv_iload hx hb dL_law_589 (lv_at hl 1 rfl) ?_
        refine l_pcall (As := [.int (nI 0), .int (nI p9), .int (nI ((p9 + 1) % 6)), .int (nI 100), .int (nI 0)]) (rest := []) (sp := sp_joint ((gup g 3 1 100)) (nI 0) (nI p9) (nI ((p9 + 1) % 6)) (nI 100) (nI 0)) (Ea := xI) (Eb := xA) (Ec := xS) S hE hS hW (t_joint hB1 rfl (show nj g < 12 by omega) hjk (show (p9 + 1) % 6 < 6 by omega) (by omega)) (fun w => c_X5_joint l z hst w ((gup g 3 1 100)) gm (fun _ => 0) hB1.ok (nI 0) (nI p9) (nI ((p9 + 1) % 6)) (nI 100) (nI 0)) (cwV 5 hts (gU_V tw_500 tw_501 tw_502 tw_1 tw_503) rfl rfl rfl (by decide +kernel) ⟨Nat.le_of_ble_eq_true rfl, Nat.le_of_ble_eq_true rfl⟩) rfl hl.1 rfl (Nat.le_of_ble_eq_true rfl) dL_law_591 ⟨Nat.le_trans (by omega) hf.1, Nat.le_trans (by omega) hf.2⟩ (fun H locs hW hS => ?_)
        refine lv_iload hx hb dL_law_594 (lv_at hl 16 rfl) ?_
        refine lv_icmp_ne (tgt := 603) hx hb dL_law_596 (by decide) (fun q9 => absurd (rfl) q9) (fun c_596_3 => ?_)
        refine lv_iconst (v := 1) hx hb dL_law_599 (by decide) ?_
        refine lv_goto (tgt := 604) hx hb dL_law_600 (by decide) ?_
        refine lv_istore (lv' := [(12, .int 1), (22, .int (nI 100)), (21, .int (nI 0)), (20, .int (nI 0)), (0, .ref (b)), (1, .ref (qx)), (2, .ref (qa 0)), (3, .ref (qa 1)), (4, .ref (qa 2)), (5, .ref (qa 3)), (6, .ref (qa 4)), (7, .ref (qa 5)), (8, .ref (qa 6)), (9, .ref (qa 7)), (10, .ref (qa 8)), (11, .ref (qa 9)), (13, .int (nI (nj g))), (14, .int (nI (mo g))), (15, .int (nI t)), (16, .int v), (17, .int (nI wh)), (18, .int (nI p9)), (19, .int (nI nn))]) hx hb dL_law_604 hl (by decide) rfl (fun ls hl => ?_)
        refine lv_aload hx hb dL_law_606 (lv_at hl 12 rfl) ?_
        refine lv_iconst (v := 5) hx hb dL_law_608 (by decide) ?_
        refine lv_iload hx hb dL_law_609 (lv_at hl 16 rfl) ?_
        refine lv_imul hx hb dL_law_611 ?_
        rw [show (5 : Int32) * nI (nj g) = nI (5 * (nj g)) from pk_mul 5 _]
        refine lv_iload hx hb dL_law_612 (lv_at hl 3 rfl) ?_
        refine l_ast (j := 5 * (nj g)) S hE hS hW 6 rfl (vp_in_nI (show 5 * (nj g) < 60 from (by omega)) (by decide)) (nI_clamp (by omega)) dL_law_614 (fun H locs hW hS => ?_)
        refine lv_aload hx hb dL_law_615 (lv_at hl 12 rfl) ?_
        refine lv_iconst (v := 5) hx hb dL_law_617 (by decide) ?_
        refine lv_iload hx hb dL_law_618 (lv_at hl 16 rfl) ?_
        refine lv_imul hx hb dL_law_620 ?_
        rw [show (5 : Int32) * nI (nj g) = nI (5 * (nj g)) from pk_mul 5 _]
        refine lv_iconst (v := 1) hx hb dL_law_621 (by decide) ?_
        refine lv_iadd hx hb dL_law_622 ?_
        rw [show (nI (5 * (nj g)) : Int32) + 1 = nI ((5 * (nj g)) + 1) from nI_add _ 1]
        refine lv_iload hx hb dL_law_623 (lv_at hl 21 rfl) ?_
        refine l_ast (j := (5 * (nj g)) + 1) S hE hS hW 6 rfl (vp_in_nI (show (5 * (nj g)) + 1 < 60 from (by omega)) (by decide)) (nI_clamp (by omega)) dL_law_625 (fun H locs hW hS => ?_)
        refine lv_aload hx hb dL_law_626 (lv_at hl 12 rfl) ?_
        refine lv_iconst (v := 5) hx hb dL_law_628 (by decide) ?_
        refine lv_iload hx hb dL_law_629 (lv_at hl 16 rfl) ?_
        refine lv_imul hx hb dL_law_631 ?_
        rw [show (5 : Int32) * nI (nj g) = nI (5 * (nj g)) from pk_mul 5 _]
        refine lv_iconst (v := 2) hx hb dL_law_632 (by decide) ?_
        refine lv_iadd hx hb dL_law_633 ?_
        rw [show (nI (5 * (nj g)) : Int32) + 2 = nI ((5 * (nj g)) + 2) from nI_add _ 2]
        refine lv_iload hx hb dL_law_634 (lv_at hl 1 rfl) ?_
        refine l_ast (j := (5 * (nj g)) + 2) S hE hS hW 6 rfl (vp_in_nI (show (5 * (nj g)) + 2 < 60 from (by omega)) (by decide)) (nI_clamp (by omega)) dL_law_636 (fun H locs hW hS => ?_)
        refine lv_aload hx hb dL_law_637 (lv_at hl 12 rfl) ?_
        refine lv_iconst (v := 5) hx hb dL_law_639 (by decide) ?_
        refine lv_iload hx hb dL_law_640 (lv_at hl 16 rfl) ?_
        refine lv_imul hx hb dL_law_642 ?_
        rw [show (5 : Int32) * nI (nj g) = nI (5 * (nj g)) from pk_mul 5 _]
        refine lv_iconst (v := 3) hx hb dL_law_643 (by decide) ?_
        refine lv_iadd hx hb dL_law_644 ?_
        rw [show (nI (5 * (nj g)) : Int32) + 3 = nI ((5 * (nj g)) + 3) from nI_add _ 3]
        refine lv_iload hx hb dL_law_645 (lv_at hl 2 rfl) ?_
        refine l_ast (j := (5 * (nj g)) + 3) S hE hS hW 6 rfl (vp_in_nI (show (5 * (nj g)) + 3 < 60 from (by omega)) (by decide)) (nI_clamp (by omega)) dL_law_647 (fun H locs hW hS => ?_)
        refine lv_iinc (v := nI ((nj g) + 1)) (lv' := [(13, .int (nI ((nj g) + 1))), (12, .int 1), (22, .int (nI 100)), (21, .int (nI 0)), (20, .int (nI 0)), (0, .ref (b)), (1, .ref (qx)), (2, .ref (qa 0)), (3, .ref (qa 1)), (4, .ref (qa 2)), (5, .ref (qa 3)), (6, .ref (qa 4)), (7, .ref (qa 5)), (8, .ref (qa 6)), (9, .ref (qa 7)), (10, .ref (qa 8)), (11, .ref (qa 9)), (14, .int (nI (mo g))), (15, .int (nI t)), (16, .int v), (17, .int (nI wh)), (18, .int (nI p9)), (19, .int (nI nn))]) hx hb dL_law_648 hl (k := 16) rfl (nI_1 _) (by decide) rfl (fun ls hl => ?_)
        refine lv_goto (tgt := 1264) hx hb dL_law_651 (by decide) ?_
        rw [show nj g + 1 = nj (jst (gup g 3 1 100) (nI 0) p9 ((p9 + 1) % 6) (nI 100) (nI 0)) from (jst_n.trans (nI_clamp (show nj g + 1 < 2 ^ 31 by omega))).symm] at hl
        refine W.widen (k := cells + 3) (n := slots + 300) (by omega) (by omega) ?_
        exact kk (jst (gup g 3 1 100) (nI 0) p9 ((p9 + 1) % 6) (nI 100) (nI 0)) _ _ _ _ (bd_j hB1 rfl (show nj g < 12 by omega) hjk (show (p9 + 1) % 6 < 6 by omega) (by omega)) (ar_j hB1 hA1 (show nj g < 12 by omega) hp9) (show mo g ≤ 5 * t + 5 by omega) hW hS (lv_sub hl [5, 6, 7, 8, 9, 10, 11, 12, 13, 14, 15, 16, 1, 0, 17, 18] rfl)
      · refine lv_iload hx hb dL_law_499 (lv_at hl 0 rfl) ?_
        refine lv_iconst (v := 2) hx hb dL_law_501 (by decide) ?_
        refine lv_icmp_ne (tgt := 521) hx hb dL_law_502 (by decide) (fun _ => ?_) (fun h9 => absurd h9 (by decide))
        refine lv_iconst (v := nI 0) hx hb dL_law_521 (by decide) ?_
        refine lv_istore (lv' := [(21, .int (nI 0)), (20, .int (nI 1)), (0, .ref (b)), (1, .ref (qx)), (2, .ref (qa 0)), (3, .ref (qa 1)), (4, .ref (qa 2)), (5, .ref (qa 3)), (6, .ref (qa 4)), (7, .ref (qa 5)), (8, .ref (qa 6)), (9, .ref (qa 7)), (10, .ref (qa 8)), (11, .ref (qa 9)), (12, .int 1), (13, .int (nI (nj g))), (14, .int (nI (mo g))), (15, .int (nI t)), (16, .int v), (17, .int (nI wh)), (18, .int (nI p9)), (19, .int (nI nn))]) hx hb dL_law_522 hl (by decide) rfl (fun ls hl => ?_)
        refine lv_iload hx hb dL_law_524 (lv_at hl 1 rfl) ?_
        refine lv_if_ne (tgt := 534) hx hb dL_law_526 (by decide) (fun _ => ?_) (fun h9 => absurd h9 (by decide))
        refine lv_iload hx hb dL_law_534 (lv_at hl 1 rfl) ?_
        refine lv_iconst (v := 1) hx hb dL_law_536 (by decide) ?_
        refine lv_icmp_ne (tgt := 545) hx hb dL_law_537 (by decide) (fun h9 => absurd h9 (by decide)) (fun _ => ?_)
        refine lv_iload hx hb dL_law_540 (lv_at hl 21 rfl) ?_
        refine lv_goto (tgt := 563) hx hb dL_law_542 (by decide) ?_
        refine lv_istore (lv' := [(22, .int (nI nn)), (21, .int (nI 0)), (20, .int (nI 1)), (0, .ref (b)), (1, .ref (qx)), (2, .ref (qa 0)), (3, .ref (qa 1)), (4, .ref (qa 2)), (5, .ref (qa 3)), (6, .ref (qa 4)), (7, .ref (qa 5)), (8, .ref (qa 6)), (9, .ref (qa 7)), (10, .ref (qa 8)), (11, .ref (qa 9)), (12, .int 1), (13, .int (nI (nj g))), (14, .int (nI (mo g))), (15, .int (nI t)), (16, .int v), (17, .int (nI wh)), (18, .int (nI p9)), (19, .int (nI nn))]) hx hb dL_law_563 hl (by decide) rfl (fun ls hl => ?_)
        obtain ⟨a9, ha9, ea9⟩ := hB.ch
        refine lv_aload_n hx hb dL_law_565 rfl (lv_at hl 4 rfl) ?_
        refine lv_iconst (v := 1) hx hb dL_law_566 (by decide) ?_
        refine l_pcall (As := [.int 1]) (rest := []) (sp := sp_sharpen g (1)) (Ea := xI) (Eb := xI) (Ec := xI) S hE hS hW (by rw [t_sharp, ea9]) (fun w => c_X5_sharpen l z hst w (g) gm (fun _ => 0) hB.ok (1)) (cwV 1 hts (gU_V tw_485 tw_486 tw_487 tw_1 tw_488) rfl rfl rfl (by decide +kernel) ⟨Nat.le_of_ble_eq_true rfl, Nat.le_of_ble_eq_true rfl⟩) rfl hl.1 rfl (Nat.le_of_ble_eq_true rfl) dL_law_567 ⟨Nat.le_trans (by omega) hf.1, Nat.le_trans (by omega) hf.2⟩ (fun H locs hW hS => ?_)
        refine lv_bipush (v := 100) hx hb dL_law_570 (by decide) ?_
        rw [show (100 : Int32) = nI 100 from rfl]
        refine g_icmp_gt S (by omega) (by omega) (tgt := 603) dL_law_572 (by decide) (fun h9 => absurd h9 (by omega)) (fun c_572_4 => ?_)
        have hB1 := bd_s hB
        have hA1 : AR (gup g 3 1 100) gm := ar_s hA
        have hjk : jok (gup g 3 1 100) 1 p9 0 nn := ⟨by decide, hp9, by omega, by omega, fun q => absurd q (by decide), fun _ => rfl, fun q => absurd q (by decide), fun _ => ⟨nn, by omega, enn, fun _ => rfl, fun q => absurd q (by decide)⟩⟩
        refine lv_aload_n hx hb dL_law_575 rfl (lv_at hl 4 rfl) ?_
        refine lv_iload hx hb dL_law_576 (lv_at hl 2 rfl) ?_
        refine lv_iload hx hb dL_law_578 (lv_at hl 21 rfl) ?_
        refine lv_iload hx hb dL_law_580 (lv_at hl 21 rfl) ?_
        refine lv_iconst (v := 1) hx hb dL_law_582 (by decide) ?_
        refine lv_iadd hx hb dL_law_583 ?_
        rw [show (nI p9 : Int32) + 1 = nI (p9 + 1) from nI_add _ 1]
        refine lv_bipush (v := 6) hx hb dL_law_584 (by decide) ?_
        refine lv_irem hx hb dL_law_586 (by decide) ?_
        rw [show (nI (p9 + 1) : Int32) - nI (p9 + 1) / 6 * 6 = nI ((p9 + 1) % 6) from pk_rem (d := 6) (by omega) (by decide) (by decide)]
        refine lv_iload hx hb dL_law_587 (lv_at hl 0 rfl) ?_
        refine lv_iload hx hb dL_law_589 (lv_at hl 1 rfl) ?_
        refine l_pcall (As := [.int (nI 1), .int (nI p9), .int (nI ((p9 + 1) % 6)), .int (nI nn), .int (nI 0)]) (rest := []) (sp := sp_joint ((gup g 3 1 100)) (nI 1) (nI p9) (nI ((p9 + 1) % 6)) (nI nn) (nI 0)) (Ea := xI) (Eb := xA) (Ec := xS) S hE hS hW (t_joint hB1 rfl (show nj g < 12 by omega) hjk (show (p9 + 1) % 6 < 6 by omega) (by omega)) (fun w => c_X5_joint l z hst w ((gup g 3 1 100)) gm (fun _ => 0) hB1.ok (nI 1) (nI p9) (nI ((p9 + 1) % 6)) (nI nn) (nI 0)) (cwV 5 hts (gU_V tw_500 tw_501 tw_502 tw_1 tw_503) rfl rfl rfl (by decide +kernel) ⟨Nat.le_of_ble_eq_true rfl, Nat.le_of_ble_eq_true rfl⟩) rfl hl.1 rfl (Nat.le_of_ble_eq_true rfl) dL_law_591 ⟨Nat.le_trans (by omega) hf.1, Nat.le_trans (by omega) hf.2⟩ (fun H locs hW hS => ?_)
        refine lv_iload hx hb dL_law_594 (lv_at hl 16 rfl) ?_
        refine lv_icmp_ne (tgt := 603) hx hb dL_law_596 (by decide) (fun q9 => absurd (rfl) q9) (fun c_596_5 => ?_)
        refine lv_iconst (v := 1) hx hb dL_law_599 (by decide) ?_
        refine lv_goto (tgt := 604) hx hb dL_law_600 (by decide) ?_
        refine lv_istore (lv' := [(12, .int 1), (22, .int (nI nn)), (21, .int (nI 0)), (20, .int (nI 1)), (0, .ref (b)), (1, .ref (qx)), (2, .ref (qa 0)), (3, .ref (qa 1)), (4, .ref (qa 2)), (5, .ref (qa 3)), (6, .ref (qa 4)), (7, .ref (qa 5)), (8, .ref (qa 6)), (9, .ref (qa 7)), (10, .ref (qa 8)), (11, .ref (qa 9)), (13, .int (nI (nj g))), (14, .int (nI (mo g))), (15, .int (nI t)), (16, .int v), (17, .int (nI wh)), (18, .int (nI p9)), (19, .int (nI nn))]) hx hb dL_law_604 hl (by decide) rfl (fun ls hl => ?_)
        refine lv_aload hx hb dL_law_606 (lv_at hl 12 rfl) ?_
        refine lv_iconst (v := 5) hx hb dL_law_608 (by decide) ?_
        refine lv_iload hx hb dL_law_609 (lv_at hl 16 rfl) ?_
        refine lv_imul hx hb dL_law_611 ?_
        rw [show (5 : Int32) * nI (nj g) = nI (5 * (nj g)) from pk_mul 5 _]
        refine lv_iload hx hb dL_law_612 (lv_at hl 3 rfl) ?_
        refine l_ast (j := 5 * (nj g)) S hE hS hW 6 rfl (vp_in_nI (show 5 * (nj g) < 60 from (by omega)) (by decide)) (nI_clamp (by omega)) dL_law_614 (fun H locs hW hS => ?_)
        refine lv_aload hx hb dL_law_615 (lv_at hl 12 rfl) ?_
        refine lv_iconst (v := 5) hx hb dL_law_617 (by decide) ?_
        refine lv_iload hx hb dL_law_618 (lv_at hl 16 rfl) ?_
        refine lv_imul hx hb dL_law_620 ?_
        rw [show (5 : Int32) * nI (nj g) = nI (5 * (nj g)) from pk_mul 5 _]
        refine lv_iconst (v := 1) hx hb dL_law_621 (by decide) ?_
        refine lv_iadd hx hb dL_law_622 ?_
        rw [show (nI (5 * (nj g)) : Int32) + 1 = nI ((5 * (nj g)) + 1) from nI_add _ 1]
        refine lv_iload hx hb dL_law_623 (lv_at hl 21 rfl) ?_
        refine l_ast (j := (5 * (nj g)) + 1) S hE hS hW 6 rfl (vp_in_nI (show (5 * (nj g)) + 1 < 60 from (by omega)) (by decide)) (nI_clamp (by omega)) dL_law_625 (fun H locs hW hS => ?_)
        refine lv_aload hx hb dL_law_626 (lv_at hl 12 rfl) ?_
        refine lv_iconst (v := 5) hx hb dL_law_628 (by decide) ?_
        refine lv_iload hx hb dL_law_629 (lv_at hl 16 rfl) ?_
        refine lv_imul hx hb dL_law_631 ?_
        rw [show (5 : Int32) * nI (nj g) = nI (5 * (nj g)) from pk_mul 5 _]
        refine lv_iconst (v := 2) hx hb dL_law_632 (by decide) ?_
        refine lv_iadd hx hb dL_law_633 ?_
        rw [show (nI (5 * (nj g)) : Int32) + 2 = nI ((5 * (nj g)) + 2) from nI_add _ 2]
        refine lv_iload hx hb dL_law_634 (lv_at hl 1 rfl) ?_
        refine l_ast (j := (5 * (nj g)) + 2) S hE hS hW 6 rfl (vp_in_nI (show (5 * (nj g)) + 2 < 60 from (by omega)) (by decide)) (nI_clamp (by omega)) dL_law_636 (fun H locs hW hS => ?_)
        refine lv_aload hx hb dL_law_637 (lv_at hl 12 rfl) ?_
        refine lv_iconst (v := 5) hx hb dL_law_639 (by decide) ?_
        refine lv_iload hx hb dL_law_640 (lv_at hl 16 rfl) ?_
        refine lv_imul hx hb dL_law_642 ?_
        rw [show (5 : Int32) * nI (nj g) = nI (5 * (nj g)) from pk_mul 5 _]
        refine lv_iconst (v := 3) hx hb dL_law_643 (by decide) ?_
        refine lv_iadd hx hb dL_law_644 ?_
        rw [show (nI (5 * (nj g)) : Int32) + 3 = nI ((5 * (nj g)) + 3) from nI_add _ 3]
        refine lv_iload hx hb dL_law_645 (lv_at hl 2 rfl) ?_
        refine l_ast (j := (5 * (nj g)) + 3) S hE hS hW 6 rfl (vp_in_nI (show (5 * (nj g)) + 3 < 60 from (by omega)) (by decide)) (nI_clamp (by omega)) dL_law_647 (fun H locs hW hS => ?_)
        refine lv_iinc (v := nI ((nj g) + 1)) (lv' := [(13, .int (nI ((nj g) + 1))), (12, .int 1), (22, .int (nI nn)), (21, .int (nI 0)), (20, .int (nI 1)), (0, .ref (b)), (1, .ref (qx)), (2, .ref (qa 0)), (3, .ref (qa 1)), (4, .ref (qa 2)), (5, .ref (qa 3)), (6, .ref (qa 4)), (7, .ref (qa 5)), (8, .ref (qa 6)), (9, .ref (qa 7)), (10, .ref (qa 8)), (11, .ref (qa 9)), (14, .int (nI (mo g))), (15, .int (nI t)), (16, .int v), (17, .int (nI wh)), (18, .int (nI p9)), (19, .int (nI nn))]) hx hb dL_law_648 hl (k := 16) rfl (nI_1 _) (by decide) rfl (fun ls hl => ?_)
        refine lv_goto (tgt := 1264) hx hb dL_law_651 (by decide) ?_
        rw [show nj g + 1 = nj (jst (gup g 3 1 100) (nI 1) p9 ((p9 + 1) % 6) (nI nn) (nI 0)) from (jst_n.trans (nI_clamp (show nj g + 1 < 2 ^ 31 by omega))).symm] at hl
        refine W.widen (k := cells + 3) (n := slots + 300) (by omega) (by omega) ?_
        exact kk (jst (gup g 3 1 100) (nI 1) p9 ((p9 + 1) % 6) (nI nn) (nI 0)) _ _ _ _ (bd_j hB1 rfl (show nj g < 12 by omega) hjk (show (p9 + 1) % 6 < 6 by omega) (by omega)) (ar_j hB1 hA1 (show nj g < 12 by omega) hp9) (show mo g ≤ 5 * t + 5 by omega) hW hS (lv_sub hl [5, 6, 7, 8, 9, 10, 11, 12, 13, 14, 15, 16, 1, 0, 17, 18] rfl)
      · refine lv_iload hx hb dL_law_499 (lv_at hl 0 rfl) ?_
        refine lv_iconst (v := 2) hx hb dL_law_501 (by decide) ?_
        refine lv_icmp_ne (tgt := 521) hx hb dL_law_502 (by decide) (fun h9 => absurd h9 (by decide)) (fun _ => ?_)
        refine lv_iconst (v := 1) hx hb dL_law_505 (by decide) ?_
        refine lv_iload hx hb dL_law_506 (lv_at hl 17 rfl) ?_
        refine lv_sipush (v := 512) hx hb dL_law_508 (by decide) ?_
        refine lv_idiv hx hb dL_law_511 (by decide) ?_
        refine lv_bipush (v := nI 60) hx hb dL_law_512 (by decide) ?_
        refine g_callS (As := [.int ((v) / (512)), .int (nI 60)]) (rest := [.int 1]) S hE hS (c_L_up l z ((v) / (512)) (60) (by omega) (by omega)) (cwS 2 hts (gU_S tw_598 tw_599 tw_0 tw_600) rfl rfl rfl (by decide +kernel) ⟨Nat.le_of_ble_eq_true rfl, Nat.le_of_ble_eq_true rfl⟩) trivial rfl hl.1 rfl (Nat.le_of_ble_eq_true rfl) dL_law_514 ⟨Nat.le_trans (by omega) hf.1, Nat.le_trans (by omega) hf.2⟩ ?_
        refine lv_iadd hx hb dL_law_517 ?_
        rw [show (1 : Int32) + nI (upN ((v) / (512)) (60)) = nI (1 + (upN ((v) / (512)) (60))) from nI_add 1 _]
        obtain ⟨tg, htg, etg⟩ : ∃ y : Nat, (1 ≤ y ∧ y ≤ 60) ∧ 1 + (upN ((v) / (512)) (60)) = y := ⟨_, (by have := upN_lt (v / 512) (show 0 < 60 by decide); omega), rfl⟩
        rw [etg]
        refine lv_goto (tgt := 522) hx hb dL_law_518 (by decide) ?_
        refine lv_istore (lv' := [(21, .int (nI tg)), (20, .int (nI 2)), (0, .ref (b)), (1, .ref (qx)), (2, .ref (qa 0)), (3, .ref (qa 1)), (4, .ref (qa 2)), (5, .ref (qa 3)), (6, .ref (qa 4)), (7, .ref (qa 5)), (8, .ref (qa 6)), (9, .ref (qa 7)), (10, .ref (qa 8)), (11, .ref (qa 9)), (12, .int 1), (13, .int (nI (nj g))), (14, .int (nI (mo g))), (15, .int (nI t)), (16, .int v), (17, .int (nI wh)), (18, .int (nI p9)), (19, .int (nI nn))]) hx hb dL_law_522 hl (by decide) rfl (fun ls hl => ?_)
        refine lv_iload hx hb dL_law_524 (lv_at hl 1 rfl) ?_
        refine lv_if_ne (tgt := 534) hx hb dL_law_526 (by decide) (fun _ => ?_) (fun h9 => absurd h9 (by decide))
        refine lv_iload hx hb dL_law_534 (lv_at hl 1 rfl) ?_
        refine lv_iconst (v := 1) hx hb dL_law_536 (by decide) ?_
        refine lv_icmp_ne (tgt := 545) hx hb dL_law_537 (by decide) (fun _ => ?_) (fun h9 => absurd h9 (by decide))
        refine lv_iload hx hb dL_law_545 (lv_at hl 21 rfl) ?_
        refine lv_iload hx hb dL_law_547 (lv_at hl 18 rfl) ?_
        refine lv_sipush (v := 2048) hx hb dL_law_549 (by decide) ?_
        refine lv_idiv hx hb dL_law_552 (by decide) ?_
        refine lv_iconst (v := 2) hx hb dL_law_553 (by decide) ?_
        refine lv_iload hx hb dL_law_554 (lv_at hl 0 rfl) ?_
        refine lv_imul hx hb dL_law_556 ?_
        rw [show (2 : Int32) * nI tg = nI (2 * (tg)) from pk_mul 2 _]
        refine lv_iconst (v := 1) hx hb dL_law_557 (by decide) ?_
        refine lv_iadd hx hb dL_law_558 ?_
        rw [show (nI (2 * (tg)) : Int32) + 1 = nI ((2 * (tg)) + 1) from nI_add _ 1]
        refine g_callS (As := [.int ((v) / (2048)), .int (nI ((2 * (tg)) + 1))]) (rest := [.int (nI nn)]) S hE hS (c_L_up l z ((v) / (2048)) ((2 * (tg)) + 1) (by omega) (by omega)) (cwS 2 hts (gU_S tw_598 tw_599 tw_0 tw_600) rfl rfl rfl (by decide +kernel) ⟨Nat.le_of_ble_eq_true rfl, Nat.le_of_ble_eq_true rfl⟩) trivial rfl hl.1 rfl (Nat.le_of_ble_eq_true rfl) dL_law_559 ⟨Nat.le_trans (by omega) hf.1, Nat.le_trans (by omega) hf.2⟩ ?_
        refine g_iadd S dL_law_562 ?_
        obtain ⟨sz, hsz, esz⟩ : ∃ y : Nat, (nn ≤ y ∧ y ≤ nn + 2 * tg) ∧ nn + (upN ((v) / (2048)) ((2 * (tg)) + 1)) = y := ⟨_, (by have := upN_lt (v / 2048) (show 0 < 2 * tg + 1 by omega); omega), rfl⟩
        rw [esz]
        refine lv_istore (lv' := [(22, .int (nI sz)), (21, .int (nI tg)), (20, .int (nI 2)), (0, .ref (b)), (1, .ref (qx)), (2, .ref (qa 0)), (3, .ref (qa 1)), (4, .ref (qa 2)), (5, .ref (qa 3)), (6, .ref (qa 4)), (7, .ref (qa 5)), (8, .ref (qa 6)), (9, .ref (qa 7)), (10, .ref (qa 8)), (11, .ref (qa 9)), (12, .int 1), (13, .int (nI (nj g))), (14, .int (nI (mo g))), (15, .int (nI t)), (16, .int v), (17, .int (nI wh)), (18, .int (nI p9)), (19, .int (nI nn))]) hx hb dL_law_563 hl (by decide) rfl (fun ls hl => ?_)
        obtain ⟨a9, ha9, ea9⟩ := hB.ch
        refine lv_aload_n hx hb dL_law_565 rfl (lv_at hl 4 rfl) ?_
        refine lv_iconst (v := 1) hx hb dL_law_566 (by decide) ?_
        refine l_pcall (As := [.int 1]) (rest := []) (sp := sp_sharpen g (1)) (Ea := xI) (Eb := xI) (Ec := xI) S hE hS hW (by rw [t_sharp, ea9]) (fun w => c_X5_sharpen l z hst w (g) gm (fun _ => 0) hB.ok (1)) (cwV 1 hts (gU_V tw_485 tw_486 tw_487 tw_1 tw_488) rfl rfl rfl (by decide +kernel) ⟨Nat.le_of_ble_eq_true rfl, Nat.le_of_ble_eq_true rfl⟩) rfl hl.1 rfl (Nat.le_of_ble_eq_true rfl) dL_law_567 ⟨Nat.le_trans (by omega) hf.1, Nat.le_trans (by omega) hf.2⟩ (fun H locs hW hS => ?_)
        refine lv_bipush (v := 100) hx hb dL_law_570 (by decide) ?_
        rw [show (100 : Int32) = nI 100 from rfl]
        refine g_icmp_gt S (by omega) (by omega) (tgt := 603) dL_law_572 (by decide) (fun h9 => absurd h9 (by omega)) (fun c_572_6 => ?_)
        have hB1 := bd_s hB
        have hA1 : AR (gup g 3 1 100) gm := ar_s hA
        have hjk : jok (gup g 3 1 100) 2 p9 tg sz := ⟨by decide, hp9, by omega, by omega, fun _ => by omega, fun q => absurd rfl q, fun q => absurd q (by decide), fun _ => ⟨nn, by omega, enn, fun q => absurd q (by decide), fun _ => by omega⟩⟩
        refine lv_aload_n hx hb dL_law_575 rfl (lv_at hl 4 rfl) ?_
        refine lv_iload hx hb dL_law_576 (lv_at hl 2 rfl) ?_
        refine lv_iload hx hb dL_law_578 (lv_at hl 21 rfl) ?_
        refine lv_iload hx hb dL_law_580 (lv_at hl 21 rfl) ?_
        refine lv_iconst (v := 1) hx hb dL_law_582 (by decide) ?_
        refine lv_iadd hx hb dL_law_583 ?_
        rw [show (nI p9 : Int32) + 1 = nI (p9 + 1) from nI_add _ 1]
        refine lv_bipush (v := 6) hx hb dL_law_584 (by decide) ?_
        refine lv_irem hx hb dL_law_586 (by decide) ?_
        rw [show (nI (p9 + 1) : Int32) - nI (p9 + 1) / 6 * 6 = nI ((p9 + 1) % 6) from pk_rem (d := 6) (by omega) (by decide) (by decide)]
        refine lv_iload hx hb dL_law_587 (lv_at hl 0 rfl) ?_
        refine lv_iload hx hb dL_law_589 (lv_at hl 1 rfl) ?_
        refine l_pcall (As := [.int (nI 2), .int (nI p9), .int (nI ((p9 + 1) % 6)), .int (nI sz), .int (nI tg)]) (rest := []) (sp := sp_joint ((gup g 3 1 100)) (nI 2) (nI p9) (nI ((p9 + 1) % 6)) (nI sz) (nI tg)) (Ea := xI) (Eb := xA) (Ec := xS) S hE hS hW (t_joint hB1 rfl (show nj g < 12 by omega) hjk (show (p9 + 1) % 6 < 6 by omega) (by omega)) (fun w => c_X5_joint l z hst w ((gup g 3 1 100)) gm (fun _ => 0) hB1.ok (nI 2) (nI p9) (nI ((p9 + 1) % 6)) (nI sz) (nI tg)) (cwV 5 hts (gU_V tw_500 tw_501 tw_502 tw_1 tw_503) rfl rfl rfl (by decide +kernel) ⟨Nat.le_of_ble_eq_true rfl, Nat.le_of_ble_eq_true rfl⟩) rfl hl.1 rfl (Nat.le_of_ble_eq_true rfl) dL_law_591 ⟨Nat.le_trans (by omega) hf.1, Nat.le_trans (by omega) hf.2⟩ (fun H locs hW hS => ?_)
        refine lv_iload hx hb dL_law_594 (lv_at hl 16 rfl) ?_
        refine lv_icmp_ne (tgt := 603) hx hb dL_law_596 (by decide) (fun q9 => absurd (rfl) q9) (fun c_596_7 => ?_)
        refine lv_iconst (v := 1) hx hb dL_law_599 (by decide) ?_
        refine lv_goto (tgt := 604) hx hb dL_law_600 (by decide) ?_
        refine lv_istore (lv' := [(12, .int 1), (22, .int (nI sz)), (21, .int (nI tg)), (20, .int (nI 2)), (0, .ref (b)), (1, .ref (qx)), (2, .ref (qa 0)), (3, .ref (qa 1)), (4, .ref (qa 2)), (5, .ref (qa 3)), (6, .ref (qa 4)), (7, .ref (qa 5)), (8, .ref (qa 6)), (9, .ref (qa 7)), (10, .ref (qa 8)), (11, .ref (qa 9)), (13, .int (nI (nj g))), (14, .int (nI (mo g))), (15, .int (nI t)), (16, .int v), (17, .int (nI wh)), (18, .int (nI p9)), (19, .int (nI nn))]) hx hb dL_law_604 hl (by decide) rfl (fun ls hl => ?_)
        refine lv_aload hx hb dL_law_606 (lv_at hl 12 rfl) ?_
        refine lv_iconst (v := 5) hx hb dL_law_608 (by decide) ?_
        refine lv_iload hx hb dL_law_609 (lv_at hl 16 rfl) ?_
        refine lv_imul hx hb dL_law_611 ?_
        rw [show (5 : Int32) * nI (nj g) = nI (5 * (nj g)) from pk_mul 5 _]
        refine lv_iload hx hb dL_law_612 (lv_at hl 3 rfl) ?_
        refine l_ast (j := 5 * (nj g)) S hE hS hW 6 rfl (vp_in_nI (show 5 * (nj g) < 60 from (by omega)) (by decide)) (nI_clamp (by omega)) dL_law_614 (fun H locs hW hS => ?_)
        refine lv_aload hx hb dL_law_615 (lv_at hl 12 rfl) ?_
        refine lv_iconst (v := 5) hx hb dL_law_617 (by decide) ?_
        refine lv_iload hx hb dL_law_618 (lv_at hl 16 rfl) ?_
        refine lv_imul hx hb dL_law_620 ?_
        rw [show (5 : Int32) * nI (nj g) = nI (5 * (nj g)) from pk_mul 5 _]
        refine lv_iconst (v := 1) hx hb dL_law_621 (by decide) ?_
        refine lv_iadd hx hb dL_law_622 ?_
        rw [show (nI (5 * (nj g)) : Int32) + 1 = nI ((5 * (nj g)) + 1) from nI_add _ 1]
        refine lv_iload hx hb dL_law_623 (lv_at hl 21 rfl) ?_
        refine l_ast (j := (5 * (nj g)) + 1) S hE hS hW 6 rfl (vp_in_nI (show (5 * (nj g)) + 1 < 60 from (by omega)) (by decide)) (nI_clamp (by omega)) dL_law_625 (fun H locs hW hS => ?_)
        refine lv_aload hx hb dL_law_626 (lv_at hl 12 rfl) ?_
        refine lv_iconst (v := 5) hx hb dL_law_628 (by decide) ?_
        refine lv_iload hx hb dL_law_629 (lv_at hl 16 rfl) ?_
        refine lv_imul hx hb dL_law_631 ?_
        rw [show (5 : Int32) * nI (nj g) = nI (5 * (nj g)) from pk_mul 5 _]
        refine lv_iconst (v := 2) hx hb dL_law_632 (by decide) ?_
        refine lv_iadd hx hb dL_law_633 ?_
        rw [show (nI (5 * (nj g)) : Int32) + 2 = nI ((5 * (nj g)) + 2) from nI_add _ 2]
        refine lv_iload hx hb dL_law_634 (lv_at hl 1 rfl) ?_
        refine l_ast (j := (5 * (nj g)) + 2) S hE hS hW 6 rfl (vp_in_nI (show (5 * (nj g)) + 2 < 60 from (by omega)) (by decide)) (nI_clamp (by omega)) dL_law_636 (fun H locs hW hS => ?_)
        refine lv_aload hx hb dL_law_637 (lv_at hl 12 rfl) ?_
        refine lv_iconst (v := 5) hx hb dL_law_639 (by decide) ?_
        refine lv_iload hx hb dL_law_640 (lv_at hl 16 rfl) ?_
        refine lv_imul hx hb dL_law_642 ?_
        rw [show (5 : Int32) * nI (nj g) = nI (5 * (nj g)) from pk_mul 5 _]
        refine lv_iconst (v := 3) hx hb dL_law_643 (by decide) ?_
        refine lv_iadd hx hb dL_law_644 ?_
        rw [show (nI (5 * (nj g)) : Int32) + 3 = nI ((5 * (nj g)) + 3) from nI_add _ 3]
        refine lv_iload hx hb dL_law_645 (lv_at hl 2 rfl) ?_
        refine l_ast (j := (5 * (nj g)) + 3) S hE hS hW 6 rfl (vp_in_nI (show (5 * (nj g)) + 3 < 60 from (by omega)) (by decide)) (nI_clamp (by omega)) dL_law_647 (fun H locs hW hS => ?_)
        refine lv_iinc (v := nI ((nj g) + 1)) (lv' := [(13, .int (nI ((nj g) + 1))), (12, .int 1), (22, .int (nI sz)), (21, .int (nI tg)), (20, .int (nI 2)), (0, .ref (b)), (1, .ref (qx)), (2, .ref (qa 0)), (3, .ref (qa 1)), (4, .ref (qa 2)), (5, .ref (qa 3)), (6, .ref (qa 4)), (7, .ref (qa 5)), (8, .ref (qa 6)), (9, .ref (qa 7)), (10, .ref (qa 8)), (11, .ref (qa 9)), (14, .int (nI (mo g))), (15, .int (nI t)), (16, .int v), (17, .int (nI wh)), (18, .int (nI p9)), (19, .int (nI nn))]) hx hb dL_law_648 hl (k := 16) rfl (nI_1 _) (by decide) rfl (fun ls hl => ?_)
        refine lv_goto (tgt := 1264) hx hb dL_law_651 (by decide) ?_
        rw [show nj g + 1 = nj (jst (gup g 3 1 100) (nI 2) p9 ((p9 + 1) % 6) (nI sz) (nI tg)) from (jst_n.trans (nI_clamp (show nj g + 1 < 2 ^ 31 by omega))).symm] at hl
        refine W.widen (k := cells + 3) (n := slots + 300) (by omega) (by omega) ?_
        exact kk (jst (gup g 3 1 100) (nI 2) p9 ((p9 + 1) % 6) (nI sz) (nI tg)) _ _ _ _ (bd_j hB1 rfl (show nj g < 12 by omega) hjk (show (p9 + 1) % 6 < 6 by omega) (by omega)) (ar_j hB1 hA1 (show nj g < 12 by omega) hp9) (show mo g ≤ 5 * t + 5 by omega) hW hS (lv_sub hl [5, 6, 7, 8, 9, 10, 11, 12, 13, 14, 15, 16, 1, 0, 17, 18] rfl)
end LTU
