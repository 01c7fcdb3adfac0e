/-! ===== the law: what a turn does: weather, coat, and the others ===== -/
section LTU
variable {p : Program} {e : Env} {s : State} {m : MethodId} {args : Array Value} {below : List Frame} {meth : Method} {c : Code} {H : Heap} {locs : List Loc} {cells slots : Nat} {Q : State → Prop} {ls : Array Slot} {z : ZE} {b L qx : Nat} {qa : Nat → Nat} {xs : Nat → Int32} {g gm G : GS}
set_option maxHeartbeats 4000000 in
set_option maxRecDepth 100000 in
/-- the turn: weather, coat, and the others -/
theorem law_299 (l : Launch) (hst : l.stackTraces = false) (S : CallFix p m c cL_law 26 s args wU RL) (hE : EV z s s.heap) (hX : va_X b L xs s s.heap) (hbl : b < s.heap.size) (hbA : ¬ zA z b) (hbz : b < zB z) (hL : L ≤ 260) (hB : BD g) (hA : AR g gm) (t : Nat) (ht : t < 40) (hmo : mo g ≤ 5 * t) (hW : LI z qx qa (g) gm H) (hS : va_S (zA z) s.heap H locs) (hl : lv_has ls 26 [(0, .ref (b)), (1, .ref (qx)), (2, .ref (qa 0)), (3, .ref (qa 1)), (4, .ref (qa 2)), (5, .ref (qa 3)), (6, .ref (qa 4)), (7, .ref (qa 5)), (8, .ref (qa 6)), (9, .ref (qa 7)), (10, .ref (qa 8)), (11, .ref (qa 9)), (12, .int 1), (13, .int (nI (nj g))), (14, .int (nI (mo g))), (15, .int (nI t))]) (hf : cells + 3 ≤ room_1.cells ∧ slots + 300 ≤ room_1.slots)
    (kk : ∀ (g gm : GS) (H : Heap) (locs : List Loc) (ls : Array Slot), BD g → AR g gm → mo g ≤ 5 * t + 5 → LI z qx qa g gm H → va_S (zA z) s.heap H locs → lv_has ls 26 [(0, .ref (b)), (1, .ref (qx)), (2, .ref (qa 0)), (3, .ref (qa 1)), (4, .ref (qa 2)), (5, .ref (qa 3)), (6, .ref (qa 4)), (7, .ref (qa 5)), (8, .ref (qa 6)), (9, .ref (qa 7)), (10, .ref (qa 8)), (11, .ref (qa 9)), (12, .int 1), (13, .int (nI (nj g))), (14, .int (nI (mo g))), (15, .int (nI t))] → W p l e room_1 s m args below meth c H locs (cells + 3) (slots + 300) Q (F0 m 1264 ls [])) : W p l e room_1 s m args below meth c H locs (cells) (slots) Q (F0 m 299 ls []) := by
  have hx := S.1
  have hb := S.2.1
  have hown := S.2.2.2.1
  have hts := S.2.2.2.2
  have hml := S.2.2.1
  have hnj := hB.lj
  refine lv_aload_n hx hb dL_law_299 rfl (lv_at hl 0 rfl) ?_
  refine lv_iload hx hb dL_law_300 (lv_at hl 15 rfl) ?_
  refine l_cell (rest := []) S hE hS hX hbl hbA (c_L_cell l z b L (t) xs hL (by omega) hbz) (cwS 2 hts (gU_S tw_601 tw_602 tw_0 tw_603) rfl rfl rfl (by decide +kernel) ⟨Nat.le_of_ble_eq_true rfl, Nat.le_of_ble_eq_true rfl⟩) rfl hl.1 rfl (Nat.le_of_ble_eq_true rfl) dL_law_302 ⟨Nat.le_trans (by omega) hf.1, Nat.le_trans (by omega) hf.2⟩ ?_
  refine lv_topi (fun v ev => ?_)
  refine lv_istore (lv' := [(16, .int v), (0, .ref (b)), (1, .ref (qx)), (2, .ref (qa 0)), (3, .ref (qa 1)), (4, .ref (qa 2)), (5, .ref (qa 3)), (6, .ref (qa 4)), (7, .ref (qa 5)), (8, .ref (qa 6)), (9, .ref (qa 7)), (10, .ref (qa 8)), (11, .ref (qa 9)), (12, .int 1), (13, .int (nI (nj g))), (14, .int (nI (mo g))), (15, .int (nI t))]) hx hb dL_law_305 hl (by decide) rfl (fun ls hl => ?_)
  refine lv_iload hx hb dL_law_307 (lv_at hl 0 rfl) ?_
  refine lv_bipush (v := nI 9) hx hb dL_law_309 (by decide) ?_
  refine g_callS (As := [.int v, .int (nI 9)]) (rest := []) S hE hS (c_L_up l z (v) (9) (by omega) (by omega)) (cwS 2 hts (gU_S tw_598 tw_599 tw_0 tw_600) rfl rfl rfl (by decide +kernel) ⟨Nat.le_of_ble_eq_true rfl, Nat.le_of_ble_eq_true rfl⟩) trivial rfl hl.1 rfl (Nat.le_of_ble_eq_true rfl) dL_law_311 ⟨Nat.le_trans (by omega) hf.1, Nat.le_trans (by omega) hf.2⟩ ?_
  obtain ⟨wh, hwh, ewh⟩ : ∃ y : Nat, (y < 9) ∧ upN (v) (9) = y := ⟨_, (upN_lt _ (by decide)), rfl⟩
  rw [ewh]
  refine lv_istore (lv' := [(17, .int (nI wh)), (16, .int v), (0, .ref (b)), (1, .ref (qx)), (2, .ref (qa 0)), (3, .ref (qa 1)), (4, .ref (qa 2)), (5, .ref (qa 3)), (6, .ref (qa 4)), (7, .ref (qa 5)), (8, .ref (qa 6)), (9, .ref (qa 7)), (10, .ref (qa 8)), (11, .ref (qa 9)), (12, .int 1), (13, .int (nI (nj g))), (14, .int (nI (mo g))), (15, .int (nI t))]) hx hb dL_law_314 hl (by decide) rfl (fun ls hl => ?_)
  refine lv_iload hx hb dL_law_316 (lv_at hl 1 rfl) ?_
  refine lv_bipush (v := 16) hx hb dL_law_318 (by decide) ?_
  refine lv_idiv hx hb dL_law_320 (by decide) ?_
  refine lv_bipush (v := nI 6) hx hb dL_law_321 (by decide) ?_
  refine g_callS (As := [.int ((v) / (16)), .int (nI 6)]) (rest := []) S hE hS (c_L_up l z ((v) / (16)) (6) (by omega) (by omega)) (cwS 2 hts (gU_S tw_598 tw_599 tw_0 tw_600) rfl rfl rfl (by decide +kernel) ⟨Nat.le_of_ble_eq_true rfl, Nat.le_of_ble_eq_true rfl⟩) trivial rfl hl.1 rfl (Nat.le_of_ble_eq_true rfl) dL_law_323 ⟨Nat.le_trans (by omega) hf.1, Nat.le_trans (by omega) hf.2⟩ ?_
  obtain ⟨p9, hp9, ep9⟩ : ∃ y : Nat, (y < 6) ∧ upN ((v) / (16)) (6) = y := ⟨_, (upN_lt _ (by decide)), rfl⟩
  rw [ep9]
  refine lv_istore (lv' := [(18, .int (nI p9)), (17, .int (nI wh)), (16, .int v), (0, .ref (b)), (1, .ref (qx)), (2, .ref (qa 0)), (3, .ref (qa 1)), (4, .ref (qa 2)), (5, .ref (qa 3)), (6, .ref (qa 4)), (7, .ref (qa 5)), (8, .ref (qa 6)), (9, .ref (qa 7)), (10, .ref (qa 8)), (11, .ref (qa 9)), (12, .int 1), (13, .int (nI (nj g))), (14, .int (nI (mo g))), (15, .int (nI t))]) hx hb dL_law_326 hl (by decide) rfl (fun ls hl => ?_)
  obtain ⟨nn, hnn, enn⟩ := hB.wa hp9 (hB.pd hp9)
  refine lv_aload hx hb dL_law_328 (lv_at hl 8 rfl) ?_
  refine lv_iload hx hb dL_law_330 (lv_at hl 0 rfl) ?_
  refine l_ald (v := g 20 (p9)) (j := p9) S hE hW 3 rfl (vp_in_nI (show p9 < 6 from (by omega)) (by decide)) (nI_clamp (by omega)) (hA.a3 (by omega)) dL_law_332 ?_
  refine lv_aload hx hb dL_law_333 (lv_at hl 8 rfl) ?_
  refine lv_iload hx hb dL_law_335 (lv_at hl 0 rfl) ?_
  refine l_ald (v := g 20 (p9)) (j := p9) S hE hW 3 rfl (vp_in_nI (show p9 < 6 from (by omega)) (by decide)) (nI_clamp (by omega)) (hA.a3 (by omega)) dL_law_337 ?_
  refine lv_iload hx hb dL_law_338 (lv_at hl 0 rfl) ?_
  refine lv_iconst (v := 3) hx hb dL_law_340 (by decide) ?_
  refine lv_irem hx hb dL_law_341 (by decide) ?_
  rw [show (nI p9 : Int32) - nI p9 / 3 * 3 = nI ((p9) % 3) from pk_rem (d := 3) (by omega) (by decide) (by decide)]
  refine lv_aload hx hb dL_law_342 (lv_at hl 9 rfl) ?_
  refine lv_iload hx hb dL_law_344 (lv_at hl 0 rfl) ?_
  refine l_ald (v := g 22 (p9)) (j := p9) S hE hW 4 rfl (vp_in_nI (show p9 < 6 from (by omega)) (by decide)) (nI_clamp (by omega)) (hA.a4 (by omega)) dL_law_346 ?_
  refine lv_aload hx hb dL_law_347 (lv_at hl 7 rfl) ?_
  refine lv_iload hx hb dL_law_349 (lv_at hl 0 rfl) ?_
  refine l_ald (v := g 21 (p9)) (j := p9) S hE hW 2 rfl (vp_in_nI (show p9 < 6 from (by omega)) (by decide)) (nI_clamp (by omega)) (hA.a2 (by omega)) dL_law_351 ?_
  refine lv_isub hx hb dL_law_352 ?_
  refine g_callS (As := [.int (g 20 (p9)), .int (nI ((p9) % 3)), .int ((g 22 (p9)) - (g 21 (p9)))]) (rest := [.int (g 20 (p9))]) S hE hS (c_L_moved l z (g 20 (p9)) (nI ((p9) % 3)) ((g 22 (p9)) - (g 21 (p9)))) (cwS 3 hts (gU_S tw_650 tw_651 tw_0 tw_652) rfl rfl rfl (by decide +kernel) ⟨Nat.le_of_ble_eq_true rfl, Nat.le_of_ble_eq_true rfl⟩) trivial rfl hl.1 rfl (Nat.le_of_ble_eq_true rfl) dL_law_353 ⟨Nat.le_trans (by omega) hf.1, Nat.le_trans (by omega) hf.2⟩ ?_
  refine lv_iadd hx hb dL_law_356 ?_
  refine lv_topi (fun y_1 ey_1 => ?_)
  obtain rfl : y_1 = nI nn := ey_1.trans ((hB.now hp9 _).trans enn)
  refine lv_istore (lv' := [(19, .int (nI nn)), (18, .int (nI p9)), (17, .int (nI wh)), (16, .int v), (0, .ref (b)), (1, .ref (qx)), (2, .ref (qa 0)), (3, .ref (qa 1)), (4, .ref (qa 2)), (5, .ref (qa 3)), (6, .ref (qa 4)), (7, .ref (qa 5)), (8, .ref (qa 6)), (9, .ref (qa 7)), (10, .ref (qa 8)), (11, .ref (qa 9)), (12, .int 1), (13, .int (nI (nj g))), (14, .int (nI (mo g))), (15, .int (nI t))]) hx hb dL_law_357 hl (by decide) rfl (fun ls hl => ?_)
  refine lv_iload hx hb dL_law_359 (lv_at hl 2 rfl) ?_
  refine lv_if_ne (tgt := 425) hx hb dL_law_361 (by decide) (fun c_361_1 => ?_) (fun c_361_1 => ?_)
  · refine lv_iload hx hb dL_law_425 (lv_at hl 2 rfl) ?_
    refine lv_iconst (v := 1) hx hb dL_law_427 (by decide) ?_
    rw [show (1 : Int32) = nI 1 from rfl]
    refine g_icmp_ne S (by omega) (by omega) (tgt := 474) dL_law_428 (by decide) (fun c_428_2 => ?_) (fun c_428_2 => ?_)
    · exact law_474 l hst S hE hB hA t ht hmo v wh p9 hwh hp9 nn hnn enn hW hS (lv_sub hl [4, 5, 6, 7, 8, 9, 10, 11, 12, 13, 14, 15, 16, 17, 18, 19, 3, 2, 1, 0] rfl) hf kk
    · obtain ⟨co, hco, eco⟩ := hB.co hp9
      refine lv_aload hx hb dL_law_431 (lv_at hl 11 rfl) ?_
      refine lv_iload hx hb dL_law_433 (lv_at hl 1 rfl) ?_
      refine l_ald (v := nI co) (j := p9) S hE hW 5 rfl (vp_in_nI (show p9 < 6 from (by omega)) (by decide)) (nI_clamp (by omega)) ((hA.a5 (by omega)).trans eco) dL_law_435 ?_
      refine lv_bipush (v := 6) hx hb dL_law_436 (by decide) ?_
      rw [show (6 : Int32) = nI 6 from rfl]
      refine g_icmp_ge S (by omega) (by omega) (tgt := 474) dL_law_438 (by decide) (fun c_438_3 => ?_) (fun c_438_3 => ?_)
      · exact law_474 l hst S hE hB hA t ht hmo v wh p9 hwh hp9 nn hnn enn hW hS (lv_sub hl [4, 5, 6, 7, 8, 9, 10, 11, 12, 13, 14, 15, 16, 17, 18, 19, 3, 2, 1, 0] rfl) hf kk
      · refine lv_aload hx hb dL_law_441 (lv_at hl 11 rfl) ?_
        refine lv_iload hx hb dL_law_443 (lv_at hl 1 rfl) ?_
        refine lv_dup2_11 hx hb dL_law_445 rfl rfl ?_
        refine l_ald (v := nI co) (j := p9) S hE hW 5 rfl (vp_in_nI (show p9 < 6 from (by omega)) (by decide)) (nI_clamp (by omega)) ((hA.a5 (by omega)).trans eco) dL_law_446 ?_
        refine lv_iconst (v := 1) hx hb dL_law_447 (by decide) ?_
        refine lv_iadd hx hb dL_law_448 ?_
        rw [show (nI co : Int32) + 1 = nI (co + 1) from nI_add _ 1]
        refine l_ast (j := p9) S hE hS hW 5 rfl (vp_in_nI (show p9 < 6 from (by omega)) (by decide)) (nI_clamp (by omega)) dL_law_449 (fun H locs hW hS => ?_)
        refine lv_aload_n hx hb dL_law_450 rfl (lv_at hl 5 rfl) ?_
        refine lv_iload hx hb dL_law_451 (lv_at hl 1 rfl) ?_
        refine l_pcall (As := [.int (nI p9)]) (rest := []) (sp := sp_coat g (nI p9)) (Ea := xI) (Eb := xS) (Ec := xI) S hE hS hW (t_coat hB hp9 eco (by omega)) (fun w => c_X5_coat l z hst w (g) (gup gm 5 (p9) (nI (co + 1))) (fun _ => 0) hB.ok (nI p9)) (cwV 1 hts (gU_V tw_490 tw_491 tw_492 tw_1 tw_493) rfl rfl rfl (by decide +kernel) ⟨Nat.le_of_ble_eq_true rfl, Nat.le_of_ble_eq_true rfl⟩) rfl hl.1 rfl (Nat.le_of_ble_eq_true rfl) dL_law_453 ⟨Nat.le_trans (by omega) hf.1, Nat.le_trans (by omega) hf.2⟩ (fun H locs hW hS => ?_)
        refine lv_aload hx hb dL_law_456 (lv_at hl 11 rfl) ?_
        refine lv_iload hx hb dL_law_458 (lv_at hl 1 rfl) ?_
        refine l_ald (v := nI (co + 1)) (j := p9) S hE hW 5 rfl (vp_in_nI (show p9 < 6 from (by omega)) (by decide)) (nI_clamp (by omega)) gup_s dL_law_460 ?_
        refine lv_icmp_ne (tgt := 468) hx hb dL_law_461 (by decide) (fun q9 => absurd (rfl) q9) (fun c_461_4 => ?_)
        refine lv_iconst (v := 1) hx hb dL_law_464 (by decide) ?_
        refine lv_goto (tgt := 469) hx hb dL_law_465 (by decide) ?_
        refine lv_istore (lv' := [(12, .int 1), (19, .int (nI nn)), (18, .int (nI p9)), (17, .int (nI wh)), (16, .int v), (0, .ref (b)), (1, .ref (qx)), (2, .ref (qa 0)), (3, .ref (qa 1)), (4, .ref (qa 2)), (5, .ref (qa 3)), (6, .ref (qa 4)), (7, .ref (qa 5)), (8, .ref (qa 6)), (9, .ref (qa 7)), (10, .ref (qa 8)), (11, .ref (qa 9)), (13, .int (nI (nj g))), (14, .int (nI (mo g))), (15, .int (nI t))]) hx hb dL_law_469 hl (by decide) rfl (fun ls hl => ?_)
        refine lv_goto (tgt := 1264) hx hb dL_law_471 (by decide) ?_
        refine W.widen (k := cells + 3) (n := slots + 300) (by omega) (by omega) ?_
        exact kk (gup g 23 p9 (nI (co + 1))) _ _ _ _ (bd_c hB hp9 eco (by omega)) (ar_c hA) (show mo g ≤ 5 * t + 5 by omega) hW hS (lv_sub hl [5, 6, 7, 8, 9, 10, 11, 12, 13, 14, 15, 16, 0, 17, 18, 19] rfl)
  · refine lv_iload hx hb dL_law_364 (lv_at hl 3 rfl) ?_
    refine lv_sipush (v := 128) hx hb dL_law_366 (by decide) ?_
    refine lv_idiv hx hb dL_law_369 (by decide) ?_
    refine lv_bipush (v := nI 12) hx hb dL_law_370 (by decide) ?_
    refine g_callS (As := [.int ((v) / (128)), .int (nI 12)]) (rest := []) S hE hS (c_L_up l z ((v) / (128)) (12) (by omega) (by omega)) (cwS 2 hts (gU_S tw_598 tw_599 tw_0 tw_600) rfl rfl rfl (by decide +kernel) ⟨Nat.le_of_ble_eq_true rfl, Nat.le_of_ble_eq_true rfl⟩) trivial rfl hl.1 rfl (Nat.le_of_ble_eq_true rfl) dL_law_372 ⟨Nat.le_trans (by omega) hf.1, Nat.le_trans (by omega) hf.2⟩ ?_
    obtain ⟨at9, hat9, eat9⟩ : ∃ y : Nat, (y < 12) ∧ upN ((v) / (128)) (12) = y := ⟨_, (upN_lt _ (by decide)), rfl⟩
    rw [eat9]
    refine lv_istore (lv' := [(20, .int (nI at9)), (19, .int (nI nn)), (18, .int (nI p9)), (17, .int (nI wh)), (16, .int v), (0, .ref (b)), (1, .ref (qx)), (2, .ref (qa 0)), (3, .ref (qa 1)), (4, .ref (qa 2)), (5, .ref (qa 3)), (6, .ref (qa 4)), (7, .ref (qa 5)), (8, .ref (qa 6)), (9, .ref (qa 7)), (10, .ref (qa 8)), (11, .ref (qa 9)), (12, .int 1), (13, .int (nI (nj g))), (14, .int (nI (mo g))), (15, .int (nI t))]) hx hb dL_law_375 hl (by decide) rfl (fun ls hl => ?_)
    refine lv_bipush (v := 40) hx hb dL_law_377 (by decide) ?_
    refine lv_iload hx hb dL_law_379 (lv_at hl 4 rfl) ?_
    refine lv_sipush (v := 2048) hx hb dL_law_381 (by decide) ?_
    refine lv_idiv hx hb dL_law_384 (by decide) ?_
    refine lv_sipush (v := nI 261) hx hb dL_law_385 (by decide) ?_
    refine g_callS (As := [.int ((v) / (2048)), .int (nI 261)]) (rest := [.int 40]) S hE hS (c_L_up l z ((v) / (2048)) (261) (by omega) (by omega)) (cwS 2 hts (gU_S tw_598 tw_599 tw_0 tw_600) rfl rfl rfl (by decide +kernel) ⟨Nat.le_of_ble_eq_true rfl, Nat.le_of_ble_eq_true rfl⟩) trivial rfl hl.1 rfl (Nat.le_of_ble_eq_true rfl) dL_law_388 ⟨Nat.le_trans (by omega) hf.1, Nat.le_trans (by omega) hf.2⟩ ?_
    refine lv_iadd hx hb dL_law_391 ?_
    rw [show (40 : Int32) + nI (upN ((v) / (2048)) (261)) = nI (40 + (upN ((v) / (2048)) (261))) from nI_add 40 _]
    obtain ⟨mo9, hmo9, emo9⟩ : ∃ y : Nat, (40 ≤ y ∧ y ≤ 300) ∧ 40 + (upN ((v) / (2048)) (261)) = y := ⟨_, (by have := upN_lt (v / 2048) (show 0 < 261 by decide); omega), rfl⟩
    rw [emo9]
    refine lv_istore (lv' := [(21, .int (nI mo9)), (20, .int (nI at9)), (19, .int (nI nn)), (18, .int (nI p9)), (17, .int (nI wh)), (16, .int v), (0, .ref (b)), (1, .ref (qx)), (2, .ref (qa 0)), (3, .ref (qa 1)), (4, .ref (qa 2)), (5, .ref (qa 3)), (6, .ref (qa 4)), (7, .ref (qa 5)), (8, .ref (qa 6)), (9, .ref (qa 7)), (10, .ref (qa 8)), (11, .ref (qa 9)), (12, .int 1), (13, .int (nI (nj g))), (14, .int (nI (mo g))), (15, .int (nI t))]) hx hb dL_law_392 hl (by decide) rfl (fun ls hl => ?_)
    refine lv_aload_n hx hb dL_law_394 rfl (lv_at hl 7 rfl) ?_
    refine lv_iload hx hb dL_law_395 (lv_at hl 1 rfl) ?_
    refine lv_iload hx hb dL_law_397 (lv_at hl 0 rfl) ?_
    refine l_pcall (As := [.int (nI at9), .int (nI mo9)]) (rest := []) (sp := sp_weather g (nI at9) (nI mo9)) (Ea := xI) (Eb := xA) (Ec := xI) S hE hS hW (t_weather hat9 ⟨mo9, hmo9, rfl⟩) (fun w => c_X5_weather l z hst w (g) gm (fun _ => 0) hB.ok (nI at9) (nI mo9)) (cwV 2 hts (gU_V tw_86 tw_87 tw_88 tw_1 tw_89) rfl rfl rfl (by decide +kernel) ⟨Nat.le_of_ble_eq_true rfl, Nat.le_of_ble_eq_true rfl⟩) rfl hl.1 rfl (Nat.le_of_ble_eq_true rfl) dL_law_399 ⟨Nat.le_trans (by omega) hf.1, Nat.le_trans (by omega) hf.2⟩ (fun H locs hW hS => ?_)
    refine lv_aload_n hx hb dL_law_402 rfl (lv_at hl 8 rfl) ?_
    refine lv_iload hx hb dL_law_403 (lv_at hl 1 rfl) ?_
    refine l_ald (v := g 2 (at9)) (j := at9) S hE hW 0 rfl (vp_in_nI (show at9 < 12 from (by omega)) (by decide)) (nI_clamp (by omega)) (hA.a0 (by omega)) dL_law_405 ?_
    refine lv_icmp_ne (tgt := 413) hx hb dL_law_406 (by decide) (fun q9 => absurd (rfl) q9) (fun c_406_5 => ?_)
    refine lv_iconst (v := 1) hx hb dL_law_409 (by decide) ?_
    refine lv_goto (tgt := 414) hx hb dL_law_410 (by decide) ?_
    refine lv_istore (lv' := [(12, .int 1), (21, .int (nI mo9)), (20, .int (nI at9)), (19, .int (nI nn)), (18, .int (nI p9)), (17, .int (nI wh)), (16, .int v), (0, .ref (b)), (1, .ref (qx)), (2, .ref (qa 0)), (3, .ref (qa 1)), (4, .ref (qa 2)), (5, .ref (qa 3)), (6, .ref (qa 4)), (7, .ref (qa 5)), (8, .ref (qa 6)), (9, .ref (qa 7)), (10, .ref (qa 8)), (11, .ref (qa 9)), (13, .int (nI (nj g))), (14, .int (nI (mo g))), (15, .int (nI t))]) hx hb dL_law_414 hl (by decide) rfl (fun ls hl => ?_)
    refine lv_aload_n hx hb dL_law_416 rfl (lv_at hl 9 rfl) ?_
    refine lv_iload hx hb dL_law_417 (lv_at hl 2 rfl) ?_
    refine lv_iload hx hb dL_law_419 (lv_at hl 1 rfl) ?_
    refine l_ast (j := at9) S hE hS hW 0 rfl (vp_in_nI (show at9 < 12 from (by omega)) (by decide)) (nI_clamp (by omega)) dL_law_421 (fun H locs hW hS => ?_)
    refine lv_goto (tgt := 1264) hx hb dL_law_422 (by decide) ?_
    refine W.widen (k := cells + 3) (n := slots + 300) (by omega) (by omega) ?_
    exact kk (gup g 2 at9 (nI mo9)) _ _ _ _ (bd_w hB hat9 ⟨mo9, hmo9, rfl⟩) (ar_w hA) (show mo g ≤ 5 * t + 5 by omega) hW hS (lv_sub hl [7, 8, 9, 10, 11, 12, 13, 14, 15, 16, 17, 18, 0, 19, 20, 21] rfl)
end LTU
