/-! ===== the law: its loop, its start ===== -/
theorem lo_end {L n : Nat} (hL : L ≤ 3584) (hn : 7 * n ≤ L) (h : ¬ nI L - nI 7 < nI (7 * n)) : 7 * n + 7 ≤ L := by
  rw [Int32.lt_iff_toInt_lt, pk_sub_toInt (by omega) (by omega), nI_toInt (by omega)] at h
  omega
set_option maxHeartbeats 4000000 in
set_option maxRecDepth 100000 in
theorem law_loop {p : Program} {e : Env} {s : State} {m : MethodId} {below : List Frame} {meth : Method} {c : Code} (l : Launch) (hst : l.stackTraces = false) {b L : Nat} {xs : Nat → Int32} (hL : L ≤ 3584) (C0 : lw_At p s m meth c b L xs) {z : ZE} {qx qm qo : Nat} (hz : zB z = s.heap.size) (hE : EV z s s.heap) : ∀ (k9 n : Nat), 7 * n ≤ L → L - 7 * n < k9 → ∀ (H : Heap) (locs : List Loc) (ls : Array Slot), LI z qx qm qo H → va_S (zA z) s.heap H locs → lv_has ls 7 [(0, .ref b), (1, .ref qx), (2, .ref qm), (3, .ref qo), (4, .int (nI (7 * n)))] → W p l e room_1 s m #[Value.ref b] below meth c H locs (37 + 4 * n) (1020 + 211 * n) (lw_Z below #[Value.ref b] s) (F0 m 23 ls []) := by
  obtain ⟨hx, hb, hr, hml, hown, hts0, hX, hbl, hlocks, hgv⟩ := id C0
  have hts : ∀ w ∈ wU, w.before #[Value.ref b] s = true := fun w h => hts0 w (wU_tbl w h)
  have S : CallFix p m c cL_law 7 s #[Value.ref b] wU RL := ⟨hx, hb, hml, hown, hts⟩
  have hbA : ¬ zA z b := fun q => by have q2 : zB z ≤ b := q; omega
  intro k9
  induction k9 with
  | zero => intro n _ h9; exact absurd h9 (Nat.not_lt_zero _)
  | succ k9 ih =>
    intro n hn hk9 H locs ls hI hS hl
    have kk : ∀ (H1 : Heap) (locs1 : List Loc) (ls : Array Slot), 7 * n + 7 ≤ L → LI z qx qm qo H1 → va_S (zA z) s.heap H1 locs1 → lv_has ls 7 [(0, .ref b), (1, .ref qx), (2, .ref qm), (3, .ref qo), (4, .int (nI (7 * n)))] → W p l e room_1 s m #[Value.ref b] below meth c H1 locs1 (37 + 4 * n + 4) (1020 + 211 * n + 211) (lw_Z below #[Value.ref b] s) (F0 m 1507 ls []) := by
      intro H1 locs1 ls hn7 hI hS hl
      refine lv_iinc (v := nI (7 * (n + 1))) (lv' := [(4, .int (nI (7 * (n + 1)))), (0, .ref b), (1, .ref qx), (2, .ref qm), (3, .ref qo)]) hx hb dL_law_1507 hl (k := 4) rfl (by show nI (7 * n) + nI 7 = nI (7 * (n + 1)); rw [nI_add]; rfl) (by decide) rfl (fun ls hl => ?_)
      refine lv_goto (tgt := 23) hx hb dL_law_1510 (by decide) ?_
      refine W.widen (k := 37 + 4 * (n + 1)) (n := 1020 + 211 * (n + 1)) (by omega) (by omega) ?_
      exact ih (n + 1) (by omega) (by omega) H1 locs1 ls hI hS (lv_sub hl [1, 2, 3, 4, 0] rfl)
    refine lv_iload hx hb dL_law_23 (lv_at hl 4 rfl) ?_
    refine lv_aload_n hx hb dL_law_25 rfl (lv_at hl 0 rfl) ?_
    refine va_slen hx hb hX hbl hbA hS dL_law_26 ?_
    rw [show Int32.ofNat L = nI L from rfl]
    refine lv_bipush (v := nI 7) hx hb dL_law_27 (by decide) ?_
    refine lv_isub hx hb dL_law_29 ?_
    refine lv_icmp_gt (tgt := 1513) hx hb dL_law_30 (by decide) (fun _ => ?_) (fun c30 => ?_)
    · refine lv_iconst (v := 1) hx hb dL_law_1513 (by decide) ?_
      refine va_forget (fun q hq => by have q2 : zB z ≤ q.base := hS.2.2 q hq; omega) ?_
      refine W.widen (k := 601024) (n := 7293034) (by omega) (by omega) ?_
      exact lw_ret hx hb hr hlocks dL_law_1514
    · have hn7 := lo_end hL hn c30
      have hf : 37 + 4 * n + 4 ≤ room_1.cells ∧ 1020 + 211 * n + 211 ≤ room_1.slots := ⟨by show 37 + 4 * n + 4 ≤ 601024; omega, by show 1020 + 211 * n + 211 ≤ 7293034; omega⟩
      refine lv_aload_n hx hb dL_law_33 rfl (lv_at hl 0 rfl) ?_
      refine lv_iload hx hb dL_law_34 (lv_at hl 4 rfl) ?_
      refine va_sld hx hb hX hbl hbA hS (vp_in_nI (show 7 * n < L by omega) (by omega)) dL_law_36 ?_
      refine lv_bipush (v := 31) hx hb dL_law_37 (by decide) ?_
      refine lv_iand hx hb dL_law_39 ?_
      obtain ⟨j, hj, ej⟩ := and31 (xs (nI (7 * n)).toNatClampNeg)
      rw [ej]
      by_cases h20 : j < 20
      · rcases (show j = 0 ∨ j = 1 ∨ j = 2 ∨ j = 3 ∨ j = 4 ∨ j = 5 ∨ j = 6 ∨ j = 7 ∨ j = 8 ∨ j = 9 ∨ j = 10 ∨ j = 11 ∨ j = 12 ∨ j = 13 ∨ j = 14 ∨ j = 15 ∨ j = 16 ∨ j = 17 ∨ j = 18 ∨ j = 19 by omega) with rfl | rfl | rfl | rfl | rfl | rfl | rfl | rfl | rfl | rfl | rfl | rfl | rfl | rfl | rfl | rfl | rfl | rfl | rfl | rfl
        · refine lv_tableIn (tgt := 136) hx hb dL_law_40 (by decide) (by decide) rfl (by decide) ?_
          exact law_weather l hst S hE hX hbl hbA hL n hn7 hS hI hl hf (fun H1 locs1 ls a b c => kk H1 locs1 ls hn7 a b c)
        · refine lv_tableIn (tgt := 204) hx hb dL_law_40 (by decide) (by decide) rfl (by decide) ?_
          exact law_pass l hst S hE hX hbl hbA hL n hn7 hS hI hl hf (fun H1 locs1 ls a b c => kk H1 locs1 ls hn7 a b c)
        · refine lv_tableIn (tgt := 260) hx hb dL_law_40 (by decide) (by decide) rfl (by decide) ?_
          exact law_board l hst S hE hX hbl hbA hL n hn7 hS hI hl hf (fun H1 locs1 ls a b c => kk H1 locs1 ls hn7 a b c)
        · refine lv_tableIn (tgt := 378) hx hb dL_law_40 (by decide) (by decide) rfl (by decide) ?_
          exact law_knot l hst S hE hX hbl hbA hL n hn7 hS hI hl hf (fun H1 locs1 ls a b c => kk H1 locs1 ls hn7 a b c)
        · refine lv_tableIn (tgt := 458) hx hb dL_law_40 (by decide) (by decide) rfl (by decide) ?_
          exact law_cut l hst S hE hX hbl hbA hL n hn7 hS hI hl hf (fun H1 locs1 ls a b c => kk H1 locs1 ls hn7 a b c)
        · refine lv_tableIn (tgt := 578) hx hb dL_law_40 (by decide) (by decide) rfl (by decide) ?_
          exact law_sharpen l hst S hE hX hbl hbA hL n hn7 hS hI hl hf (fun H1 locs1 ls a b c => kk H1 locs1 ls hn7 a b c)
        · refine lv_tableIn (tgt := 634) hx hb dL_law_40 (by decide) (by decide) rfl (by decide) ?_
          exact law_clearFrom l hst S hE hX hbl hbA hL n hn7 hS hI hl hf (fun H1 locs1 ls a b c => kk H1 locs1 ls hn7 a b c)
        · refine lv_tableIn (tgt := 702) hx hb dL_law_40 (by decide) (by decide) rfl (by decide) ?_
          exact law_coat l hst S hE hX hbl hbA hL n hn7 hS hI hl hf (fun H1 locs1 ls a b c => kk H1 locs1 ls hn7 a b c)
        · refine lv_tableIn (tgt := 758) hx hb dL_law_40 (by decide) (by decide) rfl (by decide) ?_
          exact law_match l hst S hE hX hbl hbA hL n hn7 hS hI hl hf (fun H1 locs1 ls a b c => kk H1 locs1 ls hn7 a b c)
        · refine lv_tableIn (tgt := 826) hx hb dL_law_40 (by decide) (by decide) rfl (by decide) ?_
          exact law_joint l hst S hE hX hbl hbA hL n hn7 hS hI hl hf (fun H1 locs1 ls a b c => kk H1 locs1 ls hn7 a b c)
        · refine lv_tableIn (tgt := 930) hx hb dL_law_40 (by decide) (by decide) rfl (by decide) ?_
          exact law_need l hst S hE hX hbl hbA hL n hn7 hS hI hl hf (fun H1 locs1 ls a b c => kk H1 locs1 ls hn7 a b c)
        · refine lv_tableIn (tgt := 998) hx hb dL_law_40 (by decide) (by decide) rfl (by decide) ?_
          exact law_clamps l hst S hE hX hbl hbA hL n hn7 hS hI hl hf (fun H1 locs1 ls a b c => kk H1 locs1 ls hn7 a b c)
        · refine lv_tableIn (tgt := 1054) hx hb dL_law_40 (by decide) (by decide) rfl (by decide) ?_
          exact law_glue l hst S hE hX hbl hbA hL n hn7 hS hI hl hf (fun H1 locs1 ls a b c => kk H1 locs1 ls hn7 a b c)
        · refine lv_tableIn (tgt := 1110) hx hb dL_law_40 (by decide) (by decide) rfl (by decide) ?_
          exact law_repair l hst S hE hX hbl hbA hL n hn7 hS hI hl hf (fun H1 locs1 ls a b c => kk H1 locs1 ls hn7 a b c)
        · refine lv_tableIn (tgt := 1166) hx hb dL_law_40 (by decide) (by decide) rfl (by decide) ?_
          exact law_through l hst S hE hX hbl hbA hL n hn7 hS hI hl hf (fun H1 locs1 ls a b c => kk H1 locs1 ls hn7 a b c)
        · refine lv_tableIn (tgt := 1222) hx hb dL_law_40 (by decide) (by decide) rfl (by decide) ?_
          exact law_breaksIn l hst S hE hX hbl hbA hL n hn7 hS hI hl hf (fun H1 locs1 ls a b c => kk H1 locs1 ls hn7 a b c)
        · refine lv_tableIn (tgt := 1290) hx hb dL_law_40 (by decide) (by decide) rfl (by decide) ?_
          exact law_month l hst S hE hX hbl hbA hL n hn7 hS hI hl hf (fun H1 locs1 ls a b c => kk H1 locs1 ls hn7 a b c)
        · refine lv_tableIn (tgt := 1303) hx hb dL_law_40 (by decide) (by decide) rfl (by decide) ?_
          exact law_ofBoard l hst S hE hX hbl hbA hL n hn7 hS hI hl hf (fun H1 locs1 ls a b c => kk H1 locs1 ls hn7 a b c)
        · refine lv_tableIn (tgt := 1371) hx hb dL_law_40 (by decide) (by decide) rfl (by decide) ?_
          exact law_ofPart l hst S hE hX hbl hbA hL n hn7 hS hI hl hf (fun H1 locs1 ls a b c => kk H1 locs1 ls hn7 a b c)
        · refine lv_tableIn (tgt := 1439) hx hb dL_law_40 (by decide) (by decide) rfl (by decide) ?_
          exact law_ofJoint l hst S hE hX hbl hbA hL n hn7 hS hI hl hf (fun H1 locs1 ls a b c => kk H1 locs1 ls hn7 a b c)
      · refine lv_tableOut (tgt := 1507) hx hb dL_law_40 (Or.inr (by rw [nI_toInt (by omega)]; omega)) (by decide) ?_
        refine W.widen (k := 37 + 4 * n + 4) (n := 1020 + 211 * n + 211) (by omega) (by omega) ?_
        exact kk H locs ls hn7 hI hS hl
