/-! ===== the law: months go by ===== -/
section LPA
variable {p : Program} {e : Env} {s : State} {m : MethodId} {args : Array Value} {below : List Frame} {meth : Method} {c : Code} {H : Heap} {locs : List Loc} {cells slots : Nat} {Q : State → Prop} {ls : Array Slot} {z : ZE} {b L qx : Nat} {qa : Nat → Nat} {xs : Nat → Int32} {g gm G : GS}
set_option maxHeartbeats 4000000 in
set_option maxRecDepth 100000 in
/-- a month: the boards -/
theorem law_mb (l : Launch) (hst : l.stackTraces = false) (S : CallFix p m c cL_law 26 s args wU RL) (hE : EV z s s.heap) (hB : BD G) (hA : AR (pst G 0 0 0) gm) (u13 u15 u20 u21 u22 : Nat) (hW : LI z qx qa (g) gm H) (hS : va_S (zA z) s.heap H locs) (hl : lv_has ls 26 [(0, .ref (b)), (1, .ref (qx)), (2, .ref (qa 0)), (3, .ref (qa 1)), (4, .ref (qa 2)), (5, .ref (qa 3)), (6, .ref (qa 4)), (7, .ref (qa 5)), (8, .ref (qa 6)), (9, .ref (qa 7)), (10, .ref (qa 8)), (11, .ref (qa 9)), (12, .int 1), (13, .int (nI u13)), (14, .int (nI (mo G))), (15, .int (nI u15)), (20, .int (nI u20)), (21, .int (nI u21)), (22, .int (nI u22)), (23, .int (nI 0))]) (hf : cells + 0 ≤ room_1.cells ∧ slots + 0 ≤ room_1.slots)
    (kk : ∀ (gm : GS) (H : Heap) (locs : List Loc) (ls : Array Slot), AR (pst G 3 0 0) gm → LI z qx qa (g) gm H → va_S (zA z) s.heap H locs → lv_has ls 26 [(0, .ref (b)), (1, .ref (qx)), (2, .ref (qa 0)), (3, .ref (qa 1)), (4, .ref (qa 2)), (5, .ref (qa 3)), (6, .ref (qa 4)), (7, .ref (qa 5)), (8, .ref (qa 6)), (9, .ref (qa 7)), (10, .ref (qa 8)), (11, .ref (qa 9)), (12, .int 1), (13, .int (nI u13)), (14, .int (nI (mo G))), (15, .int (nI u15)), (20, .int (nI u20)), (21, .int (nI u21)), (22, .int (nI u22))] → W p l e room_1 s m args below meth c H locs (cells + 0) (slots + 0) Q (F0 m 1095 ls [])) : W p l e room_1 s m args below meth c H locs (cells) (slots) Q (F0 m 1064 ls []) := by
  have hx := S.1
  have hb := S.2.1
  have hown := S.2.2.2.1
  have hts := S.2.2.2.2
  have hml := S.2.2.1
  have hmo := hB.ok.l1
  have lp_1064 : ∀ (k9 : Nat) (i : Nat) (gm : GS) (hi : i ≤ 3) (hA : AR (pst G i 0 0) gm), 3 - i < k9 → ∀ (H : Heap) (locs : List Loc), LI z qx qa (g) gm H → va_S (zA z) s.heap H locs → ∀ (ls : Array Slot), lv_has ls 26 [(0, .ref (b)), (1, .ref (qx)), (2, .ref (qa 0)), (3, .ref (qa 1)), (4, .ref (qa 2)), (5, .ref (qa 3)), (6, .ref (qa 4)), (7, .ref (qa 5)), (8, .ref (qa 6)), (9, .ref (qa 7)), (10, .ref (qa 8)), (11, .ref (qa 9)), (12, .int 1), (13, .int (nI u13)), (14, .int (nI (mo G))), (15, .int (nI u15)), (20, .int (nI u20)), (21, .int (nI u21)), (22, .int (nI u22)), (23, .int (nI i))] → W p l e room_1 s m args below meth c H locs (cells) (slots) Q (F0 m 1064 ls []) := by
    intro k9
    induction k9 with
    | zero => intro i gm hi hA h9; exact absurd h9 (Nat.not_lt_zero _)
    | succ k9 ih_1064 =>
      intro i gm hi hA hk9 H locs hW hS ls hl
      refine lv_iload hx hb dL_law_1064 (lv_at hl 19 rfl) ?_
      refine lv_iconst (v := 3) hx hb dL_law_1066 (by decide) ?_
      rw [show (3 : Int32) = nI 3 from rfl]
      refine g_icmp_ge S (by omega) (by omega) (tgt := 1095) dL_law_1067 (by decide) (fun c_1067 => ?_) (fun c_1067 => ?_)
      · obtain rfl : i = 3 := by omega
        refine W.widen (k := cells + 0) (n := slots + 0) (by omega) (by omega) ?_
        exact kk _ _ _ _ hA hW hS (lv_sub hl [0, 1, 2, 3, 4, 5, 6, 7, 8, 9, 10, 11, 12, 13, 14, 15, 16, 17, 18] rfl)
      · refine lv_aload_n hx hb dL_law_1070 rfl (lv_at hl 3 rfl) ?_
        refine lv_iload hx hb dL_law_1071 (lv_at hl 19 rfl) ?_
        refine lv_aload_n hx hb dL_law_1073 rfl (lv_at hl 3 rfl) ?_
        refine lv_iload hx hb dL_law_1074 (lv_at hl 19 rfl) ?_
        refine l_ald (v := G 12 i) (j := i) S hE hW 1 rfl (vp_in_nI (show i < 3 from (by omega)) (by decide)) (nI_clamp (by omega)) (ps_a hB hA (by omega)).1 dL_law_1076 ?_
        refine lv_aload_n hx hb dL_law_1077 rfl (lv_at hl 2 rfl) ?_
        refine lv_iload hx hb dL_law_1078 (lv_at hl 14 rfl) ?_
        refine lv_bipush (v := 12) hx hb dL_law_1080 (by decide) ?_
        refine lv_irem hx hb dL_law_1082 (by decide) ?_
        rw [show (nI (mo G) : Int32) - nI (mo G) / 12 * 12 = nI ((mo G) % 12) from pk_rem (d := 12) (by omega) (by decide) (by decide)]
        refine l_ald (v := wea G (mo G)) (j := (mo G) % 12) S hE hW 0 rfl (vp_in_nI (show (mo G) % 12 < 12 from (by omega)) (by decide)) (nI_clamp (by omega)) (ps_a hB hA (by omega)).2.1 dL_law_1083 ?_
        refine lv_iconst (v := 0) hx hb dL_law_1084 (by decide) ?_
        refine g_callS (As := [.int (G 12 i), .int (wea G (mo G)), .int 0]) (rest := [.int (nI i), .ref (qa 1)]) S hE hS (c_L_behind l z (G 12 i) (wea G (mo G)) (0) (by decide)) (cwS 3 hts (gU_S tw_647 tw_648 tw_0 tw_649) rfl rfl rfl (by decide +kernel) ⟨Nat.le_of_ble_eq_true rfl, Nat.le_of_ble_eq_true rfl⟩) trivial rfl hl.1 rfl (Nat.le_of_ble_eq_true rfl) dL_law_1085 ⟨Nat.le_trans (by omega) hf.1, Nat.le_trans (by omega) hf.2⟩ ?_
        refine lv_topi (fun y_2 ey_2 => ?_)
        obtain rfl : y_2 = beh (wea G (mo G)) (G 12 i) 0 := ey_2.trans (ps_a hB hA (by omega)).2.2.1
        refine l_ast (j := i) S hE hS hW 1 rfl (vp_in_nI (show i < 3 from (by omega)) (by decide)) (nI_clamp (by omega)) dL_law_1088 (fun H locs hW hS => ?_)
        refine lv_iinc (v := nI (i + 1)) (lv' := [(23, .int (nI (i + 1))), (0, .ref (b)), (1, .ref (qx)), (2, .ref (qa 0)), (3, .ref (qa 1)), (4, .ref (qa 2)), (5, .ref (qa 3)), (6, .ref (qa 4)), (7, .ref (qa 5)), (8, .ref (qa 6)), (9, .ref (qa 7)), (10, .ref (qa 8)), (11, .ref (qa 9)), (12, .int 1), (13, .int (nI u13)), (14, .int (nI (mo G))), (15, .int (nI u15)), (20, .int (nI u20)), (21, .int (nI u21)), (22, .int (nI u22))]) hx hb dL_law_1089 hl (k := 19) rfl (nI_1 _) (by decide) rfl (fun ls hl => ?_)
        refine lv_goto (tgt := 1064) hx hb dL_law_1092 (by decide) ?_
        exact ih_1064 (i + 1) _ (by omega) (ps_a hB hA (by omega)).2.2.2 (by omega) _ _ hW hS ls (lv_sub hl [1, 2, 3, 4, 5, 6, 7, 8, 9, 10, 11, 12, 13, 14, 15, 16, 17, 18, 19, 0] rfl)
  exact lp_1064 ((3 - 0) + 1) 0 _ (by omega) hA (Nat.lt_succ_self _) _ _ hW hS ls (lv_sub hl [0, 1, 2, 3, 4, 5, 6, 7, 8, 9, 10, 11, 12, 13, 14, 15, 16, 17, 18, 19] rfl)
set_option maxHeartbeats 4000000 in
set_option maxRecDepth 100000 in
/-- a month: the parts -/
theorem law_mp (l : Launch) (hst : l.stackTraces = false) (S : CallFix p m c cL_law 26 s args wU RL) (hE : EV z s s.heap) (hB : BD G) (hA : AR (pst G 3 0 0) gm) (u13 u15 u20 u21 u22 : Nat) (hW : LI z qx qa (g) gm H) (hS : va_S (zA z) s.heap H locs) (hl : lv_has ls 26 [(0, .ref (b)), (1, .ref (qx)), (2, .ref (qa 0)), (3, .ref (qa 1)), (4, .ref (qa 2)), (5, .ref (qa 3)), (6, .ref (qa 4)), (7, .ref (qa 5)), (8, .ref (qa 6)), (9, .ref (qa 7)), (10, .ref (qa 8)), (11, .ref (qa 9)), (12, .int 1), (13, .int (nI u13)), (14, .int (nI (mo G))), (15, .int (nI u15)), (20, .int (nI u20)), (21, .int (nI u21)), (22, .int (nI u22)), (23, .int (nI 0))]) (hf : cells + 0 ≤ room_1.cells ∧ slots + 0 ≤ room_1.slots)
    (kk : ∀ (gm : GS) (H : Heap) (locs : List Loc) (ls : Array Slot), AR (pst G 3 6 0) gm → LI z qx qa (g) gm H → va_S (zA z) s.heap H locs → lv_has ls 26 [(0, .ref (b)), (1, .ref (qx)), (2, .ref (qa 0)), (3, .ref (qa 1)), (4, .ref (qa 2)), (5, .ref (qa 3)), (6, .ref (qa 4)), (7, .ref (qa 5)), (8, .ref (qa 6)), (9, .ref (qa 7)), (10, .ref (qa 8)), (11, .ref (qa 9)), (12, .int 1), (13, .int (nI u13)), (14, .int (nI (mo G))), (15, .int (nI u15)), (20, .int (nI u20)), (21, .int (nI u21)), (22, .int (nI u22))] → W p l e room_1 s m args below meth c H locs (cells + 0) (slots + 0) Q (F0 m 1136 ls [])) : W p l e room_1 s m args below meth c H locs (cells) (slots) Q (F0 m 1098 ls []) := by
  have hx := S.1
  have hb := S.2.1
  have hown := S.2.2.2.1
  have hts := S.2.2.2.2
  have hml := S.2.2.1
  have hmo := hB.ok.l1
  have lp_1098 : ∀ (k9 : Nat) (i : Nat) (gm : GS) (hi : i ≤ 6) (hA : AR (pst G 3 i 0) gm), 6 - i < k9 → ∀ (H : Heap) (locs : List Loc), LI z qx qa (g) gm H → va_S (zA z) s.heap H locs → ∀ (ls : Array Slot), lv_has ls 26 [(0, .ref (b)), (1, .ref (qx)), (2, .ref (qa 0)), (3, .ref (qa 1)), (4, .ref (qa 2)), (5, .ref (qa 3)), (6, .ref (qa 4)), (7, .ref (qa 5)), (8, .ref (qa 6)), (9, .ref (qa 7)), (10, .ref (qa 8)), (11, .ref (qa 9)), (12, .int 1), (13, .int (nI u13)), (14, .int (nI (mo G))), (15, .int (nI u15)), (20, .int (nI u20)), (21, .int (nI u21)), (22, .int (nI u22)), (23, .int (nI i))] → W p l e room_1 s m args below meth c H locs (cells) (slots) Q (F0 m 1098 ls []) := by
    intro k9
    induction k9 with
    | zero => intro i gm hi hA h9; exact absurd h9 (Nat.not_lt_zero _)
    | succ k9 ih_1098 =>
      intro i gm hi hA hk9 H locs hW hS ls hl
      refine lv_iload hx hb dL_law_1098 (lv_at hl 19 rfl) ?_
      refine lv_bipush (v := 6) hx hb dL_law_1100 (by decide) ?_
      rw [show (6 : Int32) = nI 6 from rfl]
      refine g_icmp_ge S (by omega) (by omega) (tgt := 1136) dL_law_1102 (by decide) (fun c_1102 => ?_) (fun c_1102 => ?_)
      · obtain rfl : i = 6 := by omega
        refine W.widen (k := cells + 0) (n := slots + 0) (by omega) (by omega) ?_
        exact kk _ _ _ _ hA hW hS (lv_sub hl [0, 1, 2, 3, 4, 5, 6, 7, 8, 9, 10, 11, 12, 13, 14, 15, 16, 17, 18] rfl)
      · refine lv_aload hx hb dL_law_1105 (lv_at hl 6 rfl) ?_
        refine lv_iload hx hb dL_law_1107 (lv_at hl 19 rfl) ?_
        refine lv_aload hx hb dL_law_1109 (lv_at hl 6 rfl) ?_
        refine lv_iload hx hb dL_law_1111 (lv_at hl 19 rfl) ?_
        refine l_ald (v := G 22 i) (j := i) S hE hW 4 rfl (vp_in_nI (show i < 6 from (by omega)) (by decide)) (nI_clamp (by omega)) (ps_b hB hA (by omega)).1 dL_law_1113 ?_
        refine lv_aload_n hx hb dL_law_1114 rfl (lv_at hl 2 rfl) ?_
        refine lv_iload hx hb dL_law_1115 (lv_at hl 14 rfl) ?_
        refine lv_bipush (v := 12) hx hb dL_law_1117 (by decide) ?_
        refine lv_irem hx hb dL_law_1119 (by decide) ?_
        rw [show (nI (mo G) : Int32) - nI (mo G) / 12 * 12 = nI ((mo G) % 12) from pk_rem (d := 12) (by omega) (by decide) (by decide)]
        refine l_ald (v := wea G (mo G)) (j := (mo G) % 12) S hE hW 0 rfl (vp_in_nI (show (mo G) % 12 < 12 from (by omega)) (by decide)) (nI_clamp (by omega)) (ps_b hB hA (by omega)).2.2.1 dL_law_1120 ?_
        refine lv_aload hx hb dL_law_1121 (lv_at hl 7 rfl) ?_
        refine lv_iload hx hb dL_law_1123 (lv_at hl 19 rfl) ?_
        refine l_ald (v := G 23 (i)) (j := i) S hE hW 5 rfl (vp_in_nI (show i < 6 from (by omega)) (by decide)) (nI_clamp (by omega)) (ps_b hB hA (by omega)).2.1 dL_law_1125 ?_
        refine g_callS (As := [.int (G 22 i), .int (wea G (mo G)), .int (G 23 (i))]) (rest := [.int (nI i), .ref (qa 4)]) S hE hS (c_L_behind l z (G 22 i) (wea G (mo G)) (G 23 (i)) (by obtain ⟨c9, hc9, ec9⟩ := hB.co (show i < 6 by omega); rw [ec9]; exact co_ne hc9)) (cwS 3 hts (gU_S tw_647 tw_648 tw_0 tw_649) rfl rfl rfl (by decide +kernel) ⟨Nat.le_of_ble_eq_true rfl, Nat.le_of_ble_eq_true rfl⟩) trivial rfl hl.1 rfl (Nat.le_of_ble_eq_true rfl) dL_law_1126 ⟨Nat.le_trans (by omega) hf.1, Nat.le_trans (by omega) hf.2⟩ ?_
        refine lv_topi (fun y_2 ey_2 => ?_)
        obtain rfl : y_2 = beh (wea G (mo G)) (G 22 i) (G 23 i) := ey_2.trans (ps_b hB hA (by omega)).2.2.2.1
        refine l_ast (j := i) S hE hS hW 4 rfl (vp_in_nI (show i < 6 from (by omega)) (by decide)) (nI_clamp (by omega)) dL_law_1129 (fun H locs hW hS => ?_)
        refine lv_iinc (v := nI (i + 1)) (lv' := [(23, .int (nI (i + 1))), (0, .ref (b)), (1, .ref (qx)), (2, .ref (qa 0)), (3, .ref (qa 1)), (4, .ref (qa 2)), (5, .ref (qa 3)), (6, .ref (qa 4)), (7, .ref (qa 5)), (8, .ref (qa 6)), (9, .ref (qa 7)), (10, .ref (qa 8)), (11, .ref (qa 9)), (12, .int 1), (13, .int (nI u13)), (14, .int (nI (mo G))), (15, .int (nI u15)), (20, .int (nI u20)), (21, .int (nI u21)), (22, .int (nI u22))]) hx hb dL_law_1130 hl (k := 19) rfl (nI_1 _) (by decide) rfl (fun ls hl => ?_)
        refine lv_goto (tgt := 1098) hx hb dL_law_1133 (by decide) ?_
        exact ih_1098 (i + 1) _ (by omega) (ps_b hB hA (by omega)).2.2.2.2 (by omega) _ _ hW hS ls (lv_sub hl [1, 2, 3, 4, 5, 6, 7, 8, 9, 10, 11, 12, 13, 14, 15, 16, 17, 18, 19, 0] rfl)
  exact lp_1098 ((6 - 0) + 1) 0 _ (by omega) hA (Nat.lt_succ_self _) _ _ hW hS ls (lv_sub hl [0, 1, 2, 3, 4, 5, 6, 7, 8, 9, 10, 11, 12, 13, 14, 15, 16, 17, 18, 19] rfl)
set_option maxHeartbeats 4000000 in
set_option maxRecDepth 100000 in
/-- a month: the joints -/
theorem law_mj (l : Launch) (hst : l.stackTraces = false) (S : CallFix p m c cL_law 26 s args wU RL) (hE : EV z s s.heap) (hB : BD G) (hA : AR (pst G 3 6 0) gm) (u15 u20 u21 u22 : Nat) (hu : u21 < 1000000) (hW : LI z qx qa (g) gm H) (hS : va_S (zA z) s.heap H locs) (hl : lv_has ls 26 [(0, .ref (b)), (1, .ref (qx)), (2, .ref (qa 0)), (3, .ref (qa 1)), (4, .ref (qa 2)), (5, .ref (qa 3)), (6, .ref (qa 4)), (7, .ref (qa 5)), (8, .ref (qa 6)), (9, .ref (qa 7)), (10, .ref (qa 8)), (11, .ref (qa 9)), (12, .int 1), (13, .int (nI (nj G))), (14, .int (nI (mo G))), (15, .int (nI u15)), (20, .int (nI u20)), (21, .int (nI u21)), (22, .int (nI u22)), (23, .int (nI 0))]) (hf : cells + 0 ≤ room_1.cells ∧ slots + 0 ≤ room_1.slots)
    (kk : ∀ (gm : GS) (H : Heap) (locs : List Loc) (ls : Array Slot), AR (pst G 3 6 (nj G)) gm → LI z qx qa (g) gm H → va_S (zA z) s.heap H locs → lv_has ls 26 [(0, .ref (b)), (1, .ref (qx)), (2, .ref (qa 0)), (3, .ref (qa 1)), (4, .ref (qa 2)), (5, .ref (qa 3)), (6, .ref (qa 4)), (7, .ref (qa 5)), (8, .ref (qa 6)), (9, .ref (qa 7)), (10, .ref (qa 8)), (11, .ref (qa 9)), (12, .int 1), (13, .int (nI (nj G))), (14, .int (nI (mo G))), (15, .int (nI u15)), (20, .int (nI u20)), (21, .int (nI (u21 + cntN (nj G) (brk G)))), (22, .int (nI u22))] → W p l e room_1 s m args below meth c H locs (cells + 0) (slots + 0) Q (F0 m 1228 ls [])) : W p l e room_1 s m args below meth c H locs (cells) (slots) Q (F0 m 1139 ls []) := by
  have hx := S.1
  have hb := S.2.1
  have hown := S.2.2.2.1
  have hts := S.2.2.2.2
  have hml := S.2.2.1
  have hmo := hB.ok.l1
  have hnj := hB.lj
  have lp_1139 : ∀ (k9 : Nat) (i cc : Nat) (gm : GS) (hi : i ≤ nj G) (hcc : cc = u21 + cntN i (brk G)) (hA : AR (pst G 3 6 i) gm), nj G - i < k9 → ∀ (H : Heap) (locs : List Loc), LI z qx qa (g) gm H → va_S (zA z) s.heap H locs → ∀ (ls : Array Slot), lv_has ls 26 [(0, .ref (b)), (1, .ref (qx)), (2, .ref (qa 0)), (3, .ref (qa 1)), (4, .ref (qa 2)), (5, .ref (qa 3)), (6, .ref (qa 4)), (7, .ref (qa 5)), (8, .ref (qa 6)), (9, .ref (qa 7)), (10, .ref (qa 8)), (11, .ref (qa 9)), (12, .int 1), (13, .int (nI (nj G))), (14, .int (nI (mo G))), (15, .int (nI u15)), (20, .int (nI u20)), (21, .int (nI cc)), (22, .int (nI u22)), (23, .int (nI i))] → W p l e room_1 s m args below meth c H locs (cells) (slots) Q (F0 m 1139 ls []) := by
    intro k9
    induction k9 with
    | zero => intro i cc gm hi hcc hA h9; exact absurd h9 (Nat.not_lt_zero _)
    | succ k9 ih_1139 =>
      intro i cc gm hi hcc hA hk9 H locs hW hS ls hl
      refine lv_iload hx hb dL_law_1139 (lv_at hl 19 rfl) ?_
      refine lv_iload hx hb dL_law_1141 (lv_at hl 13 rfl) ?_
      refine g_icmp_ge S (by omega) (by omega) (tgt := 1228) dL_law_1143 (by decide) (fun c_1143 => ?_) (fun c_1143 => ?_)
      · obtain rfl : i = nj G := by omega
        subst hcc
        refine W.widen (k := cells + 0) (n := slots + 0) (by omega) (by omega) ?_
        exact kk _ _ _ _ hA hW hS (lv_sub hl [0, 1, 2, 3, 4, 5, 6, 7, 8, 9, 10, 11, 12, 13, 14, 15, 16, 17, 18] rfl)
      · refine lv_aload hx hb dL_law_1146 (lv_at hl 9 rfl) ?_
        refine lv_iload hx hb dL_law_1148 (lv_at hl 19 rfl) ?_
        refine l_ald (v := stt G i) (j := i) S hE hW 7 rfl (vp_in_nI (show i < 12 from (by omega)) (by decide)) (nI_clamp (by omega)) (ps_c hB hA (by omega)).1 dL_law_1150 ?_
        refine lv_iconst (v := 1) hx hb dL_law_1151 (by decide) ?_
        refine lv_icmp_ne (tgt := 1185) hx hb dL_law_1152 (by decide) (fun c_1152_1 => ?_) (fun c_1152_1 => ?_)
        · refine lv_iconst (v := 0) hx hb dL_law_1185 (by decide) ?_
          refine lv_istore (lv' := [(24, .int 0), (0, .ref (b)), (1, .ref (qx)), (2, .ref (qa 0)), (3, .ref (qa 1)), (4, .ref (qa 2)), (5, .ref (qa 3)), (6, .ref (qa 4)), (7, .ref (qa 5)), (8, .ref (qa 6)), (9, .ref (qa 7)), (10, .ref (qa 8)), (11, .ref (qa 9)), (12, .int 1), (13, .int (nI (nj G))), (14, .int (nI (mo G))), (15, .int (nI u15)), (20, .int (nI u20)), (21, .int (nI cc)), (22, .int (nI u22)), (23, .int (nI i))]) hx hb dL_law_1186 hl (by decide) rfl (fun ls hl => ?_)
          refine lv_aload hx hb dL_law_1188 (lv_at hl 10 rfl) ?_
          refine lv_iload hx hb dL_law_1190 (lv_at hl 20 rfl) ?_
          refine lv_iload hx hb dL_law_1192 (lv_at hl 0 rfl) ?_
          refine lv_if_eq (tgt := 1201) hx hb dL_law_1194 (by decide) (fun _ => ?_) (fun h9 => absurd h9 (by decide))
          refine lv_aload hx hb dL_law_1201 (lv_at hl 10 rfl) ?_
          refine lv_iload hx hb dL_law_1203 (lv_at hl 20 rfl) ?_
          refine l_ald (v := stt G i) (j := i) S hE hW 7 rfl (vp_in_nI (show i < 12 from (by omega)) (by decide)) (nI_clamp (by omega)) (ps_c hB hA (by omega)).1 dL_law_1205 ?_
          refine l_ast (j := i) S hE hS hW 7 rfl (vp_in_nI (show i < 12 from (by omega)) (by decide)) (nI_clamp (by omega)) dL_law_1206 (fun H locs hW hS => ?_)
          refine lv_iload hx hb dL_law_1207 (lv_at hl 18 rfl) ?_
          refine lv_iload hx hb dL_law_1209 (lv_at hl 0 rfl) ?_
          refine lv_if_eq (tgt := 1218) hx hb dL_law_1211 (by decide) (fun _ => ?_) (fun h9 => absurd h9 (by decide))
          refine lv_iconst (v := 0) hx hb dL_law_1218 (by decide) ?_
          refine lv_iadd hx hb dL_law_1219 ?_
          rw [show (nI cc : Int32) + 0 = nI (cc + 0) from nI_add _ 0]
          refine lv_istore (lv' := [(21, .int (nI (cc + 0))), (24, .int 0), (0, .ref (b)), (1, .ref (qx)), (2, .ref (qa 0)), (3, .ref (qa 1)), (4, .ref (qa 2)), (5, .ref (qa 3)), (6, .ref (qa 4)), (7, .ref (qa 5)), (8, .ref (qa 6)), (9, .ref (qa 7)), (10, .ref (qa 8)), (11, .ref (qa 9)), (12, .int 1), (13, .int (nI (nj G))), (14, .int (nI (mo G))), (15, .int (nI u15)), (20, .int (nI u20)), (22, .int (nI u22)), (23, .int (nI i))]) hx hb dL_law_1220 hl (by decide) rfl (fun ls hl => ?_)
          refine lv_iinc (v := nI (i + 1)) (lv' := [(23, .int (nI (i + 1))), (21, .int (nI (cc + 0))), (24, .int 0), (0, .ref (b)), (1, .ref (qx)), (2, .ref (qa 0)), (3, .ref (qa 1)), (4, .ref (qa 2)), (5, .ref (qa 3)), (6, .ref (qa 4)), (7, .ref (qa 5)), (8, .ref (qa 6)), (9, .ref (qa 7)), (10, .ref (qa 8)), (11, .ref (qa 9)), (12, .int 1), (13, .int (nI (nj G))), (14, .int (nI (mo G))), (15, .int (nI u15)), (20, .int (nI u20)), (22, .int (nI u22))]) hx hb dL_law_1222 hl (k := 20) rfl (nI_1 _) (by decide) rfl (fun ls hl => ?_)
          refine lv_goto (tgt := 1139) hx hb dL_law_1225 (by decide) ?_
          exact ih_1139 (i + 1) (cc + 0) _ (by omega) (by rw [cnt_n (ps_cn hB (by omega) c_1152_1)]; omega) (ps_cf hB hA (by omega) (ps_cn hB (by omega) c_1152_1)) (by omega) _ _ hW hS ls (lv_sub hl [3, 4, 5, 6, 7, 8, 9, 10, 11, 12, 13, 14, 15, 16, 17, 18, 19, 1, 20, 0] rfl)
        · have hjp := (ps_c hB hA (show i < nj G by omega)).2.2.1
          refine lv_aload hx hb dL_law_1155 (lv_at hl 8 rfl) ?_
          refine lv_iload hx hb dL_law_1157 (lv_at hl 19 rfl) ?_
          refine lv_aload hx hb dL_law_1159 (lv_at hl 5 rfl) ?_
          refine lv_aload hx hb dL_law_1161 (lv_at hl 4 rfl) ?_
          refine lv_aload hx hb dL_law_1163 (lv_at hl 6 rfl) ?_
          refine lv_aload hx hb dL_law_1165 (lv_at hl 8 rfl) ?_
          refine lv_iconst (v := 5) hx hb dL_law_1167 (by decide) ?_
          refine lv_iload hx hb dL_law_1168 (lv_at hl 19 rfl) ?_
          refine lv_imul hx hb dL_law_1170 ?_
          rw [show (5 : Int32) * nI i = nI (5 * (i)) from pk_mul 5 _]
          refine lv_iconst (v := 1) hx hb dL_law_1171 (by decide) ?_
          refine lv_iadd hx hb dL_law_1172 ?_
          rw [show (nI (5 * (i)) : Int32) + 1 = nI ((5 * (i)) + 1) from nI_add _ 1]
          refine l_ald (v := nI (jp G i)) (j := (5 * (i)) + 1) S hE hW 6 rfl (vp_in_nI (show (5 * (i)) + 1 < 60 from (by omega)) (by decide)) (nI_clamp (by omega)) (ps_c hB hA (by omega)).2.1 dL_law_1173 ?_
          refine l_ald (v := beh (wea G (mo G)) (G 22 (jp G i)) (G 23 (jp G i))) (j := jp G i) S hE hW 4 rfl (vp_in_nI (show jp G i < 6 from (by omega)) (by decide)) (nI_clamp (by omega)) (ps_c hB hA (by omega)).2.2.2 dL_law_1174 ?_
          refine g_callS (As := [.ref (qa 6), .int (nI i), .ref (qa 3), .ref (qa 2), .int (beh (wea G (mo G)) (G 22 (jp G i)) (G 23 (jp G i)))]) (rest := []) S hE hS (c_L_breaks l z qx qa g gm (i) (jp G i) (by omega) (ps_c hB hA (by omega)).2.1 (by omega) (beh (wea G (mo G)) (G 22 (jp G i)) (G 23 (jp G i)))) (cwS 5 hts (gU_S tw_653 tw_654 tw_0 tw_655) rfl rfl rfl (by decide +kernel) ⟨Nat.le_of_ble_eq_true rfl, Nat.le_of_ble_eq_true rfl⟩) hW rfl hl.1 rfl (Nat.le_of_ble_eq_true rfl) dL_law_1175 ⟨Nat.le_trans (by omega) hf.1, Nat.le_trans (by omega) hf.2⟩ ?_
          rw [(ps_cb hB hA (by omega) c_1152_1)]
          refine g_if_eq S (tgt := 1185) dL_law_1178 (by decide) (fun c_1178_2 => ?_) (fun c_1178_2 => ?_)
          · refine lv_iconst (v := 0) hx hb dL_law_1185 (by decide) ?_
            refine lv_istore (lv' := [(24, .int 0), (0, .ref (b)), (1, .ref (qx)), (2, .ref (qa 0)), (3, .ref (qa 1)), (4, .ref (qa 2)), (5, .ref (qa 3)), (6, .ref (qa 4)), (7, .ref (qa 5)), (8, .ref (qa 6)), (9, .ref (qa 7)), (10, .ref (qa 8)), (11, .ref (qa 9)), (12, .int 1), (13, .int (nI (nj G))), (14, .int (nI (mo G))), (15, .int (nI u15)), (20, .int (nI u20)), (21, .int (nI cc)), (22, .int (nI u22)), (23, .int (nI i))]) hx hb dL_law_1186 hl (by decide) rfl (fun ls hl => ?_)
            refine lv_aload hx hb dL_law_1188 (lv_at hl 10 rfl) ?_
            refine lv_iload hx hb dL_law_1190 (lv_at hl 20 rfl) ?_
            refine lv_iload hx hb dL_law_1192 (lv_at hl 0 rfl) ?_
            refine lv_if_eq (tgt := 1201) hx hb dL_law_1194 (by decide) (fun _ => ?_) (fun h9 => absurd h9 (by decide))
            refine lv_aload hx hb dL_law_1201 (lv_at hl 10 rfl) ?_
            refine lv_iload hx hb dL_law_1203 (lv_at hl 20 rfl) ?_
            refine l_ald (v := stt G i) (j := i) S hE hW 7 rfl (vp_in_nI (show i < 12 from (by omega)) (by decide)) (nI_clamp (by omega)) (ps_c hB hA (by omega)).1 dL_law_1205 ?_
            refine l_ast (j := i) S hE hS hW 7 rfl (vp_in_nI (show i < 12 from (by omega)) (by decide)) (nI_clamp (by omega)) dL_law_1206 (fun H locs hW hS => ?_)
            refine lv_iload hx hb dL_law_1207 (lv_at hl 18 rfl) ?_
            refine lv_iload hx hb dL_law_1209 (lv_at hl 0 rfl) ?_
            refine lv_if_eq (tgt := 1218) hx hb dL_law_1211 (by decide) (fun _ => ?_) (fun h9 => absurd h9 (by decide))
            refine lv_iconst (v := 0) hx hb dL_law_1218 (by decide) ?_
            refine lv_iadd hx hb dL_law_1219 ?_
            rw [show (nI cc : Int32) + 0 = nI (cc + 0) from nI_add _ 0]
            refine lv_istore (lv' := [(21, .int (nI (cc + 0))), (24, .int 0), (0, .ref (b)), (1, .ref (qx)), (2, .ref (qa 0)), (3, .ref (qa 1)), (4, .ref (qa 2)), (5, .ref (qa 3)), (6, .ref (qa 4)), (7, .ref (qa 5)), (8, .ref (qa 6)), (9, .ref (qa 7)), (10, .ref (qa 8)), (11, .ref (qa 9)), (12, .int 1), (13, .int (nI (nj G))), (14, .int (nI (mo G))), (15, .int (nI u15)), (20, .int (nI u20)), (22, .int (nI u22)), (23, .int (nI i))]) hx hb dL_law_1220 hl (by decide) rfl (fun ls hl => ?_)
            refine lv_iinc (v := nI (i + 1)) (lv' := [(23, .int (nI (i + 1))), (21, .int (nI (cc + 0))), (24, .int 0), (0, .ref (b)), (1, .ref (qx)), (2, .ref (qa 0)), (3, .ref (qa 1)), (4, .ref (qa 2)), (5, .ref (qa 3)), (6, .ref (qa 4)), (7, .ref (qa 5)), (8, .ref (qa 6)), (9, .ref (qa 7)), (10, .ref (qa 8)), (11, .ref (qa 9)), (12, .int 1), (13, .int (nI (nj G))), (14, .int (nI (mo G))), (15, .int (nI u15)), (20, .int (nI u20)), (22, .int (nI u22))]) hx hb dL_law_1222 hl (k := 20) rfl (nI_1 _) (by decide) rfl (fun ls hl => ?_)
            refine lv_goto (tgt := 1139) hx hb dL_law_1225 (by decide) ?_
            exact ih_1139 (i + 1) (cc + 0) _ (by omega) (by rw [cnt_n c_1178_2]; omega) (ps_cf hB hA (by omega) c_1178_2) (by omega) _ _ hW hS ls (lv_sub hl [3, 4, 5, 6, 7, 8, 9, 10, 11, 12, 13, 14, 15, 16, 17, 18, 19, 1, 20, 0] rfl)
          · refine lv_iconst (v := 1) hx hb dL_law_1181 (by decide) ?_
            refine lv_goto (tgt := 1186) hx hb dL_law_1182 (by decide) ?_
            refine lv_istore (lv' := [(24, .int 1), (0, .ref (b)), (1, .ref (qx)), (2, .ref (qa 0)), (3, .ref (qa 1)), (4, .ref (qa 2)), (5, .ref (qa 3)), (6, .ref (qa 4)), (7, .ref (qa 5)), (8, .ref (qa 6)), (9, .ref (qa 7)), (10, .ref (qa 8)), (11, .ref (qa 9)), (12, .int 1), (13, .int (nI (nj G))), (14, .int (nI (mo G))), (15, .int (nI u15)), (20, .int (nI u20)), (21, .int (nI cc)), (22, .int (nI u22)), (23, .int (nI i))]) hx hb dL_law_1186 hl (by decide) rfl (fun ls hl => ?_)
            refine lv_aload hx hb dL_law_1188 (lv_at hl 10 rfl) ?_
            refine lv_iload hx hb dL_law_1190 (lv_at hl 20 rfl) ?_
            refine lv_iload hx hb dL_law_1192 (lv_at hl 0 rfl) ?_
            refine lv_if_eq (tgt := 1201) hx hb dL_law_1194 (by decide) (fun h9 => absurd h9 (by decide)) (fun _ => ?_)
            refine lv_iconst (v := 2) hx hb dL_law_1197 (by decide) ?_
            refine lv_goto (tgt := 1206) hx hb dL_law_1198 (by decide) ?_
            refine l_ast (j := i) S hE hS hW 7 rfl (vp_in_nI (show i < 12 from (by omega)) (by decide)) (nI_clamp (by omega)) dL_law_1206 (fun H locs hW hS => ?_)
            refine lv_iload hx hb dL_law_1207 (lv_at hl 18 rfl) ?_
            refine lv_iload hx hb dL_law_1209 (lv_at hl 0 rfl) ?_
            refine lv_if_eq (tgt := 1218) hx hb dL_law_1211 (by decide) (fun h9 => absurd h9 (by decide)) (fun _ => ?_)
            refine lv_iconst (v := 1) hx hb dL_law_1214 (by decide) ?_
            refine lv_goto (tgt := 1219) hx hb dL_law_1215 (by decide) ?_
            refine lv_iadd hx hb dL_law_1219 ?_
            rw [show (nI cc : Int32) + 1 = nI (cc + 1) from nI_add _ 1]
            refine lv_istore (lv' := [(21, .int (nI (cc + 1))), (24, .int 1), (0, .ref (b)), (1, .ref (qx)), (2, .ref (qa 0)), (3, .ref (qa 1)), (4, .ref (qa 2)), (5, .ref (qa 3)), (6, .ref (qa 4)), (7, .ref (qa 5)), (8, .ref (qa 6)), (9, .ref (qa 7)), (10, .ref (qa 8)), (11, .ref (qa 9)), (12, .int 1), (13, .int (nI (nj G))), (14, .int (nI (mo G))), (15, .int (nI u15)), (20, .int (nI u20)), (22, .int (nI u22)), (23, .int (nI i))]) hx hb dL_law_1220 hl (by decide) rfl (fun ls hl => ?_)
            refine lv_iinc (v := nI (i + 1)) (lv' := [(23, .int (nI (i + 1))), (21, .int (nI (cc + 1))), (24, .int 1), (0, .ref (b)), (1, .ref (qx)), (2, .ref (qa 0)), (3, .ref (qa 1)), (4, .ref (qa 2)), (5, .ref (qa 3)), (6, .ref (qa 4)), (7, .ref (qa 5)), (8, .ref (qa 6)), (9, .ref (qa 7)), (10, .ref (qa 8)), (11, .ref (qa 9)), (12, .int 1), (13, .int (nI (nj G))), (14, .int (nI (mo G))), (15, .int (nI u15)), (20, .int (nI u20)), (22, .int (nI u22))]) hx hb dL_law_1222 hl (k := 20) rfl (nI_1 _) (by decide) rfl (fun ls hl => ?_)
            refine lv_goto (tgt := 1139) hx hb dL_law_1225 (by decide) ?_
            exact ih_1139 (i + 1) (cc + 1) _ (by omega) (by rw [cnt_y c_1178_2]; omega) (ps_cy hA c_1178_2) (by omega) _ _ hW hS ls (lv_sub hl [3, 4, 5, 6, 7, 8, 9, 10, 11, 12, 13, 14, 15, 16, 17, 18, 19, 1, 20, 0] rfl)
  exact lp_1139 ((nj G - 0) + 1) 0 u21 _ (Nat.zero_le _) rfl hA (Nat.lt_succ_self _) _ _ hW hS ls (lv_sub hl [0, 1, 2, 3, 4, 5, 6, 7, 8, 9, 10, 11, 12, 13, 14, 15, 16, 17, 18, 19] rfl)
set_option maxHeartbeats 4000000 in
set_option maxRecDepth 100000 in
/-- the turn: pass -/
theorem law_1027 (l : Launch) (hst : l.stackTraces = false) (S : CallFix p m c cL_law 26 s args wU RL) (hE : EV z s s.heap) (hB : BD g) (hA : AR g gm) (t : Nat) (ht : t < 40) (hmo : mo g ≤ 5 * t) (v : Int32) (wh p9 : Nat) (hwh : wh < 9) (hp9 : p9 < 6) (hW : LI z qx qa (g) gm H) (hS : va_S (zA z) s.heap H locs) (hl : lv_has ls 26 [(0, .ref (b)), (1, .ref (qx)), (2, .ref (qa 0)), (3, .ref (qa 1)), (4, .ref (qa 2)), (5, .ref (qa 3)), (6, .ref (qa 4)), (7, .ref (qa 5)), (8, .ref (qa 6)), (9, .ref (qa 7)), (10, .ref (qa 8)), (11, .ref (qa 9)), (12, .int 1), (13, .int (nI (nj g))), (14, .int (nI (mo g))), (15, .int (nI t)), (16, .int v), (17, .int (nI wh)), (18, .int (nI p9))]) (hf : cells + 3 ≤ room_1.cells ∧ slots + 300 ≤ room_1.slots)
    (kk : ∀ (g gm : GS) (H : Heap) (locs : List Loc) (ls : Array Slot), BD g → AR g gm → mo g ≤ 5 * t + 5 → LI z qx qa g gm H → va_S (zA z) s.heap H locs → lv_has ls 26 [(0, .ref (b)), (1, .ref (qx)), (2, .ref (qa 0)), (3, .ref (qa 1)), (4, .ref (qa 2)), (5, .ref (qa 3)), (6, .ref (qa 4)), (7, .ref (qa 5)), (8, .ref (qa 6)), (9, .ref (qa 7)), (10, .ref (qa 8)), (11, .ref (qa 9)), (12, .int 1), (13, .int (nI (nj g))), (14, .int (nI (mo g))), (15, .int (nI t))] → W p l e room_1 s m args below meth c H locs (cells + 3) (slots + 300) Q (F0 m 1264 ls [])) : W p l e room_1 s m args below meth c H locs (cells) (slots) Q (F0 m 1027 ls []) := by
  have hx := S.1
  have hb := S.2.1
  have hown := S.2.2.2.1
  have hts := S.2.2.2.2
  have hml := S.2.2.1
  have hnj := hB.lj
  refine lv_iload hx hb dL_law_1027 (lv_at hl 17 rfl) ?_
  refine lv_bipush (v := 6) hx hb dL_law_1029 (by decide) ?_
  rw [show (6 : Int32) = nI 6 from rfl]
  refine g_icmp_le S (by omega) (by omega) (tgt := 1264) dL_law_1031 (by decide) (fun c_1031 => ?_) (fun c_1031 => ?_)
  · refine W.widen (k := cells + 3) (n := slots + 300) (by omega) (by omega) ?_
    exact kk g _ _ _ _ hB hA (by omega) hW hS (lv_sub hl [0, 1, 2, 3, 4, 5, 6, 7, 8, 9, 10, 11, 12, 13, 14, 15] rfl)
  · refine lv_iconst (v := 1) hx hb dL_law_1034 (by decide) ?_
    refine lv_iload hx hb dL_law_1035 (lv_at hl 16 rfl) ?_
    refine lv_sipush (v := 128) hx hb dL_law_1037 (by decide) ?_
    refine lv_idiv hx hb dL_law_1040 (by decide) ?_
    refine lv_iconst (v := nI 5) hx hb dL_law_1041 (by decide) ?_
    refine g_callS (As := [.int ((v) / (128)), .int (nI 5)]) (rest := [.int 1]) S hE hS (c_L_up l z ((v) / (128)) (5) (by omega) (by omega)) (cwS 2 hts (gU_S tw_598 tw_599 tw_0 tw_600) rfl rfl rfl (by decide +kernel) ⟨Nat.le_of_ble_eq_true rfl, Nat.le_of_ble_eq_true rfl⟩) trivial rfl hl.1 rfl (Nat.le_of_ble_eq_true rfl) dL_law_1042 ⟨Nat.le_trans (by omega) hf.1, Nat.le_trans (by omega) hf.2⟩ ?_
    refine lv_iadd hx hb dL_law_1045 ?_
    rw [show (1 : Int32) + nI (upN ((v) / (128)) (5)) = nI (1 + (upN ((v) / (128)) (5))) from nI_add 1 _]
    obtain ⟨n, hn, en⟩ : ∃ y : Nat, (1 ≤ y ∧ y ≤ 5) ∧ 1 + (upN ((v) / (128)) (5)) = y := ⟨_, (by have := upN_lt (v / 128) (show 0 < 5 by decide); omega), rfl⟩
    rw [en]
    refine lv_istore (lv' := [(20, .int (nI n)), (0, .ref (b)), (1, .ref (qx)), (2, .ref (qa 0)), (3, .ref (qa 1)), (4, .ref (qa 2)), (5, .ref (qa 3)), (6, .ref (qa 4)), (7, .ref (qa 5)), (8, .ref (qa 6)), (9, .ref (qa 7)), (10, .ref (qa 8)), (11, .ref (qa 9)), (12, .int 1), (13, .int (nI (nj g))), (14, .int (nI (mo g))), (15, .int (nI t)), (16, .int v), (17, .int (nI wh)), (18, .int (nI p9))]) hx hb dL_law_1046 hl (by decide) rfl (fun ls hl => ?_)
    refine lv_iconst (v := nI 0) hx hb dL_law_1048 (by decide) ?_
    refine lv_istore (lv' := [(21, .int (nI 0)), (20, .int (nI n)), (0, .ref (b)), (1, .ref (qx)), (2, .ref (qa 0)), (3, .ref (qa 1)), (4, .ref (qa 2)), (5, .ref (qa 3)), (6, .ref (qa 4)), (7, .ref (qa 5)), (8, .ref (qa 6)), (9, .ref (qa 7)), (10, .ref (qa 8)), (11, .ref (qa 9)), (12, .int 1), (13, .int (nI (nj g))), (14, .int (nI (mo g))), (15, .int (nI t)), (16, .int v), (17, .int (nI wh)), (18, .int (nI p9))]) hx hb dL_law_1049 hl (by decide) rfl (fun ls hl => ?_)
    refine lv_iconst (v := nI 0) hx hb dL_law_1051 (by decide) ?_
    refine lv_istore (lv' := [(22, .int (nI 0)), (21, .int (nI 0)), (20, .int (nI n)), (0, .ref (b)), (1, .ref (qx)), (2, .ref (qa 0)), (3, .ref (qa 1)), (4, .ref (qa 2)), (5, .ref (qa 3)), (6, .ref (qa 4)), (7, .ref (qa 5)), (8, .ref (qa 6)), (9, .ref (qa 7)), (10, .ref (qa 8)), (11, .ref (qa 9)), (12, .int 1), (13, .int (nI (nj g))), (14, .int (nI (mo g))), (15, .int (nI t)), (16, .int v), (17, .int (nI wh)), (18, .int (nI p9))]) hx hb dL_law_1052 hl (by decide) rfl (fun ls hl => ?_)
    have lp_1054 : ∀ (k9 : Nat) (k : Nat) (gm : GS) (hk : k ≤ n) (hA : AR (pas k g) gm), n - k < k9 → ∀ (H : Heap) (locs : List Loc), LI z qx qa (g) gm H → va_S (zA z) s.heap H locs → ∀ (ls : Array Slot), lv_has ls 26 [(0, .ref (b)), (1, .ref (qx)), (2, .ref (qa 0)), (3, .ref (qa 1)), (4, .ref (qa 2)), (5, .ref (qa 3)), (6, .ref (qa 4)), (7, .ref (qa 5)), (8, .ref (qa 6)), (9, .ref (qa 7)), (10, .ref (qa 8)), (11, .ref (qa 9)), (12, .int 1), (13, .int (nI (nj g))), (14, .int (nI (mo (pas k g)))), (15, .int (nI t)), (20, .int (nI n)), (21, .int (nI (pct k g))), (22, .int (nI k))] → W p l e room_1 s m args below meth c H locs (cells) (slots) Q (F0 m 1054 ls []) := by
      intro k9
      induction k9 with
      | zero => intro k gm hk hA h9; exact absurd h9 (Nat.not_lt_zero _)
      | succ k9 ih_1054 =>
        intro k gm hk hA hk9 H locs hW hS ls hl
        refine lv_iload hx hb dL_law_1054 (lv_at hl 18 rfl) ?_
        refine lv_iload hx hb dL_law_1056 (lv_at hl 16 rfl) ?_
        refine g_icmp_ge S (by omega) (by omega) (tgt := 1237) dL_law_1058 (by decide) (fun c_1058_1 => ?_) (fun c_1058_1 => ?_)
        · obtain rfl : k = n := by omega
          obtain ⟨hBk, hmk⟩ := bd_pas hB k (by omega)
          refine lv_aload_n hx hb dL_law_1237 rfl (lv_at hl 1 rfl) ?_
          refine lv_iload hx hb dL_law_1238 (lv_at hl 16 rfl) ?_
          refine l_pcall (As := [.int (nI k)]) (rest := []) (sp := sp_pass g (nI k)) (Ea := xA) (Eb := xS) (Ec := xI) S hE hS hW (t_pass (by omega) (by omega) (by omega)) (fun w => c_X5_pass l z hst w (g) gm (fun _ => 0) hB.ok (nI k)) (cwV 1 hts (gU_V tw_177 tw_178 tw_179 tw_1 tw_180) rfl rfl rfl (by decide +kernel) ⟨Nat.le_of_ble_eq_true rfl, Nat.le_of_ble_eq_true rfl⟩) rfl hl.1 rfl (Nat.le_of_ble_eq_true rfl) dL_law_1240 ⟨Nat.le_trans (by omega) hf.1, Nat.le_trans (by omega) hf.2⟩ (fun H locs hW hS => ?_)
          refine lv_iload hx hb dL_law_1243 (lv_at hl 17 rfl) ?_
          refine lv_icmp_ne (tgt := 1261) hx hb dL_law_1245 (by decide) (fun q9 => absurd (rfl) q9) (fun c_1245_2 => ?_)
          refine lv_aload_n hx hb dL_law_1248 rfl (lv_at hl 1 rfl) ?_
          refine l_rcall (As := []) (rest := []) S hE hS hW (fun w => c_X5_month l z w (pas k g) gm (fun _ => 0) hBk.ok) (cwV 0 hts (gU_V tw_571 tw_572 tw_573 tw_1 tw_574) rfl rfl rfl (by decide +kernel) ⟨Nat.le_of_ble_eq_true rfl, Nat.le_of_ble_eq_true rfl⟩) rfl hl.1 rfl (Nat.le_of_ble_eq_true rfl) dL_law_1249 ⟨Nat.le_trans (by omega) hf.1, Nat.le_trans (by omega) hf.2⟩ ?_
          refine lv_iload hx hb dL_law_1252 (lv_at hl 14 rfl) ?_
          refine lv_icmp_ne (tgt := 1261) hx hb dL_law_1254 (by decide) (fun q9 => absurd (rfl) q9) (fun c_1254_3 => ?_)
          refine lv_iconst (v := 1) hx hb dL_law_1257 (by decide) ?_
          refine lv_goto (tgt := 1262) hx hb dL_law_1258 (by decide) ?_
          refine lv_istore (lv' := [(12, .int 1), (0, .ref (b)), (1, .ref (qx)), (2, .ref (qa 0)), (3, .ref (qa 1)), (4, .ref (qa 2)), (5, .ref (qa 3)), (6, .ref (qa 4)), (7, .ref (qa 5)), (8, .ref (qa 6)), (9, .ref (qa 7)), (10, .ref (qa 8)), (11, .ref (qa 9)), (13, .int (nI (nj g))), (14, .int (nI (mo (pas k g)))), (15, .int (nI t)), (20, .int (nI k)), (21, .int (nI (pct k g))), (22, .int (nI k))]) hx hb dL_law_1262 hl (by decide) rfl (fun ls hl => ?_)
          rw [← nj_pas (g := g) k] at hl
          refine W.widen (k := cells + 3) (n := slots + 300) (by omega) (by omega) ?_
          exact kk (pas k g) _ _ _ _ hBk hA (by omega) hW hS (lv_sub hl [1, 2, 3, 4, 5, 6, 7, 8, 9, 10, 11, 12, 0, 13, 14, 15] rfl)
        · obtain ⟨hBk, hmk⟩ := bd_pas hB k (by omega)
          have hpc := pct_rng hnj k
          refine lv_iconst (v := nI 0) hx hb dL_law_1061 (by decide) ?_
          refine lv_istore (lv' := [(23, .int (nI 0)), (0, .ref (b)), (1, .ref (qx)), (2, .ref (qa 0)), (3, .ref (qa 1)), (4, .ref (qa 2)), (5, .ref (qa 3)), (6, .ref (qa 4)), (7, .ref (qa 5)), (8, .ref (qa 6)), (9, .ref (qa 7)), (10, .ref (qa 8)), (11, .ref (qa 9)), (12, .int 1), (13, .int (nI (nj g))), (14, .int (nI (mo (pas k g)))), (15, .int (nI t)), (20, .int (nI n)), (21, .int (nI (pct k g))), (22, .int (nI k))]) hx hb dL_law_1062 hl (by decide) rfl (fun ls hl => ?_)
          refine law_mb l hst S hE hBk (by rw [pst_0]; exact hA) (nj g) t n (pct k g) k hW hS (lv_sub hl [1, 2, 3, 4, 5, 6, 7, 8, 9, 10, 11, 12, 13, 14, 15, 16, 17, 18, 19, 0] rfl) ⟨Nat.le_trans (by omega) hf.1, Nat.le_trans (by omega) hf.2⟩ (fun gm H locs ls hA hW hS hl => ?_)
          refine lv_iconst (v := nI 0) hx hb dL_law_1095 (by decide) ?_
          refine lv_istore (lv' := [(23, .int (nI 0)), (0, .ref (b)), (1, .ref (qx)), (2, .ref (qa 0)), (3, .ref (qa 1)), (4, .ref (qa 2)), (5, .ref (qa 3)), (6, .ref (qa 4)), (7, .ref (qa 5)), (8, .ref (qa 6)), (9, .ref (qa 7)), (10, .ref (qa 8)), (11, .ref (qa 9)), (12, .int 1), (13, .int (nI (nj g))), (14, .int (nI (mo (pas k g)))), (15, .int (nI t)), (20, .int (nI n)), (21, .int (nI (pct k g))), (22, .int (nI k))]) hx hb dL_law_1096 hl (by decide) rfl (fun ls hl => ?_)
          refine law_mp l hst S hE hBk (hA) (nj g) t n (pct k g) k hW hS (lv_sub hl [1, 2, 3, 4, 5, 6, 7, 8, 9, 10, 11, 12, 13, 14, 15, 16, 17, 18, 19, 0] rfl) ⟨Nat.le_trans (by omega) hf.1, Nat.le_trans (by omega) hf.2⟩ (fun gm H locs ls hA hW hS hl => ?_)
          refine lv_iconst (v := nI 0) hx hb dL_law_1136 (by decide) ?_
          refine lv_istore (lv' := [(23, .int (nI 0)), (0, .ref (b)), (1, .ref (qx)), (2, .ref (qa 0)), (3, .ref (qa 1)), (4, .ref (qa 2)), (5, .ref (qa 3)), (6, .ref (qa 4)), (7, .ref (qa 5)), (8, .ref (qa 6)), (9, .ref (qa 7)), (10, .ref (qa 8)), (11, .ref (qa 9)), (12, .int 1), (13, .int (nI (nj g))), (14, .int (nI (mo (pas k g)))), (15, .int (nI t)), (20, .int (nI n)), (21, .int (nI (pct k g))), (22, .int (nI k))]) hx hb dL_law_1137 hl (by decide) rfl (fun ls hl => ?_)
          rw [← nj_pas (g := g) k] at hl
          refine law_mj l hst S hE hBk hA t n (pct k g) k (by omega) hW hS (lv_sub hl [1, 2, 3, 4, 5, 6, 7, 8, 9, 10, 11, 12, 13, 14, 15, 16, 17, 18, 19, 0] rfl) ⟨Nat.le_trans (by omega) hf.1, Nat.le_trans (by omega) hf.2⟩ (fun gm H locs ls hA hW hS hl => ?_)
          rw [show pct k g + cntN (nj (pas k g)) (brk (pas k g)) = pct (k + 1) g from rfl, nj_pas (g := g) k] at hl
          have hl : lv_has ls 26 [(0, .ref (b)), (1, .ref (qx)), (2, .ref (qa 0)), (3, .ref (qa 1)), (4, .ref (qa 2)), (5, .ref (qa 3)), (6, .ref (qa 4)), (7, .ref (qa 5)), (8, .ref (qa 6)), (9, .ref (qa 7)), (10, .ref (qa 8)), (11, .ref (qa 9)), (12, .int 1), (13, .int (nI (nj g))), (14, .int (nI (mo (pas k g)))), (15, .int (nI t)), (20, .int (nI n)), (21, .int (nI (pct (k + 1) g))), (22, .int (nI k))] := hl
          refine lv_iinc (v := nI ((mo (pas k g)) + 1)) (lv' := [(14, .int (nI ((mo (pas k g)) + 1))), (0, .ref (b)), (1, .ref (qx)), (2, .ref (qa 0)), (3, .ref (qa 1)), (4, .ref (qa 2)), (5, .ref (qa 3)), (6, .ref (qa 4)), (7, .ref (qa 5)), (8, .ref (qa 6)), (9, .ref (qa 7)), (10, .ref (qa 8)), (11, .ref (qa 9)), (12, .int 1), (13, .int (nI (nj g))), (15, .int (nI t)), (20, .int (nI n)), (21, .int (nI (pct (k + 1) g))), (22, .int (nI k))]) hx hb dL_law_1228 hl (k := 14) rfl (nI_1 _) (by decide) rfl (fun ls hl => ?_)
          rw [show mo (pas k g) + 1 = mo (pas (k + 1) g) from (bd_m hBk (by omega)).2.symm] at hl
          refine lv_iinc (v := nI (k + 1)) (lv' := [(22, .int (nI (k + 1))), (14, .int (nI (mo (pas (k + 1) g)))), (0, .ref (b)), (1, .ref (qx)), (2, .ref (qa 0)), (3, .ref (qa 1)), (4, .ref (qa 2)), (5, .ref (qa 3)), (6, .ref (qa 4)), (7, .ref (qa 5)), (8, .ref (qa 6)), (9, .ref (qa 7)), (10, .ref (qa 8)), (11, .ref (qa 9)), (12, .int 1), (13, .int (nI (nj g))), (15, .int (nI t)), (20, .int (nI n)), (21, .int (nI (pct (k + 1) g)))]) hx hb dL_law_1231 hl (k := 18) rfl (nI_1 _) (by decide) rfl (fun ls hl => ?_)
          refine lv_goto (tgt := 1054) hx hb dL_law_1234 (by decide) ?_
          exact ih_1054 (k + 1) _ (by omega) (ps_d hBk hA) (by omega) _ _ hW hS ls (lv_sub hl [2, 3, 4, 5, 6, 7, 8, 9, 10, 11, 12, 13, 14, 15, 1, 16, 17, 18, 0] rfl)
    exact lp_1054 ((n - 0) + 1) 0 _ (Nat.zero_le _) hA (Nat.lt_succ_self _) _ _ hW hS ls (lv_sub hl [3, 4, 5, 6, 7, 8, 9, 10, 11, 12, 13, 14, 15, 16, 17, 18, 2, 1, 0] rfl)
end LPA
