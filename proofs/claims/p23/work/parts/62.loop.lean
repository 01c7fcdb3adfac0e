/-! ===== the law: its loops ===== -/
section LLO
variable {p : Program} {e : Env} {s : State} {m : MethodId} {args : Array Value} {below : List Frame} {meth : Method} {c : Code} {H : Heap} {locs : List Loc} {cells slots : Nat} {Q : State → Prop} {ls : Array Slot} {z : ZE} {b L qx : Nat} {qa : Nat → Nat} {xs : Nat → Int32} {g gm G : GS}
theorem hz_up {gm : GS} {m k i : Nat} {x : Int32} (hk : k < m) (h : ∀ k, m ≤ k → k < 10 → ∀ i, gm k i = 0) : ∀ q, m ≤ q → q < 10 → ∀ j, gup gm k i x q j = 0 := fun q h1 h2 j => by
  rw [gup_k (by omega)]; exact h q h1 h2 j
theorem up_all2 {gm : GS} {k q : Nat} {f : Nat → Int32} {x : Int32} (h : ∀ p, p < q → gm k p = f p) (hx : x = f q) : ∀ p, p < q + 1 → gup gm k q x k p = f p := fun p hp => by
  by_cases e : p = q
  · subst e; rw [gup_s, hx]
  · rw [gup_i e]; exact h p (by omega)
set_option maxHeartbeats 4000000 in
set_option maxRecDepth 100000 in
/-- the weather at first -/
theorem law_71 (l : Launch) (hst : l.stackTraces = false) (S : CallFix p m c cL_law 26 s args wU RL) (hE : EV z s s.heap) (hz : ∀ k, 1 ≤ k → k < 10 → ∀ i, gm k i = 0) (hW : LI z qx qa (g) gm H) (hS : va_S (zA z) s.heap H locs) (hl : lv_has ls 26 [(0, .ref (b)), (1, .ref (qx)), (2, .ref (qa 0)), (3, .ref (qa 1)), (4, .ref (qa 2)), (5, .ref (qa 3)), (6, .ref (qa 4)), (7, .ref (qa 5)), (8, .ref (qa 6)), (9, .ref (qa 7)), (10, .ref (qa 8)), (11, .ref (qa 9)), (12, .int 1), (13, .int (nI 0))]) (hf : cells + 0 ≤ room_1.cells ∧ slots + 0 ≤ room_1.slots)
    (kk : ∀ (gm : GS) (H : Heap) (locs : List Loc) (ls : Array Slot), (∀ i, i < 12 → gm 0 i = 100) → (∀ k, 1 ≤ k → k < 10 → ∀ i, gm k i = 0) → LI z qx qa (g) gm H → va_S (zA z) s.heap H locs → lv_has ls 26 [(0, .ref (b)), (1, .ref (qx)), (2, .ref (qa 0)), (3, .ref (qa 1)), (4, .ref (qa 2)), (5, .ref (qa 3)), (6, .ref (qa 4)), (7, .ref (qa 5)), (8, .ref (qa 6)), (9, .ref (qa 7)), (10, .ref (qa 8)), (11, .ref (qa 9)), (12, .int 1)] → W p l e room_1 s m args below meth c H locs (cells + 0) (slots + 0) Q (F0 m 90 ls [])) : W p l e room_1 s m args below meth c H locs (cells) (slots) Q (F0 m 71 ls []) := by
  have hx := S.1
  have hb := S.2.1
  have hown := S.2.2.2.1
  have hts := S.2.2.2.2
  have hml := S.2.2.1
  have lp_71 : ∀ (k9 : Nat) (i : Nat) (gm : GS) (hi : i ≤ 12) (hw : ∀ j, j < i → gm 0 j = 100) (hz : ∀ k, 1 ≤ k → k < 10 → ∀ i, gm k i = 0), 12 - i < k9 → ∀ (H : Heap) (locs : List Loc), LI z qx qa (g) gm H → va_S (zA z) s.heap H locs → ∀ (ls : Array Slot), lv_has ls 26 [(0, .ref (b)), (1, .ref (qx)), (2, .ref (qa 0)), (3, .ref (qa 1)), (4, .ref (qa 2)), (5, .ref (qa 3)), (6, .ref (qa 4)), (7, .ref (qa 5)), (8, .ref (qa 6)), (9, .ref (qa 7)), (10, .ref (qa 8)), (11, .ref (qa 9)), (12, .int 1), (13, .int (nI i))] → W p l e room_1 s m args below meth c H locs (cells) (slots) Q (F0 m 71 ls []) := by
    intro k9
    induction k9 with
    | zero => intro i gm hi hw hz h9; exact absurd h9 (Nat.not_lt_zero _)
    | succ k9 ih_71 =>
      intro i gm hi hw hz hk9 H locs hW hS ls hl
      refine lv_iload hx hb dL_law_71 (lv_at hl 13 rfl) ?_
      refine lv_bipush (v := 12) hx hb dL_law_73 (by decide) ?_
      rw [show (12 : Int32) = nI 12 from rfl]
      refine g_icmp_ge S (by omega) (by omega) (tgt := 90) dL_law_75 (by decide) (fun c_75 => ?_) (fun c_75 => ?_)
      · obtain rfl : i = 12 := by omega
        refine W.widen (k := cells + 0) (n := slots + 0) (by omega) (by omega) ?_
        exact kk _ _ _ _ hw hz hW hS (lv_sub hl [0, 1, 2, 3, 4, 5, 6, 7, 8, 9, 10, 11, 12] rfl)
      · refine lv_aload_n hx hb dL_law_78 rfl (lv_at hl 2 rfl) ?_
        refine lv_iload hx hb dL_law_79 (lv_at hl 13 rfl) ?_
        refine lv_bipush (v := 100) hx hb dL_law_81 (by decide) ?_
        refine l_ast (j := i) S hE hS hW 0 rfl (vp_in_nI (show i < 12 from (by omega)) (by decide)) (nI_clamp (by omega)) dL_law_83 (fun H locs hW hS => ?_)
        refine lv_iinc (v := nI (i + 1)) (lv' := [(13, .int (nI (i + 1))), (0, .ref (b)), (1, .ref (qx)), (2, .ref (qa 0)), (3, .ref (qa 1)), (4, .ref (qa 2)), (5, .ref (qa 3)), (6, .ref (qa 4)), (7, .ref (qa 5)), (8, .ref (qa 6)), (9, .ref (qa 7)), (10, .ref (qa 8)), (11, .ref (qa 9)), (12, .int 1)]) hx hb dL_law_84 hl (k := 13) rfl (nI_1 _) (by decide) rfl (fun ls hl => ?_)
        refine lv_goto (tgt := 71) hx hb dL_law_87 (by decide) ?_
        exact ih_71 (i + 1) _ (by omega) (up_all2 (f := fun _ => 100) hw rfl) (hz_up (by decide) hz) (by omega) _ _ hW hS ls (lv_sub hl [1, 2, 3, 4, 5, 6, 7, 8, 9, 10, 11, 12, 13, 0] rfl)
  exact lp_71 ((12 - 0) + 1) 0 _ (by omega) (fun p hp => absurd hp (Nat.not_lt_zero p)) hz (Nat.lt_succ_self _) _ _ hW hS ls (lv_sub hl [0, 1, 2, 3, 4, 5, 6, 7, 8, 9, 10, 11, 12, 13] rfl)
set_option maxHeartbeats 4000000 in
set_option maxRecDepth 100000 in
/-- the boards -/
theorem law_93 (l : Launch) (hst : l.stackTraces = false) (S : CallFix p m c cL_law 26 s args wU RL) (hE : EV z s s.heap) (hX : va_X b L xs s s.heap) (hbl : b < s.heap.size) (hbA : ¬ zA z b) (hbz : b < zB z) (hL : L ≤ 260) (hI : IB g 0) (hw : ∀ i, i < 12 → gm 0 i = 100) (hz : ∀ k, 1 ≤ k → k < 10 → ∀ i, gm k i = 0) (hW : LI z qx qa (g) gm H) (hS : va_S (zA z) s.heap H locs) (hl : lv_has ls 26 [(0, .ref (b)), (1, .ref (qx)), (2, .ref (qa 0)), (3, .ref (qa 1)), (4, .ref (qa 2)), (5, .ref (qa 3)), (6, .ref (qa 4)), (7, .ref (qa 5)), (8, .ref (qa 6)), (9, .ref (qa 7)), (10, .ref (qa 8)), (11, .ref (qa 9)), (12, .int 1), (13, .int (nI 0))]) (hf : cells + 12 ≤ room_1.cells ∧ slots + 351 ≤ room_1.slots)
    (kk : ∀ (g gm : GS) (H : Heap) (locs : List Loc) (ls : Array Slot), IB g 3 → (∀ i, i < 12 → gm 0 i = 100) → (∀ b, b < 3 → gm 1 b = g 12 b) → (∀ k, 2 ≤ k → k < 10 → ∀ i, gm k i = 0) → LI z qx qa g gm H → va_S (zA z) s.heap H locs → lv_has ls 26 [(0, .ref (b)), (1, .ref (qx)), (2, .ref (qa 0)), (3, .ref (qa 1)), (4, .ref (qa 2)), (5, .ref (qa 3)), (6, .ref (qa 4)), (7, .ref (qa 5)), (8, .ref (qa 6)), (9, .ref (qa 7)), (10, .ref (qa 8)), (11, .ref (qa 9)), (12, .int 1)] → W p l e room_1 s m args below meth c H locs (cells + 12) (slots + 351) Q (F0 m 164 ls [])) : W p l e room_1 s m args below meth c H locs (cells) (slots) Q (F0 m 93 ls []) := by
  have hx := S.1
  have hb := S.2.1
  have hown := S.2.2.2.1
  have hts := S.2.2.2.2
  have hml := S.2.2.1
  have lp_93 : ∀ (k9 : Nat) (i : Nat) (g gm : GS) (hi : i ≤ 3) (hI : IB g i) (hw : ∀ i, i < 12 → gm 0 i = 100) (h1 : ∀ b, b < i → gm 1 b = g 12 b) (hz : ∀ k, 2 ≤ k → k < 10 → ∀ i, gm k i = 0), 3 - i < k9 → ∀ (H : Heap) (locs : List Loc), LI z qx qa (g) gm H → va_S (zA z) s.heap H locs → ∀ (ls : Array Slot), lv_has ls 26 [(0, .ref (b)), (1, .ref (qx)), (2, .ref (qa 0)), (3, .ref (qa 1)), (4, .ref (qa 2)), (5, .ref (qa 3)), (6, .ref (qa 4)), (7, .ref (qa 5)), (8, .ref (qa 6)), (9, .ref (qa 7)), (10, .ref (qa 8)), (11, .ref (qa 9)), (12, .int 1), (13, .int (nI i))] → W p l e room_1 s m args below meth c H locs (cells + 4 * i) (slots + 117 * i) Q (F0 m 93 ls []) := by
    intro k9
    induction k9 with
    | zero => intro i g gm hi hI hw h1 hz h9; exact absurd h9 (Nat.not_lt_zero _)
    | succ k9 ih_93 =>
      intro i g gm hi hI hw h1 hz hk9 H locs hW hS ls hl
      refine lv_iload hx hb dL_law_93 (lv_at hl 13 rfl) ?_
      refine lv_iconst (v := 3) hx hb dL_law_95 (by decide) ?_
      rw [show (3 : Int32) = nI 3 from rfl]
      refine g_icmp_ge S (by omega) (by omega) (tgt := 164) dL_law_96 (by decide) (fun c_96 => ?_) (fun c_96 => ?_)
      · obtain rfl : i = 3 := by omega
        refine W.widen (k := cells + 12) (n := slots + 351) (by omega) (by omega) ?_
        exact kk _ _ _ _ _ hI hw h1 hz hW hS (lv_sub hl [0, 1, 2, 3, 4, 5, 6, 7, 8, 9, 10, 11, 12] rfl)
      · refine lv_aload_n hx hb dL_law_99 rfl (lv_at hl 3 rfl) ?_
        refine lv_iload hx hb dL_law_100 (lv_at hl 13 rfl) ?_
        refine lv_bipush (v := 40) hx hb dL_law_102 (by decide) ?_
        refine lv_aload_n hx hb dL_law_104 rfl (lv_at hl 0 rfl) ?_
        refine lv_bipush (v := 60) hx hb dL_law_105 (by decide) ?_
        refine lv_iload hx hb dL_law_107 (lv_at hl 13 rfl) ?_
        refine lv_iadd hx hb dL_law_109 ?_
        rw [show (60 : Int32) + nI i = nI (60 + i) from nI_add 60 _]
        refine l_cell (rest := [.int 40, .int (nI i), .ref (qa 1)]) S hE hS hX hbl hbA (c_L_cell l z b L (60 + i) xs hL (by omega) hbz) (cwS 2 hts (gU_S tw_601 tw_602 tw_0 tw_603) rfl rfl rfl (by decide +kernel) ⟨Nat.le_of_ble_eq_true rfl, Nat.le_of_ble_eq_true rfl⟩) rfl hl.1 rfl (Nat.le_of_ble_eq_true rfl) dL_law_110 ⟨Nat.le_trans (by omega) hf.1, Nat.le_trans (by omega) hf.2⟩ ?_
        refine lv_sipush (v := nI 261) hx hb dL_law_113 (by decide) ?_
        refine g_callS (As := [.int (celV L xs (60 + i)), .int (nI 261)]) (rest := [.int 40, .int (nI i), .ref (qa 1)]) S hE hS (c_L_up l z (celV L xs (60 + i)) (261) (by omega) (by omega)) (cwS 2 hts (gU_S tw_598 tw_599 tw_0 tw_600) rfl rfl rfl (by decide +kernel) ⟨Nat.le_of_ble_eq_true rfl, Nat.le_of_ble_eq_true rfl⟩) trivial rfl hl.1 rfl (Nat.le_of_ble_eq_true rfl) dL_law_116 ⟨Nat.le_trans (by omega) hf.1, Nat.le_trans (by omega) hf.2⟩ ?_
        refine lv_iadd hx hb dL_law_119 ?_
        rw [show (40 : Int32) + nI (upN (celV L xs (60 + i)) (261)) = nI (40 + (upN (celV L xs (60 + i)) (261))) from nI_add 40 _]
        obtain ⟨m9, hm9, em9⟩ : ∃ y : Nat, (40 ≤ y ∧ y ≤ 300) ∧ 40 + (upN (celV L xs (60 + i)) (261)) = y := ⟨_, (by have := upN_lt (celV L xs (60 + i)) (show 0 < 261 by decide); omega), rfl⟩
        rw [em9]
        refine l_ast (j := i) S hE hS hW 1 rfl (vp_in_nI (show i < 3 from (by omega)) (by decide)) (nI_clamp (by omega)) dL_law_120 (fun H locs hW hS => ?_)
        refine lv_iload hx hb dL_law_121 (lv_at hl 12 rfl) ?_
        refine lv_if_eq (tgt := 155) hx hb dL_law_123 (by decide) (fun h9 => absurd h9 (by decide)) (fun _ => ?_)
        refine lv_aload_n hx hb dL_law_126 rfl (lv_at hl 1 rfl) ?_
        refine lv_iload hx hb dL_law_127 (lv_at hl 13 rfl) ?_
        refine lv_iload hx hb dL_law_129 (lv_at hl 13 rfl) ?_
        refine lv_iload hx hb dL_law_131 (lv_at hl 13 rfl) ?_
        refine lv_sipush (v := 6000) hx hb dL_law_133 (by decide) ?_
        refine lv_sipush (v := 3000) hx hb dL_law_136 (by decide) ?_
        refine lv_aload_n hx hb dL_law_139 rfl (lv_at hl 3 rfl) ?_
        refine lv_iload hx hb dL_law_140 (lv_at hl 13 rfl) ?_
        refine l_ald (v := nI m9) (j := i) S hE hW 1 rfl (vp_in_nI (show i < 3 from (by omega)) (by decide)) (nI_clamp (by omega)) gup_s dL_law_142 ?_
        refine l_pcall (As := [.int (nI i), .int (nI i), .int (nI i), .int 6000, .int 3000, .int (nI m9)]) (rest := []) (sp := sp_board g (nI i) (nI i) (nI i) (6000) (3000) (nI m9)) (Ea := xA) (Eb := xS) (Ec := xI) S hE hS hW (t_board hI (by omega) hm9) (fun w => c_X5_board l z hst w (g) (gup gm 1 (i) (nI m9)) (fun _ => 0) hI.1 (nI i) (nI i) (nI i) (6000) (3000) (nI m9)) (cwV 6 hts (gU_V tw_279 tw_280 tw_281 tw_1 tw_282) rfl rfl rfl (by decide +kernel) ⟨Nat.le_of_ble_eq_true rfl, Nat.le_of_ble_eq_true rfl⟩) rfl hl.1 rfl (Nat.le_of_ble_eq_true rfl) dL_law_143 ⟨Nat.le_trans (by omega) hf.1, Nat.le_trans (by omega) hf.2⟩ (fun H locs hW hS => ?_)
        refine lv_iload hx hb dL_law_146 (lv_at hl 13 rfl) ?_
        refine lv_icmp_ne (tgt := 155) hx hb dL_law_148 (by decide) (fun q9 => absurd (rfl) q9) (fun c_148_1 => ?_)
        refine lv_iconst (v := 1) hx hb dL_law_151 (by decide) ?_
        refine lv_goto (tgt := 156) hx hb dL_law_152 (by decide) ?_
        refine lv_istore (lv' := [(12, .int 1), (0, .ref (b)), (1, .ref (qx)), (2, .ref (qa 0)), (3, .ref (qa 1)), (4, .ref (qa 2)), (5, .ref (qa 3)), (6, .ref (qa 4)), (7, .ref (qa 5)), (8, .ref (qa 6)), (9, .ref (qa 7)), (10, .ref (qa 8)), (11, .ref (qa 9)), (13, .int (nI i))]) hx hb dL_law_156 hl (by decide) rfl (fun ls hl => ?_)
        refine lv_iinc (v := nI (i + 1)) (lv' := [(13, .int (nI (i + 1))), (12, .int 1), (0, .ref (b)), (1, .ref (qx)), (2, .ref (qa 0)), (3, .ref (qa 1)), (4, .ref (qa 2)), (5, .ref (qa 3)), (6, .ref (qa 4)), (7, .ref (qa 5)), (8, .ref (qa 6)), (9, .ref (qa 7)), (10, .ref (qa 8)), (11, .ref (qa 9))]) hx hb dL_law_158 hl (k := 13) rfl (nI_1 _) (by decide) rfl (fun ls hl => ?_)
        refine lv_goto (tgt := 93) hx hb dL_law_161 (by decide) ?_
        refine W.widen (k := cells + 4 * (i + 1)) (n := slots + 117 * (i + 1)) (by omega) (by omega) ?_
        exact ih_93 (i + 1) _ _ (by omega) (ib_s hI (by omega) hm9).1 (fun j hj => (gup_k (by decide)).trans (hw j hj)) (up_all2 (f := bst g (nI i) (nI i) (nI i) 6000 3000 (nI m9) 12) (fun b hb => (h1 b hb).trans ((ib_s hI (by omega) hm9).2 b hb).symm) (by rw [← hI.2.1.1]; simp [bst, gup])) (hz_up (by decide) hz) (by omega) _ _ hW hS ls (lv_sub hl [2, 3, 4, 5, 6, 7, 8, 9, 10, 11, 12, 13, 1, 0] rfl)
  refine W.widen (k := cells + 4 * 0) (n := slots + 117 * 0) (by omega) (by omega) ?_
  exact lp_93 ((3 - 0) + 1) 0 _ _ (by omega) hI hw (fun p hp => absurd hp (Nat.not_lt_zero p)) (fun k h1 h2 => hz k (by omega) h2) (Nat.lt_succ_self _) _ _ hW hS ls (lv_sub hl [0, 1, 2, 3, 4, 5, 6, 7, 8, 9, 10, 11, 12, 13] rfl)
theorem cut_ar {g gm : GS} {i W : Nat} (hI : IC g i) (hi : i < 6) (hW : 1000 ≤ W ∧ W ≤ 5000) (h2 : ∀ p, p < i → gm 2 p = g 21 p ∧ gm 3 p = g 20 p ∧ gm 4 p = g 22 p) : ∀ p, p < i + 1 →
    gup (gup (gup gm 2 i (g 12 (i % 3))) 4 i (g 12 (i % 3))) 3 i (nI W) 2 p = gup (cutst g (i % 3) (nI (100 + 400 * i)) 200 (nI W)) 3 0 100 21 p ∧ gup (gup (gup gm 2 i (g 12 (i % 3))) 4 i (g 12 (i % 3))) 3 i (nI W) 3 p = gup (cutst g (i % 3) (nI (100 + 400 * i)) 200 (nI W)) 3 0 100 20 p ∧ gup (gup (gup gm 2 i (g 12 (i % 3))) 4 i (g 12 (i % 3))) 3 i (nI W) 4 p = gup (cutst g (i % 3) (nI (100 + 400 * i)) 200 (nI W)) 3 0 100 22 p := fun p hp => by
  obtain ⟨-, q1, q2, q3, q4⟩ := ic_s hI hi hW
  by_cases e : p = i
  · subst e
    rw [q2, q3, q4]
    refine ⟨?_, gup_s, ?_⟩
    · rw [gup_k (by decide), gup_k (by decide), gup_s]
    · rw [gup_k (by decide), gup_s]
  · have hp2 : p < i := by omega
    rw [q1 21 p (by decide) (by decide) hp2, q1 20 p (by decide) (by decide) hp2, q1 22 p (by decide) (by decide) hp2]
    refine ⟨?_, ?_, ?_⟩
    · rw [gup_k (by decide), gup_k (by decide), gup_i e]; exact (h2 p hp2).1
    · rw [gup_i e, gup_k (by decide), gup_k (by decide)]; exact (h2 p hp2).2.1
    · rw [gup_k (by decide), gup_i e, gup_k (by decide)]; exact (h2 p hp2).2.2
set_option maxHeartbeats 4000000 in
set_option maxRecDepth 100000 in
/-- the parts -/
theorem law_167 (l : Launch) (hst : l.stackTraces = false) (S : CallFix p m c cL_law 26 s args wU RL) (hE : EV z s s.heap) (hX : va_X b L xs s s.heap) (hbl : b < s.heap.size) (hbA : ¬ zA z b) (hbz : b < zB z) (hL : L ≤ 260) (hI : IC g 0) (hw : ∀ i, i < 12 → gm 0 i = 100) (h1 : ∀ b, b < 3 → gm 1 b = g 12 b) (hz : ∀ k, 2 ≤ k → k < 10 → ∀ i, gm k i = 0) (hW : LI z qx qa (g) gm H) (hS : va_S (zA z) s.heap H locs) (hl : lv_has ls 26 [(0, .ref (b)), (1, .ref (qx)), (2, .ref (qa 0)), (3, .ref (qa 1)), (4, .ref (qa 2)), (5, .ref (qa 3)), (6, .ref (qa 4)), (7, .ref (qa 5)), (8, .ref (qa 6)), (9, .ref (qa 7)), (10, .ref (qa 8)), (11, .ref (qa 9)), (12, .int 1), (13, .int (nI 0))]) (hf : cells + 30 ≤ room_1.cells ∧ slots + 1302 ≤ room_1.slots)
    (kk : ∀ (g gm : GS) (H : Heap) (locs : List Loc) (ls : Array Slot), BD g → AR g gm → mo g = 0 → nj g = 0 → LI z qx qa g gm H → va_S (zA z) s.heap H locs → lv_has ls 26 [(0, .ref (b)), (1, .ref (qx)), (2, .ref (qa 0)), (3, .ref (qa 1)), (4, .ref (qa 2)), (5, .ref (qa 3)), (6, .ref (qa 4)), (7, .ref (qa 5)), (8, .ref (qa 6)), (9, .ref (qa 7)), (10, .ref (qa 8)), (11, .ref (qa 9)), (12, .int 1)] → W p l e room_1 s m args below meth c H locs (cells + 30) (slots + 1302) Q (F0 m 278 ls [])) : W p l e room_1 s m args below meth c H locs (cells) (slots) Q (F0 m 167 ls []) := by
  have hx := S.1
  have hb := S.2.1
  have hown := S.2.2.2.1
  have hts := S.2.2.2.2
  have hml := S.2.2.1
  have lp_167 : ∀ (k9 : Nat) (i : Nat) (g gm : GS) (hi : i ≤ 6) (hI : IC g i) (hw : ∀ i, i < 12 → gm 0 i = 100) (h1 : ∀ b, b < 3 → gm 1 b = g 12 b) (h2 : ∀ p, p < i → gm 2 p = g 21 p ∧ gm 3 p = g 20 p ∧ gm 4 p = g 22 p) (hz : ∀ k, 5 ≤ k → k < 10 → ∀ i, gm k i = 0), 6 - i < k9 → ∀ (H : Heap) (locs : List Loc), LI z qx qa (g) gm H → va_S (zA z) s.heap H locs → ∀ (ls : Array Slot), lv_has ls 26 [(0, .ref (b)), (1, .ref (qx)), (2, .ref (qa 0)), (3, .ref (qa 1)), (4, .ref (qa 2)), (5, .ref (qa 3)), (6, .ref (qa 4)), (7, .ref (qa 5)), (8, .ref (qa 6)), (9, .ref (qa 7)), (10, .ref (qa 8)), (11, .ref (qa 9)), (12, .int 1), (13, .int (nI i))] → W p l e room_1 s m args below meth c H locs (cells + 5 * i) (slots + 217 * i) Q (F0 m 167 ls []) := by
    intro k9
    induction k9 with
    | zero => intro i g gm hi hI hw h1 h2 hz h9; exact absurd h9 (Nat.not_lt_zero _)
    | succ k9 ih_167 =>
      intro i g gm hi hI hw h1 h2 hz hk9 H locs hW hS ls hl
      refine lv_iload hx hb dL_law_167 (lv_at hl 13 rfl) ?_
      refine lv_bipush (v := 6) hx hb dL_law_169 (by decide) ?_
      rw [show (6 : Int32) = nI 6 from rfl]
      refine g_icmp_ge S (by omega) (by omega) (tgt := 278) dL_law_171 (by decide) (fun c_171 => ?_) (fun c_171 => ?_)
      · obtain rfl : i = 6 := by omega
        refine W.widen (k := cells + 30) (n := slots + 1302) (by omega) (by omega) ?_
        exact kk _ _ _ _ _ (ic_bd hI) (ic_ar hI hw h1 h2 hz) hI.2.1.2.2.2.1 hI.2.1.2.2.1 hW hS (lv_sub hl [0, 1, 2, 3, 4, 5, 6, 7, 8, 9, 10, 11, 12] rfl)
      · refine lv_aload hx hb dL_law_174 (lv_at hl 4 rfl) ?_
        refine lv_iload hx hb dL_law_176 (lv_at hl 13 rfl) ?_
        refine lv_aload_n hx hb dL_law_178 rfl (lv_at hl 3 rfl) ?_
        refine lv_iload hx hb dL_law_179 (lv_at hl 13 rfl) ?_
        refine lv_iconst (v := 3) hx hb dL_law_181 (by decide) ?_
        refine lv_irem hx hb dL_law_182 (by decide) ?_
        rw [show (nI i : Int32) - nI i / 3 * 3 = nI ((i) % 3) from pk_rem (d := 3) (by omega) (by decide) (by decide)]
        refine l_ald (v := g 12 ((i) % 3)) (j := (i) % 3) S hE hW 1 rfl (vp_in_nI (show (i) % 3 < 3 from (by omega)) (by decide)) (nI_clamp (by omega)) (h1 _ (by omega)) dL_law_183 ?_
        refine l_ast (j := i) S hE hS hW 2 rfl (vp_in_nI (show i < 6 from (by omega)) (by decide)) (nI_clamp (by omega)) dL_law_184 (fun H locs hW hS => ?_)
        refine lv_aload hx hb dL_law_185 (lv_at hl 6 rfl) ?_
        refine lv_iload hx hb dL_law_187 (lv_at hl 13 rfl) ?_
        refine lv_aload hx hb dL_law_189 (lv_at hl 4 rfl) ?_
        refine lv_iload hx hb dL_law_191 (lv_at hl 13 rfl) ?_
        refine l_ald (v := g 12 ((i) % 3)) (j := i) S hE hW 2 rfl (vp_in_nI (show i < 6 from (by omega)) (by decide)) (nI_clamp (by omega)) gup_s dL_law_193 ?_
        refine l_ast (j := i) S hE hS hW 4 rfl (vp_in_nI (show i < 6 from (by omega)) (by decide)) (nI_clamp (by omega)) dL_law_194 (fun H locs hW hS => ?_)
        refine lv_aload hx hb dL_law_195 (lv_at hl 5 rfl) ?_
        refine lv_iload hx hb dL_law_197 (lv_at hl 13 rfl) ?_
        refine lv_sipush (v := 1000) hx hb dL_law_199 (by decide) ?_
        refine lv_aload_n hx hb dL_law_202 rfl (lv_at hl 0 rfl) ?_
        refine lv_bipush (v := 70) hx hb dL_law_203 (by decide) ?_
        refine lv_iload hx hb dL_law_205 (lv_at hl 13 rfl) ?_
        refine lv_iadd hx hb dL_law_207 ?_
        rw [show (70 : Int32) + nI i = nI (70 + i) from nI_add 70 _]
        refine l_cell (rest := [.int 1000, .int (nI i), .ref (qa 3)]) S hE hS hX hbl hbA (c_L_cell l z b L (70 + i) xs hL (by omega) hbz) (cwS 2 hts (gU_S tw_601 tw_602 tw_0 tw_603) rfl rfl rfl (by decide +kernel) ⟨Nat.le_of_ble_eq_true rfl, Nat.le_of_ble_eq_true rfl⟩) rfl hl.1 rfl (Nat.le_of_ble_eq_true rfl) dL_law_208 ⟨Nat.le_trans (by omega) hf.1, Nat.le_trans (by omega) hf.2⟩ ?_
        refine lv_sipush (v := nI 4001) hx hb dL_law_211 (by decide) ?_
        refine g_callS (As := [.int (celV L xs (70 + i)), .int (nI 4001)]) (rest := [.int 1000, .int (nI i), .ref (qa 3)]) S hE hS (c_L_up l z (celV L xs (70 + i)) (4001) (by omega) (by omega)) (cwS 2 hts (gU_S tw_598 tw_599 tw_0 tw_600) rfl rfl rfl (by decide +kernel) ⟨Nat.le_of_ble_eq_true rfl, Nat.le_of_ble_eq_true rfl⟩) trivial rfl hl.1 rfl (Nat.le_of_ble_eq_true rfl) dL_law_214 ⟨Nat.le_trans (by omega) hf.1, Nat.le_trans (by omega) hf.2⟩ ?_
        refine lv_iadd hx hb dL_law_217 ?_
        rw [show (1000 : Int32) + nI (upN (celV L xs (70 + i)) (4001)) = nI (1000 + (upN (celV L xs (70 + i)) (4001))) from nI_add 1000 _]
        obtain ⟨W9, hW9, eW9⟩ : ∃ y : Nat, (1000 ≤ y ∧ y ≤ 5000) ∧ 1000 + (upN (celV L xs (70 + i)) (4001)) = y := ⟨_, (by have := upN_lt (celV L xs (70 + i)) (show 0 < 4001 by decide); omega), rfl⟩
        rw [eW9]
        refine l_ast (j := i) S hE hS hW 3 rfl (vp_in_nI (show i < 6 from (by omega)) (by decide)) (nI_clamp (by omega)) dL_law_218 (fun H locs hW hS => ?_)
        refine lv_iload hx hb dL_law_219 (lv_at hl 12 rfl) ?_
        refine lv_if_eq (tgt := 269) hx hb dL_law_221 (by decide) (fun h9 => absurd h9 (by decide)) (fun _ => ?_)
        refine lv_aload_n hx hb dL_law_224 rfl (lv_at hl 1 rfl) ?_
        refine lv_iload hx hb dL_law_225 (lv_at hl 13 rfl) ?_
        refine lv_iconst (v := 3) hx hb dL_law_227 (by decide) ?_
        refine lv_irem hx hb dL_law_228 (by decide) ?_
        rw [show (nI i : Int32) - nI i / 3 * 3 = nI ((i) % 3) from pk_rem (d := 3) (by omega) (by decide) (by decide)]
        refine lv_bipush (v := 100) hx hb dL_law_229 (by decide) ?_
        refine lv_sipush (v := 400) hx hb dL_law_231 (by decide) ?_
        refine lv_iload hx hb dL_law_234 (lv_at hl 13 rfl) ?_
        refine lv_imul hx hb dL_law_236 ?_
        rw [show (400 : Int32) * nI i = nI (400 * (i)) from pk_mul 400 _]
        refine lv_iadd hx hb dL_law_237 ?_
        rw [show (100 : Int32) + nI (400 * (i)) = nI (100 + (400 * (i))) from nI_add 100 _]
        refine lv_sipush (v := 200) hx hb dL_law_238 (by decide) ?_
        refine lv_aload hx hb dL_law_241 (lv_at hl 5 rfl) ?_
        refine lv_iload hx hb dL_law_243 (lv_at hl 13 rfl) ?_
        refine l_ald (v := nI W9) (j := i) S hE hW 3 rfl (vp_in_nI (show i < 6 from (by omega)) (by decide)) (nI_clamp (by omega)) gup_s dL_law_245 ?_
        refine lv_iconst (v := 1) hx hb dL_law_246 (by decide) ?_
        refine l_pcall (As := [.int (nI ((i) % 3)), .int (nI (100 + (400 * (i)))), .int 200, .int (nI W9), .int 1]) (rest := []) (sp := sp_cut g (nI ((i) % 3)) (nI (100 + (400 * (i)))) (200) (nI W9) (1)) (Ea := xI) (Eb := xA) (Ec := xS) S hE hS hW (t_cut hI (by omega) hW9) (fun w => c_X5_cut l z hst w (g) (gup (gup (gup gm 2 (i) (g 12 ((i) % 3))) 4 (i) (g 12 ((i) % 3))) 3 (i) (nI W9)) (fun _ => 0) hI.1 (nI ((i) % 3)) (nI (100 + (400 * (i)))) (200) (nI W9) (1)) (cwV 5 hts (gU_V tw_409 tw_410 tw_411 tw_1 tw_412) rfl rfl rfl (by decide +kernel) ⟨Nat.le_of_ble_eq_true rfl, Nat.le_of_ble_eq_true rfl⟩) rfl hl.1 rfl (Nat.le_of_ble_eq_true rfl) dL_law_247 ⟨Nat.le_trans (by omega) hf.1, Nat.le_trans (by omega) hf.2⟩ (fun H locs hW hS => ?_)
        refine lv_iload hx hb dL_law_250 (lv_at hl 13 rfl) ?_
        refine lv_icmp_ne (tgt := 269) hx hb dL_law_252 (by decide) (fun q9 => absurd (rfl) q9) (fun c_252_1 => ?_)
        have hO9 := cut_ok hI (show i < 6 by omega) hW9
        obtain ⟨d9, hd9, ed9⟩ := cut_saw hI W9
        refine lv_aload_n hx hb dL_law_255 rfl (lv_at hl 1 rfl) ?_
        refine lv_iconst (v := 0) hx hb dL_law_256 (by decide) ?_
        refine l_pcall (As := [.int 0]) (rest := []) (sp := sp_sharpen (cutst g (i % 3) (nI (100 + 400 * i)) 200 (nI W9)) (0)) (Ea := xI) (Eb := xI) (Ec := xI) S hE hS hW (by rw [t_saw, ed9]) (fun w => c_X5_sharpen l z hst w (cutst g (i % 3) (nI (100 + 400 * i)) 200 (nI W9)) (gup (gup (gup gm 2 (i) (g 12 ((i) % 3))) 4 (i) (g 12 ((i) % 3))) 3 (i) (nI W9)) (fun _ => 0) hO9 (0)) (cwV 1 hts (gU_V tw_485 tw_486 tw_487 tw_1 tw_488) rfl rfl rfl (by decide +kernel) ⟨Nat.le_of_ble_eq_true rfl, Nat.le_of_ble_eq_true rfl⟩) rfl hl.1 rfl (Nat.le_of_ble_eq_true rfl) dL_law_257 ⟨Nat.le_trans (by omega) hf.1, Nat.le_trans (by omega) hf.2⟩ (fun H locs hW hS => ?_)
        refine lv_bipush (v := 98) hx hb dL_law_260 (by decide) ?_
        rw [show (98 : Int32) = nI 98 from rfl]
        refine g_icmp_gt S (by omega) (by omega) (tgt := 269) dL_law_262 (by decide) (fun h9 => absurd h9 (by omega)) (fun c_262_2 => ?_)
        refine lv_iconst (v := 1) hx hb dL_law_265 (by decide) ?_
        refine lv_goto (tgt := 270) hx hb dL_law_266 (by decide) ?_
        have hC := (ic_s hI (show i < 6 by omega) hW9).1
        refine lv_istore (lv' := [(12, .int 1), (0, .ref (b)), (1, .ref (qx)), (2, .ref (qa 0)), (3, .ref (qa 1)), (4, .ref (qa 2)), (5, .ref (qa 3)), (6, .ref (qa 4)), (7, .ref (qa 5)), (8, .ref (qa 6)), (9, .ref (qa 7)), (10, .ref (qa 8)), (11, .ref (qa 9)), (13, .int (nI i))]) hx hb dL_law_270 hl (by decide) rfl (fun ls hl => ?_)
        refine lv_iinc (v := nI (i + 1)) (lv' := [(13, .int (nI (i + 1))), (12, .int 1), (0, .ref (b)), (1, .ref (qx)), (2, .ref (qa 0)), (3, .ref (qa 1)), (4, .ref (qa 2)), (5, .ref (qa 3)), (6, .ref (qa 4)), (7, .ref (qa 5)), (8, .ref (qa 6)), (9, .ref (qa 7)), (10, .ref (qa 8)), (11, .ref (qa 9))]) hx hb dL_law_272 hl (k := 13) rfl (nI_1 _) (by decide) rfl (fun ls hl => ?_)
        refine lv_goto (tgt := 167) hx hb dL_law_275 (by decide) ?_
        refine W.widen (k := cells + 5 * (i + 1)) (n := slots + 217 * (i + 1)) (by omega) (by omega) ?_
        exact ih_167 (i + 1) _ _ (by omega) hC (fun j hj => (gup_k (by decide)).trans ((gup_k (by decide)).trans ((gup_k (by decide)).trans (hw j hj)))) (fun j hj => (gup_k (by decide)).trans ((gup_k (by decide)).trans ((gup_k (by decide)).trans (h1 j hj)))) (cut_ar hI (by omega) hW9 h2) (hz_up (by decide) (hz_up (by decide) (hz_up (by decide) hz))) (by omega) _ _ hW hS ls (lv_sub hl [2, 3, 4, 5, 6, 7, 8, 9, 10, 11, 12, 13, 1, 0] rfl)
  refine W.widen (k := cells + 5 * 0) (n := slots + 217 * 0) (by omega) (by omega) ?_
  exact lp_167 ((6 - 0) + 1) 0 _ _ (by omega) hI hw h1 (fun p hp => absurd hp (Nat.not_lt_zero p)) (fun k h1 h2 => hz k (by omega) h2) (Nat.lt_succ_self _) _ _ hW hS ls (lv_sub hl [0, 1, 2, 3, 4, 5, 6, 7, 8, 9, 10, 11, 12, 13] rfl)
set_option maxHeartbeats 4000000 in
set_option maxRecDepth 100000 in
/-- the turns -/
theorem law_287 (l : Launch) (hst : l.stackTraces = false) (S : CallFix p m c cL_law 26 s args wU RL) (hE : EV z s s.heap) (hX : va_X b L xs s s.heap) (hbl : b < s.heap.size) (hbA : ¬ zA z b) (hbz : b < zB z) (hL : L ≤ 260) (hB : BD g) (hA : AR g gm) (hmo : mo g ≤ 5 * 0) (hW : LI z qx qa (g) gm H) (hS : va_S (zA z) s.heap H locs) (hl : lv_has ls 26 [(0, .ref (b)), (1, .ref (qx)), (2, .ref (qa 0)), (3, .ref (qa 1)), (4, .ref (qa 2)), (5, .ref (qa 3)), (6, .ref (qa 4)), (7, .ref (qa 5)), (8, .ref (qa 6)), (9, .ref (qa 7)), (10, .ref (qa 8)), (11, .ref (qa 9)), (12, .int 1), (13, .int (nI (nj g))), (14, .int (nI (mo g))), (15, .int (nI 0))]) (hf : cells + 2624 ≤ room_1.cells ∧ slots + 28700 ≤ room_1.slots)
    (kk : ∀ (H : Heap) (locs : List Loc) (ls : Array Slot), va_S (zA z) s.heap H locs → lv_has ls 26 [(12, .int 1)] → W p l e room_1 s m args below meth c H locs (cells + 2624) (slots + 28700) Q (F0 m 1814 ls [])) : W p l e room_1 s m args below meth c H locs (cells) (slots) Q (F0 m 287 ls []) := by
  have hx := S.1
  have hb := S.2.1
  have hown := S.2.2.2.1
  have hts := S.2.2.2.2
  have hml := S.2.2.1
  have lp_287 : ∀ (k9 : Nat) (t : Nat) (g gm : GS) (ht : t ≤ 40) (hB : BD g) (hA : AR g gm) (hmo : mo g ≤ 5 * t), 40 - t < k9 → ∀ (H : Heap) (locs : List Loc), LI z qx qa (g) gm H → va_S (zA z) s.heap H locs → ∀ (ls : Array Slot), lv_has ls 26 [(0, .ref (b)), (1, .ref (qx)), (2, .ref (qa 0)), (3, .ref (qa 1)), (4, .ref (qa 2)), (5, .ref (qa 3)), (6, .ref (qa 4)), (7, .ref (qa 5)), (8, .ref (qa 6)), (9, .ref (qa 7)), (10, .ref (qa 8)), (11, .ref (qa 9)), (12, .int 1), (13, .int (nI (nj g))), (14, .int (nI (mo g))), (15, .int (nI t))] → W p l e room_1 s m args below meth c H locs (cells + 64 * t) (slots + 700 * t) Q (F0 m 287 ls []) := by
    intro k9
    induction k9 with
    | zero => intro t g gm ht hB hA hmo h9; exact absurd h9 (Nat.not_lt_zero _)
    | succ k9 ih_287 =>
      intro t g gm ht hB hA hmo hk9 H locs hW hS ls hl
      refine lv_iload hx hb dL_law_287 (lv_at hl 15 rfl) ?_
      refine lv_bipush (v := 40) hx hb dL_law_289 (by decide) ?_
      rw [show (40 : Int32) = nI 40 from rfl]
      refine g_icmp_ge S (by omega) (by omega) (tgt := 1814) dL_law_291 (by decide) (fun c_291 => ?_) (fun c_291 => ?_)
      · refine W.widen (k := cells + 2624) (n := slots + 28700) (by omega) (by omega) ?_
        exact kk _ _ _ hS (lv_sub hl [12] rfl)
      · refine lv_iload hx hb dL_law_294 (lv_at hl 12 rfl) ?_
        refine lv_if_eq (tgt := 1814) hx hb dL_law_296 (by decide) (fun h9 => absurd h9 (by decide)) (fun _ => ?_)
        refine law_299 l hst S hE hX hbl hbA hbz hL hB hA t (by omega) hmo hW hS (lv_sub hl [0, 1, 2, 3, 4, 5, 6, 7, 8, 9, 10, 11, 12, 13, 14, 15] rfl) ⟨Nat.le_trans (by omega) hf.1, Nat.le_trans (by omega) hf.2⟩ (fun g gm H locs ls hB hA hmo hW hS hl => ?_)
        refine lv_iconst (v := 1) hx hb dL_law_1264 (by decide) ?_
        refine lv_iload hx hb dL_law_1265 (lv_at hl 15 rfl) ?_
        refine lv_bipush (v := 24) hx hb dL_law_1267 (by decide) ?_
        refine lv_irem hx hb dL_law_1269 (by decide) ?_
        rw [show (nI t : Int32) - nI t / 24 * 24 = nI ((t) % 24) from pk_rem (d := 24) (by omega) (by decide) (by decide)]
        refine lv_iadd hx hb dL_law_1270 ?_
        rw [show (1 : Int32) + nI ((t) % 24) = nI (1 + ((t) % 24)) from nI_add 1 _]
        obtain ⟨ah, hah, eah⟩ : ∃ y : Nat, (1 ≤ y ∧ y ≤ 24) ∧ 1 + ((t) % 24) = y := ⟨_, (by have := Nat.mod_lt t (show 0 < 24 by decide); omega), rfl⟩
        rw [eah]
        refine lv_istore (lv' := [(20, .int (nI ah)), (0, .ref (b)), (1, .ref (qx)), (2, .ref (qa 0)), (3, .ref (qa 1)), (4, .ref (qa 2)), (5, .ref (qa 3)), (6, .ref (qa 4)), (7, .ref (qa 5)), (8, .ref (qa 6)), (9, .ref (qa 7)), (10, .ref (qa 8)), (11, .ref (qa 9)), (12, .int 1), (13, .int (nI (nj g))), (14, .int (nI (mo g))), (15, .int (nI t))]) hx hb dL_law_1271 hl (by decide) rfl (fun ls hl => ?_)
        refine lv_iconst (v := nI 0) hx hb dL_law_1273 (by decide) ?_
        refine lv_istore (lv' := [(21, .int (nI 0)), (20, .int (nI ah)), (0, .ref (b)), (1, .ref (qx)), (2, .ref (qa 0)), (3, .ref (qa 1)), (4, .ref (qa 2)), (5, .ref (qa 3)), (6, .ref (qa 4)), (7, .ref (qa 5)), (8, .ref (qa 6)), (9, .ref (qa 7)), (10, .ref (qa 8)), (11, .ref (qa 9)), (12, .int 1), (13, .int (nI (nj g))), (14, .int (nI (mo g))), (15, .int (nI t))]) hx hb dL_law_1274 hl (by decide) rfl (fun ls hl => ?_)
        refine law_1276 l hst S hE hB hA t ah hah.1 hah.2  hW hS (lv_sub hl [2, 3, 4, 5, 6, 7, 8, 9, 10, 11, 12, 13, 14, 15, 16, 17, 1, 0] rfl) ⟨Nat.le_trans (by omega) hf.1, Nat.le_trans (by omega) hf.2⟩ (fun gm H locs ls hA h8 hW hS hl => ?_)
        refine lv_iconst (v := nI 0) hx hb dL_law_1402 (by decide) ?_
        refine lv_istore (lv' := [(21, .int (nI 0)), (0, .ref (b)), (1, .ref (qx)), (2, .ref (qa 0)), (3, .ref (qa 1)), (4, .ref (qa 2)), (5, .ref (qa 3)), (6, .ref (qa 4)), (7, .ref (qa 5)), (8, .ref (qa 6)), (9, .ref (qa 7)), (10, .ref (qa 8)), (11, .ref (qa 9)), (12, .int 1), (13, .int (nI (nj g))), (14, .int (nI (mo g))), (15, .int (nI t)), (20, .int (nI ah))]) hx hb dL_law_1403 hl (by decide) rfl (fun ls hl => ?_)
        refine law_1405 l hst S hE hB hA t ah hah.1 hah.2 h8  hW hS (lv_sub hl [1, 2, 3, 4, 5, 6, 7, 8, 9, 10, 11, 12, 13, 14, 15, 16, 17, 0] rfl) ⟨Nat.le_trans (by omega) hf.1, Nat.le_trans (by omega) hf.2⟩ (fun gm H locs ls hA h8 h9 hW hS hl => ?_)
        refine lv_iconst (v := nI 0) hx hb dL_law_1424 (by decide) ?_
        refine lv_istore (lv' := [(21, .int (nI 0)), (0, .ref (b)), (1, .ref (qx)), (2, .ref (qa 0)), (3, .ref (qa 1)), (4, .ref (qa 2)), (5, .ref (qa 3)), (6, .ref (qa 4)), (7, .ref (qa 5)), (8, .ref (qa 6)), (9, .ref (qa 7)), (10, .ref (qa 8)), (11, .ref (qa 9)), (12, .int 1), (13, .int (nI (nj g))), (14, .int (nI (mo g))), (15, .int (nI t)), (20, .int (nI ah))]) hx hb dL_law_1425 hl (by decide) rfl (fun ls hl => ?_)
        refine law_1427 l hst S hE hB hA t ah hah.1 hah.2 h8 h9  hW hS (lv_sub hl [1, 2, 3, 4, 5, 6, 7, 8, 9, 10, 11, 12, 13, 14, 15, 16, 17, 0] rfl) ⟨Nat.le_trans (by omega) hf.1, Nat.le_trans (by omega) hf.2⟩ (fun gm H locs ls hA h9 hW hS hl => ?_)
        refine lv_iconst (v := 0) hx hb dL_law_1572 (by decide) ?_
        refine lv_istore (lv' := [(21, .int 0), (0, .ref (b)), (1, .ref (qx)), (2, .ref (qa 0)), (3, .ref (qa 1)), (4, .ref (qa 2)), (5, .ref (qa 3)), (6, .ref (qa 4)), (7, .ref (qa 5)), (8, .ref (qa 6)), (9, .ref (qa 7)), (10, .ref (qa 8)), (11, .ref (qa 9)), (12, .int 1), (13, .int (nI (nj g))), (14, .int (nI (mo g))), (15, .int (nI t)), (20, .int (nI ah))]) hx hb dL_law_1573 hl (by decide) rfl (fun ls hl => ?_)
        refine lv_iconst (v := nI 0) hx hb dL_law_1575 (by decide) ?_
        refine lv_istore (lv' := [(22, .int (nI 0)), (21, .int 0), (0, .ref (b)), (1, .ref (qx)), (2, .ref (qa 0)), (3, .ref (qa 1)), (4, .ref (qa 2)), (5, .ref (qa 3)), (6, .ref (qa 4)), (7, .ref (qa 5)), (8, .ref (qa 6)), (9, .ref (qa 7)), (10, .ref (qa 8)), (11, .ref (qa 9)), (12, .int 1), (13, .int (nI (nj g))), (14, .int (nI (mo g))), (15, .int (nI t)), (20, .int (nI ah))]) hx hb dL_law_1576 hl (by decide) rfl (fun ls hl => ?_)
        refine law_1578 l hst S hE hB hA t ah hah.1 hah.2 h9 (by omega)  hW hS (lv_sub hl [2, 3, 4, 5, 6, 7, 8, 9, 10, 11, 12, 13, 14, 15, 16, 17, 18, 1, 0] rfl) ⟨Nat.le_trans (by omega) hf.1, Nat.le_trans (by omega) hf.2⟩ (fun gm H locs ls hA hW hS hl => ?_)
        refine W.widen (k := cells + 64 * (t + 1)) (n := slots + 700 * (t + 1)) (by omega) (by omega) ?_
        exact ih_287 (t + 1) g gm (by omega) hB hA (by omega) (by omega) _ _ hW hS ls (lv_sub hl [0, 1, 2, 3, 4, 5, 6, 7, 8, 9, 10, 11, 12, 13, 14, 15] rfl)
  refine W.widen (k := cells + 64 * 0) (n := slots + 700 * 0) (by omega) (by omega) ?_
  exact lp_287 ((40 - 0) + 1) 0 g gm (by omega) hB hA hmo (Nat.lt_succ_self _) _ _ hW hS ls (lv_sub hl [0, 1, 2, 3, 4, 5, 6, 7, 8, 9, 10, 11, 12, 13, 14, 15] rfl)
end LLO
