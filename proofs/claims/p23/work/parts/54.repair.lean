/-! ===== the law: what a turn does: repair ===== -/
section LTU
variable {p : Program} {e : Env} {s : State} {m : MethodId} {args : Array Value} {below : List Frame} {meth : Method} {c : Code} {H : Heap} {locs : List Loc} {cells slots : Nat} {Q : State → Prop} {ls : Array Slot} {z : ZE} {b L qx : Nat} {qa : Nat → Nat} {xs : Nat → Int32} {g gm G : GS}
theorem pos_of {n : Nat} (h : ¬ nI n ≤ 0) : 0 < n := Nat.pos_of_ne_zero (fun q => h (by rw [q]; decide))
theorem ar_same {g gm : GS} (ha : AR g gm) {a b c : Nat} {x y w : Int32} (h1 : gm 6 a = x) (h2 : gm 6 b = y) (h3 : gm 7 c = w) : AR g (gup (gup (gup gm 6 a x) 6 b y) 7 c w) := by
  subst h1; rw [gup_self]; subst h2; rw [gup_self]; subst h3; rw [gup_self]; exact ha
theorem rep_k {g : GS} {j : Nat} (hB : BD g) (hj : j < nj g) : (sp_repair g (nI j)).1 = 0 ∨ (sp_repair g (nI j)).1 = 2 := by
  rw [t_repair hB hj]
  split
  · exact Or.inr rfl
  · exact Or.inl rfl
theorem glu_k {g : GS} {j z : Nat} (hB : BD g) (hj : j < nj g) (ez : g 28 j = nI z) (hz2 : z ≤ 6000) : (sp_glue g ((1 : Int32) <<< (nI j &&& 31))).1 = 0 ∨ (sp_glue g ((1 : Int32) <<< (nI j &&& 31))).1 = 2 := by
  rw [t_glue hB hj ez hz2]
  split
  · exact Or.inl rfl
  · exact Or.inr rfl
set_option maxHeartbeats 4000000 in
set_option maxRecDepth 100000 in
/-- the turn: repair -/
theorem law_800 (l : Launch) (hst : l.stackTraces = false) (S : CallFix p m c cL_law 26 s args wU RL) (hE : EV z s s.heap) (hB : BD g) (hA : AR g gm) (t : Nat) (ht : t < 40) (hmo : mo g ≤ 5 * t) (v : Int32) (wh p9 : Nat) (hwh : wh < 9) (hp9 : p9 < 6) (hW : LI z qx qa (g) gm H) (hS : va_S (zA z) s.heap H locs) (hl : lv_has ls 26 [(0, .ref (b)), (1, .ref (qx)), (2, .ref (qa 0)), (3, .ref (qa 1)), (4, .ref (qa 2)), (5, .ref (qa 3)), (6, .ref (qa 4)), (7, .ref (qa 5)), (8, .ref (qa 6)), (9, .ref (qa 7)), (10, .ref (qa 8)), (11, .ref (qa 9)), (12, .int 1), (13, .int (nI (nj g))), (14, .int (nI (mo g))), (15, .int (nI t)), (16, .int v), (17, .int (nI wh)), (18, .int (nI p9))]) (hf : cells + 3 ≤ room_1.cells ∧ slots + 300 ≤ room_1.slots)
    (kk : ∀ (g gm : GS) (H : Heap) (locs : List Loc) (ls : Array Slot), BD g → AR g gm → mo g ≤ 5 * t + 5 → LI z qx qa g gm H → va_S (zA z) s.heap H locs → lv_has ls 26 [(0, .ref (b)), (1, .ref (qx)), (2, .ref (qa 0)), (3, .ref (qa 1)), (4, .ref (qa 2)), (5, .ref (qa 3)), (6, .ref (qa 4)), (7, .ref (qa 5)), (8, .ref (qa 6)), (9, .ref (qa 7)), (10, .ref (qa 8)), (11, .ref (qa 9)), (12, .int 1), (13, .int (nI (nj g))), (14, .int (nI (mo g))), (15, .int (nI t))] → W p l e room_1 s m args below meth c H locs (cells + 3) (slots + 300) Q (F0 m 1264 ls [])) : W p l e room_1 s m args below meth c H locs (cells) (slots) Q (F0 m 800 ls []) := by
  have hx := S.1
  have hb := S.2.1
  have hown := S.2.2.2.1
  have hts := S.2.2.2.2
  have hml := S.2.2.1
  have hnj := hB.lj
  refine lv_iload hx hb dL_law_800 (lv_at hl 17 rfl) ?_
  refine lv_bipush (v := 6) hx hb dL_law_802 (by decide) ?_
  rw [show (6 : Int32) = nI 6 from rfl]
  refine g_icmp_ne S (by omega) (by omega) (tgt := 1027) dL_law_804 (by decide) (fun c_804 => ?_) (fun c_804 => ?_)
  · exact law_1027 l hst S hE hB hA t ht hmo v wh p9 hwh hp9 hW hS (lv_sub hl [0, 1, 2, 3, 4, 5, 6, 7, 8, 9, 10, 11, 12, 13, 14, 15, 16, 17, 18] rfl) hf kk
  · refine lv_iload hx hb dL_law_807 (lv_at hl 13 rfl) ?_
    refine lv_if_le (tgt := 1027) hx hb dL_law_809 (by decide) (fun c_809_1 => ?_) (fun c_809_1 => ?_)
    · exact law_1027 l hst S hE hB hA t ht hmo v wh p9 hwh hp9 hW hS (lv_sub hl [0, 1, 2, 3, 4, 5, 6, 7, 8, 9, 10, 11, 12, 13, 14, 15, 16, 17, 18] rfl) hf kk
    · have hn0 : 0 < nj g := pos_of c_809_1
      refine lv_iload hx hb dL_law_812 (lv_at hl 16 rfl) ?_
      refine lv_sipush (v := 128) hx hb dL_law_814 (by decide) ?_
      refine lv_idiv hx hb dL_law_817 (by decide) ?_
      refine lv_iload hx hb dL_law_818 (lv_at hl 13 rfl) ?_
      refine g_callS (As := [.int ((v) / (128)), .int (nI (nj g))]) (rest := []) S hE hS (c_L_up l z ((v) / (128)) (nj g) (by omega) (by omega)) (cwS 2 hts (gU_S tw_598 tw_599 tw_0 tw_600) rfl rfl rfl (by decide +kernel) ⟨Nat.le_of_ble_eq_true rfl, Nat.le_of_ble_eq_true rfl⟩) trivial rfl hl.1 rfl (Nat.le_of_ble_eq_true rfl) dL_law_820 ⟨Nat.le_trans (by omega) hf.1, Nat.le_trans (by omega) hf.2⟩ ?_
      obtain ⟨j, hj, ej⟩ : ∃ y : Nat, (y < nj g) ∧ upN ((v) / (128)) (nj g) = y := ⟨_, (upN_lt _ (by omega)), rfl⟩
      rw [ej]
      refine lv_istore (lv' := [(20, .int (nI j)), (0, .ref (b)), (1, .ref (qx)), (2, .ref (qa 0)), (3, .ref (qa 1)), (4, .ref (qa 2)), (5, .ref (qa 3)), (6, .ref (qa 4)), (7, .ref (qa 5)), (8, .ref (qa 6)), (9, .ref (qa 7)), (10, .ref (qa 8)), (11, .ref (qa 9)), (12, .int 1), (13, .int (nI (nj g))), (14, .int (nI (mo g))), (15, .int (nI t)), (16, .int v), (17, .int (nI wh)), (18, .int (nI p9))]) hx hb dL_law_823 hl (by decide) rfl (fun ls hl => ?_)
      have hjp := hB.ljp hj
      refine lv_aload hx hb dL_law_825 (lv_at hl 9 rfl) ?_
      refine lv_iconst (v := 5) hx hb dL_law_827 (by decide) ?_
      refine lv_iload hx hb dL_law_828 (lv_at hl 0 rfl) ?_
      refine lv_imul hx hb dL_law_830 ?_
      rw [show (5 : Int32) * nI j = nI (5 * (j)) from pk_mul 5 _]
      refine lv_iconst (v := 1) hx hb dL_law_831 (by decide) ?_
      refine lv_iadd hx hb dL_law_832 ?_
      rw [show (nI (5 * (j)) : Int32) + 1 = nI ((5 * (j)) + 1) from nI_add _ 1]
      refine l_ald (v := nI (jp g (j))) (j := (5 * (j)) + 1) S hE hW 6 rfl (vp_in_nI (show (5 * (j)) + 1 < 60 from (by omega)) (by decide)) (nI_clamp (by omega)) (hA.j1 (by omega)) dL_law_833 ?_
      refine lv_istore (lv' := [(21, .int (nI (jp g (j)))), (20, .int (nI j)), (0, .ref (b)), (1, .ref (qx)), (2, .ref (qa 0)), (3, .ref (qa 1)), (4, .ref (qa 2)), (5, .ref (qa 3)), (6, .ref (qa 4)), (7, .ref (qa 5)), (8, .ref (qa 6)), (9, .ref (qa 7)), (10, .ref (qa 8)), (11, .ref (qa 9)), (12, .int 1), (13, .int (nI (nj g))), (14, .int (nI (mo g))), (15, .int (nI t)), (16, .int v), (17, .int (nI wh)), (18, .int (nI p9))]) hx hb dL_law_834 hl (by decide) rfl (fun ls hl => ?_)
      refine lv_aload hx hb dL_law_836 (lv_at hl 10 rfl) ?_
      refine lv_iconst (v := 5) hx hb dL_law_838 (by decide) ?_
      refine lv_iload hx hb dL_law_839 (lv_at hl 1 rfl) ?_
      refine lv_imul hx hb dL_law_841 ?_
      rw [show (5 : Int32) * nI j = nI (5 * (j)) from pk_mul 5 _]
      refine l_ald (v := g 25 (j)) (j := 5 * (j)) S hE hW 6 rfl (vp_in_nI (show 5 * (j) < 60 from (by omega)) (by decide)) (nI_clamp (by omega)) (hA.j0 (by omega)) dL_law_842 ?_
      refine lv_iconst (v := 2) hx hb dL_law_843 (by decide) ?_
      refine lv_icmp_ne (tgt := 889) hx hb dL_law_844 (by decide) (fun c_844_2 => ?_) (fun c_844_2 => ?_)
      · refine lv_aload hx hb dL_law_889 (lv_at hl 10 rfl) ?_
        refine lv_iconst (v := 5) hx hb dL_law_891 (by decide) ?_
        refine lv_iload hx hb dL_law_892 (lv_at hl 1 rfl) ?_
        refine lv_imul hx hb dL_law_894 ?_
        rw [show (5 : Int32) * nI j = nI (5 * (j)) from pk_mul 5 _]
        refine lv_iconst (v := 2) hx hb dL_law_895 (by decide) ?_
        refine lv_iadd hx hb dL_law_896 ?_
        rw [show (nI (5 * (j)) : Int32) + 2 = nI ((5 * (j)) + 2) from nI_add _ 2]
        refine l_ald (v := g 28 (j)) (j := (5 * (j)) + 2) S hE hW 6 rfl (vp_in_nI (show (5 * (j)) + 2 < 60 from (by omega)) (by decide)) (nI_clamp (by omega)) (hA.j2 (by omega)) dL_law_897 ?_
        refine lv_topi (fun y_9 ey_9 => ?_)
        obtain rfl : y_9 = rsz g j := ey_9.trans (by rw [rsz, if_neg c_844_2])
        refine lv_istore (lv' := [(22, .int (rsz g j)), (21, .int (nI (jp g (j)))), (20, .int (nI j)), (0, .ref (b)), (1, .ref (qx)), (2, .ref (qa 0)), (3, .ref (qa 1)), (4, .ref (qa 2)), (5, .ref (qa 3)), (6, .ref (qa 4)), (7, .ref (qa 5)), (8, .ref (qa 6)), (9, .ref (qa 7)), (10, .ref (qa 8)), (11, .ref (qa 9)), (12, .int 1), (13, .int (nI (nj g))), (14, .int (nI (mo g))), (15, .int (nI t)), (16, .int v), (17, .int (nI wh)), (18, .int (nI p9))]) hx hb dL_law_898 hl (by decide) rfl (fun ls hl => ?_)
        rcases stt_c hB hj with ⟨es, e31, e32⟩ | ⟨es, e31, e32⟩ | ⟨es, e31, e32⟩
        · refine lv_aload_n hx hb dL_law_900 rfl (lv_at hl 4 rfl) ?_
          refine lv_iconst (v := 1) hx hb dL_law_901 (by decide) ?_
          refine lv_iload hx hb dL_law_902 (lv_at hl 2 rfl) ?_
          refine l_wcall (As := [.ref (qx), .int 1, .int (nI j)]) (rest := []) (sp := sp_repair g (nI j)) S hE hS hW (c_L_act1 l z hst qx qa (g) gm hB.ok (nI j) (rep_k hB hj)) (vx_cwSW 3 hts (gU_w tw_604 tw_605 tw_0 tw_606) rfl rfl rfl (by decide +kernel) ⟨Nat.le_of_ble_eq_true rfl, Nat.le_of_ble_eq_true rfl⟩) rfl hl.1 rfl (Nat.le_of_ble_eq_true rfl) dL_law_904 ⟨Nat.le_trans (by omega) hf.1, Nat.le_trans (by omega) hf.2⟩ (fun H locs hW hS => ?_)
          rw [t_repair hB hj, if_pos e32] at hW ⊢
          rw [show ares (bad 2 g) = -1003 from rfl]
          have hW : LI z qx qa g gm H := hW
          refine lv_aload hx hb dL_law_907 (lv_at hl 12 rfl) ?_
          refine lv_iload hx hb dL_law_909 (lv_at hl 2 rfl) ?_
          refine l_ald (v := 0) (j := j) S hE hW 7 rfl (vp_in_nI (show j < 12 from (by omega)) (by decide)) (nI_clamp (by omega)) ((hA.a7 (by omega)).trans es) dL_law_911 ?_
          refine lv_iconst (v := 2) hx hb dL_law_912 (by decide) ?_
          refine lv_icmp_ne (tgt := 921) hx hb dL_law_913 (by decide) (fun _ => ?_) (fun h9 => absurd h9 (by decide))
          refine lv_sipush (v := (-1003)) hx hb dL_law_921 (by decide) ?_
          refine lv_icmp_ne (tgt := 931) hx hb dL_law_924 (by decide) (fun q9 => absurd (rfl) q9) (fun c_924_3 => ?_)
          refine lv_iconst (v := 1) hx hb dL_law_927 (by decide) ?_
          refine lv_goto (tgt := 932) hx hb dL_law_928 (by decide) ?_
          refine lv_istore (lv' := [(12, .int 1), (22, .int (rsz g j)), (21, .int (nI (jp g (j)))), (20, .int (nI j)), (0, .ref (b)), (1, .ref (qx)), (2, .ref (qa 0)), (3, .ref (qa 1)), (4, .ref (qa 2)), (5, .ref (qa 3)), (6, .ref (qa 4)), (7, .ref (qa 5)), (8, .ref (qa 6)), (9, .ref (qa 7)), (10, .ref (qa 8)), (11, .ref (qa 9)), (13, .int (nI (nj g))), (14, .int (nI (mo g))), (15, .int (nI t)), (16, .int v), (17, .int (nI wh)), (18, .int (nI p9))]) hx hb dL_law_932 hl (by decide) rfl (fun ls hl => ?_)
          refine lv_aload hx hb dL_law_934 (lv_at hl 12 rfl) ?_
          refine lv_iconst (v := 5) hx hb dL_law_936 (by decide) ?_
          refine lv_iload hx hb dL_law_937 (lv_at hl 3 rfl) ?_
          refine lv_imul hx hb dL_law_939 ?_
          rw [show (5 : Int32) * nI j = nI (5 * (j)) from pk_mul 5 _]
          refine lv_iconst (v := 2) hx hb dL_law_940 (by decide) ?_
          refine lv_iadd hx hb dL_law_941 ?_
          rw [show (nI (5 * (j)) : Int32) + 2 = nI ((5 * (j)) + 2) from nI_add _ 2]
          refine lv_aload hx hb dL_law_942 (lv_at hl 13 rfl) ?_
          refine lv_iload hx hb dL_law_944 (lv_at hl 3 rfl) ?_
          refine l_ald (v := 0) (j := j) S hE hW 7 rfl (vp_in_nI (show j < 12 from (by omega)) (by decide)) (nI_clamp (by omega)) ((hA.a7 (by omega)).trans es) dL_law_946 ?_
          refine lv_iconst (v := 2) hx hb dL_law_947 (by decide) ?_
          refine lv_icmp_ne (tgt := 956) hx hb dL_law_948 (by decide) (fun _ => ?_) (fun h9 => absurd h9 (by decide))
          refine lv_aload hx hb dL_law_956 (lv_at hl 12 rfl) ?_
          refine lv_iconst (v := 5) hx hb dL_law_958 (by decide) ?_
          refine lv_iload hx hb dL_law_959 (lv_at hl 3 rfl) ?_
          refine lv_imul hx hb dL_law_961 ?_
          rw [show (5 : Int32) * nI j = nI (5 * (j)) from pk_mul 5 _]
          refine lv_iconst (v := 2) hx hb dL_law_962 (by decide) ?_
          refine lv_iadd hx hb dL_law_963 ?_
          rw [show (nI (5 * (j)) : Int32) + 2 = nI ((5 * (j)) + 2) from nI_add _ 2]
          refine l_ald (v := g 28 (j)) (j := (5 * (j)) + 2) S hE hW 6 rfl (vp_in_nI (show (5 * (j)) + 2 < 60 from (by omega)) (by decide)) (nI_clamp (by omega)) (hA.j2 (by omega)) dL_law_964 ?_
          refine l_ast (j := (5 * (j)) + 2) S hE hS hW 6 rfl (vp_in_nI (show (5 * (j)) + 2 < 60 from (by omega)) (by decide)) (nI_clamp (by omega)) dL_law_965 (fun H locs hW hS => ?_)
          refine lv_aload hx hb dL_law_966 (lv_at hl 12 rfl) ?_
          refine lv_iconst (v := 5) hx hb dL_law_968 (by decide) ?_
          refine lv_iload hx hb dL_law_969 (lv_at hl 3 rfl) ?_
          refine lv_imul hx hb dL_law_971 ?_
          rw [show (5 : Int32) * nI j = nI (5 * (j)) from pk_mul 5 _]
          refine lv_iconst (v := 4) hx hb dL_law_972 (by decide) ?_
          refine lv_iadd hx hb dL_law_973 ?_
          rw [show (nI (5 * (j)) : Int32) + 4 = nI ((5 * (j)) + 4) from nI_add _ 4]
          refine lv_aload hx hb dL_law_974 (lv_at hl 13 rfl) ?_
          refine lv_iload hx hb dL_law_976 (lv_at hl 3 rfl) ?_
          refine l_ald (v := 0) (j := j) S hE hW 7 rfl (vp_in_nI (show j < 12 from (by omega)) (by decide)) (nI_clamp (by omega)) ((gup_k (by decide)).trans ((hA.a7 (by omega)).trans es)) dL_law_978 ?_
          refine lv_iconst (v := 2) hx hb dL_law_979 (by decide) ?_
          refine lv_icmp_ne (tgt := 991) hx hb dL_law_980 (by decide) (fun _ => ?_) (fun h9 => absurd h9 (by decide))
          refine lv_aload hx hb dL_law_991 (lv_at hl 12 rfl) ?_
          refine lv_iconst (v := 5) hx hb dL_law_993 (by decide) ?_
          refine lv_iload hx hb dL_law_994 (lv_at hl 3 rfl) ?_
          refine lv_imul hx hb dL_law_996 ?_
          rw [show (5 : Int32) * nI j = nI (5 * (j)) from pk_mul 5 _]
          refine lv_iconst (v := 4) hx hb dL_law_997 (by decide) ?_
          refine lv_iadd hx hb dL_law_998 ?_
          rw [show (nI (5 * (j)) : Int32) + 4 = nI ((5 * (j)) + 4) from nI_add _ 4]
          refine l_ald (v := g 33 (j)) (j := (5 * (j)) + 4) S hE hW 6 rfl (vp_in_nI (show (5 * (j)) + 4 < 60 from (by omega)) (by decide)) (nI_clamp (by omega)) ((gup_i (by omega)).trans (hA.j4 (by omega))) dL_law_999 ?_
          refine l_ast (j := (5 * (j)) + 4) S hE hS hW 6 rfl (vp_in_nI (show (5 * (j)) + 4 < 60 from (by omega)) (by decide)) (nI_clamp (by omega)) dL_law_1000 (fun H locs hW hS => ?_)
          refine lv_aload hx hb dL_law_1001 (lv_at hl 13 rfl) ?_
          refine lv_iload hx hb dL_law_1003 (lv_at hl 3 rfl) ?_
          refine lv_aload hx hb dL_law_1005 (lv_at hl 13 rfl) ?_
          refine lv_iload hx hb dL_law_1007 (lv_at hl 3 rfl) ?_
          refine l_ald (v := 0) (j := j) S hE hW 7 rfl (vp_in_nI (show j < 12 from (by omega)) (by decide)) (nI_clamp (by omega)) ((gup_k (by decide)).trans ((gup_k (by decide)).trans ((hA.a7 (by omega)).trans es))) dL_law_1009 ?_
          refine lv_iconst (v := 2) hx hb dL_law_1010 (by decide) ?_
          refine lv_icmp_ne (tgt := 1018) hx hb dL_law_1011 (by decide) (fun _ => ?_) (fun h9 => absurd h9 (by decide))
          refine lv_aload hx hb dL_law_1018 (lv_at hl 13 rfl) ?_
          refine lv_iload hx hb dL_law_1020 (lv_at hl 3 rfl) ?_
          refine l_ald (v := 0) (j := j) S hE hW 7 rfl (vp_in_nI (show j < 12 from (by omega)) (by decide)) (nI_clamp (by omega)) ((gup_k (by decide)).trans ((gup_k (by decide)).trans ((hA.a7 (by omega)).trans es))) dL_law_1022 ?_
          refine l_ast (j := j) S hE hS hW 7 rfl (vp_in_nI (show j < 12 from (by omega)) (by decide)) (nI_clamp (by omega)) dL_law_1023 (fun H locs hW hS => ?_)
          refine lv_goto (tgt := 1264) hx hb dL_law_1024 (by decide) ?_
          refine W.widen (k := cells + 3) (n := slots + 300) (by omega) (by omega) ?_
          exact kk (g) _ _ _ _ (hB) (ar_same hA (hA.j2 (by omega)) (hA.j4 (by omega)) ((hA.a7 (by omega)).trans es)) (show mo g ≤ 5 * t + 5 by omega) hW hS (lv_sub hl [4, 5, 6, 7, 8, 9, 10, 11, 12, 13, 14, 15, 0, 16, 17, 18] rfl)
        · refine lv_aload_n hx hb dL_law_900 rfl (lv_at hl 4 rfl) ?_
          refine lv_iconst (v := 1) hx hb dL_law_901 (by decide) ?_
          refine lv_iload hx hb dL_law_902 (lv_at hl 2 rfl) ?_
          refine l_wcall (As := [.ref (qx), .int 1, .int (nI j)]) (rest := []) (sp := sp_repair g (nI j)) S hE hS hW (c_L_act1 l z hst qx qa (g) gm hB.ok (nI j) (rep_k hB hj)) (vx_cwSW 3 hts (gU_w tw_604 tw_605 tw_0 tw_606) rfl rfl rfl (by decide +kernel) ⟨Nat.le_of_ble_eq_true rfl, Nat.le_of_ble_eq_true rfl⟩) rfl hl.1 rfl (Nat.le_of_ble_eq_true rfl) dL_law_904 ⟨Nat.le_trans (by omega) hf.1, Nat.le_trans (by omega) hf.2⟩ (fun H locs hW hS => ?_)
          rw [t_repair hB hj, if_pos e32] at hW ⊢
          rw [show ares (bad 2 g) = -1003 from rfl]
          have hW : LI z qx qa g gm H := hW
          refine lv_aload hx hb dL_law_907 (lv_at hl 12 rfl) ?_
          refine lv_iload hx hb dL_law_909 (lv_at hl 2 rfl) ?_
          refine l_ald (v := 1) (j := j) S hE hW 7 rfl (vp_in_nI (show j < 12 from (by omega)) (by decide)) (nI_clamp (by omega)) ((hA.a7 (by omega)).trans es) dL_law_911 ?_
          refine lv_iconst (v := 2) hx hb dL_law_912 (by decide) ?_
          refine lv_icmp_ne (tgt := 921) hx hb dL_law_913 (by decide) (fun _ => ?_) (fun h9 => absurd h9 (by decide))
          refine lv_sipush (v := (-1003)) hx hb dL_law_921 (by decide) ?_
          refine lv_icmp_ne (tgt := 931) hx hb dL_law_924 (by decide) (fun q9 => absurd (rfl) q9) (fun c_924_4 => ?_)
          refine lv_iconst (v := 1) hx hb dL_law_927 (by decide) ?_
          refine lv_goto (tgt := 932) hx hb dL_law_928 (by decide) ?_
          refine lv_istore (lv' := [(12, .int 1), (22, .int (rsz g j)), (21, .int (nI (jp g (j)))), (20, .int (nI j)), (0, .ref (b)), (1, .ref (qx)), (2, .ref (qa 0)), (3, .ref (qa 1)), (4, .ref (qa 2)), (5, .ref (qa 3)), (6, .ref (qa 4)), (7, .ref (qa 5)), (8, .ref (qa 6)), (9, .ref (qa 7)), (10, .ref (qa 8)), (11, .ref (qa 9)), (13, .int (nI (nj g))), (14, .int (nI (mo g))), (15, .int (nI t)), (16, .int v), (17, .int (nI wh)), (18, .int (nI p9))]) hx hb dL_law_932 hl (by decide) rfl (fun ls hl => ?_)
          refine lv_aload hx hb dL_law_934 (lv_at hl 12 rfl) ?_
          refine lv_iconst (v := 5) hx hb dL_law_936 (by decide) ?_
          refine lv_iload hx hb dL_law_937 (lv_at hl 3 rfl) ?_
          refine lv_imul hx hb dL_law_939 ?_
          rw [show (5 : Int32) * nI j = nI (5 * (j)) from pk_mul 5 _]
          refine lv_iconst (v := 2) hx hb dL_law_940 (by decide) ?_
          refine lv_iadd hx hb dL_law_941 ?_
          rw [show (nI (5 * (j)) : Int32) + 2 = nI ((5 * (j)) + 2) from nI_add _ 2]
          refine lv_aload hx hb dL_law_942 (lv_at hl 13 rfl) ?_
          refine lv_iload hx hb dL_law_944 (lv_at hl 3 rfl) ?_
          refine l_ald (v := 1) (j := j) S hE hW 7 rfl (vp_in_nI (show j < 12 from (by omega)) (by decide)) (nI_clamp (by omega)) ((hA.a7 (by omega)).trans es) dL_law_946 ?_
          refine lv_iconst (v := 2) hx hb dL_law_947 (by decide) ?_
          refine lv_icmp_ne (tgt := 956) hx hb dL_law_948 (by decide) (fun _ => ?_) (fun h9 => absurd h9 (by decide))
          refine lv_aload hx hb dL_law_956 (lv_at hl 12 rfl) ?_
          refine lv_iconst (v := 5) hx hb dL_law_958 (by decide) ?_
          refine lv_iload hx hb dL_law_959 (lv_at hl 3 rfl) ?_
          refine lv_imul hx hb dL_law_961 ?_
          rw [show (5 : Int32) * nI j = nI (5 * (j)) from pk_mul 5 _]
          refine lv_iconst (v := 2) hx hb dL_law_962 (by decide) ?_
          refine lv_iadd hx hb dL_law_963 ?_
          rw [show (nI (5 * (j)) : Int32) + 2 = nI ((5 * (j)) + 2) from nI_add _ 2]
          refine l_ald (v := g 28 (j)) (j := (5 * (j)) + 2) S hE hW 6 rfl (vp_in_nI (show (5 * (j)) + 2 < 60 from (by omega)) (by decide)) (nI_clamp (by omega)) (hA.j2 (by omega)) dL_law_964 ?_
          refine l_ast (j := (5 * (j)) + 2) S hE hS hW 6 rfl (vp_in_nI (show (5 * (j)) + 2 < 60 from (by omega)) (by decide)) (nI_clamp (by omega)) dL_law_965 (fun H locs hW hS => ?_)
          refine lv_aload hx hb dL_law_966 (lv_at hl 12 rfl) ?_
          refine lv_iconst (v := 5) hx hb dL_law_968 (by decide) ?_
          refine lv_iload hx hb dL_law_969 (lv_at hl 3 rfl) ?_
          refine lv_imul hx hb dL_law_971 ?_
          rw [show (5 : Int32) * nI j = nI (5 * (j)) from pk_mul 5 _]
          refine lv_iconst (v := 4) hx hb dL_law_972 (by decide) ?_
          refine lv_iadd hx hb dL_law_973 ?_
          rw [show (nI (5 * (j)) : Int32) + 4 = nI ((5 * (j)) + 4) from nI_add _ 4]
          refine lv_aload hx hb dL_law_974 (lv_at hl 13 rfl) ?_
          refine lv_iload hx hb dL_law_976 (lv_at hl 3 rfl) ?_
          refine l_ald (v := 1) (j := j) S hE hW 7 rfl (vp_in_nI (show j < 12 from (by omega)) (by decide)) (nI_clamp (by omega)) ((gup_k (by decide)).trans ((hA.a7 (by omega)).trans es)) dL_law_978 ?_
          refine lv_iconst (v := 2) hx hb dL_law_979 (by decide) ?_
          refine lv_icmp_ne (tgt := 991) hx hb dL_law_980 (by decide) (fun _ => ?_) (fun h9 => absurd h9 (by decide))
          refine lv_aload hx hb dL_law_991 (lv_at hl 12 rfl) ?_
          refine lv_iconst (v := 5) hx hb dL_law_993 (by decide) ?_
          refine lv_iload hx hb dL_law_994 (lv_at hl 3 rfl) ?_
          refine lv_imul hx hb dL_law_996 ?_
          rw [show (5 : Int32) * nI j = nI (5 * (j)) from pk_mul 5 _]
          refine lv_iconst (v := 4) hx hb dL_law_997 (by decide) ?_
          refine lv_iadd hx hb dL_law_998 ?_
          rw [show (nI (5 * (j)) : Int32) + 4 = nI ((5 * (j)) + 4) from nI_add _ 4]
          refine l_ald (v := g 33 (j)) (j := (5 * (j)) + 4) S hE hW 6 rfl (vp_in_nI (show (5 * (j)) + 4 < 60 from (by omega)) (by decide)) (nI_clamp (by omega)) ((gup_i (by omega)).trans (hA.j4 (by omega))) dL_law_999 ?_
          refine l_ast (j := (5 * (j)) + 4) S hE hS hW 6 rfl (vp_in_nI (show (5 * (j)) + 4 < 60 from (by omega)) (by decide)) (nI_clamp (by omega)) dL_law_1000 (fun H locs hW hS => ?_)
          refine lv_aload hx hb dL_law_1001 (lv_at hl 13 rfl) ?_
          refine lv_iload hx hb dL_law_1003 (lv_at hl 3 rfl) ?_
          refine lv_aload hx hb dL_law_1005 (lv_at hl 13 rfl) ?_
          refine lv_iload hx hb dL_law_1007 (lv_at hl 3 rfl) ?_
          refine l_ald (v := 1) (j := j) S hE hW 7 rfl (vp_in_nI (show j < 12 from (by omega)) (by decide)) (nI_clamp (by omega)) ((gup_k (by decide)).trans ((gup_k (by decide)).trans ((hA.a7 (by omega)).trans es))) dL_law_1009 ?_
          refine lv_iconst (v := 2) hx hb dL_law_1010 (by decide) ?_
          refine lv_icmp_ne (tgt := 1018) hx hb dL_law_1011 (by decide) (fun _ => ?_) (fun h9 => absurd h9 (by decide))
          refine lv_aload hx hb dL_law_1018 (lv_at hl 13 rfl) ?_
          refine lv_iload hx hb dL_law_1020 (lv_at hl 3 rfl) ?_
          refine l_ald (v := 1) (j := j) S hE hW 7 rfl (vp_in_nI (show j < 12 from (by omega)) (by decide)) (nI_clamp (by omega)) ((gup_k (by decide)).trans ((gup_k (by decide)).trans ((hA.a7 (by omega)).trans es))) dL_law_1022 ?_
          refine l_ast (j := j) S hE hS hW 7 rfl (vp_in_nI (show j < 12 from (by omega)) (by decide)) (nI_clamp (by omega)) dL_law_1023 (fun H locs hW hS => ?_)
          refine lv_goto (tgt := 1264) hx hb dL_law_1024 (by decide) ?_
          refine W.widen (k := cells + 3) (n := slots + 300) (by omega) (by omega) ?_
          exact kk (g) _ _ _ _ (hB) (ar_same hA (hA.j2 (by omega)) (hA.j4 (by omega)) ((hA.a7 (by omega)).trans es)) (show mo g ≤ 5 * t + 5 by omega) hW hS (lv_sub hl [4, 5, 6, 7, 8, 9, 10, 11, 12, 13, 14, 15, 0, 16, 17, 18] rfl)
        · refine lv_aload_n hx hb dL_law_900 rfl (lv_at hl 4 rfl) ?_
          refine lv_iconst (v := 1) hx hb dL_law_901 (by decide) ?_
          refine lv_iload hx hb dL_law_902 (lv_at hl 2 rfl) ?_
          refine l_wcall (As := [.ref (qx), .int 1, .int (nI j)]) (rest := []) (sp := sp_repair g (nI j)) S hE hS hW (c_L_act1 l z hst qx qa (g) gm hB.ok (nI j) (rep_k hB hj)) (vx_cwSW 3 hts (gU_w tw_604 tw_605 tw_0 tw_606) rfl rfl rfl (by decide +kernel) ⟨Nat.le_of_ble_eq_true rfl, Nat.le_of_ble_eq_true rfl⟩) rfl hl.1 rfl (Nat.le_of_ble_eq_true rfl) dL_law_904 ⟨Nat.le_trans (by omega) hf.1, Nat.le_trans (by omega) hf.2⟩ (fun H locs hW hS => ?_)
          have n32 : ¬ g 32 j = 0 := by rw [e32]; decide
          rw [t_repair hB hj, if_neg n32] at hW ⊢
          rw [show ares (0, rsz g j, gup (gup (gup g 32 j 0) 33 j (g 22 (jp g j))) 28 j (rsz g j)) = rsz g j from rfl]
          have hW : LI z qx qa (gup (gup (gup g 32 j 0) 33 j (g 22 (jp g j))) 28 j (rsz g j)) gm H := hW
          refine lv_aload hx hb dL_law_907 (lv_at hl 12 rfl) ?_
          refine lv_iload hx hb dL_law_909 (lv_at hl 2 rfl) ?_
          refine l_ald (v := 2) (j := j) S hE hW 7 rfl (vp_in_nI (show j < 12 from (by omega)) (by decide)) (nI_clamp (by omega)) ((hA.a7 (by omega)).trans es) dL_law_911 ?_
          refine lv_iconst (v := 2) hx hb dL_law_912 (by decide) ?_
          refine lv_icmp_ne (tgt := 921) hx hb dL_law_913 (by decide) (fun h9 => absurd h9 (by decide)) (fun _ => ?_)
          refine lv_iload hx hb dL_law_916 (lv_at hl 0 rfl) ?_
          refine lv_goto (tgt := 924) hx hb dL_law_918 (by decide) ?_
          refine lv_icmp_ne (tgt := 931) hx hb dL_law_924 (by decide) (fun q9 => absurd (rfl) q9) (fun c_924_5 => ?_)
          refine lv_iconst (v := 1) hx hb dL_law_927 (by decide) ?_
          refine lv_goto (tgt := 932) hx hb dL_law_928 (by decide) ?_
          refine lv_istore (lv' := [(12, .int 1), (22, .int (rsz g j)), (21, .int (nI (jp g (j)))), (20, .int (nI j)), (0, .ref (b)), (1, .ref (qx)), (2, .ref (qa 0)), (3, .ref (qa 1)), (4, .ref (qa 2)), (5, .ref (qa 3)), (6, .ref (qa 4)), (7, .ref (qa 5)), (8, .ref (qa 6)), (9, .ref (qa 7)), (10, .ref (qa 8)), (11, .ref (qa 9)), (13, .int (nI (nj g))), (14, .int (nI (mo g))), (15, .int (nI t)), (16, .int v), (17, .int (nI wh)), (18, .int (nI p9))]) hx hb dL_law_932 hl (by decide) rfl (fun ls hl => ?_)
          refine lv_aload hx hb dL_law_934 (lv_at hl 12 rfl) ?_
          refine lv_iconst (v := 5) hx hb dL_law_936 (by decide) ?_
          refine lv_iload hx hb dL_law_937 (lv_at hl 3 rfl) ?_
          refine lv_imul hx hb dL_law_939 ?_
          rw [show (5 : Int32) * nI j = nI (5 * (j)) from pk_mul 5 _]
          refine lv_iconst (v := 2) hx hb dL_law_940 (by decide) ?_
          refine lv_iadd hx hb dL_law_941 ?_
          rw [show (nI (5 * (j)) : Int32) + 2 = nI ((5 * (j)) + 2) from nI_add _ 2]
          refine lv_aload hx hb dL_law_942 (lv_at hl 13 rfl) ?_
          refine lv_iload hx hb dL_law_944 (lv_at hl 3 rfl) ?_
          refine l_ald (v := 2) (j := j) S hE hW 7 rfl (vp_in_nI (show j < 12 from (by omega)) (by decide)) (nI_clamp (by omega)) ((hA.a7 (by omega)).trans es) dL_law_946 ?_
          refine lv_iconst (v := 2) hx hb dL_law_947 (by decide) ?_
          refine lv_icmp_ne (tgt := 956) hx hb dL_law_948 (by decide) (fun h9 => absurd h9 (by decide)) (fun _ => ?_)
          refine lv_iload hx hb dL_law_951 (lv_at hl 1 rfl) ?_
          refine lv_goto (tgt := 965) hx hb dL_law_953 (by decide) ?_
          refine l_ast (j := (5 * (j)) + 2) S hE hS hW 6 rfl (vp_in_nI (show (5 * (j)) + 2 < 60 from (by omega)) (by decide)) (nI_clamp (by omega)) dL_law_965 (fun H locs hW hS => ?_)
          refine lv_aload hx hb dL_law_966 (lv_at hl 12 rfl) ?_
          refine lv_iconst (v := 5) hx hb dL_law_968 (by decide) ?_
          refine lv_iload hx hb dL_law_969 (lv_at hl 3 rfl) ?_
          refine lv_imul hx hb dL_law_971 ?_
          rw [show (5 : Int32) * nI j = nI (5 * (j)) from pk_mul 5 _]
          refine lv_iconst (v := 4) hx hb dL_law_972 (by decide) ?_
          refine lv_iadd hx hb dL_law_973 ?_
          rw [show (nI (5 * (j)) : Int32) + 4 = nI ((5 * (j)) + 4) from nI_add _ 4]
          refine lv_aload hx hb dL_law_974 (lv_at hl 13 rfl) ?_
          refine lv_iload hx hb dL_law_976 (lv_at hl 3 rfl) ?_
          refine l_ald (v := 2) (j := j) S hE hW 7 rfl (vp_in_nI (show j < 12 from (by omega)) (by decide)) (nI_clamp (by omega)) ((gup_k (by decide)).trans ((hA.a7 (by omega)).trans es)) dL_law_978 ?_
          refine lv_iconst (v := 2) hx hb dL_law_979 (by decide) ?_
          refine lv_icmp_ne (tgt := 991) hx hb dL_law_980 (by decide) (fun h9 => absurd h9 (by decide)) (fun _ => ?_)
          refine lv_aload hx hb dL_law_983 (lv_at hl 10 rfl) ?_
          refine lv_iload hx hb dL_law_985 (lv_at hl 2 rfl) ?_
          refine l_ald (v := g 22 (jp g (j))) (j := jp g (j)) S hE hW 4 rfl (vp_in_nI (show jp g (j) < 6 from (by omega)) (by decide)) (nI_clamp (by omega)) ((gup_k (by decide)).trans (hA.a4 (by omega))) dL_law_987 ?_
          refine lv_goto (tgt := 1000) hx hb dL_law_988 (by decide) ?_
          refine l_ast (j := (5 * (j)) + 4) S hE hS hW 6 rfl (vp_in_nI (show (5 * (j)) + 4 < 60 from (by omega)) (by decide)) (nI_clamp (by omega)) dL_law_1000 (fun H locs hW hS => ?_)
          refine lv_aload hx hb dL_law_1001 (lv_at hl 13 rfl) ?_
          refine lv_iload hx hb dL_law_1003 (lv_at hl 3 rfl) ?_
          refine lv_aload hx hb dL_law_1005 (lv_at hl 13 rfl) ?_
          refine lv_iload hx hb dL_law_1007 (lv_at hl 3 rfl) ?_
          refine l_ald (v := 2) (j := j) S hE hW 7 rfl (vp_in_nI (show j < 12 from (by omega)) (by decide)) (nI_clamp (by omega)) ((gup_k (by decide)).trans ((gup_k (by decide)).trans ((hA.a7 (by omega)).trans es))) dL_law_1009 ?_
          refine lv_iconst (v := 2) hx hb dL_law_1010 (by decide) ?_
          refine lv_icmp_ne (tgt := 1018) hx hb dL_law_1011 (by decide) (fun h9 => absurd h9 (by decide)) (fun _ => ?_)
          refine lv_iconst (v := 1) hx hb dL_law_1014 (by decide) ?_
          refine lv_goto (tgt := 1023) hx hb dL_law_1015 (by decide) ?_
          refine l_ast (j := j) S hE hS hW 7 rfl (vp_in_nI (show j < 12 from (by omega)) (by decide)) (nI_clamp (by omega)) dL_law_1023 (fun H locs hW hS => ?_)
          refine lv_goto (tgt := 1264) hx hb dL_law_1024 (by decide) ?_
          refine W.widen (k := cells + 3) (n := slots + 300) (by omega) (by omega) ?_
          exact kk (gup (gup (gup g 32 j 0) 33 j (g 22 (jp g j))) 28 j (rsz g j)) _ _ _ _ (bd_r hB hj n32) (ar_r hB hA hj n32) (show mo g ≤ 5 * t + 5 by omega) hW hS (lv_sub hl [4, 5, 6, 7, 8, 9, 10, 11, 12, 13, 14, 15, 0, 16, 17, 18] rfl)
      · refine lv_aload hx hb dL_law_847 (lv_at hl 7 rfl) ?_
        refine lv_iload hx hb dL_law_849 (lv_at hl 0 rfl) ?_
        refine l_ald (v := g 20 (jp g (j))) (j := jp g (j)) S hE hW 3 rfl (vp_in_nI (show jp g (j) < 6 from (by omega)) (by decide)) (nI_clamp (by omega)) (hA.a3 (by omega)) dL_law_851 ?_
        refine lv_aload hx hb dL_law_852 (lv_at hl 7 rfl) ?_
        refine lv_iload hx hb dL_law_854 (lv_at hl 0 rfl) ?_
        refine l_ald (v := g 20 (jp g (j))) (j := jp g (j)) S hE hW 3 rfl (vp_in_nI (show jp g (j) < 6 from (by omega)) (by decide)) (nI_clamp (by omega)) (hA.a3 (by omega)) dL_law_856 ?_
        refine lv_iload hx hb dL_law_857 (lv_at hl 0 rfl) ?_
        refine lv_iconst (v := 3) hx hb dL_law_859 (by decide) ?_
        refine lv_irem hx hb dL_law_860 (by decide) ?_
        rw [show (nI (jp g (j)) : Int32) - nI (jp g (j)) / 3 * 3 = nI ((jp g (j)) % 3) from pk_rem (d := 3) (by omega) (by decide) (by decide)]
        refine lv_aload hx hb dL_law_861 (lv_at hl 8 rfl) ?_
        refine lv_iload hx hb dL_law_863 (lv_at hl 0 rfl) ?_
        refine l_ald (v := g 22 (jp g (j))) (j := jp g (j)) S hE hW 4 rfl (vp_in_nI (show jp g (j) < 6 from (by omega)) (by decide)) (nI_clamp (by omega)) (hA.a4 (by omega)) dL_law_865 ?_
        refine lv_aload hx hb dL_law_866 (lv_at hl 6 rfl) ?_
        refine lv_iload hx hb dL_law_868 (lv_at hl 0 rfl) ?_
        refine l_ald (v := g 21 (jp g (j))) (j := jp g (j)) S hE hW 2 rfl (vp_in_nI (show jp g (j) < 6 from (by omega)) (by decide)) (nI_clamp (by omega)) (hA.a2 (by omega)) dL_law_870 ?_
        refine lv_isub hx hb dL_law_871 ?_
        refine g_callS (As := [.int (g 20 (jp g (j))), .int (nI ((jp g (j)) % 3)), .int ((g 22 (jp g (j))) - (g 21 (jp g (j))))]) (rest := [.int (g 20 (jp g (j)))]) S hE hS (c_L_moved l z (g 20 (jp g (j))) (nI ((jp g (j)) % 3)) ((g 22 (jp g (j))) - (g 21 (jp g (j))))) (cwS 3 hts (gU_S tw_650 tw_651 tw_0 tw_652) rfl rfl rfl (by decide +kernel) ⟨Nat.le_of_ble_eq_true rfl, Nat.le_of_ble_eq_true rfl⟩) trivial rfl hl.1 rfl (Nat.le_of_ble_eq_true rfl) dL_law_872 ⟨Nat.le_trans (by omega) hf.1, Nat.le_trans (by omega) hf.2⟩ ?_
        refine lv_iadd hx hb dL_law_875 ?_
        refine lv_topi (fun y_7 ey_7 => ?_)
        obtain rfl : y_7 = wAt g (jp g (j)) (g 22 (jp g (j))) := ey_7.trans (hB.now hjp _)
        refine lv_aload hx hb dL_law_876 (lv_at hl 10 rfl) ?_
        refine lv_iconst (v := 5) hx hb dL_law_878 (by decide) ?_
        refine lv_iload hx hb dL_law_879 (lv_at hl 1 rfl) ?_
        refine lv_imul hx hb dL_law_881 ?_
        rw [show (5 : Int32) * nI j = nI (5 * (j)) from pk_mul 5 _]
        refine lv_iconst (v := 3) hx hb dL_law_882 (by decide) ?_
        refine lv_iadd hx hb dL_law_883 ?_
        rw [show (nI (5 * (j)) : Int32) + 3 = nI ((5 * (j)) + 3) from nI_add _ 3]
        refine l_ald (v := g 29 (j)) (j := (5 * (j)) + 3) S hE hW 6 rfl (vp_in_nI (show (5 * (j)) + 3 < 60 from (by omega)) (by decide)) (nI_clamp (by omega)) (hA.j3 (by omega)) dL_law_884 ?_
        refine lv_iadd hx hb dL_law_885 ?_
        refine lv_goto (tgt := 898) hx hb dL_law_886 (by decide) ?_
        refine lv_topi (fun y_9 ey_9 => ?_)
        obtain rfl : y_9 = rsz g j := ey_9.trans (by rw [rsz, if_pos c_844_2])
        refine lv_istore (lv' := [(22, .int (rsz g j)), (21, .int (nI (jp g (j)))), (20, .int (nI j)), (0, .ref (b)), (1, .ref (qx)), (2, .ref (qa 0)), (3, .ref (qa 1)), (4, .ref (qa 2)), (5, .ref (qa 3)), (6, .ref (qa 4)), (7, .ref (qa 5)), (8, .ref (qa 6)), (9, .ref (qa 7)), (10, .ref (qa 8)), (11, .ref (qa 9)), (12, .int 1), (13, .int (nI (nj g))), (14, .int (nI (mo g))), (15, .int (nI t)), (16, .int v), (17, .int (nI wh)), (18, .int (nI p9))]) hx hb dL_law_898 hl (by decide) rfl (fun ls hl => ?_)
        rcases stt_c hB hj with ⟨es, e31, e32⟩ | ⟨es, e31, e32⟩ | ⟨es, e31, e32⟩
        · refine lv_aload_n hx hb dL_law_900 rfl (lv_at hl 4 rfl) ?_
          refine lv_iconst (v := 1) hx hb dL_law_901 (by decide) ?_
          refine lv_iload hx hb dL_law_902 (lv_at hl 2 rfl) ?_
          refine l_wcall (As := [.ref (qx), .int 1, .int (nI j)]) (rest := []) (sp := sp_repair g (nI j)) S hE hS hW (c_L_act1 l z hst qx qa (g) gm hB.ok (nI j) (rep_k hB hj)) (vx_cwSW 3 hts (gU_w tw_604 tw_605 tw_0 tw_606) rfl rfl rfl (by decide +kernel) ⟨Nat.le_of_ble_eq_true rfl, Nat.le_of_ble_eq_true rfl⟩) rfl hl.1 rfl (Nat.le_of_ble_eq_true rfl) dL_law_904 ⟨Nat.le_trans (by omega) hf.1, Nat.le_trans (by omega) hf.2⟩ (fun H locs hW hS => ?_)
          rw [t_repair hB hj, if_pos e32] at hW ⊢
          rw [show ares (bad 2 g) = -1003 from rfl]
          have hW : LI z qx qa g gm H := hW
          refine lv_aload hx hb dL_law_907 (lv_at hl 12 rfl) ?_
          refine lv_iload hx hb dL_law_909 (lv_at hl 2 rfl) ?_
          refine l_ald (v := 0) (j := j) S hE hW 7 rfl (vp_in_nI (show j < 12 from (by omega)) (by decide)) (nI_clamp (by omega)) ((hA.a7 (by omega)).trans es) dL_law_911 ?_
          refine lv_iconst (v := 2) hx hb dL_law_912 (by decide) ?_
          refine lv_icmp_ne (tgt := 921) hx hb dL_law_913 (by decide) (fun _ => ?_) (fun h9 => absurd h9 (by decide))
          refine lv_sipush (v := (-1003)) hx hb dL_law_921 (by decide) ?_
          refine lv_icmp_ne (tgt := 931) hx hb dL_law_924 (by decide) (fun q9 => absurd (rfl) q9) (fun c_924_7 => ?_)
          refine lv_iconst (v := 1) hx hb dL_law_927 (by decide) ?_
          refine lv_goto (tgt := 932) hx hb dL_law_928 (by decide) ?_
          refine lv_istore (lv' := [(12, .int 1), (22, .int (rsz g j)), (21, .int (nI (jp g (j)))), (20, .int (nI j)), (0, .ref (b)), (1, .ref (qx)), (2, .ref (qa 0)), (3, .ref (qa 1)), (4, .ref (qa 2)), (5, .ref (qa 3)), (6, .ref (qa 4)), (7, .ref (qa 5)), (8, .ref (qa 6)), (9, .ref (qa 7)), (10, .ref (qa 8)), (11, .ref (qa 9)), (13, .int (nI (nj g))), (14, .int (nI (mo g))), (15, .int (nI t)), (16, .int v), (17, .int (nI wh)), (18, .int (nI p9))]) hx hb dL_law_932 hl (by decide) rfl (fun ls hl => ?_)
          refine lv_aload hx hb dL_law_934 (lv_at hl 12 rfl) ?_
          refine lv_iconst (v := 5) hx hb dL_law_936 (by decide) ?_
          refine lv_iload hx hb dL_law_937 (lv_at hl 3 rfl) ?_
          refine lv_imul hx hb dL_law_939 ?_
          rw [show (5 : Int32) * nI j = nI (5 * (j)) from pk_mul 5 _]
          refine lv_iconst (v := 2) hx hb dL_law_940 (by decide) ?_
          refine lv_iadd hx hb dL_law_941 ?_
          rw [show (nI (5 * (j)) : Int32) + 2 = nI ((5 * (j)) + 2) from nI_add _ 2]
          refine lv_aload hx hb dL_law_942 (lv_at hl 13 rfl) ?_
          refine lv_iload hx hb dL_law_944 (lv_at hl 3 rfl) ?_
          refine l_ald (v := 0) (j := j) S hE hW 7 rfl (vp_in_nI (show j < 12 from (by omega)) (by decide)) (nI_clamp (by omega)) ((hA.a7 (by omega)).trans es) dL_law_946 ?_
          refine lv_iconst (v := 2) hx hb dL_law_947 (by decide) ?_
          refine lv_icmp_ne (tgt := 956) hx hb dL_law_948 (by decide) (fun _ => ?_) (fun h9 => absurd h9 (by decide))
          refine lv_aload hx hb dL_law_956 (lv_at hl 12 rfl) ?_
          refine lv_iconst (v := 5) hx hb dL_law_958 (by decide) ?_
          refine lv_iload hx hb dL_law_959 (lv_at hl 3 rfl) ?_
          refine lv_imul hx hb dL_law_961 ?_
          rw [show (5 : Int32) * nI j = nI (5 * (j)) from pk_mul 5 _]
          refine lv_iconst (v := 2) hx hb dL_law_962 (by decide) ?_
          refine lv_iadd hx hb dL_law_963 ?_
          rw [show (nI (5 * (j)) : Int32) + 2 = nI ((5 * (j)) + 2) from nI_add _ 2]
          refine l_ald (v := g 28 (j)) (j := (5 * (j)) + 2) S hE hW 6 rfl (vp_in_nI (show (5 * (j)) + 2 < 60 from (by omega)) (by decide)) (nI_clamp (by omega)) (hA.j2 (by omega)) dL_law_964 ?_
          refine l_ast (j := (5 * (j)) + 2) S hE hS hW 6 rfl (vp_in_nI (show (5 * (j)) + 2 < 60 from (by omega)) (by decide)) (nI_clamp (by omega)) dL_law_965 (fun H locs hW hS => ?_)
          refine lv_aload hx hb dL_law_966 (lv_at hl 12 rfl) ?_
          refine lv_iconst (v := 5) hx hb dL_law_968 (by decide) ?_
          refine lv_iload hx hb dL_law_969 (lv_at hl 3 rfl) ?_
          refine lv_imul hx hb dL_law_971 ?_
          rw [show (5 : Int32) * nI j = nI (5 * (j)) from pk_mul 5 _]
          refine lv_iconst (v := 4) hx hb dL_law_972 (by decide) ?_
          refine lv_iadd hx hb dL_law_973 ?_
          rw [show (nI (5 * (j)) : Int32) + 4 = nI ((5 * (j)) + 4) from nI_add _ 4]
          refine lv_aload hx hb dL_law_974 (lv_at hl 13 rfl) ?_
          refine lv_iload hx hb dL_law_976 (lv_at hl 3 rfl) ?_
          refine l_ald (v := 0) (j := j) S hE hW 7 rfl (vp_in_nI (show j < 12 from (by omega)) (by decide)) (nI_clamp (by omega)) ((gup_k (by decide)).trans ((hA.a7 (by omega)).trans es)) dL_law_978 ?_
          refine lv_iconst (v := 2) hx hb dL_law_979 (by decide) ?_
          refine lv_icmp_ne (tgt := 991) hx hb dL_law_980 (by decide) (fun _ => ?_) (fun h9 => absurd h9 (by decide))
          refine lv_aload hx hb dL_law_991 (lv_at hl 12 rfl) ?_
          refine lv_iconst (v := 5) hx hb dL_law_993 (by decide) ?_
          refine lv_iload hx hb dL_law_994 (lv_at hl 3 rfl) ?_
          refine lv_imul hx hb dL_law_996 ?_
          rw [show (5 : Int32) * nI j = nI (5 * (j)) from pk_mul 5 _]
          refine lv_iconst (v := 4) hx hb dL_law_997 (by decide) ?_
          refine lv_iadd hx hb dL_law_998 ?_
          rw [show (nI (5 * (j)) : Int32) + 4 = nI ((5 * (j)) + 4) from nI_add _ 4]
          refine l_ald (v := g 33 (j)) (j := (5 * (j)) + 4) S hE hW 6 rfl (vp_in_nI (show (5 * (j)) + 4 < 60 from (by omega)) (by decide)) (nI_clamp (by omega)) ((gup_i (by omega)).trans (hA.j4 (by omega))) dL_law_999 ?_
          refine l_ast (j := (5 * (j)) + 4) S hE hS hW 6 rfl (vp_in_nI (show (5 * (j)) + 4 < 60 from (by omega)) (by decide)) (nI_clamp (by omega)) dL_law_1000 (fun H locs hW hS => ?_)
          refine lv_aload hx hb dL_law_1001 (lv_at hl 13 rfl) ?_
          refine lv_iload hx hb dL_law_1003 (lv_at hl 3 rfl) ?_
          refine lv_aload hx hb dL_law_1005 (lv_at hl 13 rfl) ?_
          refine lv_iload hx hb dL_law_1007 (lv_at hl 3 rfl) ?_
          refine l_ald (v := 0) (j := j) S hE hW 7 rfl (vp_in_nI (show j < 12 from (by omega)) (by decide)) (nI_clamp (by omega)) ((gup_k (by decide)).trans ((gup_k (by decide)).trans ((hA.a7 (by omega)).trans es))) dL_law_1009 ?_
          refine lv_iconst (v := 2) hx hb dL_law_1010 (by decide) ?_
          refine lv_icmp_ne (tgt := 1018) hx hb dL_law_1011 (by decide) (fun _ => ?_) (fun h9 => absurd h9 (by decide))
          refine lv_aload hx hb dL_law_1018 (lv_at hl 13 rfl) ?_
          refine lv_iload hx hb dL_law_1020 (lv_at hl 3 rfl) ?_
          refine l_ald (v := 0) (j := j) S hE hW 7 rfl (vp_in_nI (show j < 12 from (by omega)) (by decide)) (nI_clamp (by omega)) ((gup_k (by decide)).trans ((gup_k (by decide)).trans ((hA.a7 (by omega)).trans es))) dL_law_1022 ?_
          refine l_ast (j := j) S hE hS hW 7 rfl (vp_in_nI (show j < 12 from (by omega)) (by decide)) (nI_clamp (by omega)) dL_law_1023 (fun H locs hW hS => ?_)
          refine lv_goto (tgt := 1264) hx hb dL_law_1024 (by decide) ?_
          refine W.widen (k := cells + 3) (n := slots + 300) (by omega) (by omega) ?_
          exact kk (g) _ _ _ _ (hB) (ar_same hA (hA.j2 (by omega)) (hA.j4 (by omega)) ((hA.a7 (by omega)).trans es)) (show mo g ≤ 5 * t + 5 by omega) hW hS (lv_sub hl [4, 5, 6, 7, 8, 9, 10, 11, 12, 13, 14, 15, 0, 16, 17, 18] rfl)
        · refine lv_aload_n hx hb dL_law_900 rfl (lv_at hl 4 rfl) ?_
          refine lv_iconst (v := 1) hx hb dL_law_901 (by decide) ?_
          refine lv_iload hx hb dL_law_902 (lv_at hl 2 rfl) ?_
          refine l_wcall (As := [.ref (qx), .int 1, .int (nI j)]) (rest := []) (sp := sp_repair g (nI j)) S hE hS hW (c_L_act1 l z hst qx qa (g) gm hB.ok (nI j) (rep_k hB hj)) (vx_cwSW 3 hts (gU_w tw_604 tw_605 tw_0 tw_606) rfl rfl rfl (by decide +kernel) ⟨Nat.le_of_ble_eq_true rfl, Nat.le_of_ble_eq_true rfl⟩) rfl hl.1 rfl (Nat.le_of_ble_eq_true rfl) dL_law_904 ⟨Nat.le_trans (by omega) hf.1, Nat.le_trans (by omega) hf.2⟩ (fun H locs hW hS => ?_)
          rw [t_repair hB hj, if_pos e32] at hW ⊢
          rw [show ares (bad 2 g) = -1003 from rfl]
          have hW : LI z qx qa g gm H := hW
          refine lv_aload hx hb dL_law_907 (lv_at hl 12 rfl) ?_
          refine lv_iload hx hb dL_law_909 (lv_at hl 2 rfl) ?_
          refine l_ald (v := 1) (j := j) S hE hW 7 rfl (vp_in_nI (show j < 12 from (by omega)) (by decide)) (nI_clamp (by omega)) ((hA.a7 (by omega)).trans es) dL_law_911 ?_
          refine lv_iconst (v := 2) hx hb dL_law_912 (by decide) ?_
          refine lv_icmp_ne (tgt := 921) hx hb dL_law_913 (by decide) (fun _ => ?_) (fun h9 => absurd h9 (by decide))
          refine lv_sipush (v := (-1003)) hx hb dL_law_921 (by decide) ?_
          refine lv_icmp_ne (tgt := 931) hx hb dL_law_924 (by decide) (fun q9 => absurd (rfl) q9) (fun c_924_8 => ?_)
          refine lv_iconst (v := 1) hx hb dL_law_927 (by decide) ?_
          refine lv_goto (tgt := 932) hx hb dL_law_928 (by decide) ?_
          refine lv_istore (lv' := [(12, .int 1), (22, .int (rsz g j)), (21, .int (nI (jp g (j)))), (20, .int (nI j)), (0, .ref (b)), (1, .ref (qx)), (2, .ref (qa 0)), (3, .ref (qa 1)), (4, .ref (qa 2)), (5, .ref (qa 3)), (6, .ref (qa 4)), (7, .ref (qa 5)), (8, .ref (qa 6)), (9, .ref (qa 7)), (10, .ref (qa 8)), (11, .ref (qa 9)), (13, .int (nI (nj g))), (14, .int (nI (mo g))), (15, .int (nI t)), (16, .int v), (17, .int (nI wh)), (18, .int (nI p9))]) hx hb dL_law_932 hl (by decide) rfl (fun ls hl => ?_)
          refine lv_aload hx hb dL_law_934 (lv_at hl 12 rfl) ?_
          refine lv_iconst (v := 5) hx hb dL_law_936 (by decide) ?_
          refine lv_iload hx hb dL_law_937 (lv_at hl 3 rfl) ?_
          refine lv_imul hx hb dL_law_939 ?_
          rw [show (5 : Int32) * nI j = nI (5 * (j)) from pk_mul 5 _]
          refine lv_iconst (v := 2) hx hb dL_law_940 (by decide) ?_
          refine lv_iadd hx hb dL_law_941 ?_
          rw [show (nI (5 * (j)) : Int32) + 2 = nI ((5 * (j)) + 2) from nI_add _ 2]
          refine lv_aload hx hb dL_law_942 (lv_at hl 13 rfl) ?_
          refine lv_iload hx hb dL_law_944 (lv_at hl 3 rfl) ?_
          refine l_ald (v := 1) (j := j) S hE hW 7 rfl (vp_in_nI (show j < 12 from (by omega)) (by decide)) (nI_clamp (by omega)) ((hA.a7 (by omega)).trans es) dL_law_946 ?_
          refine lv_iconst (v := 2) hx hb dL_law_947 (by decide) ?_
          refine lv_icmp_ne (tgt := 956) hx hb dL_law_948 (by decide) (fun _ => ?_) (fun h9 => absurd h9 (by decide))
          refine lv_aload hx hb dL_law_956 (lv_at hl 12 rfl) ?_
          refine lv_iconst (v := 5) hx hb dL_law_958 (by decide) ?_
          refine lv_iload hx hb dL_law_959 (lv_at hl 3 rfl) ?_
          refine lv_imul hx hb dL_law_961 ?_
          rw [show (5 : Int32) * nI j = nI (5 * (j)) from pk_mul 5 _]
          refine lv_iconst (v := 2) hx hb dL_law_962 (by decide) ?_
          refine lv_iadd hx hb dL_law_963 ?_
          rw [show (nI (5 * (j)) : Int32) + 2 = nI ((5 * (j)) + 2) from nI_add _ 2]
          refine l_ald (v := g 28 (j)) (j := (5 * (j)) + 2) S hE hW 6 rfl (vp_in_nI (show (5 * (j)) + 2 < 60 from (by omega)) (by decide)) (nI_clamp (by omega)) (hA.j2 (by omega)) dL_law_964 ?_
          refine l_ast (j := (5 * (j)) + 2) S hE hS hW 6 rfl (vp_in_nI (show (5 * (j)) + 2 < 60 from (by omega)) (by decide)) (nI_clamp (by omega)) dL_law_965 (fun H locs hW hS => ?_)
          refine lv_aload hx hb dL_law_966 (lv_at hl 12 rfl) ?_
          refine lv_iconst (v := 5) hx hb dL_law_968 (by decide) ?_
          refine lv_iload hx hb dL_law_969 (lv_at hl 3 rfl) ?_
          refine lv_imul hx hb dL_law_971 ?_
          rw [show (5 : Int32) * nI j = nI (5 * (j)) from pk_mul 5 _]
          refine lv_iconst (v := 4) hx hb dL_law_972 (by decide) ?_
          refine lv_iadd hx hb dL_law_973 ?_
          rw [show (nI (5 * (j)) : Int32) + 4 = nI ((5 * (j)) + 4) from nI_add _ 4]
          refine lv_aload hx hb dL_law_974 (lv_at hl 13 rfl) ?_
          refine lv_iload hx hb dL_law_976 (lv_at hl 3 rfl) ?_
          refine l_ald (v := 1) (j := j) S hE hW 7 rfl (vp_in_nI (show j < 12 from (by omega)) (by decide)) (nI_clamp (by omega)) ((gup_k (by decide)).trans ((hA.a7 (by omega)).trans es)) dL_law_978 ?_
          refine lv_iconst (v := 2) hx hb dL_law_979 (by decide) ?_
          refine lv_icmp_ne (tgt := 991) hx hb dL_law_980 (by decide) (fun _ => ?_) (fun h9 => absurd h9 (by decide))
          refine lv_aload hx hb dL_law_991 (lv_at hl 12 rfl) ?_
          refine lv_iconst (v := 5) hx hb dL_law_993 (by decide) ?_
          refine lv_iload hx hb dL_law_994 (lv_at hl 3 rfl) ?_
          refine lv_imul hx hb dL_law_996 ?_
          rw [show (5 : Int32) * nI j = nI (5 * (j)) from pk_mul 5 _]
          refine lv_iconst (v := 4) hx hb dL_law_997 (by decide) ?_
          refine lv_iadd hx hb dL_law_998 ?_
          rw [show (nI (5 * (j)) : Int32) + 4 = nI ((5 * (j)) + 4) from nI_add _ 4]
          refine l_ald (v := g 33 (j)) (j := (5 * (j)) + 4) S hE hW 6 rfl (vp_in_nI (show (5 * (j)) + 4 < 60 from (by omega)) (by decide)) (nI_clamp (by omega)) ((gup_i (by omega)).trans (hA.j4 (by omega))) dL_law_999 ?_
          refine l_ast (j := (5 * (j)) + 4) S hE hS hW 6 rfl (vp_in_nI (show (5 * (j)) + 4 < 60 from (by omega)) (by decide)) (nI_clamp (by omega)) dL_law_1000 (fun H locs hW hS => ?_)
          refine lv_aload hx hb dL_law_1001 (lv_at hl 13 rfl) ?_
          refine lv_iload hx hb dL_law_1003 (lv_at hl 3 rfl) ?_
          refine lv_aload hx hb dL_law_1005 (lv_at hl 13 rfl) ?_
          refine lv_iload hx hb dL_law_1007 (lv_at hl 3 rfl) ?_
          refine l_ald (v := 1) (j := j) S hE hW 7 rfl (vp_in_nI (show j < 12 from (by omega)) (by decide)) (nI_clamp (by omega)) ((gup_k (by decide)).trans ((gup_k (by decide)).trans ((hA.a7 (by omega)).trans es))) dL_law_1009 ?_
          refine lv_iconst (v := 2) hx hb dL_law_1010 (by decide) ?_
          refine lv_icmp_ne (tgt := 1018) hx hb dL_law_1011 (by decide) (fun _ => ?_) (fun h9 => absurd h9 (by decide))
          refine lv_aload hx hb dL_law_1018 (lv_at hl 13 rfl) ?_
          refine lv_iload hx hb dL_law_1020 (lv_at hl 3 rfl) ?_
          refine l_ald (v := 1) (j := j) S hE hW 7 rfl (vp_in_nI (show j < 12 from (by omega)) (by decide)) (nI_clamp (by omega)) ((gup_k (by decide)).trans ((gup_k (by decide)).trans ((hA.a7 (by omega)).trans es))) dL_law_1022 ?_
          refine l_ast (j := j) S hE hS hW 7 rfl (vp_in_nI (show j < 12 from (by omega)) (by decide)) (nI_clamp (by omega)) dL_law_1023 (fun H locs hW hS => ?_)
          refine lv_goto (tgt := 1264) hx hb dL_law_1024 (by decide) ?_
          refine W.widen (k := cells + 3) (n := slots + 300) (by omega) (by omega) ?_
          exact kk (g) _ _ _ _ (hB) (ar_same hA (hA.j2 (by omega)) (hA.j4 (by omega)) ((hA.a7 (by omega)).trans es)) (show mo g ≤ 5 * t + 5 by omega) hW hS (lv_sub hl [4, 5, 6, 7, 8, 9, 10, 11, 12, 13, 14, 15, 0, 16, 17, 18] rfl)
        · refine lv_aload_n hx hb dL_law_900 rfl (lv_at hl 4 rfl) ?_
          refine lv_iconst (v := 1) hx hb dL_law_901 (by decide) ?_
          refine lv_iload hx hb dL_law_902 (lv_at hl 2 rfl) ?_
          refine l_wcall (As := [.ref (qx), .int 1, .int (nI j)]) (rest := []) (sp := sp_repair g (nI j)) S hE hS hW (c_L_act1 l z hst qx qa (g) gm hB.ok (nI j) (rep_k hB hj)) (vx_cwSW 3 hts (gU_w tw_604 tw_605 tw_0 tw_606) rfl rfl rfl (by decide +kernel) ⟨Nat.le_of_ble_eq_true rfl, Nat.le_of_ble_eq_true rfl⟩) rfl hl.1 rfl (Nat.le_of_ble_eq_true rfl) dL_law_904 ⟨Nat.le_trans (by omega) hf.1, Nat.le_trans (by omega) hf.2⟩ (fun H locs hW hS => ?_)
          have n32 : ¬ g 32 j = 0 := by rw [e32]; decide
          rw [t_repair hB hj, if_neg n32] at hW ⊢
          rw [show ares (0, rsz g j, gup (gup (gup g 32 j 0) 33 j (g 22 (jp g j))) 28 j (rsz g j)) = rsz g j from rfl]
          have hW : LI z qx qa (gup (gup (gup g 32 j 0) 33 j (g 22 (jp g j))) 28 j (rsz g j)) gm H := hW
          refine lv_aload hx hb dL_law_907 (lv_at hl 12 rfl) ?_
          refine lv_iload hx hb dL_law_909 (lv_at hl 2 rfl) ?_
          refine l_ald (v := 2) (j := j) S hE hW 7 rfl (vp_in_nI (show j < 12 from (by omega)) (by decide)) (nI_clamp (by omega)) ((hA.a7 (by omega)).trans es) dL_law_911 ?_
          refine lv_iconst (v := 2) hx hb dL_law_912 (by decide) ?_
          refine lv_icmp_ne (tgt := 921) hx hb dL_law_913 (by decide) (fun h9 => absurd h9 (by decide)) (fun _ => ?_)
          refine lv_iload hx hb dL_law_916 (lv_at hl 0 rfl) ?_
          refine lv_goto (tgt := 924) hx hb dL_law_918 (by decide) ?_
          refine lv_icmp_ne (tgt := 931) hx hb dL_law_924 (by decide) (fun q9 => absurd (rfl) q9) (fun c_924_9 => ?_)
          refine lv_iconst (v := 1) hx hb dL_law_927 (by decide) ?_
          refine lv_goto (tgt := 932) hx hb dL_law_928 (by decide) ?_
          refine lv_istore (lv' := [(12, .int 1), (22, .int (rsz g j)), (21, .int (nI (jp g (j)))), (20, .int (nI j)), (0, .ref (b)), (1, .ref (qx)), (2, .ref (qa 0)), (3, .ref (qa 1)), (4, .ref (qa 2)), (5, .ref (qa 3)), (6, .ref (qa 4)), (7, .ref (qa 5)), (8, .ref (qa 6)), (9, .ref (qa 7)), (10, .ref (qa 8)), (11, .ref (qa 9)), (13, .int (nI (nj g))), (14, .int (nI (mo g))), (15, .int (nI t)), (16, .int v), (17, .int (nI wh)), (18, .int (nI p9))]) hx hb dL_law_932 hl (by decide) rfl (fun ls hl => ?_)
          refine lv_aload hx hb dL_law_934 (lv_at hl 12 rfl) ?_
          refine lv_iconst (v := 5) hx hb dL_law_936 (by decide) ?_
          refine lv_iload hx hb dL_law_937 (lv_at hl 3 rfl) ?_
          refine lv_imul hx hb dL_law_939 ?_
          rw [show (5 : Int32) * nI j = nI (5 * (j)) from pk_mul 5 _]
          refine lv_iconst (v := 2) hx hb dL_law_940 (by decide) ?_
          refine lv_iadd hx hb dL_law_941 ?_
          rw [show (nI (5 * (j)) : Int32) + 2 = nI ((5 * (j)) + 2) from nI_add _ 2]
          refine lv_aload hx hb dL_law_942 (lv_at hl 13 rfl) ?_
          refine lv_iload hx hb dL_law_944 (lv_at hl 3 rfl) ?_
          refine l_ald (v := 2) (j := j) S hE hW 7 rfl (vp_in_nI (show j < 12 from (by omega)) (by decide)) (nI_clamp (by omega)) ((hA.a7 (by omega)).trans es) dL_law_946 ?_
          refine lv_iconst (v := 2) hx hb dL_law_947 (by decide) ?_
          refine lv_icmp_ne (tgt := 956) hx hb dL_law_948 (by decide) (fun h9 => absurd h9 (by decide)) (fun _ => ?_)
          refine lv_iload hx hb dL_law_951 (lv_at hl 1 rfl) ?_
          refine lv_goto (tgt := 965) hx hb dL_law_953 (by decide) ?_
          refine l_ast (j := (5 * (j)) + 2) S hE hS hW 6 rfl (vp_in_nI (show (5 * (j)) + 2 < 60 from (by omega)) (by decide)) (nI_clamp (by omega)) dL_law_965 (fun H locs hW hS => ?_)
          refine lv_aload hx hb dL_law_966 (lv_at hl 12 rfl) ?_
          refine lv_iconst (v := 5) hx hb dL_law_968 (by decide) ?_
          refine lv_iload hx hb dL_law_969 (lv_at hl 3 rfl) ?_
          refine lv_imul hx hb dL_law_971 ?_
          rw [show (5 : Int32) * nI j = nI (5 * (j)) from pk_mul 5 _]
          refine lv_iconst (v := 4) hx hb dL_law_972 (by decide) ?_
          refine lv_iadd hx hb dL_law_973 ?_
          rw [show (nI (5 * (j)) : Int32) + 4 = nI ((5 * (j)) + 4) from nI_add _ 4]
          refine lv_aload hx hb dL_law_974 (lv_at hl 13 rfl) ?_
          refine lv_iload hx hb dL_law_976 (lv_at hl 3 rfl) ?_
          refine l_ald (v := 2) (j := j) S hE hW 7 rfl (vp_in_nI (show j < 12 from (by omega)) (by decide)) (nI_clamp (by omega)) ((gup_k (by decide)).trans ((hA.a7 (by omega)).trans es)) dL_law_978 ?_
          refine lv_iconst (v := 2) hx hb dL_law_979 (by decide) ?_
          refine lv_icmp_ne (tgt := 991) hx hb dL_law_980 (by decide) (fun h9 => absurd h9 (by decide)) (fun _ => ?_)
          refine lv_aload hx hb dL_law_983 (lv_at hl 10 rfl) ?_
          refine lv_iload hx hb dL_law_985 (lv_at hl 2 rfl) ?_
          refine l_ald (v := g 22 (jp g (j))) (j := jp g (j)) S hE hW 4 rfl (vp_in_nI (show jp g (j) < 6 from (by omega)) (by decide)) (nI_clamp (by omega)) ((gup_k (by decide)).trans (hA.a4 (by omega))) dL_law_987 ?_
          refine lv_goto (tgt := 1000) hx hb dL_law_988 (by decide) ?_
          refine l_ast (j := (5 * (j)) + 4) S hE hS hW 6 rfl (vp_in_nI (show (5 * (j)) + 4 < 60 from (by omega)) (by decide)) (nI_clamp (by omega)) dL_law_1000 (fun H locs hW hS => ?_)
          refine lv_aload hx hb dL_law_1001 (lv_at hl 13 rfl) ?_
          refine lv_iload hx hb dL_law_1003 (lv_at hl 3 rfl) ?_
          refine lv_aload hx hb dL_law_1005 (lv_at hl 13 rfl) ?_
          refine lv_iload hx hb dL_law_1007 (lv_at hl 3 rfl) ?_
          refine l_ald (v := 2) (j := j) S hE hW 7 rfl (vp_in_nI (show j < 12 from (by omega)) (by decide)) (nI_clamp (by omega)) ((gup_k (by decide)).trans ((gup_k (by decide)).trans ((hA.a7 (by omega)).trans es))) dL_law_1009 ?_
          refine lv_iconst (v := 2) hx hb dL_law_1010 (by decide) ?_
          refine lv_icmp_ne (tgt := 1018) hx hb dL_law_1011 (by decide) (fun h9 => absurd h9 (by decide)) (fun _ => ?_)
          refine lv_iconst (v := 1) hx hb dL_law_1014 (by decide) ?_
          refine lv_goto (tgt := 1023) hx hb dL_law_1015 (by decide) ?_
          refine l_ast (j := j) S hE hS hW 7 rfl (vp_in_nI (show j < 12 from (by omega)) (by decide)) (nI_clamp (by omega)) dL_law_1023 (fun H locs hW hS => ?_)
          refine lv_goto (tgt := 1264) hx hb dL_law_1024 (by decide) ?_
          refine W.widen (k := cells + 3) (n := slots + 300) (by omega) (by omega) ?_
          exact kk (gup (gup (gup g 32 j 0) 33 j (g 22 (jp g j))) 28 j (rsz g j)) _ _ _ _ (bd_r hB hj n32) (ar_r hB hA hj n32) (show mo g ≤ 5 * t + 5 by omega) hW hS (lv_sub hl [4, 5, 6, 7, 8, 9, 10, 11, 12, 13, 14, 15, 0, 16, 17, 18] rfl)
end LTU
