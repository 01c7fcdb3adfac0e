/-! ===== the law's own methods ===== -/
set_option maxHeartbeats 4000000 in
set_option maxRecDepth 100000 in
/-- the law's up -/
theorem c_L_up (l : Launch) (z : ZE) (v : Int32) (n : Nat) (hn : 0 < n) (hn2 : n < 1000000) : Met l yL_up (.code yL_up cL_up 2 (some .int) :: wU) ({ frames := 0, cells := 0, slots := 0, locals := 0 }) (PE z [.int v, .int (nI n)] (fun _ => True)) (rqi (nI (upN v n))) 0 0 zF := by
  refine Met.ofW (cc := cL_up) (maxL := 2) (ret := (some .int)) (by decide) rfl ?_
  intro p e s m args below meth c s₁ BD hml hv
  obtain ⟨rfl, hE, hW⟩ := hv
  have hts : ∀ w ∈ wU, w.before _ s = true := fun w h => atoms_spec (ws := .code yL_up cL_up 2 (some .int) :: wU) BD.pre w (List.mem_cons_of_mem _ h)
  have S : CallFix p m c cL_up 2 s ([.int v, .int (nI n)] : List Value).toArray wU RL := ⟨BD.exec, BD.bytes, hml, findClass_of_methodNamed BD.named, hts⟩
  have hx := S.1
  have hb := S.2.1
  have hown := S.2.2.2.1
  have hr := BD.returns
  have hlocks := BD.notSynchronized
  have hS : va_S (zA z) s.heap s.heap [] := va_S.rf
  have hl := lv_entry ([.int v, .int (nI n)]) (n := 2) (Nat.le_of_ble_eq_true rfl)
  rw [lg_entry_eq]
  generalize (lg_sl ([.int v, .int (nI n)]) ++ List.replicate (2 - (lg_sl ([.int v, .int (nI n)])).length) Slot.unset).toArray = ls at hl ⊢
  have hl : lv_has ls 2 [(0, .int v), (1, .int (nI n))] := hl
  refine lv_iload_n hx hb dL_up_0 rfl (lv_at hl 0 rfl) ?_
  refine lv_iconst (v := 2) hx hb dL_up_1 (by decide) ?_
  refine lv_iushr (v := ((v).toUInt32 >>> ((2 : Int32).toUInt32 &&& Int32.toUInt32 31)).toInt32) hx hb dL_up_2 rfl ?_
  rw [up_sh]
  refine lv_iload_n hx hb dL_up_3 rfl (lv_at hl 1 rfl) ?_
  refine lv_irem hx hb dL_up_4 (nI_ne0 (by omega) (by omega)) ?_
  rw [show (nI (v.toBitVec.toNat / 4) : Int32) - nI (v.toBitVec.toNat / 4) / nI n * nI n = nI ((v.toBitVec.toNat / 4) % (n)) from pk_rem (up_lt v) (by omega) (by omega)]
  exact g_iret S hr hlocks rfl dL_up_5
set_option maxHeartbeats 4000000 in
set_option maxRecDepth 100000 in
/-- the law's moved -/
theorem c_L_moved (l : Launch) (z : ZE) (a b d : Int32) : Met l yL_moved (.code yL_moved cL_moved 3 (some .int) :: wU) ({ frames := 0, cells := 0, slots := 0, locals := 0 }) (PE z [.int a, .int b, .int d] (fun _ => True)) (rqi (lmv a b d)) 0 0 zF := by
  refine Met.ofW (cc := cL_moved) (maxL := 3) (ret := (some .int)) (by decide) rfl ?_
  intro p e s m args below meth c s₁ BD hml hv
  obtain ⟨rfl, hE, hW⟩ := hv
  have hts : ∀ w ∈ wU, w.before _ s = true := fun w h => atoms_spec (ws := .code yL_moved cL_moved 3 (some .int) :: wU) BD.pre w (List.mem_cons_of_mem _ h)
  have S : CallFix p m c cL_moved 3 s ([.int a, .int b, .int d] : List Value).toArray wU RL := ⟨BD.exec, BD.bytes, hml, findClass_of_methodNamed BD.named, hts⟩
  have hx := S.1
  have hb := S.2.1
  have hown := S.2.2.2.1
  have hr := BD.returns
  have hlocks := BD.notSynchronized
  have hS : va_S (zA z) s.heap s.heap [] := va_S.rf
  have hl := lv_entry ([.int a, .int b, .int d]) (n := 3) (Nat.le_of_ble_eq_true rfl)
  rw [lg_entry_eq]
  generalize (lg_sl ([.int a, .int b, .int d]) ++ List.replicate (3 - (lg_sl ([.int a, .int b, .int d])).length) Slot.unset).toArray = ls at hl ⊢
  have hl : lv_has ls 3 [(0, .int a), (1, .int b), (2, .int d)] := hl
  refine lv_iload_n hx hb dL_moved_0 rfl (lv_at hl 0 rfl) ?_
  refine lv_iconst (v := 2) hx hb dL_moved_1 (by decide) ?_
  refine lv_iload_n hx hb dL_moved_2 rfl (lv_at hl 1 rfl) ?_
  refine lv_iadd hx hb dL_moved_3 ?_
  refine lv_imul hx hb dL_moved_4 ?_
  refine lv_iload_n hx hb dL_moved_5 rfl (lv_at hl 2 rfl) ?_
  refine lv_imul hx hb dL_moved_6 ?_
  refine lv_sipush (v := 10000) hx hb dL_moved_7 (by decide) ?_
  refine lv_idiv hx hb dL_moved_10 (by decide) ?_
  exact g_iret S hr hlocks rfl dL_moved_11
set_option maxHeartbeats 4000000 in
set_option maxRecDepth 100000 in
/-- the law's behind -/
theorem c_L_behind (l : Launch) (z : ZE) (a b co : Int32) (hco : ¬ (4 + co : Int32) = 0) : Met l yL_behind (.code yL_behind cL_behind 4 (some .int) :: wU) ({ frames := 0, cells := 0, slots := 0, locals := 0 }) (PE z [.int a, .int b, .int co] (fun _ => True)) (rqi (lbh a b co)) 0 0 zF := by
  refine Met.ofW (cc := cL_behind) (maxL := 4) (ret := (some .int)) (by decide) rfl ?_
  intro p e s m args below meth c s₁ BD hml hv
  obtain ⟨rfl, hE, hW⟩ := hv
  have hts : ∀ w ∈ wU, w.before _ s = true := fun w h => atoms_spec (ws := .code yL_behind cL_behind 4 (some .int) :: wU) BD.pre w (List.mem_cons_of_mem _ h)
  have S : CallFix p m c cL_behind 4 s ([.int a, .int b, .int co] : List Value).toArray wU RL := ⟨BD.exec, BD.bytes, hml, findClass_of_methodNamed BD.named, hts⟩
  have hx := S.1
  have hb := S.2.1
  have hown := S.2.2.2.1
  have hr := BD.returns
  have hlocks := BD.notSynchronized
  have hS : va_S (zA z) s.heap s.heap [] := va_S.rf
  have hl := lv_entry ([.int a, .int b, .int co]) (n := 4) (Nat.le_of_ble_eq_true rfl)
  rw [lg_entry_eq]
  generalize (lg_sl ([.int a, .int b, .int co]) ++ List.replicate (4 - (lg_sl ([.int a, .int b, .int co])).length) Slot.unset).toArray = ls at hl ⊢
  have hl : lv_has ls 4 [(0, .int a), (1, .int b), (2, .int co)] := hl
  refine lv_iload_n hx hb dL_behind_0 rfl (lv_at hl 1 rfl) ?_
  refine lv_iload_n hx hb dL_behind_1 rfl (lv_at hl 0 rfl) ?_
  refine lv_isub hx hb dL_behind_2 ?_
  refine lv_iconst (v := 4) hx hb dL_behind_3 (by decide) ?_
  refine lv_iload_n hx hb dL_behind_4 rfl (lv_at hl 2 rfl) ?_
  refine lv_iadd hx hb dL_behind_5 ?_
  refine lv_idiv hx hb dL_behind_6 hco ?_
  refine lv_istore_n (lv' := [(3, .int ((b - a) / (4 + co))), (0, .int a), (1, .int b), (2, .int co)]) hx hb dL_behind_7 rfl hl (by decide) rfl (fun ls hl => ?_)
  refine lv_iload_n hx hb dL_behind_8 rfl (lv_at hl 1 rfl) ?_
  refine lv_iload_n hx hb dL_behind_9 rfl (lv_at hl 0 rfl) ?_
  refine lv_if_eq (tgt := 17) hx hb dL_behind_10 (by decide) (fun c_10 => ?_) (fun c_10 => ?_)
  · refine lv_iload_n hx hb dL_behind_17 rfl (lv_at hl 2 rfl) ?_
    refine lv_iload_n hx hb dL_behind_18 rfl (lv_at hl 1 rfl) ?_
    refine lv_icmp_le (tgt := 26) hx hb dL_behind_19 (by decide) (fun c_19_1 => ?_) (fun c_19_1 => ?_)
    · refine lv_iload_n hx hb dL_behind_26 rfl (lv_at hl 2 rfl) ?_
      refine lv_iload_n hx hb dL_behind_27 rfl (lv_at hl 1 rfl) ?_
      refine lv_icmp_ge (tgt := 35) hx hb dL_behind_28 (by decide) (fun c_28_2 => ?_) (fun c_28_2 => ?_)
      · refine lv_iconst (v := 0) hx hb dL_behind_35 (by decide) ?_
        refine lv_iadd hx hb dL_behind_36 ?_
        exact g_iret S hr hlocks (by simp [lbh, c_10, c_19_1, c_28_2]) dL_behind_37
      · refine lv_iconst (v := (-1)) hx hb dL_behind_31 (by decide) ?_
        refine lv_goto (tgt := 36) hx hb dL_behind_32 (by decide) ?_
        refine lv_iadd hx hb dL_behind_36 ?_
        exact g_iret S hr hlocks (by simp [lbh, c_10, c_19_1, c_28_2]) dL_behind_37
    · refine lv_iconst (v := 1) hx hb dL_behind_22 (by decide) ?_
      refine lv_goto (tgt := 36) hx hb dL_behind_23 (by decide) ?_
      refine lv_iadd hx hb dL_behind_36 ?_
      exact g_iret S hr hlocks (by simp [lbh, c_10, c_19_1]) dL_behind_37
  · refine lv_iload_n hx hb dL_behind_13 rfl (lv_at hl 0 rfl) ?_
    refine lv_goto (tgt := 36) hx hb dL_behind_14 (by decide) ?_
    refine lv_iadd hx hb dL_behind_36 ?_
    exact g_iret S hr hlocks (by simp [lbh, c_10]) dL_behind_37
set_option maxHeartbeats 4000000 in
set_option maxRecDepth 100000 in
/-- the law's breaks -/
theorem c_L_breaks (l : Launch) (z : ZE) (qx : Nat) (qa : Nat → Nat) (g gm : GS) (j p9 : Nat) (hj : j < 12) (hp : gm 6 (5 * j + 1) = nI p9) (hp6 : p9 < 6) (wd : Int32) : Met l yL_breaks (.code yL_breaks cL_breaks 9 (some .boolean) :: wU) ({ frames := 1, cells := 0, slots := 0, locals := 22 }) (PE z [.ref (qa 6), .int (nI j), .ref (qa 3), .ref (qa 2), .int wd] (fun H => LI z qx qa g gm H)) (rqi (bI (lbr (gm 6 (5 * j)) (nI (p9 % 3)) (gm 6 (5 * j + 2)) (gm 6 (5 * j + 3)) (gm 6 (5 * j + 4)) (gm 3 p9) (gm 2 p9) wd))) 0 0 zF := by
  refine Met.ofW (cc := cL_breaks) (maxL := 9) (ret := (some .boolean)) (by decide) rfl ?_
  intro p e s m args below meth c s₁ BD hml hv
  obtain ⟨rfl, hE, hW⟩ := hv
  have hts : ∀ w ∈ wU, w.before _ s = true := fun w h => atoms_spec (ws := .code yL_breaks cL_breaks 9 (some .boolean) :: wU) BD.pre w (List.mem_cons_of_mem _ h)
  have S : CallFix p m c cL_breaks 9 s ([.ref (qa 6), .int (nI j), .ref (qa 3), .ref (qa 2), .int wd] : List Value).toArray wU RL := ⟨BD.exec, BD.bytes, hml, findClass_of_methodNamed BD.named, hts⟩
  have hx := S.1
  have hb := S.2.1
  have hown := S.2.2.2.1
  have hr := BD.returns
  have hlocks := BD.notSynchronized
  have hS : va_S (zA z) s.heap s.heap [] := va_S.rf
  have hl := lv_entry ([.ref (qa 6), .int (nI j), .ref (qa 3), .ref (qa 2), .int wd]) (n := 9) (Nat.le_of_ble_eq_true rfl)
  rw [lg_entry_eq]
  generalize (lg_sl ([.ref (qa 6), .int (nI j), .ref (qa 3), .ref (qa 2), .int wd]) ++ List.replicate (9 - (lg_sl ([.ref (qa 6), .int (nI j), .ref (qa 3), .ref (qa 2), .int wd])).length) Slot.unset).toArray = ls at hl ⊢
  have hl : lv_has ls 9 [(0, .ref (qa 6)), (1, .int (nI j)), (2, .ref (qa 3)), (3, .ref (qa 2)), (4, .int wd)] := hl
  refine lv_aload_n hx hb dL_breaks_0 rfl (lv_at hl 0 rfl) ?_
  refine lv_iconst (v := 5) hx hb dL_breaks_1 (by decide) ?_
  refine lv_iload_n hx hb dL_breaks_2 rfl (lv_at hl 1 rfl) ?_
  refine lv_imul hx hb dL_breaks_3 ?_
  rw [show (5 : Int32) * nI j = nI (5 * (j)) from pk_mul 5 _]
  refine lv_iconst (v := 1) hx hb dL_breaks_4 (by decide) ?_
  refine lv_iadd hx hb dL_breaks_5 ?_
  rw [show (nI (5 * (j)) : Int32) + 1 = nI ((5 * (j)) + 1) from nI_add _ 1]
  refine l_ald (v := nI p9) (j := (5 * (j)) + 1) S hE hW 6 rfl (vp_in_nI (show (5 * (j)) + 1 < 60 from (by omega)) (by decide)) (nI_clamp (by omega)) hp dL_breaks_6 ?_
  refine lv_istore (lv' := [(5, .int (nI p9)), (0, .ref (qa 6)), (1, .int (nI j)), (2, .ref (qa 3)), (3, .ref (qa 2)), (4, .int wd)]) hx hb dL_breaks_7 hl (by decide) rfl (fun ls hl => ?_)
  refine lv_iload hx hb dL_breaks_9 (lv_at hl 0 rfl) ?_
  refine lv_iconst (v := 3) hx hb dL_breaks_11 (by decide) ?_
  refine lv_irem hx hb dL_breaks_12 (by decide) ?_
  rw [show (nI p9 : Int32) - nI p9 / 3 * 3 = nI ((p9) % 3) from pk_rem (d := 3) (by omega) (by decide) (by decide)]
  refine lv_istore (lv' := [(6, .int (nI ((p9) % 3))), (5, .int (nI p9)), (0, .ref (qa 6)), (1, .int (nI j)), (2, .ref (qa 3)), (3, .ref (qa 2)), (4, .int wd)]) hx hb dL_breaks_13 hl (by decide) rfl (fun ls hl => ?_)
  refine lv_aload_n hx hb dL_breaks_15 rfl (lv_at hl 2 rfl) ?_
  refine lv_iconst (v := 5) hx hb dL_breaks_16 (by decide) ?_
  refine lv_iload_n hx hb dL_breaks_17 rfl (lv_at hl 3 rfl) ?_
  refine lv_imul hx hb dL_breaks_18 ?_
  rw [show (5 : Int32) * nI j = nI (5 * (j)) from pk_mul 5 _]
  refine lv_iconst (v := 2) hx hb dL_breaks_19 (by decide) ?_
  refine lv_iadd hx hb dL_breaks_20 ?_
  rw [show (nI (5 * (j)) : Int32) + 2 = nI ((5 * (j)) + 2) from nI_add _ 2]
  refine l_ald (v := gm 6 ((5 * (j)) + 2)) (j := (5 * (j)) + 2) S hE hW 6 rfl (vp_in_nI (show (5 * (j)) + 2 < 60 from (by omega)) (by decide)) (nI_clamp (by omega)) rfl dL_breaks_21 ?_
  refine lv_istore (lv' := [(7, .int (gm 6 ((5 * (j)) + 2))), (6, .int (nI ((p9) % 3))), (5, .int (nI p9)), (0, .ref (qa 6)), (1, .int (nI j)), (2, .ref (qa 3)), (3, .ref (qa 2)), (4, .int wd)]) hx hb dL_breaks_22 hl (by decide) rfl (fun ls hl => ?_)
  refine lv_aload_n hx hb dL_breaks_24 rfl (lv_at hl 3 rfl) ?_
  refine lv_iconst (v := 5) hx hb dL_breaks_25 (by decide) ?_
  refine lv_iload_n hx hb dL_breaks_26 rfl (lv_at hl 4 rfl) ?_
  refine lv_imul hx hb dL_breaks_27 ?_
  rw [show (5 : Int32) * nI j = nI (5 * (j)) from pk_mul 5 _]
  refine l_ald (v := gm 6 (5 * (j))) (j := 5 * (j)) S hE hW 6 rfl (vp_in_nI (show 5 * (j) < 60 from (by omega)) (by decide)) (nI_clamp (by omega)) rfl dL_breaks_28 ?_
  refine lv_iconst (v := 1) hx hb dL_breaks_29 (by decide) ?_
  refine lv_icmp_ne (tgt := 68) hx hb dL_breaks_30 (by decide) (fun c_30 => ?_) (fun c_30 => ?_)
  · refine lv_aload_n hx hb dL_breaks_68 rfl (lv_at hl 5 rfl) ?_
    refine lv_iload hx hb dL_breaks_69 (lv_at hl 2 rfl) ?_
    refine l_ald (v := gm 3 p9) (j := p9) S hE hW 3 rfl (vp_in_nI (show p9 < 6 from (by omega)) (by decide)) (nI_clamp (by omega)) rfl dL_breaks_71 ?_
    refine lv_aload_n hx hb dL_breaks_72 rfl (lv_at hl 5 rfl) ?_
    refine lv_iload hx hb dL_breaks_73 (lv_at hl 2 rfl) ?_
    refine l_ald (v := gm 3 p9) (j := p9) S hE hW 3 rfl (vp_in_nI (show p9 < 6 from (by omega)) (by decide)) (nI_clamp (by omega)) rfl dL_breaks_75 ?_
    refine lv_iload hx hb dL_breaks_76 (lv_at hl 1 rfl) ?_
    refine lv_iload hx hb dL_breaks_78 (lv_at hl 7 rfl) ?_
    refine lv_aload_n hx hb dL_breaks_80 rfl (lv_at hl 6 rfl) ?_
    refine lv_iload hx hb dL_breaks_81 (lv_at hl 2 rfl) ?_
    refine l_ald (v := gm 2 p9) (j := p9) S hE hW 2 rfl (vp_in_nI (show p9 < 6 from (by omega)) (by decide)) (nI_clamp (by omega)) rfl dL_breaks_83 ?_
    refine lv_isub hx hb dL_breaks_84 ?_
    refine g_callS (As := [.int (gm 3 p9), .int (nI ((p9) % 3)), .int (wd - (gm 2 p9))]) (rest := [.int (gm 3 p9)]) S hE hS (c_L_moved l z (gm 3 p9) (nI ((p9) % 3)) (wd - (gm 2 p9))) (cwS 3 hts (gU_S tw_650 tw_651 tw_0 tw_652) rfl rfl rfl (by decide +kernel) ⟨Nat.le_of_ble_eq_true rfl, Nat.le_of_ble_eq_true rfl⟩) trivial rfl hl.1 rfl (Nat.le_of_ble_eq_true rfl) dL_breaks_85 ⟨Nat.zero_le _, Nat.zero_le _⟩ ?_
    refine lv_iadd hx hb dL_breaks_88 ?_
    refine lv_topi (fun x_2 ex_2 => ?_)
    refine lv_istore (lv' := [(8, .int x_2), (7, .int (gm 6 ((5 * (j)) + 2))), (6, .int (nI ((p9) % 3))), (5, .int (nI p9)), (0, .ref (qa 6)), (1, .int (nI j)), (2, .ref (qa 3)), (3, .ref (qa 2)), (4, .int wd)]) hx hb dL_breaks_89 hl (by decide) rfl (fun ls hl => ?_)
    refine lv_aload_n hx hb dL_breaks_91 rfl (lv_at hl 4 rfl) ?_
    refine lv_iconst (v := 5) hx hb dL_breaks_92 (by decide) ?_
    refine lv_iload_n hx hb dL_breaks_93 rfl (lv_at hl 5 rfl) ?_
    refine lv_imul hx hb dL_breaks_94 ?_
    rw [show (5 : Int32) * nI j = nI (5 * (j)) from pk_mul 5 _]
    refine l_ald (v := gm 6 (5 * (j))) (j := 5 * (j)) S hE hW 6 rfl (vp_in_nI (show 5 * (j) < 60 from (by omega)) (by decide)) (nI_clamp (by omega)) rfl dL_breaks_95 ?_
    refine lv_iconst (v := 2) hx hb dL_breaks_96 (by decide) ?_
    refine lv_icmp_ne (tgt := 121) hx hb dL_breaks_97 (by decide) (fun c_97_2 => ?_) (fun c_97_2 => ?_)
    · refine lv_iconst (v := 0) hx hb dL_breaks_121 (by decide) ?_
      exact g_zret S hr hlocks (by subst ex_2; simp [lbr, bI, c_30, c_97_2]) ⟨_, rfl⟩ dL_breaks_122
    · refine lv_iload hx hb dL_breaks_100 (lv_at hl 0 rfl) ?_
      refine lv_iconst (v := 2) hx hb dL_breaks_102 (by decide) ?_
      refine lv_aload_n hx hb dL_breaks_103 rfl (lv_at hl 4 rfl) ?_
      refine lv_iconst (v := 5) hx hb dL_breaks_104 (by decide) ?_
      refine lv_iload_n hx hb dL_breaks_105 rfl (lv_at hl 5 rfl) ?_
      refine lv_imul hx hb dL_breaks_106 ?_
      rw [show (5 : Int32) * nI j = nI (5 * (j)) from pk_mul 5 _]
      refine lv_iconst (v := 3) hx hb dL_breaks_107 (by decide) ?_
      refine lv_iadd hx hb dL_breaks_108 ?_
      rw [show (nI (5 * (j)) : Int32) + 3 = nI ((5 * (j)) + 3) from nI_add _ 3]
      refine l_ald (v := gm 6 ((5 * (j)) + 3)) (j := (5 * (j)) + 3) S hE hW 6 rfl (vp_in_nI (show (5 * (j)) + 3 < 60 from (by omega)) (by decide)) (nI_clamp (by omega)) rfl dL_breaks_109 ?_
      refine lv_imul hx hb dL_breaks_110 ?_
      refine lv_iadd hx hb dL_breaks_111 ?_
      refine lv_iload hx hb dL_breaks_112 (lv_at hl 1 rfl) ?_
      refine lv_icmp_ge (tgt := 121) hx hb dL_breaks_114 (by decide) (fun c_114_3 => ?_) (fun c_114_3 => ?_)
      · refine lv_iconst (v := 0) hx hb dL_breaks_121 (by decide) ?_
        exact g_zret S hr hlocks (by subst ex_2; simp [lbr, bI, c_30, c_97_2, c_114_3]) ⟨_, rfl⟩ dL_breaks_122
      · refine lv_iconst (v := 1) hx hb dL_breaks_117 (by decide) ?_
        refine lv_goto (tgt := 122) hx hb dL_breaks_118 (by decide) ?_
        exact g_zret S hr hlocks (by subst ex_2; simp [lbr, bI, c_30, c_97_2, c_114_3]) ⟨_, rfl⟩ dL_breaks_122
  · refine lv_iload hx hb dL_breaks_33 (lv_at hl 0 rfl) ?_
    refine lv_iload hx hb dL_breaks_35 (lv_at hl 1 rfl) ?_
    refine lv_iload hx hb dL_breaks_37 (lv_at hl 7 rfl) ?_
    refine lv_aload_n hx hb dL_breaks_39 rfl (lv_at hl 3 rfl) ?_
    refine lv_iconst (v := 5) hx hb dL_breaks_40 (by decide) ?_
    refine lv_iload_n hx hb dL_breaks_41 rfl (lv_at hl 4 rfl) ?_
    refine lv_imul hx hb dL_breaks_42 ?_
    rw [show (5 : Int32) * nI j = nI (5 * (j)) from pk_mul 5 _]
    refine lv_iconst (v := 4) hx hb dL_breaks_43 (by decide) ?_
    refine lv_iadd hx hb dL_breaks_44 ?_
    rw [show (nI (5 * (j)) : Int32) + 4 = nI ((5 * (j)) + 4) from nI_add _ 4]
    refine l_ald (v := gm 6 ((5 * (j)) + 4)) (j := (5 * (j)) + 4) S hE hW 6 rfl (vp_in_nI (show (5 * (j)) + 4 < 60 from (by omega)) (by decide)) (nI_clamp (by omega)) rfl dL_breaks_45 ?_
    refine lv_isub hx hb dL_breaks_46 ?_
    refine g_callS (As := [.int (gm 6 ((5 * (j)) + 2)), .int (nI ((p9) % 3)), .int (wd - (gm 6 ((5 * (j)) + 4)))]) (rest := []) S hE hS (c_L_moved l z (gm 6 ((5 * (j)) + 2)) (nI ((p9) % 3)) (wd - (gm 6 ((5 * (j)) + 4)))) (cwS 3 hts (gU_S tw_650 tw_651 tw_0 tw_652) rfl rfl rfl (by decide +kernel) ⟨Nat.le_of_ble_eq_true rfl, Nat.le_of_ble_eq_true rfl⟩) trivial rfl hl.1 rfl (Nat.le_of_ble_eq_true rfl) dL_breaks_47 ⟨Nat.zero_le _, Nat.zero_le _⟩ ?_
    refine lv_topi (fun x_5 ex_5 => ?_)
    refine lv_istore (lv' := [(8, .int x_5), (7, .int (gm 6 ((5 * (j)) + 2))), (6, .int (nI ((p9) % 3))), (5, .int (nI p9)), (0, .ref (qa 6)), (1, .int (nI j)), (2, .ref (qa 3)), (3, .ref (qa 2)), (4, .int wd)]) hx hb dL_breaks_50 hl (by decide) rfl (fun ls hl => ?_)
    refine lv_iload hx hb dL_breaks_52 (lv_at hl 0 rfl) ?_
    refine lv_iload hx hb dL_breaks_54 (lv_at hl 0 rfl) ?_
    refine lv_imul hx hb dL_breaks_56 ?_
    refine lv_bipush (v := 25) hx hb dL_breaks_57 (by decide) ?_
    refine lv_icmp_le (tgt := 66) hx hb dL_breaks_59 (by decide) (fun c_59_5 => ?_) (fun c_59_5 => ?_)
    · refine lv_iconst (v := 0) hx hb dL_breaks_66 (by decide) ?_
      exact g_zret S hr hlocks (by subst ex_5; simp [lbr, bI, c_30, c_59_5]) ⟨_, rfl⟩ dL_breaks_67
    · refine lv_iconst (v := 1) hx hb dL_breaks_62 (by decide) ?_
      refine lv_goto (tgt := 67) hx hb dL_breaks_63 (by decide) ?_
      exact g_zret S hr hlocks (by subst ex_5; simp [lbr, bI, c_30, c_59_5]) ⟨_, rfl⟩ dL_breaks_67
set_option maxHeartbeats 4000000 in
set_option maxRecDepth 100000 in
/-- what the law's cell asks -/
def PXc (z : ZE) (b L k : Nat) (xs : Nat → Int32) : Array Value → State → Prop := fun v U => v = ([.ref b, .int (nI k)] : List Value).toArray ∧ EV z U U.heap ∧ va_X b L xs U U.heap ∧ b < U.heap.size
theorem PXc.blind {z : ZE} {b L k : Nat} {xs : Nat → Int32} : FrameBlind (PXc z b L k xs) := fun a U g mk h => ⟨h.1, EV.same (u := U) (U := U.calling g mk a) rfl h.2.1, va_X.moved (Vm.Alike.refl U.vm) h.2.2.1, h.2.2.2⟩
set_option maxHeartbeats 4000000 in
set_option maxRecDepth 100000 in
/-- the law's cell -/
theorem c_L_cell (l : Launch) (z : ZE) (b L k : Nat) (xs : Nat → Int32) (hL : L ≤ 260) (hk : k < 1000) (hbz : b < zB z) : Met l yL_cell (.code yL_cell cL_cell 2 (some .int) :: wU) ({ frames := 0, cells := 0, slots := 0, locals := 0 }) (PXc z b L k xs) (rqi (celV L xs k)) 0 0 zF := by
  refine Met.ofW (cc := cL_cell) (maxL := 2) (ret := (some .int)) (by decide) rfl ?_
  intro p e s m args below meth c s₁ BD hml hv
  obtain ⟨rfl, hE, hX, hbl⟩ := hv
  have hts : ∀ w ∈ wU, w.before _ s = true := fun w h => atoms_spec (ws := .code yL_cell cL_cell 2 (some .int) :: wU) BD.pre w (List.mem_cons_of_mem _ h)
  have S : CallFix p m c cL_cell 2 s ([.ref b, .int (nI k)] : List Value).toArray wU RL := ⟨BD.exec, BD.bytes, hml, findClass_of_methodNamed BD.named, hts⟩
  have hx := S.1
  have hb := S.2.1
  have hr := BD.returns
  have hlocks := BD.notSynchronized
  have hbA : ¬ zA z b := fun q => by have q2 : zB z ≤ b := q; omega
  have hS : va_S (zA z) s.heap s.heap [] := va_S.rf
  have hl := lv_entry ([.ref b, .int (nI k)]) (n := 2) (Nat.le_of_ble_eq_true rfl)
  rw [lg_entry_eq]
  generalize (lg_sl ([.ref b, .int (nI k)]) ++ List.replicate (2 - (lg_sl ([.ref b, .int (nI k)])).length) Slot.unset).toArray = ls at hl ⊢
  have hl : lv_has ls 2 [(0, .ref b), (1, .int (nI k))] := hl
  refine lv_aload_n hx hb dL_cell_0 rfl (lv_at hl 0 rfl) ?_
  refine va_slen hx hb hX hbl hbA hS dL_cell_1 ?_
  rw [show Int32.ofNat L = nI L from rfl]
  by_cases h0 : L = 0
  · subst h0
    refine lv_if_ne (tgt := 9) hx hb dL_cell_2 (by decide) (fun q => absurd rfl q) (fun _ => ?_)
    refine lv_iconst (v := 0) hx hb dL_cell_5 (by decide) ?_
    refine lv_goto (tgt := 20) hx hb dL_cell_6 (by decide) ?_
    exact g_iret S hr hlocks (by simp [celV]) dL_cell_20
  · refine lv_if_ne (tgt := 9) hx hb dL_cell_2 (by decide) (fun _ => ?_) (fun q => absurd q (nI_ne0 (by omega) (by omega)))
    refine lv_aload_n hx hb dL_cell_9 rfl (lv_at hl 0 rfl) ?_
    refine lv_iload_n hx hb dL_cell_10 rfl (lv_at hl 1 rfl) ?_
    refine lv_aload_n hx hb dL_cell_11 rfl (lv_at hl 0 rfl) ?_
    refine va_slen hx hb hX hbl hbA hS dL_cell_12 ?_
    rw [show Int32.ofNat L = nI L from rfl]
    refine lv_irem hx hb dL_cell_13 (nI_ne0 (by omega) (by omega)) ?_
    rw [show (nI k : Int32) - nI k / nI L * nI L = nI (k % L) from pk_rem (by omega) (by omega) (by omega)]
    have hm : k % L < L := Nat.mod_lt _ (by omega)
    refine va_sld hx hb hX hbl hbA hS (vp_in_nI (show k % L < L from hm) (by omega)) dL_cell_14 ?_
    rw [show (nI (k % L) : Int32).toNatClampNeg = k % L from nI_clamp (by omega)]
    refine lv_bipush (v := 31) hx hb dL_cell_15 (by decide) ?_
    refine lv_iload_n hx hb dL_cell_17 rfl (lv_at hl 1 rfl) ?_
    refine lv_imul hx hb dL_cell_18 ?_
    rw [show (31 : Int32) * nI k = nI (31 * k) from pk_mul 31 k]
    refine lv_iadd hx hb dL_cell_19 ?_
    exact g_iret S hr hlocks (by simp [celV, h0]) dL_cell_20
section GCL
variable {p : Program} {l : Launch} {e : Env} {R : Room} {s : State} {m : MethodId} {args : Array Value} {below : List Frame} {meth : Method} {c : Code} {H : Heap} {locs : List Loc} {cells slots : Nat} {Q : State → Prop}
variable {cc : ByteArray} {pc nL : Nat} {ls : Array Slot} {rest stk : List Value} {z : ZE} {own : String} {b L k : Nat} {xs : Nat → Int32}
variable {y : MethodName} {bytes : ByteArray} {maxL n index : Nat} {ret : Option FieldType} {ws : List Cond} {rm : Room}
theorem l_cell (S : CallFix p m c cc nL s args wU own) (hE : EV z s s.heap) (hS : va_S (zA z) s.heap H locs) (hX : va_X b L xs s s.heap) (hbl : b < s.heap.size) (hbA : ¬ zA z b) (hM : Met l y ws rm (PXc z b L k xs) (rqi (celV L xs k)) 0 0 zF) (cw : CallB R s args own index y bytes maxL ret ws rm 0 0 n ∧ (Cond.static y).before args s = true)
    (hn : 2 = n) (hsize : ls.size = nL) (hstack : stk = .int (nI k) :: .ref b :: rest) (hW : (rest.map fun v => v.category).sum ≤ 8) (hdg : decode cc pc = .ok (.invokestatic index, 3)) (hf : cells ≤ R.cells ∧ slots ≤ R.slots)
    (kk : W p l e R s m args below meth c H locs cells slots Q (F0 m (pc + 3) ls (.int (celV L xs k) :: rest))) : W p l e R s m args below meth c H locs cells slots Q (F0 m pc ls stk) :=
  g_run (va_runS (As := [.ref b, .int (nI k)]) S hM cw ⟨PXc.blind, fun U hU hW => ⟨rfl, hE.at hS hU hW, by rw [hU]; exact (va_X.moved hW.alike hX).kept (hS.2.1 b hbl hbA), by rw [hU]; exact Nat.lt_of_lt_of_le hbl hS.1⟩⟩ rfl hn hsize hstack (lv_room hW) hdg hf) (fun _ _ _ h => h) kk
end GCL
set_option maxHeartbeats 4000000 in
set_option maxRecDepth 100000 in
/-- the law's c_L_act0 -/
theorem c_L_act0 (l : Launch) (z : ZE) (hst : l.stackTraces = false) (qx : Nat) (qa : Nat → Nat) (g gm : GS) (hO : OKg g) (a : Int32) (hok : (sp_glue g (a)).1 = 0 ∨ (sp_glue g (a)).1 = 2) : Met l yL_act (.codeWith yL_act cL_act 4 (some .int) [(0, 17, 18, 16)] :: wU) ({ frames := 7, cells := 1, slots := 6, locals := 113 }) (PE z [.ref qx, .int (0), .int (a)] (fun H => LI z qx qa g gm H)) (LQ z qx qa gm (sp_glue g (a))) 1 6 (zA z) := by
  refine va_MetW (cc := cL_act) (maxL := 4) (ret := some .int) (hh := [(0, 17, 18, 16)]) (by decide) rfl ?_
  intro p e s m args below meth c s₁ BD hml hv
  obtain ⟨rfl, hE, hI⟩ := hv
  obtain ⟨w, ⟨h1, h2⟩, hW⟩ := hI
  subst h1
  subst h2
  have hts : ∀ w ∈ wU, w.before _ s = true := fun w h => atoms_spec (ws := .codeWith yL_act cL_act 4 (some .int) [(0, 17, 18, 16)] :: wU) BD.pre w (List.mem_cons_of_mem _ h)
  have hT : c.exceptionTable.toList = tableOf [(0, 17, 18, 16)] := vx_table (x := yL_act) BD (atoms_spec (ws := .codeWith yL_act cL_act 4 (some .int) [(0, 17, 18, 16)] :: wU) BD.pre _ List.mem_cons_self)
  have S : CallFix p m c cL_act 4 s ([.ref (wad w 0 0), .int (0), .int (a)] : List Value).toArray wU RL := ⟨BD.exec, BD.bytes, hml, findClass_of_methodNamed BD.named, hts⟩
  have hx := S.1
  have hb := S.2.1
  have hown := S.2.2.2.1
  have hr := BD.returns
  have hlocks := BD.notSynchronized
  have hS : va_S (zA z) s.heap s.heap [] := va_S.rf
  have hl := lv_entry ([.ref (wad w 0 0), .int (0), .int (a)]) (n := 4) (Nat.le_of_ble_eq_true rfl)
  rw [lg_entry_eq]
  generalize (lg_sl ([.ref (wad w 0 0), .int (0), .int (a)]) ++ List.replicate (4 - (lg_sl ([.ref (wad w 0 0), .int (0), .int (a)])).length) Slot.unset).toArray = ls at hl ⊢
  have hl : lv_has ls 4 [(0, .ref (wad w 0 0)), (1, .int (0)), (2, .int (a))] := hl
  refine lv_iload_n hx hb dL_act_0 rfl (lv_at hl 1 rfl) ?_
  refine lv_if_ne (tgt := 12) hx hb dL_act_1 (by decide) (fun q => absurd rfl q) (fun _ => ?_)
  refine lv_aload_n hx hb dL_act_4 rfl (lv_at hl 0 rfl) ?_
  refine lv_iload_n hx hb dL_act_5 rfl (lv_at hl 2 rfl) ?_
  refine x_wcall (As := [.int (a)]) (rest := []) (Ea := xA) (Eb := xS) (Ec := xI) S hE hS hW (c_X5_glue l z hst w g gm (fun _ => 0) hO (a)) (cwV 1 hts (gU_V tw_608 tw_609 tw_610 tw_1 tw_611) rfl rfl rfl (by decide +kernel) ⟨Nat.le_of_ble_eq_true rfl, Nat.le_of_ble_eq_true rfl⟩) rfl hl.1 rfl (Nat.le_of_ble_eq_true rfl) dL_act_6 ⟨Nat.le_of_ble_eq_true rfl, Nat.le_of_ble_eq_true rfl⟩ (fun k ce q9 H locs hsp hk hW hS h1 h2 h3 => ?_) (fun r w9 g9 H locs hsp hs hW hS => ?_)
  · obtain rfl : k = 2 := by
      rw [hsp] at hok
      exact hok.resolve_left (fun q => by have q9 : k = 0 := q; rcases hk with rfl | rfl | rfl <;> exact absurd q9 (by decide))
    rw [show ex3 xA xS xI 2 = xS by decide +kernel] at h3
    refine vx_catch (own := RL) (name := xS) (E := xS) hown [] ⟨0, 17, 18, 16⟩ [] (hT.trans rfl) (fun u9 hz => by cases hz) rfl (by decide) (hts _ tw_607) (hE.nw (by decide +kernel)) h1 h2 h3 ?_
    refine lv_astore_n (lv' := [(3, .ref q9), (0, .ref (wad w 0 0)), (1, .int (0)), (2, .int (a))]) hx hb dL_act_18 rfl hl (by decide) rfl (fun ls hl => ?_)
    refine lv_sipush (v := -1003) hx hb dL_act_19 (by decide) ?_
    exact l_ret S hr hlocks hS ⟨w, ⟨rfl, rfl⟩, hW⟩ (by rw [hsp]; rfl) (by rw [hsp]; rfl) ⟨Nat.le_of_ble_eq_true rfl, Nat.le_of_ble_eq_true rfl⟩ dL_act_22
  · refine lv_goto (tgt := 17) hx hb dL_act_9 (by decide) ?_
    exact l_ret S hr hlocks hS ⟨w9, ⟨hs.1, hs.2.1⟩, hW⟩ (by rw [hsp]; rfl) (by rw [hsp]) ⟨Nat.le_of_ble_eq_true rfl, Nat.le_of_ble_eq_true rfl⟩ dL_act_17
set_option maxHeartbeats 4000000 in
set_option maxRecDepth 100000 in
/-- the law's c_L_act1 -/
theorem c_L_act1 (l : Launch) (z : ZE) (hst : l.stackTraces = false) (qx : Nat) (qa : Nat → Nat) (g gm : GS) (hO : OKg g) (a : Int32) (hok : (sp_repair g (a)).1 = 0 ∨ (sp_repair g (a)).1 = 2) : Met l yL_act (.codeWith yL_act cL_act 4 (some .int) [(0, 17, 18, 16)] :: wU) ({ frames := 7, cells := 1, slots := 6, locals := 112 }) (PE z [.ref qx, .int (1), .int (a)] (fun H => LI z qx qa g gm H)) (LQ z qx qa gm (sp_repair g (a))) 1 6 (zA z) := by
  refine va_MetW (cc := cL_act) (maxL := 4) (ret := some .int) (hh := [(0, 17, 18, 16)]) (by decide) rfl ?_
  intro p e s m args below meth c s₁ BD hml hv
  obtain ⟨rfl, hE, hI⟩ := hv
  obtain ⟨w, ⟨h1, h2⟩, hW⟩ := hI
  subst h1
  subst h2
  have hts : ∀ w ∈ wU, w.before _ s = true := fun w h => atoms_spec (ws := .codeWith yL_act cL_act 4 (some .int) [(0, 17, 18, 16)] :: wU) BD.pre w (List.mem_cons_of_mem _ h)
  have hT : c.exceptionTable.toList = tableOf [(0, 17, 18, 16)] := vx_table (x := yL_act) BD (atoms_spec (ws := .codeWith yL_act cL_act 4 (some .int) [(0, 17, 18, 16)] :: wU) BD.pre _ List.mem_cons_self)
  have S : CallFix p m c cL_act 4 s ([.ref (wad w 0 0), .int (1), .int (a)] : List Value).toArray wU RL := ⟨BD.exec, BD.bytes, hml, findClass_of_methodNamed BD.named, hts⟩
  have hx := S.1
  have hb := S.2.1
  have hown := S.2.2.2.1
  have hr := BD.returns
  have hlocks := BD.notSynchronized
  have hS : va_S (zA z) s.heap s.heap [] := va_S.rf
  have hl := lv_entry ([.ref (wad w 0 0), .int (1), .int (a)]) (n := 4) (Nat.le_of_ble_eq_true rfl)
  rw [lg_entry_eq]
  generalize (lg_sl ([.ref (wad w 0 0), .int (1), .int (a)]) ++ List.replicate (4 - (lg_sl ([.ref (wad w 0 0), .int (1), .int (a)])).length) Slot.unset).toArray = ls at hl ⊢
  have hl : lv_has ls 4 [(0, .ref (wad w 0 0)), (1, .int (1)), (2, .int (a))] := hl
  refine lv_iload_n hx hb dL_act_0 rfl (lv_at hl 1 rfl) ?_
  refine lv_if_ne (tgt := 12) hx hb dL_act_1 (by decide) (fun _ => ?_) (fun q => absurd q (by decide))
  refine lv_aload_n hx hb dL_act_12 rfl (lv_at hl 0 rfl) ?_
  refine lv_iload_n hx hb dL_act_13 rfl (lv_at hl 2 rfl) ?_
  refine x_wcall (As := [.int (a)]) (rest := []) (Ea := xI) (Eb := xS) (Ec := xI) S hE hS hW (c_X5_repair l z hst w g gm (fun _ => 0) hO (a)) (cwV 1 hts (gU_V tw_634 tw_635 tw_636 tw_1 tw_637) rfl rfl rfl (by decide +kernel) ⟨Nat.le_of_ble_eq_true rfl, Nat.le_of_ble_eq_true rfl⟩) rfl hl.1 rfl (Nat.le_of_ble_eq_true rfl) dL_act_14 ⟨Nat.le_of_ble_eq_true rfl, Nat.le_of_ble_eq_true rfl⟩ (fun k ce q9 H locs hsp hk hW hS h1 h2 h3 => ?_) (fun r w9 g9 H locs hsp hs hW hS => ?_)
  · obtain rfl : k = 2 := by
      rw [hsp] at hok
      exact hok.resolve_left (fun q => by have q9 : k = 0 := q; rcases hk with rfl | rfl | rfl <;> exact absurd q9 (by decide))
    rw [show ex3 xI xS xI 2 = xS by decide +kernel] at h3
    refine vx_catch (own := RL) (name := xS) (E := xS) hown [] ⟨0, 17, 18, 16⟩ [] (hT.trans rfl) (fun u9 hz => by cases hz) rfl (by decide) (hts _ tw_607) (hE.nw (by decide +kernel)) h1 h2 h3 ?_
    refine lv_astore_n (lv' := [(3, .ref q9), (0, .ref (wad w 0 0)), (1, .int (1)), (2, .int (a))]) hx hb dL_act_18 rfl hl (by decide) rfl (fun ls hl => ?_)
    refine lv_sipush (v := -1003) hx hb dL_act_19 (by decide) ?_
    exact l_ret S hr hlocks hS ⟨w, ⟨rfl, rfl⟩, hW⟩ (by rw [hsp]; rfl) (by rw [hsp]; rfl) ⟨Nat.le_of_ble_eq_true rfl, Nat.le_of_ble_eq_true rfl⟩ dL_act_22
  · exact l_ret S hr hlocks hS ⟨w9, ⟨hs.1, hs.2.1⟩, hW⟩ (by rw [hsp]; rfl) (by rw [hsp]) ⟨Nat.le_of_ble_eq_true rfl, Nat.le_of_ble_eq_true rfl⟩ dL_act_17
set_option maxHeartbeats 4000000 in
set_option maxRecDepth 100000 in
/-- the law's c_L_breaksIn -/
theorem c_L_breaksIn (l : Launch) (z : ZE) (hst : l.stackTraces = false) (qx : Nat) (qa : Nat → Nat) (g gm : GS) (hO : OKg g) (a n9 : Int32) (hok : (sp_breaksIn g (a) (n9)).1 = 0 ∨ (sp_breaksIn g (a) (n9)).1 = 3) : Met l yL_breaksIn (.codeWith yL_breaksIn cL_breaksIn 4 (some .int) [(0, 6, 7, 16)] :: wU) ({ frames := 7, cells := 1, slots := 6, locals := 131 }) (PE z [.ref qx, .int (a), .int (n9)] (fun H => LI z qx qa g gm H)) (LQ z qx qa gm (sp_breaksIn g (a) (n9))) 1 6 (zA z) := by
  refine va_MetW (cc := cL_breaksIn) (maxL := 4) (ret := some .int) (hh := [(0, 6, 7, 16)]) (by decide) rfl ?_
  intro p e s m args below meth c s₁ BD hml hv
  obtain ⟨rfl, hE, hI⟩ := hv
  obtain ⟨w, ⟨h1, h2⟩, hW⟩ := hI
  subst h1
  subst h2
  have hts : ∀ w ∈ wU, w.before _ s = true := fun w h => atoms_spec (ws := .codeWith yL_breaksIn cL_breaksIn 4 (some .int) [(0, 6, 7, 16)] :: wU) BD.pre w (List.mem_cons_of_mem _ h)
  have hT : c.exceptionTable.toList = tableOf [(0, 6, 7, 16)] := vx_table (x := yL_breaksIn) BD (atoms_spec (ws := .codeWith yL_breaksIn cL_breaksIn 4 (some .int) [(0, 6, 7, 16)] :: wU) BD.pre _ List.mem_cons_self)
  have S : CallFix p m c cL_breaksIn 4 s ([.ref (wad w 0 0), .int (a), .int (n9)] : List Value).toArray wU RL := ⟨BD.exec, BD.bytes, hml, findClass_of_methodNamed BD.named, hts⟩
  have hx := S.1
  have hb := S.2.1
  have hown := S.2.2.2.1
  have hr := BD.returns
  have hlocks := BD.notSynchronized
  have hS : va_S (zA z) s.heap s.heap [] := va_S.rf
  have hl := lv_entry ([.ref (wad w 0 0), .int (a), .int (n9)]) (n := 4) (Nat.le_of_ble_eq_true rfl)
  rw [lg_entry_eq]
  generalize (lg_sl ([.ref (wad w 0 0), .int (a), .int (n9)]) ++ List.replicate (4 - (lg_sl ([.ref (wad w 0 0), .int (a), .int (n9)])).length) Slot.unset).toArray = ls at hl ⊢
  have hl : lv_has ls 4 [(0, .ref (wad w 0 0)), (1, .int (a)), (2, .int (n9))] := hl
  refine lv_aload_n hx hb dL_breaksIn_0 rfl (lv_at hl 0 rfl) ?_
  refine lv_iload_n hx hb dL_breaksIn_1 rfl (lv_at hl 1 rfl) ?_
  refine lv_iload_n hx hb dL_breaksIn_2 rfl (lv_at hl 2 rfl) ?_
  refine x_wcall (As := [.int (a), .int (n9)]) (rest := []) (Ea := xI) (Eb := xA) (Ec := xS) S hE hS hW (c_X5_breaksIn l z hst w g gm (fun _ => 0) hO (a) (n9)) (cwV 2 hts (gU_V tw_642 tw_643 tw_644 tw_1 tw_645) rfl rfl rfl (by decide +kernel) ⟨Nat.le_of_ble_eq_true rfl, Nat.le_of_ble_eq_true rfl⟩) rfl hl.1 rfl (Nat.le_of_ble_eq_true rfl) dL_breaksIn_3 ⟨Nat.le_of_ble_eq_true rfl, Nat.le_of_ble_eq_true rfl⟩ (fun k ce q9 H locs hsp hk hW hS h1 h2 h3 => ?_) (fun r w9 g9 H locs hsp hs hW hS => ?_)
  · obtain rfl : k = 3 := by
      rw [hsp] at hok
      exact hok.resolve_left (fun q => by have q9 : k = 0 := q; rcases hk with rfl | rfl | rfl <;> exact absurd q9 (by decide))
    rw [show ex3 xI xA xS 3 = xS by decide +kernel] at h3
    refine vx_catch (own := RL) (name := xS) (E := xS) hown [] ⟨0, 6, 7, 16⟩ [] (hT.trans rfl) (fun u9 hz => by cases hz) rfl (by decide) (hts _ tw_607) (hE.nw (by decide +kernel)) h1 h2 h3 ?_
    refine lv_astore_n (lv' := [(3, .ref q9), (0, .ref (wad w 0 0)), (1, .int (a)), (2, .int (n9))]) hx hb dL_breaksIn_7 rfl hl (by decide) rfl (fun ls hl => ?_)
    refine lv_sipush (v := -1003) hx hb dL_breaksIn_8 (by decide) ?_
    exact l_ret S hr hlocks hS ⟨w, ⟨rfl, rfl⟩, hW⟩ (by rw [hsp]; rfl) (by rw [hsp]; rfl) ⟨Nat.le_of_ble_eq_true rfl, Nat.le_of_ble_eq_true rfl⟩ dL_breaksIn_11
  · exact l_ret S hr hlocks hS ⟨w9, ⟨hs.1, hs.2.1⟩, hW⟩ (by rw [hsp]; rfl) (by rw [hsp]) ⟨Nat.le_of_ble_eq_true rfl, Nat.le_of_ble_eq_true rfl⟩ dL_breaksIn_6
