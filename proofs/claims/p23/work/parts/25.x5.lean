/-! ===== the shop: looking ahead ===== -/
set_option maxHeartbeats 4000000 in
set_option maxRecDepth 100000 in
/-- month() -/
theorem c_X5_month (l : Launch) (z : ZE) (w : WG) (g gm : GS) (o : Nat → Int64) (hO : OKg g) : Met l yX5_month (.code yX5_month cX5_month 1 (some .int) :: wU) ({ frames := 0, cells := 0, slots := 0, locals := 0 }) (PE z [.ref (wad w 0 (0))] (fun H => WW z w g gm o H)) (rqi (nI (mo g))) 0 0 zF := by
  refine Met.ofW (cc := cX5_month) (maxL := 1) (ret := (some .int)) (by decide) rfl ?_
  intro p e s m args below meth c s₁ BD hml hv
  obtain ⟨rfl, hE, hW⟩ := hv
  have hts : ∀ w ∈ wU, w.before _ s = true := fun w h => atoms_spec (ws := .code yX5_month cX5_month 1 (some .int) :: wU) BD.pre w (List.mem_cons_of_mem _ h)
  have S : CallFix p m c cX5_month 1 s ([.ref (wad w 0 (0))] : List Value).toArray wU RX5 := ⟨BD.exec, BD.bytes, hml, findClass_of_methodNamed BD.named, hts⟩
  have hx := S.1
  have hb := S.2.1
  have hown := S.2.2.2.1
  have hr := BD.returns
  have hlocks := BD.notSynchronized
  have hS : va_S (zA z) s.heap s.heap [] := va_S.rf
  have hl := lv_entry ([.ref (wad w 0 (0))]) (n := 1) (Nat.le_of_ble_eq_true rfl)
  rw [lg_entry_eq]
  generalize (lg_sl ([.ref (wad w 0 (0))]) ++ List.replicate (1 - (lg_sl ([.ref (wad w 0 (0))])).length) Slot.unset).toArray = ls at hl ⊢
  have hl : lv_has ls 1 [(0, .ref (wad w 0 (0)))] := hl
  refine lv_aload_n hx hb dX5_month_0 rfl (lv_at hl 0 rfl) ?_
  refine g_get S hE hW.sh (C := RX5) (T := TX5) (N := 8) (v := .int (nI (mo g))) rfl inU5 4 (by decide) tw_64 (Or.inl rfl) (by rw [← hO.n1]; rfl) dX5_month_1 ?_
  exact g_iret S hr hlocks rfl dX5_month_4
set_option maxHeartbeats 4000000 in
set_option maxRecDepth 100000 in
/-- breaksIn(joint, months) -/
theorem c_X5_breaksIn (l : Launch) (z : ZE) (hst : l.stackTraces = false) (w : WG) (g gm : GS) (o : Nat → Int64) (hO : OKg g) (a b : Int32) : vx_Met l yX5_breaksIn (.code yX5_breaksIn cX5_breaksIn 4 (some .int) :: wU) ({ frames := 6, cells := 1, slots := 6, locals := 108 }) (PE z [.ref (wad w 0 (0)), .int a, .int b] (fun H => WW z w g gm o H)) (xQ z w gm o (sp_breaksIn g a b)) (xX z w g gm o (sp_breaksIn g a b) xI xA xS) 1 6 (zA z) := by
  refine vx_ofW (cc := cX5_breaksIn) (maxL := 4) (ret := (some .int)) (by decide) rfl ?_
  intro p e s m args below meth c s₁ BD hml hno hv
  obtain ⟨rfl, hE, hW⟩ := hv
  have hts : ∀ w ∈ wU, w.before _ s = true := fun w h => atoms_spec (ws := .code yX5_breaksIn cX5_breaksIn 4 (some .int) :: wU) BD.pre w (List.mem_cons_of_mem _ h)
  have S : CallFix p m c cX5_breaksIn 4 s ([.ref (wad w 0 (0)), .int a, .int b] : List Value).toArray wU RX5 := ⟨BD.exec, BD.bytes, hml, findClass_of_methodNamed BD.named, hts⟩
  have hx := S.1
  have hb := S.2.1
  have hown := S.2.2.2.1
  have hr := BD.returns
  have hlocks := BD.notSynchronized
  have hS : va_S (zA z) s.heap s.heap [] := va_S.rf
  have hl := lv_entry ([.ref (wad w 0 (0)), .int a, .int b]) (n := 4) (Nat.le_of_ble_eq_true rfl)
  rw [lg_entry_eq]
  generalize (lg_sl ([.ref (wad w 0 (0)), .int a, .int b]) ++ List.replicate (4 - (lg_sl ([.ref (wad w 0 (0)), .int a, .int b])).length) Slot.unset).toArray = ls at hl ⊢
  have hl : lv_has ls 4 [(0, .ref (wad w 0 (0))), (1, .int a), (2, .int b)] := hl
  have h20 := hO.l5
  have h40 := hO.l16
  have h30 := hO.l24
  by_cases h9 : isJ g a = true
  · obtain ⟨i, hi, rfl⟩ := wi_lt (by omega) h9
    have ti : tN (nI i) = i := tNn (by omega)
    refine lv_aload_n hx hb dX5_breaksIn_0 rfl (lv_at hl 0 rfl) ?_
    refine lv_iload_n hx hb dX5_breaksIn_1 rfl (lv_at hl 1 rfl) ?_
    refine g_callVq (As := [.int (nI i)]) (rest := []) S hE hS (c_findJoint_y l z w g gm o hO (i) (by omega)) (cwV 1 hts (gU_V tw_588 tw_590 tp_11 tw_1 tw_591) rfl rfl rfl (by decide +kernel) ⟨Nat.le_of_ble_eq_true rfl, Nat.le_of_ble_eq_true rfl⟩) (hE.recv hW.sh (q := (RX5, TX5, 8)) rfl) hW rfl hl.1 rfl (Nat.le_of_ble_eq_true rfl) dX5_breaksIn_2 ⟨Nat.zero_le _, Nat.zero_le _⟩ ?_
    rw [show va_rf (some (wad w 4 (i))) = .ref (wad w 4 (i)) from rfl]
    refine lv_astore_n (lv' := [(3, .ref (wad w 4 (i))), (0, .ref (wad w 0 (0))), (1, .int (nI i)), (2, .int b)]) hx hb dX5_breaksIn_5 rfl hl (by decide) rfl (fun ls hl => ?_)
    refine lv_aload_n hx hb dX5_breaksIn_6 rfl (lv_at hl 0 rfl) ?_
    refine lv_ifnonnull (tgt := 20) hx hb dX5_breaksIn_7 (by decide) ?_
    refine lv_iload_n hx hb dX5_breaksIn_20 rfl (lv_at hl 3 rfl) ?_
    refine lv_iconst (v := 1) hx hb dX5_breaksIn_21 (by decide) ?_
    refine lv_bipush (v := 24) hx hb dX5_breaksIn_22 (by decide) ?_
    refine g_callS (As := [.int b, .int 1, .int 24]) (rest := []) S hE hS (c_X5_isWithin l z (b) (1) (24)) (cwS 3 hts (gU_S tw_158 tw_159 tw_1 tw_160) rfl rfl rfl (by decide +kernel) ⟨Nat.le_of_ble_eq_true rfl, Nat.le_of_ble_eq_true rfl⟩) trivial rfl hl.1 rfl (Nat.le_of_ble_eq_true rfl) dX5_breaksIn_24 ⟨Nat.zero_le _, Nat.zero_le _⟩ ?_
    refine g_if_ne S (tgt := 40) dX5_breaksIn_27 (by decide) (fun c_27 => ?_) (fun c_27 => ?_)
    · obtain ⟨M, hm1, hm2, rfl⟩ := wi_rng (a := 1) (b := 24) (by decide) (by decide) c_27
      have tm9 : tN (nI M) = M := tNn (by omega)
      refine lv_aload_n hx hb dX5_breaksIn_40 rfl (lv_at hl 0 rfl) ?_
      refine g_callV (As := []) (rest := []) S hE hS (c_X1_isHeld l z w g gm o hO (i) (by omega)) (cwV 0 hts (gU_V tw_252 tw_253 tw_254 tw_21 tw_255) rfl rfl rfl (by decide +kernel) ⟨Nat.le_of_ble_eq_true rfl, Nat.le_of_ble_eq_true rfl⟩) (hE.recv (hW.jt (i := i) (show i < nj g by omega)) (q := (RX1, TX1, 9)) rfl) hW rfl hl.1 rfl (Nat.le_of_ble_eq_true rfl) dX5_breaksIn_41 ⟨Nat.zero_le _, Nat.zero_le _⟩ ?_
      refine g_if_ne S (tgt := 58) dX5_breaksIn_44 (by decide) (fun c_44_1 => ?_) (fun c_44_1 => ?_)
      · refine lv_aload_n hx hb dX5_breaksIn_58 rfl (lv_at hl 1 rfl) ?_
        refine lv_aload_n hx hb dX5_breaksIn_59 rfl (lv_at hl 0 rfl) ?_
        refine lv_iload_n hx hb dX5_breaksIn_60 rfl (lv_at hl 3 rfl) ?_
        refine g_callV (As := [.ref (wad w 4 (i)), .int (nI M)]) (rest := []) S hE hS (c_X5_monthOfBreak l z w g gm o hO (i) (by omega) (M) (by omega)) (cwV 2 hts (gU_V tw_563 tw_565 tp_10 tw_1 tw_566) rfl rfl rfl (by decide +kernel) ⟨Nat.le_of_ble_eq_true rfl, Nat.le_of_ble_eq_true rfl⟩) (hE.recv hW.sh (q := (RX5, TX5, 8)) rfl) hW rfl hl.1 rfl (Nat.le_of_ble_eq_true rfl) dX5_breaksIn_61 ⟨Nat.zero_le _, Nat.zero_le _⟩ ?_
        exact x_ret S hr hlocks hS hW (by have q9 := mbk_eq (g := g) (j := i) c_44_1 M 0 rfl; rw [Nat.zero_add] at q9; rw [q9, sp_breaksIn, if_pos h9, if_pos c_27, if_pos (show hld g (tN (nI i)) = true from ti.symm ▸ c_44_1), ti, tm9]) wsm.rf ⟨Nat.le_of_ble_eq_true rfl, Nat.le_of_ble_eq_true rfl⟩ dX5_breaksIn_64
      · exact g_throwW 63 292 67 xS _ 3 exS S hst hE hS hW (show (292, "the joint is not glued, or is broken") ∈ strL by decide +kernel) hl.1 hno hlocks dX5_breaksIn_47 dX5_breaksIn_50 dX5_breaksIn_51 dX5_breaksIn_54 dX5_breaksIn_57 ⟨Nat.le_of_ble_eq_true rfl, Nat.le_of_ble_eq_true rfl, Nat.le_of_ble_eq_true rfl, Nat.le_of_ble_eq_true rfl⟩ ⟨Nat.le_of_ble_eq_true rfl, Nat.le_of_ble_eq_true rfl⟩ ⟨by simp [sp_breaksIn, h9, ti, c_27, tm9, c_44_1], by decide⟩ (by decide +kernel)
    · exact g_throw 56 61 60 xA _ 2 exA S hst hE hS hW (show (61, "months is out of its range") ∈ strL by decide +kernel) hl.1 hno hlocks dX5_breaksIn_30 dX5_breaksIn_33 dX5_breaksIn_34 dX5_breaksIn_36 dX5_breaksIn_39 ⟨Nat.le_of_ble_eq_true rfl, Nat.le_of_ble_eq_true rfl, Nat.le_of_ble_eq_true rfl, Nat.le_of_ble_eq_true rfl⟩ ⟨Nat.le_of_ble_eq_true rfl, Nat.le_of_ble_eq_true rfl⟩ ⟨by simp [sp_breaksIn, h9, ti, c_27], by decide⟩ (by decide +kernel)
  · replace h9 : isJ g a = false := by simpa using h9
    refine lv_aload_n hx hb dX5_breaksIn_0 rfl (lv_at hl 0 rfl) ?_
    refine lv_iload_n hx hb dX5_breaksIn_1 rfl (lv_at hl 1 rfl) ?_
    refine g_callVq (As := [.int a]) (rest := []) S hE hS (c_findJoint_n l z w g gm o hO (a) h9) (cwV 1 hts (gU_V tw_588 tw_590 tp_11 tw_1 tw_591) rfl rfl rfl (by decide +kernel) ⟨Nat.le_of_ble_eq_true rfl, Nat.le_of_ble_eq_true rfl⟩) (hE.recv hW.sh (q := (RX5, TX5, 8)) rfl) hW rfl hl.1 rfl (Nat.le_of_ble_eq_true rfl) dX5_breaksIn_2 ⟨Nat.zero_le _, Nat.zero_le _⟩ ?_
    rw [show va_rf none = .null from rfl]
    refine lv_astore_nN (lv' := [(3, .null), (0, .ref (wad w 0 (0))), (1, .int a), (2, .int b)]) hx hb dX5_breaksIn_5 rfl hl (by decide) rfl (fun ls hl => ?_)
    refine lv_aload_nN hx hb dX5_breaksIn_6 rfl (lv_at hl 0 rfl) ?_
    refine lv_ifnonnullN hx hb dX5_breaksIn_7 ?_
    exact g_throw 45 225 49 xI _ 1 exI S hst hE hS hW (show (225, "there is no such joint") ∈ strL by decide +kernel) hl.1 hno hlocks dX5_breaksIn_10 dX5_breaksIn_13 dX5_breaksIn_14 dX5_breaksIn_16 dX5_breaksIn_19 ⟨Nat.le_of_ble_eq_true rfl, Nat.le_of_ble_eq_true rfl, Nat.le_of_ble_eq_true rfl, Nat.le_of_ble_eq_true rfl⟩ ⟨Nat.le_of_ble_eq_true rfl, Nat.le_of_ble_eq_true rfl⟩ ⟨by simp [sp_breaksIn, h9], by decide⟩ (by decide +kernel)
set_option maxHeartbeats 4000000 in
set_option maxRecDepth 100000 in
/-- through(months) -/
theorem c_X5_through (l : Launch) (z : ZE) (hst : l.stackTraces = false) (w : WG) (g gm : GS) (o : Nat → Int64) (hO : OKg g) (a : Int32) : vx_Met l yX5_through (.code yX5_through cX5_through 5 (some .int) :: wU) ({ frames := 6, cells := 1, slots := 6, locals := 108 }) (PE z [.ref (wad w 0 (0)), .int a] (fun H => WW z w g gm o H)) (xQ z w gm o (sp_through g a)) (xX z w g gm o (sp_through g a) xA xI xI) 1 6 (zA z) := by
  refine vx_ofW (cc := cX5_through) (maxL := 5) (ret := (some .int)) (by decide) rfl ?_
  intro p e s m args below meth c s₁ BD hml hno hv
  obtain ⟨rfl, hE, hW⟩ := hv
  have hts : ∀ w ∈ wU, w.before _ s = true := fun w h => atoms_spec (ws := .code yX5_through cX5_through 5 (some .int) :: wU) BD.pre w (List.mem_cons_of_mem _ h)
  have S : CallFix p m c cX5_through 5 s ([.ref (wad w 0 (0)), .int a] : List Value).toArray wU RX5 := ⟨BD.exec, BD.bytes, hml, findClass_of_methodNamed BD.named, hts⟩
  have hx := S.1
  have hb := S.2.1
  have hown := S.2.2.2.1
  have hr := BD.returns
  have hlocks := BD.notSynchronized
  have hS : va_S (zA z) s.heap s.heap [] := va_S.rf
  have hl := lv_entry ([.ref (wad w 0 (0)), .int a]) (n := 5) (Nat.le_of_ble_eq_true rfl)
  rw [lg_entry_eq]
  generalize (lg_sl ([.ref (wad w 0 (0)), .int a]) ++ List.replicate (5 - (lg_sl ([.ref (wad w 0 (0)), .int a])).length) Slot.unset).toArray = ls at hl ⊢
  have hl : lv_has ls 5 [(0, .ref (wad w 0 (0))), (1, .int a)] := hl
  have h20 := hO.l5
  have h40 := hO.l16
  have h30 := hO.l24
  refine lv_iload_n hx hb dX5_through_0 rfl (lv_at hl 1 rfl) ?_
  refine lv_iconst (v := 1) hx hb dX5_through_1 (by decide) ?_
  refine lv_bipush (v := 24) hx hb dX5_through_2 (by decide) ?_
  refine g_callS (As := [.int a, .int 1, .int 24]) (rest := []) S hE hS (c_X5_isWithin l z (a) (1) (24)) (cwS 3 hts (gU_S tw_158 tw_159 tw_1 tw_160) rfl rfl rfl (by decide +kernel) ⟨Nat.le_of_ble_eq_true rfl, Nat.le_of_ble_eq_true rfl⟩) trivial rfl hl.1 rfl (Nat.le_of_ble_eq_true rfl) dX5_through_4 ⟨Nat.zero_le _, Nat.zero_le _⟩ ?_
  refine g_if_ne S (tgt := 20) dX5_through_7 (by decide) (fun c_7 => ?_) (fun c_7 => ?_)
  · obtain ⟨M, hm1, hm2, rfl⟩ := wi_rng (a := 1) (b := 24) (by decide) (by decide) c_7
    have tm9 : tN (nI M) = M := tNn (by omega)
    refine lv_iconst (v := 0) hx hb dX5_through_20 (by decide) ?_
    refine lv_istore_n (lv' := [(2, .int 0), (0, .ref (wad w 0 (0))), (1, .int (nI M))]) hx hb dX5_through_21 rfl hl (by decide) rfl (fun ls hl => ?_)
    refine lv_iconst (v := nI 0) hx hb dX5_through_22 (by decide) ?_
    refine lv_istore_n (lv' := [(3, .int (nI 0)), (2, .int 0), (0, .ref (wad w 0 (0))), (1, .int (nI M))]) hx hb dX5_through_23 rfl hl (by decide) rfl (fun ls hl => ?_)
    have lp_24 : ∀ (k9 : Nat) (i : Nat) (x : Int32) (hi : i ≤ nj g) (he : x = setN i (fun j => decide (0 < bkk g j M))), nj g - i < k9 → ∀ (H : Heap) (locs : List Loc), WW z w (g) gm o H → va_S (zA z) s.heap H locs → ∀ (ls : Array Slot), lv_has ls 5 [(0, .ref (wad w 0 (0))), (1, .int (nI M)), (2, .int x), (3, .int (nI i))] → W p l e ({ frames := 6, cells := 1, slots := 6, locals := 108 } : Room) s m ([.ref (wad w 0 (0)), .int (nI M)] : List Value).toArray below meth c H locs 0 0 (vx_MQ below (xQ z w gm o (sp_through g (nI M))) (xX z w g gm o (sp_through g (nI M)) xA xI xI) ([.ref (wad w 0 (0)), .int (nI M)] : List Value).toArray s 1 6 (zA z)) (F0 m 24 ls []) := by
      intro k9
      induction k9 with
      | zero => intro i x hi he h9; exact absurd h9 (Nat.not_lt_zero _)
      | succ k9 ih_24 =>
        intro i x hi he hk9 H locs hW hS ls hl
        subst he
        refine lv_iload_n hx hb dX5_through_24 rfl (lv_at hl 3 rfl) ?_
        refine lv_aload_n hx hb dX5_through_25 rfl (lv_at hl 0 rfl) ?_
        refine g_get S hE hW.sh (C := RX5) (T := TX5) (N := 8) (v := .ref (wad w 5 (2))) rfl inU5 2 (by decide) tw_62 (Or.inl rfl) rfl dX5_through_26 ?_
        refine g_callV (As := []) (rest := [.int (nI i)]) S hE hS (c_sizeJ l z w g gm o) (cwV 0 hts (gU_V tw_209 tw_210 tw_211 tw_4 tw_212) rfl rfl rfl (by decide +kernel) ⟨Nat.le_of_ble_eq_true rfl, Nat.le_of_ble_eq_true rfl⟩) (hE.recv (hW.lst (i := 2) (show 2 < 3 + 2 * nb g by omega)) (q := (RJx4a65c, TJx4a65c, 3)) rfl) hW rfl hl.1 rfl (Nat.le_of_ble_eq_true rfl) dX5_through_29 ⟨Nat.zero_le _, Nat.zero_le _⟩ ?_
        refine g_icmp_ge S (by omega) (by omega) (tgt := 79) dX5_through_32 (by decide) (fun c_32_1 => ?_) (fun c_32_1 => ?_)
        · refine lv_iload_n hx hb dX5_through_79 rfl (lv_at hl 2 rfl) ?_
          exact x_ret S hr hlocks hS hW (by obtain rfl : i = nj g := (by omega); rw [sp_through, if_pos c_7, tm9]) wsm.rf ⟨Nat.le_of_ble_eq_true rfl, Nat.le_of_ble_eq_true rfl⟩ dX5_through_80
        · refine lv_aload_n hx hb dX5_through_35 rfl (lv_at hl 0 rfl) ?_
          refine g_get S hE hW.sh (C := RX5) (T := TX5) (N := 8) (v := .ref (wad w 5 (2))) rfl inU5 2 (by decide) tw_62 (Or.inl rfl) rfl dX5_through_36 ?_
          refine lv_iload_n hx hb dX5_through_39 rfl (lv_at hl 3 rfl) ?_
          refine g_callVq (As := [.int (nI i)]) (rest := []) S hE hS (c_getJ l z w g gm o (i) (by omega)) (cwV 1 hts (gU_V tw_213 tw_214 tw_215 tw_4 tw_216) rfl rfl rfl (by decide +kernel) ⟨Nat.le_of_ble_eq_true rfl, Nat.le_of_ble_eq_true rfl⟩) (hE.recv (hW.lst (i := 2) (show 2 < 3 + 2 * nb g by omega)) (q := (RJx4a65c, TJx4a65c, 3)) rfl) hW rfl hl.1 rfl (Nat.le_of_ble_eq_true rfl) dX5_through_40 ⟨Nat.zero_le _, Nat.zero_le _⟩ ?_
          rw [show va_rf (some (wad w 4 (i))) = .ref (wad w 4 (i)) from rfl]
          refine g_cast S hE (hW.jt (i := i) (show i < nj g by omega)) (C := RX1) (T := TX1) (N := 9) rfl tw_251 dX5_through_43 ?_
          refine lv_astore (lv' := [(4, .ref (wad w 4 (i))), (0, .ref (wad w 0 (0))), (1, .int (nI M)), (2, .int (setN i (fun j => decide (0 < bkk g j M)))), (3, .int (nI i))]) hx hb dX5_through_46 hl (by decide) rfl (fun ls hl => ?_)
          refine lv_aload hx hb dX5_through_48 (lv_at hl 0 rfl) ?_
          refine g_callV (As := []) (rest := []) S hE hS (c_X1_isHeld l z w g gm o hO (i) (by omega)) (cwV 0 hts (gU_V tw_252 tw_253 tw_254 tw_21 tw_255) rfl rfl rfl (by decide +kernel) ⟨Nat.le_of_ble_eq_true rfl, Nat.le_of_ble_eq_true rfl⟩) (hE.recv (hW.jt (i := i) (show i < nj g by omega)) (q := (RX1, TX1, 9)) rfl) hW rfl hl.1 rfl (Nat.le_of_ble_eq_true rfl) dX5_through_50 ⟨Nat.zero_le _, Nat.zero_le _⟩ ?_
          refine g_if_eq S (tgt := 73) dX5_through_53 (by decide) (fun c_53_2 => ?_) (fun c_53_2 => ?_)
          · refine lv_iinc (v := nI (i + 1)) (lv' := [(3, .int (nI (i + 1))), (4, .ref (wad w 4 (i))), (0, .ref (wad w 0 (0))), (1, .int (nI M)), (2, .int (setN i (fun j => decide (0 < bkk g j M))))]) hx hb dX5_through_73 hl (k := 4) rfl (nI_1 _) (by decide) rfl (fun ls hl => ?_)
            refine lv_goto (tgt := 24) hx hb dX5_through_76 (by decide) ?_
            exact ih_24 (i + 1) _ (by omega) (by have q9 : decide (0 < bkk g i M) = false := decide_eq_false (thr_0 (by omega) (Or.inl c_53_2)); simp [setN, q9]) (by omega) _ _ hW hS ls (lv_sub hl [2, 3, 4, 0] rfl)
          · refine lv_aload_n hx hb dX5_through_56 rfl (lv_at hl 1 rfl) ?_
            refine lv_aload hx hb dX5_through_57 (lv_at hl 0 rfl) ?_
            refine lv_iload_n hx hb dX5_through_59 rfl (lv_at hl 2 rfl) ?_
            refine g_callV (As := [.ref (wad w 4 (i)), .int (nI M)]) (rest := []) S hE hS (c_X5_monthOfBreak l z w g gm o hO (i) (by omega) (M) (by omega)) (cwV 2 hts (gU_V tw_563 tw_565 tp_10 tw_1 tw_566) rfl rfl rfl (by decide +kernel) ⟨Nat.le_of_ble_eq_true rfl, Nat.le_of_ble_eq_true rfl⟩) (hE.recv hW.sh (q := (RX5, TX5, 8)) rfl) hW rfl hl.1 rfl (Nat.le_of_ble_eq_true rfl) dX5_through_60 ⟨Nat.zero_le _, Nat.zero_le _⟩ ?_
            refine lv_iconst (v := (-1)) hx hb dX5_through_63 (by decide) ?_
            refine lv_icmp_eq (tgt := 73) hx hb dX5_through_64 (by decide) (fun c_64_3 => ?_) (fun c_64_3 => ?_)
            · refine lv_iinc (v := nI (i + 1)) (lv' := [(3, .int (nI (i + 1))), (4, .ref (wad w 4 (i))), (0, .ref (wad w 0 (0))), (1, .int (nI M)), (2, .int (setN i (fun j => decide (0 < bkk g j M))))]) hx hb dX5_through_73 hl (k := 4) rfl (nI_1 _) (by decide) rfl (fun ls hl => ?_)
              refine lv_goto (tgt := 24) hx hb dX5_through_76 (by decide) ?_
              exact ih_24 (i + 1) _ (by omega) (by have q9 : decide (0 < bkk g i M) = false := decide_eq_false (thr_0 (by omega) (Or.inr c_64_3)); simp [setN, q9]) (by omega) _ _ hW hS ls (lv_sub hl [2, 3, 4, 0] rfl)
            · refine lv_iload_n hx hb dX5_through_67 rfl (lv_at hl 3 rfl) ?_
              refine lv_iconst (v := 1) hx hb dX5_through_68 (by decide) ?_
              refine lv_iload_n hx hb dX5_through_69 rfl (lv_at hl 4 rfl) ?_
              refine lv_ishl hx hb dX5_through_70 ?_
              refine lv_ior hx hb dX5_through_71 ?_
              refine lv_topi (fun x_5 ex_5 => ?_)
              refine lv_istore_n (lv' := [(2, .int x_5), (4, .ref (wad w 4 (i))), (0, .ref (wad w 0 (0))), (1, .int (nI M)), (3, .int (nI i))]) hx hb dX5_through_72 rfl hl (by decide) rfl (fun ls hl => ?_)
              refine lv_iinc (v := nI (i + 1)) (lv' := [(3, .int (nI (i + 1))), (2, .int x_5), (4, .ref (wad w 4 (i))), (0, .ref (wad w 0 (0))), (1, .int (nI M))]) hx hb dX5_through_73 hl (k := 4) rfl (nI_1 _) (by decide) rfl (fun ls hl => ?_)
              refine lv_goto (tgt := 24) hx hb dX5_through_76 (by decide) ?_
              exact ih_24 (i + 1) _ (by omega) (by have q9 : decide (0 < bkk g i M) = true := decide_eq_true (thr_y c_53_2 (by omega) c_64_3); subst ex_5; simp [setN, q9]) (by omega) _ _ hW hS ls (lv_sub hl [3, 4, 1, 0] rfl)
    exact lp_24 ((nj g - 0) + 1) 0 _ (Nat.zero_le _) rfl (Nat.lt_succ_self _) _ _ hW hS ls (lv_sub hl [2, 3, 1, 0] rfl)
  · exact g_throw 56 61 60 xA _ 1 exA S hst hE hS hW (show (61, "months is out of its range") ∈ strL by decide +kernel) hl.1 hno hlocks dX5_through_10 dX5_through_13 dX5_through_14 dX5_through_16 dX5_through_19 ⟨Nat.le_of_ble_eq_true rfl, Nat.le_of_ble_eq_true rfl, Nat.le_of_ble_eq_true rfl, Nat.le_of_ble_eq_true rfl⟩ ⟨Nat.le_of_ble_eq_true rfl, Nat.le_of_ble_eq_true rfl⟩ ⟨by simp [sp_through, c_7], by decide⟩ (by decide +kernel)
set_option maxHeartbeats 4000000 in
set_option maxRecDepth 100000 in
/-- moisten(air) of a board -/
theorem c_moiB (l : Launch) (z : ZE) (w : WG) (g gm : GS) (o : Nat → Int64) (hO : OKg g) (i : Nat) (hi : i < nb g) (b : Int32) : Met l yX4_moisten (.code yX4_moisten cX4_moisten 2 none :: wU) ({ frames := 2, cells := 0, slots := 0, locals := 45 }) (PE z [.ref (wad w 2 (i)), .int b] (fun H => WW z w g gm o H)) (xQv z w (gup g 12 i (beh b (g 12 i) (0))) gm o) 0 0 (zA z) := by
  refine Met.ofW (cc := cX4_moisten) (maxL := 2) (ret := none) (by decide) rfl ?_
  intro p e s m args below meth c s₁ BD hml hv
  obtain ⟨rfl, hE, hW⟩ := hv
  have hts : ∀ w ∈ wU, w.before _ s = true := fun w h => atoms_spec (ws := .code yX4_moisten cX4_moisten 2 none :: wU) BD.pre w (List.mem_cons_of_mem _ h)
  have S : CallFix p m c cX4_moisten 2 s ([.ref (wad w 2 (i)), .int b] : List Value).toArray wU RX4 := ⟨BD.exec, BD.bytes, hml, findClass_of_methodNamed BD.named, hts⟩
  have hx := S.1
  have hb := S.2.1
  have hown := S.2.2.2.1
  have hr := BD.returns
  have hlocks := BD.notSynchronized
  have hS : va_S (zA z) s.heap s.heap [] := va_S.rf
  have hl := lv_entry ([.ref (wad w 2 (i)), .int b]) (n := 2) (Nat.le_of_ble_eq_true rfl)
  rw [lg_entry_eq]
  generalize (lg_sl ([.ref (wad w 2 (i)), .int b]) ++ List.replicate (2 - (lg_sl ([.ref (wad w 2 (i)), .int b])).length) Slot.unset).toArray = ls at hl ⊢
  have hl : lv_has ls 2 [(0, .ref (wad w 2 (i))), (1, .int b)] := hl
  refine lv_aload_n hx hb dX4_moisten_0 rfl (lv_at hl 0 rfl) ?_
  refine lv_aload_n hx hb dX4_moisten_1 rfl (lv_at hl 0 rfl) ?_
  refine lv_aload_n hx hb dX4_moisten_2 rfl (lv_at hl 0 rfl) ?_
  refine g_get S hE (hW.bd (i := i) (show i < nb g by omega)) (C := RX0) (T := TX0) (N := 11) (v := .int (g 12 i)) rfl inU0 3 (by decide) tw_322 (Or.inl rfl) rfl dX4_moisten_3 ?_
  refine lv_iload_n hx hb dX4_moisten_6 rfl (lv_at hl 1 rfl) ?_
  refine g_callU (As := [.int (g 12 i), .int b]) (rest := [.ref (wad w 2 (i))]) S hE hS (c_mAfB l z w g gm o hO (i) (by omega) (g 12 i) (b)) (va_cwU (y := yX4_moistureAfter) (x := ⟨"DovetailRow$Wood", "moistureAfter", "(II)I"⟩) (C := "DovetailRow$Board") (owner := "DovetailRow$Wood") 2 hts (gU_U tw_234 tw_236 tw_237 tw_235 tw_13 tw_239) rfl rfl rfl rfl (by decide +kernel) ⟨Nat.le_of_ble_eq_true rfl, Nat.le_of_ble_eq_true rfl⟩) (hE.recv (hW.bd (i := i) (show i < nb g by omega)) (q := (RX0, TX0, 11)) rfl) hW rfl hl.1 rfl (Nat.le_of_ble_eq_true rfl) dX4_moisten_7 ⟨Nat.zero_le _, Nat.zero_le _⟩ ?_
  refine g_put S hE hS (hW.bd (i := i) (show i < nb g by omega)) (hW.2.2.1 2 (i) (show i < nb g by omega)) (C := RX0) (T := TX0) (N := 11) rfl inU0 tyX0 tyX0_ok nmX0 3 (by decide) tw_322 (Or.inl rfl) (Or.inl rfl) (v := .int (beh (b) (g 12 i) (0))) rfl rfl (Nat.le_of_ble_eq_true rfl) dX4_moisten_10 (fun H locs he oq _ hS => ?_)
  replace hW := hW.u12 (i := i) (show i < nb g by omega) he oq
  exact x_vret S hr hlocks hS hW dX4_moisten_13
set_option maxHeartbeats 4000000 in
set_option maxRecDepth 100000 in
/-- moisten(air) of a part -/
theorem c_moiP (l : Launch) (z : ZE) (w : WG) (g gm : GS) (o : Nat → Int64) (hO : OKg g) (i : Nat) (hi : i < np g) (b : Int32) : Met l yX4_moisten (.code yX4_moisten cX4_moisten 2 none :: wU) ({ frames := 2, cells := 0, slots := 0, locals := 45 }) (PE z [.ref (wad w 3 (i)), .int b] (fun H => WW z w g gm o H)) (xQv z w (gup g 22 i (beh b (g 22 i) (g 23 i))) gm o) 0 0 (zA z) := by
  refine Met.ofW (cc := cX4_moisten) (maxL := 2) (ret := none) (by decide) rfl ?_
  intro p e s m args below meth c s₁ BD hml hv
  obtain ⟨rfl, hE, hW⟩ := hv
  have hts : ∀ w ∈ wU, w.before _ s = true := fun w h => atoms_spec (ws := .code yX4_moisten cX4_moisten 2 none :: wU) BD.pre w (List.mem_cons_of_mem _ h)
  have S : CallFix p m c cX4_moisten 2 s ([.ref (wad w 3 (i)), .int b] : List Value).toArray wU RX4 := ⟨BD.exec, BD.bytes, hml, findClass_of_methodNamed BD.named, hts⟩
  have hx := S.1
  have hb := S.2.1
  have hown := S.2.2.2.1
  have hr := BD.returns
  have hlocks := BD.notSynchronized
  have hS : va_S (zA z) s.heap s.heap [] := va_S.rf
  have hl := lv_entry ([.ref (wad w 3 (i)), .int b]) (n := 2) (Nat.le_of_ble_eq_true rfl)
  rw [lg_entry_eq]
  generalize (lg_sl ([.ref (wad w 3 (i)), .int b]) ++ List.replicate (2 - (lg_sl ([.ref (wad w 3 (i)), .int b])).length) Slot.unset).toArray = ls at hl ⊢
  have hl : lv_has ls 2 [(0, .ref (wad w 3 (i))), (1, .int b)] := hl
  refine lv_aload_n hx hb dX4_moisten_0 rfl (lv_at hl 0 rfl) ?_
  refine lv_aload_n hx hb dX4_moisten_1 rfl (lv_at hl 0 rfl) ?_
  refine lv_aload_n hx hb dX4_moisten_2 rfl (lv_at hl 0 rfl) ?_
  refine g_get S hE (hW.pt (i := i) (show i < np g by omega)) (C := RX2) (T := TX2) (N := 9) (v := .int (g 22 i)) rfl inU2 3 (by decide) tw_322 (Or.inl rfl) rfl dX4_moisten_3 ?_
  refine lv_iload_n hx hb dX4_moisten_6 rfl (lv_at hl 1 rfl) ?_
  refine g_callU (As := [.int (g 22 i), .int b]) (rest := [.ref (wad w 3 (i))]) S hE hS (c_mAfP l z w g gm o hO (i) (by omega) (g 22 i) (b)) (va_cwU (y := yX4_moistureAfter) (x := ⟨"DovetailRow$Wood", "moistureAfter", "(II)I"⟩) (C := "DovetailRow$Part") (owner := "DovetailRow$Wood") 2 hts (gU_U tw_234 tw_236 tw_238 tw_235 tw_13 tw_239) rfl rfl rfl rfl (by decide +kernel) ⟨Nat.le_of_ble_eq_true rfl, Nat.le_of_ble_eq_true rfl⟩) (hE.recv (hW.pt (i := i) (show i < np g by omega)) (q := (RX2, TX2, 9)) rfl) hW rfl hl.1 rfl (Nat.le_of_ble_eq_true rfl) dX4_moisten_7 ⟨Nat.zero_le _, Nat.zero_le _⟩ ?_
  refine g_put S hE hS (hW.pt (i := i) (show i < np g by omega)) (hW.2.2.1 3 (i) (show i < np g by omega)) (C := RX2) (T := TX2) (N := 9) rfl inU2 tyX2 tyX2_ok nmX2 3 (by decide) tw_322 (Or.inl rfl) (Or.inl rfl) (v := .int (beh (b) (g 22 i) (g 23 i))) rfl rfl (Nat.le_of_ble_eq_true rfl) dX4_moisten_10 (fun H locs he oq _ hS => ?_)
  replace hW := hW.u22 (i := i) (show i < np g by omega) he oq
  exact x_vret S hr hlocks hS hW dX4_moisten_13
theorem pst_a2 (G : GS) (i : Nat) : gup (pst G i 0 0) 12 i (beh (wea G (mo G)) (pst G i 0 0 12 i) 0) = pst G (i + 1) 0 0 := by
  rw [show pst G i 0 0 12 i = G 12 i by simp [pst]]; exact pst_a G i
theorem pst_b2 (G : GS) (a i : Nat) : gup (pst G a i 0) 22 i (beh (wea G (mo G)) (pst G a i 0 22 i) (pst G a i 0 23 i)) = pst G a (i + 1) 0 := by
  rw [show pst G a i 0 22 i = G 22 i by simp [pst], show pst G a i 0 23 i = G 23 i by simp [pst]]; exact pst_b G a i
def hst (G : GS) (c : Nat) : GS := gup (pst G (nb G) (np G) c) 1 0 (nI (mo G + 1))
theorem hst_y {G : GS} {i : Nat} (h : brk G i = true) : gup (hst G i) 32 i 1 = hst G (i + 1) := by
  unfold hst
  rw [← pst_c G (nb G) (np G) i h]
  funext a b
  by_cases e : a = 32
  · subst e; simp [gup]
  · simp [gup, e]
theorem hst_n {G : GS} {i : Nat} (h : brk G i = false) : hst G i = hst G (i + 1) := by
  unfold hst
  rw [pst_n G (nb G) (np G) i h]
theorem hst_m (G : GS) : hst G (nj G) = mst G := rfl
theorem OKg_hst {G : GS} (h : OKg G) (hm : mo G < 1200) {c : Nat} (hc : c ≤ nj G) : OKg (hst G c) := by
  have q := OKg_pst h (nb G) (np G) hc
  have e : mo (hst G c) = mo G + 1 := by
    show (hst G c 1 0).toNatClampNeg = mo G + 1
    rw [show hst G c 1 0 = nI (mo G + 1) from gup_s]
    exact nI_clamp (by omega)
  refine ⟨⟨q.1.1, q.1.2.1, q.1.2.2.1, ?_, ?_⟩, q.2⟩
  · rw [e]; exact gup_s
  · omega
theorem brk_h {G : GS} (hO : OKg G) {i : Nat} (hi : i < nj G) : brk G i = (hld (hst G i) i && wbr (hst G i) i (hst G i 22 (jp G i))) := by
  have e1 : hst G i 22 (jp G i) = beh (wea G (mo G)) (G 22 (jp G i)) (G 23 (jp G i)) := by
    simp [hst, gup, pst, hO.l26 hi]
  have e2 : hst G i 32 i = G 32 i := by simp [hst, gup, pst]
  have e3 : hld (hst G i) i = (!decide (G 31 i = 0) && decide (G 32 i = 0)) := by
    unfold hld
    rw [e2]
    rfl
  rw [e1, e3, brk, Bool.and_assoc]
  rfl
set_option maxHeartbeats 4000000 in
set_option maxRecDepth 100000 in
/-- moistenAll(air) -/
theorem c_X5_moistenAll (l : Launch) (z : ZE) (w : WG) (g gm : GS) (o : Nat → Int64) (hO : OKg g) (b : Int32) (hb9 : b = wea g (mo g)) : Met l yX5_moistenAll (.code yX5_moistenAll cX5_moistenAll 3 none :: wU) ({ frames := 3, cells := 0, slots := 0, locals := 66 }) (PE z [.ref (wad w 0 (0)), .int b] (fun H => WW z w g gm o H)) (xQv z w (pst g (nb g) (np g) 0) gm o) 0 0 (zA z) := by
  refine Met.ofW (cc := cX5_moistenAll) (maxL := 3) (ret := none) (by decide) rfl ?_
  intro p e s m args below meth c s₁ BD hml hv
  obtain ⟨rfl, hE, hW⟩ := hv
  have hts : ∀ w ∈ wU, w.before _ s = true := fun w h => atoms_spec (ws := .code yX5_moistenAll cX5_moistenAll 3 none :: wU) BD.pre w (List.mem_cons_of_mem _ h)
  have S : CallFix p m c cX5_moistenAll 3 s ([.ref (wad w 0 (0)), .int b] : List Value).toArray wU RX5 := ⟨BD.exec, BD.bytes, hml, findClass_of_methodNamed BD.named, hts⟩
  have hx := S.1
  have hb := S.2.1
  have hown := S.2.2.2.1
  have hr := BD.returns
  have hlocks := BD.notSynchronized
  have hS : va_S (zA z) s.heap s.heap [] := va_S.rf
  have hl := lv_entry ([.ref (wad w 0 (0)), .int b]) (n := 3) (Nat.le_of_ble_eq_true rfl)
  rw [lg_entry_eq]
  generalize (lg_sl ([.ref (wad w 0 (0)), .int b]) ++ List.replicate (3 - (lg_sl ([.ref (wad w 0 (0)), .int b])).length) Slot.unset).toArray = ls at hl ⊢
  have hl : lv_has ls 3 [(0, .ref (wad w 0 (0))), (1, .int b)] := hl
  have h20 := hO.l5
  have h40 := hO.l16
  refine lv_iconst (v := nI 0) hx hb dX5_moistenAll_0 (by decide) ?_
  refine lv_istore_n (lv' := [(2, .int (nI 0)), (0, .ref (wad w 0 (0))), (1, .int b)]) hx hb dX5_moistenAll_1 rfl hl (by decide) rfl (fun ls hl => ?_)
  have lp_2 : ∀ (k9 : Nat) (i : Nat) (hi : i ≤ nb g), nb g - i < k9 → ∀ (H : Heap) (locs : List Loc), WW z w (pst g i 0 0) gm o H → va_S (zA z) s.heap H locs → ∀ (ls : Array Slot), lv_has ls 3 [(0, .ref (wad w 0 (0))), (1, .int b), (2, .int (nI i))] → W p l e ({ frames := 3, cells := 0, slots := 0, locals := 66 } : Room) s m ([.ref (wad w 0 (0)), .int b] : List Value).toArray below meth c H locs 0 0 (MQ below (xQv z w (pst g (nb g) (np g) 0) gm o) ([.ref (wad w 0 (0)), .int b] : List Value).toArray s 0 0 (zA z)) (F0 m 2 ls []) := by
    intro k9
    induction k9 with
    | zero => intro i hi h9; exact absurd h9 (Nat.not_lt_zero _)
    | succ k9 ih_2 =>
      intro i hi hk9 H locs hW hS ls hl
      have hOG := OKg_pst hO i 0 (Nat.zero_le _)
      refine lv_iload_n hx hb dX5_moistenAll_2 rfl (lv_at hl 2 rfl) ?_
      refine lv_aload_n hx hb dX5_moistenAll_3 rfl (lv_at hl 0 rfl) ?_
      refine g_get S hE hW.sh (C := RX5) (T := TX5) (N := 8) (v := .ref (wad w 5 (0))) rfl inU5 0 (by decide) tw_60 (Or.inl rfl) rfl dX5_moistenAll_4 ?_
      refine g_callV (As := []) (rest := [.int (nI i)]) S hE hS (c_sizeB l z w (pst g i 0 0) gm o) (cwV 0 hts (gU_V tw_209 tw_210 tw_211 tw_4 tw_212) rfl rfl rfl (by decide +kernel) ⟨Nat.le_of_ble_eq_true rfl, Nat.le_of_ble_eq_true rfl⟩) (hE.recv (hW.lst (i := 0) (show 0 < 3 + 2 * nb g by omega)) (q := (RJx4a65c, TJx4a65c, 3)) rfl) hW rfl hl.1 rfl (Nat.le_of_ble_eq_true rfl) dX5_moistenAll_7 ⟨Nat.zero_le _, Nat.zero_le _⟩ ?_
      rw [show nb (pst g i 0 0) = nb g from rfl]
      refine g_icmp_ge S (by omega) (by omega) (tgt := 34) dX5_moistenAll_10 (by decide) (fun c_10 => ?_) (fun c_10 => ?_)
      · obtain rfl : i = nb g := by omega
        refine lv_iconst (v := nI 0) hx hb dX5_moistenAll_34 (by decide) ?_
        refine lv_istore_n (lv' := [(2, .int (nI 0)), (0, .ref (wad w 0 (0))), (1, .int b)]) hx hb dX5_moistenAll_35 rfl hl (by decide) rfl (fun ls hl => ?_)
        have lp_36 : ∀ (k9 : Nat) (i2 : Nat) (hi2 : i2 ≤ np g), np g - i2 < k9 → ∀ (H : Heap) (locs : List Loc), WW z w (pst g (nb g) i2 0) gm o H → va_S (zA z) s.heap H locs → ∀ (ls : Array Slot), lv_has ls 3 [(0, .ref (wad w 0 (0))), (1, .int b), (2, .int (nI i2))] → W p l e ({ frames := 3, cells := 0, slots := 0, locals := 66 } : Room) s m ([.ref (wad w 0 (0)), .int b] : List Value).toArray below meth c H locs 0 0 (MQ below (xQv z w (pst g (nb g) (np g) 0) gm o) ([.ref (wad w 0 (0)), .int b] : List Value).toArray s 0 0 (zA z)) (F0 m 36 ls []) := by
          intro k9
          induction k9 with
          | zero => intro i2 hi2 h9; exact absurd h9 (Nat.not_lt_zero _)
          | succ k9 ih_36 =>
            intro i2 hi2 hk9 H locs hW hS ls hl
            have hOG := OKg_pst hO (nb g) i2 (Nat.zero_le _)
            refine lv_iload_n hx hb dX5_moistenAll_36 rfl (lv_at hl 2 rfl) ?_
            refine lv_aload_n hx hb dX5_moistenAll_37 rfl (lv_at hl 0 rfl) ?_
            refine g_get S hE hW.sh (C := RX5) (T := TX5) (N := 8) (v := .ref (wad w 5 (1))) rfl inU5 1 (by decide) tw_61 (Or.inl rfl) rfl dX5_moistenAll_38 ?_
            refine g_callV (As := []) (rest := [.int (nI i2)]) S hE hS (c_sizeP l z w (pst g (nb g) i2 0) gm o) (cwV 0 hts (gU_V tw_209 tw_210 tw_211 tw_4 tw_212) rfl rfl rfl (by decide +kernel) ⟨Nat.le_of_ble_eq_true rfl, Nat.le_of_ble_eq_true rfl⟩) (hE.recv (hW.lst (i := 1) (show 1 < 3 + 2 * nb g by omega)) (q := (RJx4a65c, TJx4a65c, 3)) rfl) hW rfl hl.1 rfl (Nat.le_of_ble_eq_true rfl) dX5_moistenAll_41 ⟨Nat.zero_le _, Nat.zero_le _⟩ ?_
            rw [show np (pst g (nb g) i2 0) = np g from rfl]
            refine g_icmp_ge S (by omega) (by omega) (tgt := 68) dX5_moistenAll_44 (by decide) (fun c_44_1 => ?_) (fun c_44_1 => ?_)
            · obtain rfl : i2 = np g := by omega
              exact x_vret S hr hlocks hS hW dX5_moistenAll_68
            · refine lv_aload_n hx hb dX5_moistenAll_47 rfl (lv_at hl 0 rfl) ?_
              refine g_get S hE hW.sh (C := RX5) (T := TX5) (N := 8) (v := .ref (wad w 5 (1))) rfl inU5 1 (by decide) tw_61 (Or.inl rfl) rfl dX5_moistenAll_48 ?_
              refine lv_iload_n hx hb dX5_moistenAll_51 rfl (lv_at hl 2 rfl) ?_
              refine g_callVq (As := [.int (nI i2)]) (rest := []) S hE hS (c_getP l z w (pst g (nb g) i2 0) gm o (i2) (show i2 < np g by omega)) (cwV 1 hts (gU_V tw_213 tw_214 tw_215 tw_4 tw_216) rfl rfl rfl (by decide +kernel) ⟨Nat.le_of_ble_eq_true rfl, Nat.le_of_ble_eq_true rfl⟩) (hE.recv (hW.lst (i := 1) (show 1 < 3 + 2 * nb g by omega)) (q := (RJx4a65c, TJx4a65c, 3)) rfl) hW rfl hl.1 rfl (Nat.le_of_ble_eq_true rfl) dX5_moistenAll_52 ⟨Nat.zero_le _, Nat.zero_le _⟩ ?_
              rw [show va_rf (some (wad w 3 (i2))) = .ref (wad w 3 (i2)) from rfl]
              refine g_cast S hE (hW.pt (i := i2) (show i2 < np g by omega)) (C := RX2) (T := TX2) (N := 9) rfl tw_243 dX5_moistenAll_55 ?_
              refine lv_iload_n hx hb dX5_moistenAll_58 rfl (lv_at hl 1 rfl) ?_
              refine x_callvU (As := [.int b]) (rest := []) S hE hS (c_moiP l z w (pst g (nb g) i2 0) gm o hOG (i2) (show i2 < np g by omega) (b)) (va_cwU (y := yX4_moisten) (x := ⟨"DovetailRow$Part", "moisten", "(I)V"⟩) (C := "DovetailRow$Part") (owner := "DovetailRow$Wood") 1 hts (gU_U tw_244 tw_245 tw_246 tw_232 tw_13 tw_233) rfl rfl rfl rfl (by decide +kernel) ⟨Nat.le_of_ble_eq_true rfl, Nat.le_of_ble_eq_true rfl⟩) (hE.recv (hW.pt (i := i2) (show i2 < np g by omega)) (q := (RX2, TX2, 9)) rfl) hW rfl hl.1 rfl (Nat.le_of_ble_eq_true rfl) dX5_moistenAll_59 ⟨Nat.zero_le _, Nat.zero_le _⟩ (fun H locs hW hS => ?_)
              refine lv_iinc (v := nI (i2 + 1)) (lv' := [(2, .int (nI (i2 + 1))), (0, .ref (wad w 0 (0))), (1, .int b)]) hx hb dX5_moistenAll_62 hl (k := 2) rfl (nI_1 _) (by decide) rfl (fun ls hl => ?_)
              refine lv_goto (tgt := 36) hx hb dX5_moistenAll_65 (by decide) ?_
              exact ih_36 (i2 + 1) (by omega) (by omega) _ _ (by rw [hb9] at hW; rw [← pst_b2]; exact hW) hS ls (lv_sub hl [1, 2, 0] rfl)
        exact lp_36 ((np g - 0) + 1) 0 (Nat.zero_le _) (Nat.lt_succ_self _) _ _ hW hS ls (lv_sub hl [1, 2, 0] rfl)
      · refine lv_aload_n hx hb dX5_moistenAll_13 rfl (lv_at hl 0 rfl) ?_
        refine g_get S hE hW.sh (C := RX5) (T := TX5) (N := 8) (v := .ref (wad w 5 (0))) rfl inU5 0 (by decide) tw_60 (Or.inl rfl) rfl dX5_moistenAll_14 ?_
        refine lv_iload_n hx hb dX5_moistenAll_17 rfl (lv_at hl 2 rfl) ?_
        refine g_callVq (As := [.int (nI i)]) (rest := []) S hE hS (c_getB l z w (pst g i 0 0) gm o (i) (show i < nb g by omega)) (cwV 1 hts (gU_V tw_213 tw_214 tw_215 tw_4 tw_216) rfl rfl rfl (by decide +kernel) ⟨Nat.le_of_ble_eq_true rfl, Nat.le_of_ble_eq_true rfl⟩) (hE.recv (hW.lst (i := 0) (show 0 < 3 + 2 * nb g by omega)) (q := (RJx4a65c, TJx4a65c, 3)) rfl) hW rfl hl.1 rfl (Nat.le_of_ble_eq_true rfl) dX5_moistenAll_18 ⟨Nat.zero_le _, Nat.zero_le _⟩ ?_
        rw [show va_rf (some (wad w 2 (i))) = .ref (wad w 2 (i)) from rfl]
        refine g_cast S hE (hW.bd (i := i) (show i < nb g by omega)) (C := RX0) (T := TX0) (N := 11) rfl tw_227 dX5_moistenAll_21 ?_
        refine lv_iload_n hx hb dX5_moistenAll_24 rfl (lv_at hl 1 rfl) ?_
        refine x_callvU (As := [.int b]) (rest := []) S hE hS (c_moiB l z w (pst g i 0 0) gm o hOG (i) (show i < nb g by omega) (b)) (va_cwU (y := yX4_moisten) (x := ⟨"DovetailRow$Board", "moisten", "(I)V"⟩) (C := "DovetailRow$Board") (owner := "DovetailRow$Wood") 1 hts (gU_U tw_228 tw_229 tw_231 tw_232 tw_13 tw_233) rfl rfl rfl rfl (by decide +kernel) ⟨Nat.le_of_ble_eq_true rfl, Nat.le_of_ble_eq_true rfl⟩) (hE.recv (hW.bd (i := i) (show i < nb g by omega)) (q := (RX0, TX0, 11)) rfl) hW rfl hl.1 rfl (Nat.le_of_ble_eq_true rfl) dX5_moistenAll_25 ⟨Nat.zero_le _, Nat.zero_le _⟩ (fun H locs hW hS => ?_)
        refine lv_iinc (v := nI (i + 1)) (lv' := [(2, .int (nI (i + 1))), (0, .ref (wad w 0 (0))), (1, .int b)]) hx hb dX5_moistenAll_28 hl (k := 2) rfl (nI_1 _) (by decide) rfl (fun ls hl => ?_)
        refine lv_goto (tgt := 2) hx hb dX5_moistenAll_31 (by decide) ?_
        exact ih_2 (i + 1) (by omega) (by omega) _ _ (by rw [hb9] at hW; rw [← pst_a2]; exact hW) hS ls (lv_sub hl [1, 2, 0] rfl)
  exact lp_2 ((nb g - 0) + 1) 0 (Nat.zero_le _) (Nat.lt_succ_self _) _ _ (by rw [pst_0]; exact hW) hS ls (lv_sub hl [1, 2, 0] rfl)
set_option maxHeartbeats 4000000 in
set_option maxRecDepth 100000 in
/-- breakJoints() -/
theorem c_X5_breakJoints (l : Launch) (z : ZE) (w : WG) (g gm : GS) (o : Nat → Int64) (hO : OKg g) (hm : mo g < 1200) : Met l yX5_breakJoints (.code yX5_breakJoints cX5_breakJoints 4 (some .int) :: wU) ({ frames := 4, cells := 0, slots := 0, locals := 84 }) (PE z [.ref (wad w 0 (0))] (fun H => WW z w (hst g 0) gm o H)) (xQi z w (mst g) gm o (nI (cntN (nj g) (brk g)))) 0 0 (zA z) := by
  refine Met.ofW (cc := cX5_breakJoints) (maxL := 4) (ret := (some .int)) (by decide) rfl ?_
  intro p e s m args below meth c s₁ BD hml hv
  obtain ⟨rfl, hE, hW⟩ := hv
  have hts : ∀ w ∈ wU, w.before _ s = true := fun w h => atoms_spec (ws := .code yX5_breakJoints cX5_breakJoints 4 (some .int) :: wU) BD.pre w (List.mem_cons_of_mem _ h)
  have S : CallFix p m c cX5_breakJoints 4 s ([.ref (wad w 0 (0))] : List Value).toArray wU RX5 := ⟨BD.exec, BD.bytes, hml, findClass_of_methodNamed BD.named, hts⟩
  have hx := S.1
  have hb := S.2.1
  have hown := S.2.2.2.1
  have hr := BD.returns
  have hlocks := BD.notSynchronized
  have hS : va_S (zA z) s.heap s.heap [] := va_S.rf
  have hl := lv_entry ([.ref (wad w 0 (0))]) (n := 4) (Nat.le_of_ble_eq_true rfl)
  rw [lg_entry_eq]
  generalize (lg_sl ([.ref (wad w 0 (0))]) ++ List.replicate (4 - (lg_sl ([.ref (wad w 0 (0))])).length) Slot.unset).toArray = ls at hl ⊢
  have hl : lv_has ls 4 [(0, .ref (wad w 0 (0)))] := hl
  have h30 := hO.l24
  have h40 := hO.l16
  refine lv_iconst (v := nI 0) hx hb dX5_breakJoints_0 (by decide) ?_
  refine lv_istore_n (lv' := [(1, .int (nI 0)), (0, .ref (wad w 0 (0)))]) hx hb dX5_breakJoints_1 rfl hl (by decide) rfl (fun ls hl => ?_)
  refine lv_iconst (v := nI 0) hx hb dX5_breakJoints_2 (by decide) ?_
  refine lv_istore_n (lv' := [(2, .int (nI 0)), (1, .int (nI 0)), (0, .ref (wad w 0 (0)))]) hx hb dX5_breakJoints_3 rfl hl (by decide) rfl (fun ls hl => ?_)
  have lp_4 : ∀ (k9 : Nat) (i c9 : Nat) (hi : i ≤ nj g) (hc9 : c9 = cntN i (brk g)), nj g - i < k9 → ∀ (H : Heap) (locs : List Loc), WW z w (hst g i) gm o H → va_S (zA z) s.heap H locs → ∀ (ls : Array Slot), lv_has ls 4 [(0, .ref (wad w 0 (0))), (1, .int (nI c9)), (2, .int (nI i))] → W p l e ({ frames := 4, cells := 0, slots := 0, locals := 84 } : Room) s m ([.ref (wad w 0 (0))] : List Value).toArray below meth c H locs 0 0 (MQ below (xQi z w (mst g) gm o (nI (cntN (nj g) (brk g)))) ([.ref (wad w 0 (0))] : List Value).toArray s 0 0 (zA z)) (F0 m 4 ls []) := by
    intro k9
    induction k9 with
    | zero => intro i c9 hi hc9 h9; exact absurd h9 (Nat.not_lt_zero _)
    | succ k9 ih_4 =>
      intro i c9 hi hc9 hk9 H locs hW hS ls hl
      have hOG := OKg_hst hO hm (c := i) (by omega)
      refine lv_iload_n hx hb dX5_breakJoints_4 rfl (lv_at hl 2 rfl) ?_
      refine lv_aload_n hx hb dX5_breakJoints_5 rfl (lv_at hl 0 rfl) ?_
      refine g_get S hE hW.sh (C := RX5) (T := TX5) (N := 8) (v := .ref (wad w 5 (2))) rfl inU5 2 (by decide) tw_62 (Or.inl rfl) rfl dX5_breakJoints_6 ?_
      refine g_callV (As := []) (rest := [.int (nI i)]) S hE hS (c_sizeJ l z w (hst g i) gm o) (cwV 0 hts (gU_V tw_209 tw_210 tw_211 tw_4 tw_212) rfl rfl rfl (by decide +kernel) ⟨Nat.le_of_ble_eq_true rfl, Nat.le_of_ble_eq_true rfl⟩) (hE.recv (hW.lst (i := 2) (show 2 < 3 + 2 * nb g by omega)) (q := (RJx4a65c, TJx4a65c, 3)) rfl) hW rfl hl.1 rfl (Nat.le_of_ble_eq_true rfl) dX5_breakJoints_9 ⟨Nat.zero_le _, Nat.zero_le _⟩ ?_
      rw [show nj (hst g i) = nj g from rfl]
      refine g_icmp_ge S (by omega) (by omega) (tgt := 62) dX5_breakJoints_12 (by decide) (fun c_12 => ?_) (fun c_12 => ?_)
      · refine lv_iload_n hx hb dX5_breakJoints_62 rfl (lv_at hl 1 rfl) ?_
        obtain rfl : i = nj g := by omega
        exact x_iret S hr hlocks hS hW (by rw [hc9]) dX5_breakJoints_63
      · refine lv_aload_n hx hb dX5_breakJoints_15 rfl (lv_at hl 0 rfl) ?_
        refine g_get S hE hW.sh (C := RX5) (T := TX5) (N := 8) (v := .ref (wad w 5 (2))) rfl inU5 2 (by decide) tw_62 (Or.inl rfl) rfl dX5_breakJoints_16 ?_
        refine lv_iload_n hx hb dX5_breakJoints_19 rfl (lv_at hl 2 rfl) ?_
        refine g_callVq (As := [.int (nI i)]) (rest := []) S hE hS (c_getJ l z w (hst g i) gm o (i) (show i < nj g by omega)) (cwV 1 hts (gU_V tw_213 tw_214 tw_215 tw_4 tw_216) rfl rfl rfl (by decide +kernel) ⟨Nat.le_of_ble_eq_true rfl, Nat.le_of_ble_eq_true rfl⟩) (hE.recv (hW.lst (i := 2) (show 2 < 3 + 2 * nb g by omega)) (q := (RJx4a65c, TJx4a65c, 3)) rfl) hW rfl hl.1 rfl (Nat.le_of_ble_eq_true rfl) dX5_breakJoints_20 ⟨Nat.zero_le _, Nat.zero_le _⟩ ?_
        rw [show va_rf (some (wad w 4 (i))) = .ref (wad w 4 (i)) from rfl]
        refine g_cast S hE (hW.jt (i := i) (show i < nj g by omega)) (C := RX1) (T := TX1) (N := 9) rfl tw_251 dX5_breakJoints_23 ?_
        refine lv_astore_n (lv' := [(3, .ref (wad w 4 (i))), (0, .ref (wad w 0 (0))), (1, .int (nI c9)), (2, .int (nI i))]) hx hb dX5_breakJoints_26 rfl hl (by decide) rfl (fun ls hl => ?_)
        refine lv_aload_n hx hb dX5_breakJoints_27 rfl (lv_at hl 0 rfl) ?_
        refine g_callV (As := []) (rest := []) S hE hS (c_X1_isHeld l z w (hst g i) gm o hOG (i) (show i < nj g by omega)) (cwV 0 hts (gU_V tw_252 tw_253 tw_254 tw_21 tw_255) rfl rfl rfl (by decide +kernel) ⟨Nat.le_of_ble_eq_true rfl, Nat.le_of_ble_eq_true rfl⟩) (hE.recv (hW.jt (i := i) (show i < nj g by omega)) (q := (RX1, TX1, 9)) rfl) hW rfl hl.1 rfl (Nat.le_of_ble_eq_true rfl) dX5_breakJoints_28 ⟨Nat.zero_le _, Nat.zero_le _⟩ ?_
        refine g_if_eq S (tgt := 56) dX5_breakJoints_31 (by decide) (fun c_31_1 => ?_) (fun c_31_1 => ?_)
        · have hbq9 : brk g i = false := by rw [brk_h hO (by omega), c_31_1]; rfl
          refine lv_iinc (v := nI (i + 1)) (lv' := [(2, .int (nI (i + 1))), (3, .ref (wad w 4 (i))), (0, .ref (wad w 0 (0))), (1, .int (nI c9))]) hx hb dX5_breakJoints_56 hl (k := 3) rfl (nI_1 _) (by decide) rfl (fun ls hl => ?_)
          refine lv_goto (tgt := 4) hx hb dX5_breakJoints_59 (by decide) ?_
          exact ih_4 (i + 1) (c9) (by omega) (by rw [cntN, hbq9, hc9]; simp) (by omega) _ _ (by rw [← hst_n hbq9]; exact hW) hS ls (lv_sub hl [2, 3, 0] rfl)
        · have q26 := hO.l26 (i := i) (by omega)
          refine lv_aload_n hx hb dX5_breakJoints_34 rfl (lv_at hl 0 rfl) ?_
          refine lv_aload_n hx hb dX5_breakJoints_35 rfl (lv_at hl 0 rfl) ?_
          refine g_get S hE (hW.jt (i := i) (show i < nj g by omega)) (C := RX1) (T := TX1) (N := 9) (v := .ref (wad w 3 (jp g i))) rfl inU1 1 (by decide) tw_526 (Or.inl rfl) rfl dX5_breakJoints_36 ?_
          refine g_get S hE (hW.pt (i := jp g i) (show jp g i < np g by omega)) (C := RX2) (T := TX2) (N := 9) (v := .int ((hst g i) 22 (jp g i))) rfl inU2 3 (by decide) tw_326 (Or.inr tw_324) rfl dX5_breakJoints_39 ?_
          refine g_callV (As := [.int ((hst g i) 22 (jp g i))]) (rest := []) S hE hS (c_X1_breaksAt l z w (hst g i) gm o hOG (i) (show i < nj g by omega) ((hst g i) 22 (jp g i))) (cwV 1 hts (gU_V tw_256 tw_257 tw_258 tw_21 tw_259) rfl rfl rfl (by decide +kernel) ⟨Nat.le_of_ble_eq_true rfl, Nat.le_of_ble_eq_true rfl⟩) (hE.recv (hW.jt (i := i) (show i < nj g by omega)) (q := (RX1, TX1, 9)) rfl) hW rfl hl.1 rfl (Nat.le_of_ble_eq_true rfl) dX5_breakJoints_42 ⟨Nat.zero_le _, Nat.zero_le _⟩ ?_
          refine g_if_eq S (tgt := 56) dX5_breakJoints_45 (by decide) (fun c_45_2 => ?_) (fun c_45_2 => ?_)
          · have hbq9 : brk g i = false := by rw [brk_h hO (by omega), c_31_1, c_45_2]; rfl
            refine lv_iinc (v := nI (i + 1)) (lv' := [(2, .int (nI (i + 1))), (3, .ref (wad w 4 (i))), (0, .ref (wad w 0 (0))), (1, .int (nI c9))]) hx hb dX5_breakJoints_56 hl (k := 3) rfl (nI_1 _) (by decide) rfl (fun ls hl => ?_)
            refine lv_goto (tgt := 4) hx hb dX5_breakJoints_59 (by decide) ?_
            exact ih_4 (i + 1) (c9) (by omega) (by rw [cntN, hbq9, hc9]; simp) (by omega) _ _ (by rw [← hst_n hbq9]; exact hW) hS ls (lv_sub hl [2, 3, 0] rfl)
          · refine lv_aload_n hx hb dX5_breakJoints_48 rfl (lv_at hl 0 rfl) ?_
            refine lv_iconst (v := 1) hx hb dX5_breakJoints_49 (by decide) ?_
            refine g_put S hE hS (hW.jt (i := i) (show i < nj g by omega)) (hW.2.2.1 4 (i) (show i < nj g by omega)) (C := RX1) (T := TX1) (N := 9) rfl inU1 tyX1 tyX1_ok nmX1 7 (by decide) tw_538 (Or.inl rfl) (Or.inl rfl) (v := .int 1) rfl rfl (Nat.le_of_ble_eq_true rfl) dX5_breakJoints_50 (fun H locs he oq _ hS => ?_)
            replace hW := hW.uj32 (i := i) (show i < nj g by omega) he oq
            refine lv_iinc (v := nI (c9 + 1)) (lv' := [(1, .int (nI (c9 + 1))), (3, .ref (wad w 4 (i))), (0, .ref (wad w 0 (0))), (2, .int (nI i))]) hx hb dX5_breakJoints_53 hl (k := 2) rfl (nI_1 _) (by decide) rfl (fun ls hl => ?_)
            have hbq9 : brk g i = true := by rw [brk_h hO (by omega), c_31_1, c_45_2]; rfl
            refine lv_iinc (v := nI (i + 1)) (lv' := [(2, .int (nI (i + 1))), (1, .int (nI (c9 + 1))), (3, .ref (wad w 4 (i))), (0, .ref (wad w 0 (0)))]) hx hb dX5_breakJoints_56 hl (k := 3) rfl (nI_1 _) (by decide) rfl (fun ls hl => ?_)
            refine lv_goto (tgt := 4) hx hb dX5_breakJoints_59 (by decide) ?_
            exact ih_4 (i + 1) (c9 + 1) (by omega) (by rw [cntN, hbq9, hc9]; simp) (by omega) _ _ (by rw [← hst_y hbq9]; exact hW) hS ls (lv_sub hl [3, 1, 0] rfl)
  exact lp_4 ((nj g - 0) + 1) 0 0 (Nat.zero_le _) rfl (Nat.lt_succ_self _) _ _ hW hS ls (lv_sub hl [2, 1, 0] rfl)
set_option maxHeartbeats 4000000 in
set_option maxRecDepth 100000 in
/-- pass(months) -/
theorem c_X5_pass (l : Launch) (z : ZE) (hst : l.stackTraces = false) (w : WG) (g gm : GS) (o : Nat → Int64) (hO : OKg g) (a : Int32) : vx_Met l yX5_pass (.code yX5_pass cX5_pass 4 (some .int) :: wU) ({ frames := 6, cells := 1, slots := 6, locals := 107 }) (PE z [.ref (wad w 0 (0)), .int a] (fun H => WW z w g gm o H)) (xQ z w gm o (sp_pass g a)) (xX z w g gm o (sp_pass g a) xA xS xI) 1 6 (zA z) := by
  refine vx_ofW (cc := cX5_pass) (maxL := 4) (ret := (some .int)) (by decide) rfl ?_
  intro p e s m args below meth c s₁ BD hml hno hv
  obtain ⟨rfl, hE, hW⟩ := hv
  have hts : ∀ w ∈ wU, w.before _ s = true := fun w h => atoms_spec (ws := .code yX5_pass cX5_pass 4 (some .int) :: wU) BD.pre w (List.mem_cons_of_mem _ h)
  have S : CallFix p m c cX5_pass 4 s ([.ref (wad w 0 (0)), .int a] : List Value).toArray wU RX5 := ⟨BD.exec, BD.bytes, hml, findClass_of_methodNamed BD.named, hts⟩
  have hx := S.1
  have hb := S.2.1
  have hown := S.2.2.2.1
  have hr := BD.returns
  have hlocks := BD.notSynchronized
  have hS : va_S (zA z) s.heap s.heap [] := va_S.rf
  have hl := lv_entry ([.ref (wad w 0 (0)), .int a]) (n := 4) (Nat.le_of_ble_eq_true rfl)
  rw [lg_entry_eq]
  generalize (lg_sl ([.ref (wad w 0 (0)), .int a]) ++ List.replicate (4 - (lg_sl ([.ref (wad w 0 (0)), .int a])).length) Slot.unset).toArray = ls at hl ⊢
  have hl : lv_has ls 4 [(0, .ref (wad w 0 (0))), (1, .int a)] := hl
  have hm0 := hO.l1
  refine lv_iload_n hx hb dX5_pass_0 rfl (lv_at hl 1 rfl) ?_
  refine lv_iconst (v := 1) hx hb dX5_pass_1 (by decide) ?_
  refine lv_bipush (v := 24) hx hb dX5_pass_2 (by decide) ?_
  refine g_callS (As := [.int a, .int 1, .int 24]) (rest := []) S hE hS (c_X5_isWithin l z (a) (1) (24)) (cwS 3 hts (gU_S tw_158 tw_159 tw_1 tw_160) rfl rfl rfl (by decide +kernel) ⟨Nat.le_of_ble_eq_true rfl, Nat.le_of_ble_eq_true rfl⟩) trivial rfl hl.1 rfl (Nat.le_of_ble_eq_true rfl) dX5_pass_4 ⟨Nat.zero_le _, Nat.zero_le _⟩ ?_
  refine g_if_ne S (tgt := 20) dX5_pass_7 (by decide) (fun c_7 => ?_) (fun c_7 => ?_)
  · obtain ⟨M, hm1, hm2, rfl⟩ := wi_rng (a := 1) (b := 24) (by decide) (by decide) c_7
    have tm9 : tN (nI M) = M := tNn (by omega)
    refine lv_aload_n hx hb dX5_pass_20 rfl (lv_at hl 0 rfl) ?_
    refine g_get S hE hW.sh (C := RX5) (T := TX5) (N := 8) (v := .int (nI (mo g))) rfl inU5 4 (by decide) tw_64 (Or.inl rfl) (by rw [← hO.n1]; rfl) dX5_pass_21 ?_
    refine lv_iload_n hx hb dX5_pass_24 rfl (lv_at hl 1 rfl) ?_
    refine g_iadd S dX5_pass_25 ?_
    refine lv_sipush (v := 1200) hx hb dX5_pass_26 (by decide) ?_
    rw [show (1200 : Int32) = nI 1200 from rfl]
    refine g_icmp_le S (by omega) (by omega) (tgt := 42) dX5_pass_29 (by decide) (fun c_29_1 => ?_) (fun c_29_1 => ?_)
    · refine lv_iconst (v := nI 0) hx hb dX5_pass_42 (by decide) ?_
      refine lv_istore_n (lv' := [(2, .int (nI 0)), (0, .ref (wad w 0 (0))), (1, .int (nI M))]) hx hb dX5_pass_43 rfl hl (by decide) rfl (fun ls hl => ?_)
      refine lv_iconst (v := nI 0) hx hb dX5_pass_44 (by decide) ?_
      refine lv_istore_n (lv' := [(3, .int (nI 0)), (2, .int (nI 0)), (0, .ref (wad w 0 (0))), (1, .int (nI M))]) hx hb dX5_pass_45 rfl hl (by decide) rfl (fun ls hl => ?_)
      have lp_46 : ∀ (k9 : Nat) (i c9 : Nat) (hi : i ≤ M) (hc9 : c9 = pct i g), M - i < k9 → ∀ (H : Heap) (locs : List Loc), WW z w (pas i g) gm o H → va_S (zA z) s.heap H locs → ∀ (ls : Array Slot), lv_has ls 4 [(0, .ref (wad w 0 (0))), (1, .int (nI M)), (2, .int (nI c9)), (3, .int (nI i))] → W p l e ({ frames := 6, cells := 1, slots := 6, locals := 107 } : Room) s m ([.ref (wad w 0 (0)), .int (nI M)] : List Value).toArray below meth c H locs 0 0 (vx_MQ below (xQ z w gm o (sp_pass g (nI M))) (xX z w g gm o (sp_pass g (nI M)) xA xS xI) ([.ref (wad w 0 (0)), .int (nI M)] : List Value).toArray s 1 6 (zA z)) (F0 m 46 ls []) := by
        intro k9
        induction k9 with
        | zero => intro i c9 hi hc9 h9; exact absurd h9 (Nat.not_lt_zero _)
        | succ k9 ih_46 =>
          intro i c9 hi hc9 hk9 H locs hW hS ls hl
          obtain ⟨hOi, hmi⟩ := OKg_pas hO i (by omega)
          refine lv_iload_n hx hb dX5_pass_46 rfl (lv_at hl 3 rfl) ?_
          refine lv_iload_n hx hb dX5_pass_47 rfl (lv_at hl 1 rfl) ?_
          refine g_icmp_ge S (by omega) (by omega) (tgt := 86) dX5_pass_48 (by decide) (fun c_48_2 => ?_) (fun c_48_2 => ?_)
          · refine lv_iload_n hx hb dX5_pass_86 rfl (lv_at hl 2 rfl) ?_
            obtain rfl : i = M := by omega
            exact x_ret S hr hlocks hS hW (by rw [sp_pass, if_pos c_7, tm9, if_neg (by omega), hc9]) wsm.rf ⟨Nat.le_of_ble_eq_true rfl, Nat.le_of_ble_eq_true rfl⟩ dX5_pass_87
          · refine lv_aload_n hx hb dX5_pass_51 rfl (lv_at hl 0 rfl) ?_
            refine lv_aload_n hx hb dX5_pass_52 rfl (lv_at hl 0 rfl) ?_
            refine lv_aload_n hx hb dX5_pass_53 rfl (lv_at hl 0 rfl) ?_
            refine g_get S hE hW.sh (C := RX5) (T := TX5) (N := 8) (v := .int (nI (mo (pas i g)))) rfl inU5 4 (by decide) tw_64 (Or.inl rfl) (by rw [← hOi.n1]; rfl) dX5_pass_54 ?_
            refine g_callV (As := [.int (nI (mo (pas i g)))]) (rest := [.ref (wad w 0 (0))]) S hE hS (c_X5_airIn l z w (pas i g) gm o (mo (pas i g)) (by omega)) (cwV 1 hts (gU_V tw_198 tw_200 tp_1 tw_1 tw_201) rfl rfl rfl (by decide +kernel) ⟨Nat.le_of_ble_eq_true rfl, Nat.le_of_ble_eq_true rfl⟩) (hE.recv hW.sh (q := (RX5, TX5, 8)) rfl) hW rfl hl.1 rfl (Nat.le_of_ble_eq_true rfl) dX5_pass_57 ⟨Nat.zero_le _, Nat.zero_le _⟩ ?_
            refine x_callv (As := [.int (wea (pas i g) (mo (pas i g)))]) (rest := []) S hE hS (c_X5_moistenAll l z w (pas i g) gm o hOi (wea (pas i g) (mo (pas i g))) rfl) (cwV 1 hts (gU_V tw_205 tw_207 tp_2 tw_1 tw_208) rfl rfl rfl (by decide +kernel) ⟨Nat.le_of_ble_eq_true rfl, Nat.le_of_ble_eq_true rfl⟩) (hE.recv hW.sh (q := (RX5, TX5, 8)) rfl) hW rfl hl.1 rfl (Nat.le_of_ble_eq_true rfl) dX5_pass_60 ⟨Nat.zero_le _, Nat.zero_le _⟩ (fun H locs hW hS => ?_)
            refine lv_aload_n hx hb dX5_pass_63 rfl (lv_at hl 0 rfl) ?_
            refine lv_dup hx hb dX5_pass_64 rfl ?_
            refine g_get S hE hW.sh (C := RX5) (T := TX5) (N := 8) (v := .int (nI (mo (pas i g)))) rfl inU5 4 (by decide) tw_64 (Or.inl rfl) (by rw [← hOi.n1]; rfl) dX5_pass_65 ?_
            refine lv_iconst (v := 1) hx hb dX5_pass_68 (by decide) ?_
            refine lv_iadd hx hb dX5_pass_69 ?_
            rw [show (nI (mo (pas i g)) : Int32) + 1 = nI ((mo (pas i g)) + 1) from nI_add _ 1]
            refine g_put S hE hS hW.sh (hW.2.2.1 0 0 rfl) (C := RX5) (T := TX5) (N := 8) rfl inU5 tyX5 tyX5_ok nmX5 4 (by decide) tw_64 (Or.inl rfl) (Or.inl rfl) (v := .int (nI ((mo (pas i g)) + 1))) rfl rfl (Nat.le_of_ble_eq_true rfl) dX5_pass_70 (fun H locs he oq _ hS => ?_)
            replace hW := hW.us1 he oq
            refine lv_iload_n hx hb dX5_pass_73 rfl (lv_at hl 2 rfl) ?_
            refine lv_aload_n hx hb dX5_pass_74 rfl (lv_at hl 0 rfl) ?_
            refine x_calli (As := []) (rest := [.int (nI c9)]) S hE hS (c_X5_breakJoints l z w (pas i g) gm o hOi (by omega)) (cwV 0 hts (gU_V tw_247 tw_249 tp_3 tw_1 tw_250) rfl rfl rfl (by decide +kernel) ⟨Nat.le_of_ble_eq_true rfl, Nat.le_of_ble_eq_true rfl⟩) (hE.recv hW.sh (q := (RX5, TX5, 8)) rfl) hW rfl hl.1 rfl (Nat.le_of_ble_eq_true rfl) dX5_pass_75 ⟨Nat.zero_le _, Nat.zero_le _⟩ (fun H locs hW hS => ?_)
            refine g_iadd S dX5_pass_78 ?_
            refine lv_istore_n (lv' := [(2, .int (nI (c9 + (cntN (nj (pas i g)) (brk (pas i g)))))), (0, .ref (wad w 0 (0))), (1, .int (nI M)), (3, .int (nI i))]) hx hb dX5_pass_79 rfl hl (by decide) rfl (fun ls hl => ?_)
            refine lv_iinc (v := nI (i + 1)) (lv' := [(3, .int (nI (i + 1))), (2, .int (nI (c9 + (cntN (nj (pas i g)) (brk (pas i g)))))), (0, .ref (wad w 0 (0))), (1, .int (nI M))]) hx hb dX5_pass_80 hl (k := 3) rfl (nI_1 _) (by decide) rfl (fun ls hl => ?_)
            refine lv_goto (tgt := 46) hx hb dX5_pass_83 (by decide) ?_
            exact ih_46 (i + 1) _ (by omega) (by rw [hc9]; rfl) (by omega) _ _ hW hS ls (lv_sub hl [2, 3, 1, 0] rfl)
      exact lp_46 ((M - 0) + 1) 0 0 (Nat.zero_le _) rfl (Nat.lt_succ_self _) _ _ hW hS ls (lv_sub hl [2, 3, 1, 0] rfl)
    · exact g_throw 63 65 67 xS _ 2 exS S hst hE hS hW (show (65, "the month would be above 1200") ∈ strL by decide +kernel) hl.1 hno hlocks dX5_pass_32 dX5_pass_35 dX5_pass_36 dX5_pass_38 dX5_pass_41 ⟨Nat.le_of_ble_eq_true rfl, Nat.le_of_ble_eq_true rfl, Nat.le_of_ble_eq_true rfl, Nat.le_of_ble_eq_true rfl⟩ ⟨Nat.le_of_ble_eq_true rfl, Nat.le_of_ble_eq_true rfl⟩ ⟨by simp [sp_pass, c_7, tm9, c_29_1], by decide⟩ (by decide +kernel)
  · exact g_throw 56 61 60 xA _ 1 exA S hst hE hS hW (show (61, "months is out of its range") ∈ strL by decide +kernel) hl.1 hno hlocks dX5_pass_10 dX5_pass_13 dX5_pass_14 dX5_pass_16 dX5_pass_19 ⟨Nat.le_of_ble_eq_true rfl, Nat.le_of_ble_eq_true rfl, Nat.le_of_ble_eq_true rfl, Nat.le_of_ble_eq_true rfl⟩ ⟨Nat.le_of_ble_eq_true rfl, Nat.le_of_ble_eq_true rfl⟩ ⟨by simp [sp_pass, c_7], by decide⟩ (by decide +kernel)
