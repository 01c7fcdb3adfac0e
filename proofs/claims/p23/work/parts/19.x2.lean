set_option maxHeartbeats 4000000 in
set_option maxRecDepth 100000 in
/-- hasRoom(from, length) -/
theorem c_X0_hasRoom (l : Launch) (z : ZE) (w : WG) (g gm : GS) (o : Nat → Int64) (hO : OKg g) (i : Nat) (hi : i < nb g) (f l9 : Int32) : Met l yX0_hasRoom (.code yX0_hasRoom cX0_hasRoom 3 (some .boolean) :: wU) ({ frames := 4, cells := 0, slots := 0, locals := 87 }) (PE z [.ref (wad w 2 (i)), .int f, .int l9] (fun H => WW z w g gm o H)) (rqi (bI (hrm g i f l9))) 0 0 zF := by
  refine Met.ofW (cc := cX0_hasRoom) (maxL := 3) (ret := (some .boolean)) (by decide) rfl ?_
  intro p e s m args below meth c s₁ BD hml hv
  obtain ⟨rfl, hE, hW⟩ := hv
  have hts : ∀ w ∈ wU, w.before _ s = true := fun w h => atoms_spec (ws := .code yX0_hasRoom cX0_hasRoom 3 (some .boolean) :: wU) BD.pre w (List.mem_cons_of_mem _ h)
  have S : CallFix p m c cX0_hasRoom 3 s ([.ref (wad w 2 (i)), .int f, .int l9] : List Value).toArray wU RX0 := ⟨BD.exec, BD.bytes, hml, findClass_of_methodNamed BD.named, hts⟩
  have hx := S.1
  have hb := S.2.1
  have hown := S.2.2.2.1
  have hr := BD.returns
  have hlocks := BD.notSynchronized
  have hS : va_S (zA z) s.heap s.heap [] := va_S.rf
  have hl := lv_entry ([.ref (wad w 2 (i)), .int f, .int l9]) (n := 3) (Nat.le_of_ble_eq_true rfl)
  rw [lg_entry_eq]
  generalize (lg_sl ([.ref (wad w 2 (i)), .int f, .int l9]) ++ List.replicate (3 - (lg_sl ([.ref (wad w 2 (i)), .int f, .int l9])).length) Slot.unset).toArray = ls at hl ⊢
  have hl : lv_has ls 3 [(0, .ref (wad w 2 (i))), (1, .int f), (2, .int l9)] := hl
  have h20 := hO.l5
  refine lv_iload_n hx hb dX0_hasRoom_0 rfl (lv_at hl 1 rfl) ?_
  refine lv_iload_n hx hb dX0_hasRoom_1 rfl (lv_at hl 2 rfl) ?_
  refine lv_iadd hx hb dX0_hasRoom_2 ?_
  refine lv_aload_n hx hb dX0_hasRoom_3 rfl (lv_at hl 0 rfl) ?_
  refine g_get S hE (hW.bd (i := i) (by omega)) (C := RX0) (T := TX0) (N := 11) (v := .int (g 10 i)) rfl inU0 8 (by decide) tw_307 (Or.inl rfl) rfl dX0_hasRoom_4 ?_
  refine lv_icmp_gt (tgt := 28) hx hb dX0_hasRoom_7 (by decide) (fun c_7 => ?_) (fun c_7 => ?_)
  · refine lv_iconst (v := 0) hx hb dX0_hasRoom_28 (by decide) ?_
    exact g_zret S hr hlocks (by simp [hrm, bI, c_7]) ⟨_, rfl⟩ dX0_hasRoom_29
  · refine lv_aload_n hx hb dX0_hasRoom_10 rfl (lv_at hl 0 rfl) ?_
    refine g_get S hE (hW.bd (i := i) (by omega)) (C := RX0) (T := TX0) (N := 11) (v := .ref (wad w 5 (4 + 2 * i))) rfl inU0 10 (by decide) tw_310 (Or.inl rfl) rfl dX0_hasRoom_11 ?_
    refine lv_iload_n hx hb dX0_hasRoom_14 rfl (lv_at hl 1 rfl) ?_
    refine lv_iload_n hx hb dX0_hasRoom_15 rfl (lv_at hl 1 rfl) ?_
    refine lv_iload_n hx hb dX0_hasRoom_16 rfl (lv_at hl 2 rfl) ?_
    refine lv_iadd hx hb dX0_hasRoom_17 ?_
    refine g_callSN (As := [.ref (wad w 5 (4 + 2 * i)), .int f, .int (f + l9)]) (rest := []) S hE hS (c_X5_touchesAny l z w g gm o hO (4 + 2 * i) (by omega) (by omega) (f) (f + l9)) ⟨va_cnB 3 hts (gU_c tw_426) rfl rfl rfl hE.2.2.2.2.2.2.2.1.2 (hts _ tw_1) (by decide +kernel) ⟨Nat.le_of_ble_eq_true rfl, Nat.le_of_ble_eq_true rfl⟩, hts _ tw_425, trivial⟩ hW rfl hl.1 rfl (Nat.le_of_ble_eq_true rfl) dX0_hasRoom_18 ⟨Nat.zero_le _, Nat.zero_le _⟩ ?_
    rw [tk_any]
    refine g_if_ne S (tgt := 28) dX0_hasRoom_21 (by decide) (fun c_21_1 => ?_) (fun c_21_1 => ?_)
    · refine lv_iconst (v := 0) hx hb dX0_hasRoom_28 (by decide) ?_
      exact g_zret S hr hlocks (by simp [hrm, bI, c_7, c_21_1]) ⟨_, rfl⟩ dX0_hasRoom_29
    · refine lv_iconst (v := 1) hx hb dX0_hasRoom_24 (by decide) ?_
      refine lv_goto (tgt := 29) hx hb dX0_hasRoom_25 (by decide) ?_
      exact g_zret S hr hlocks (by simp [hrm, bI, c_7, c_21_1]) ⟨_, rfl⟩ dX0_hasRoom_29
set_option maxHeartbeats 4000000 in
set_option maxRecDepth 100000 in
/-- suitsFlitch(species, flitch, place) -/
theorem c_X5_suitsFlitch (l : Launch) (z : ZE) (w : WG) (g gm : GS) (o : Nat → Int64) (hO : OKg g) (sp fl pl : Int32) : Met l yX5_suitsFlitch (.code yX5_suitsFlitch cX5_suitsFlitch 6 (some .boolean) :: wU) ({ frames := 3, cells := 0, slots := 0, locals := 64 }) (PE z [.ref (wad w 0 (0)), .int sp, .int fl, .int pl] (fun H => WW z w g gm o H)) (rqi (bI (!anyN (nb g) (clash g fl pl sp)))) 0 0 zF := by
  refine Met.ofW (cc := cX5_suitsFlitch) (maxL := 6) (ret := (some .boolean)) (by decide) rfl ?_
  intro p e s m args below meth c s₁ BD hml hv
  obtain ⟨rfl, hE, hW⟩ := hv
  have hts : ∀ w ∈ wU, w.before _ s = true := fun w h => atoms_spec (ws := .code yX5_suitsFlitch cX5_suitsFlitch 6 (some .boolean) :: wU) BD.pre w (List.mem_cons_of_mem _ h)
  have S : CallFix p m c cX5_suitsFlitch 6 s ([.ref (wad w 0 (0)), .int sp, .int fl, .int pl] : List Value).toArray wU RX5 := ⟨BD.exec, BD.bytes, hml, findClass_of_methodNamed BD.named, hts⟩
  have hx := S.1
  have hb := S.2.1
  have hown := S.2.2.2.1
  have hr := BD.returns
  have hlocks := BD.notSynchronized
  have hS : va_S (zA z) s.heap s.heap [] := va_S.rf
  have hl := lv_entry ([.ref (wad w 0 (0)), .int sp, .int fl, .int pl]) (n := 6) (Nat.le_of_ble_eq_true rfl)
  rw [lg_entry_eq]
  generalize (lg_sl ([.ref (wad w 0 (0)), .int sp, .int fl, .int pl]) ++ List.replicate (6 - (lg_sl ([.ref (wad w 0 (0)), .int sp, .int fl, .int pl])).length) Slot.unset).toArray = ls at hl ⊢
  have hl : lv_has ls 6 [(0, .ref (wad w 0 (0))), (1, .int sp), (2, .int fl), (3, .int pl)] := hl
  have h20 := hO.l5
  refine lv_iconst (v := nI 0) hx hb dX5_suitsFlitch_0 (by decide) ?_
  refine lv_istore (lv' := [(4, .int (nI 0)), (0, .ref (wad w 0 (0))), (1, .int sp), (2, .int fl), (3, .int pl)]) hx hb dX5_suitsFlitch_1 hl (by decide) rfl (fun ls hl => ?_)
  have lp_3 : ∀ (k9 : Nat) (k : Nat) (hk : k ≤ nb g) (he : anyN k (clash g fl pl sp) = false), nb g - k < k9 → ∀ (ls : Array Slot), lv_has ls 6 [(0, .ref (wad w 0 (0))), (1, .int sp), (2, .int fl), (3, .int pl), (4, .int (nI k))] → W p l e ({ frames := 3, cells := 0, slots := 0, locals := 64 } : Room) s m ([.ref (wad w 0 (0)), .int sp, .int fl, .int pl] : List Value).toArray below meth c s.heap [] 0 0 (MQ below (rqi (bI (!anyN (nb g) (clash g fl pl sp)))) ([.ref (wad w 0 (0)), .int sp, .int fl, .int pl] : List Value).toArray s 0 0 zF) (F0 m 3 ls []) := by
    intro k9
    induction k9 with
    | zero => intro k hk he h9; exact absurd h9 (Nat.not_lt_zero _)
    | succ k9 ih_3 =>
      intro k hk he hk9 ls hl
      refine lv_iload hx hb dX5_suitsFlitch_3 (lv_at hl 4 rfl) ?_
      refine lv_aload_n hx hb dX5_suitsFlitch_5 rfl (lv_at hl 0 rfl) ?_
      refine g_get S hE hW.sh (C := RX5) (T := TX5) (N := 8) (v := .ref (wad w 5 (0))) rfl inU5 0 (by decide) tw_60 (Or.inl rfl) rfl dX5_suitsFlitch_6 ?_
      refine g_callV (As := []) (rest := [.int (nI k)]) S hE hS (c_sizeB l z w g gm o) (cwV 0 hts (gU_V tw_209 tw_210 tw_211 tw_4 tw_212) rfl rfl rfl (by decide +kernel) ⟨Nat.le_of_ble_eq_true rfl, Nat.le_of_ble_eq_true rfl⟩) (hE.recv (hW.lst (i := 0) (by omega)) (q := (RJx4a65c, TJx4a65c, 3)) rfl) hW rfl hl.1 rfl (Nat.le_of_ble_eq_true rfl) dX5_suitsFlitch_9 ⟨Nat.zero_le _, Nat.zero_le _⟩ ?_
      refine g_icmp_ge S (by omega) (by omega) (tgt := 64) dX5_suitsFlitch_12 (by decide) (fun c_12 => ?_) (fun c_12 => ?_)
      · refine lv_iconst (v := 1) hx hb dX5_suitsFlitch_64 (by decide) ?_
        exact g_zret S hr hlocks (by rw [show nb g = k by omega, he]; rfl) ⟨_, rfl⟩ dX5_suitsFlitch_65
      · refine lv_aload_n hx hb dX5_suitsFlitch_15 rfl (lv_at hl 0 rfl) ?_
        refine g_get S hE hW.sh (C := RX5) (T := TX5) (N := 8) (v := .ref (wad w 5 (0))) rfl inU5 0 (by decide) tw_60 (Or.inl rfl) rfl dX5_suitsFlitch_16 ?_
        refine lv_iload hx hb dX5_suitsFlitch_19 (lv_at hl 4 rfl) ?_
        refine g_callVq (As := [.int (nI k)]) (rest := []) S hE hS (c_getB l z w g gm o (k) (by omega)) (cwV 1 hts (gU_V tw_213 tw_214 tw_215 tw_4 tw_216) rfl rfl rfl (by decide +kernel) ⟨Nat.le_of_ble_eq_true rfl, Nat.le_of_ble_eq_true rfl⟩) (hE.recv (hW.lst (i := 0) (by omega)) (q := (RJx4a65c, TJx4a65c, 3)) rfl) hW rfl hl.1 rfl (Nat.le_of_ble_eq_true rfl) dX5_suitsFlitch_21 ⟨Nat.zero_le _, Nat.zero_le _⟩ ?_
        rw [show va_rf (some (wad w 2 (k))) = .ref (wad w 2 (k)) from rfl]
        refine g_cast S hE (hW.bd (i := k) (by omega)) (C := RX0) (T := TX0) (N := 11) rfl tw_227 dX5_suitsFlitch_24 ?_
        refine lv_astore (lv' := [(5, .ref (wad w 2 (k))), (0, .ref (wad w 0 (0))), (1, .int sp), (2, .int fl), (3, .int pl), (4, .int (nI k))]) hx hb dX5_suitsFlitch_27 hl (by decide) rfl (fun ls hl => ?_)
        refine lv_aload hx hb dX5_suitsFlitch_29 (lv_at hl 0 rfl) ?_
        refine g_get S hE (hW.bd (i := k) (by omega)) (C := RX0) (T := TX0) (N := 11) (v := .int (g 7 k)) rfl inU0 6 (by decide) tw_304 (Or.inl rfl) rfl dX5_suitsFlitch_31 ?_
        refine lv_iload_n hx hb dX5_suitsFlitch_34 rfl (lv_at hl 3 rfl) ?_
        refine lv_icmp_ne (tgt := 58) hx hb dX5_suitsFlitch_35 (by decide) (fun c_35_1 => ?_) (fun c_35_1 => ?_)
        · refine lv_iinc (v := nI (k + 1)) (lv' := [(4, .int (nI (k + 1))), (5, .ref (wad w 2 (k))), (0, .ref (wad w 0 (0))), (1, .int sp), (2, .int fl), (3, .int pl)]) hx hb dX5_suitsFlitch_58 hl (k := 5) rfl (nI_1 _) (by decide) rfl (fun ls hl => ?_)
          refine lv_goto (tgt := 3) hx hb dX5_suitsFlitch_61 (by decide) ?_
          exact ih_3 (k + 1) (by omega) (by simp [anyN, he, clash, c_35_1]) (by omega) ls (lv_sub hl [2, 3, 4, 5, 0] rfl)
        · refine lv_aload hx hb dX5_suitsFlitch_38 (lv_at hl 0 rfl) ?_
          refine g_get S hE (hW.bd (i := k) (by omega)) (C := RX0) (T := TX0) (N := 11) (v := .int (g 8 k)) rfl inU0 7 (by decide) tw_306 (Or.inl rfl) rfl dX5_suitsFlitch_40 ?_
          refine lv_iload_n hx hb dX5_suitsFlitch_43 rfl (lv_at hl 4 rfl) ?_
          refine lv_icmp_eq (tgt := 56) hx hb dX5_suitsFlitch_44 (by decide) (fun c_44_2 => ?_) (fun c_44_2 => ?_)
          · refine lv_iconst (v := 0) hx hb dX5_suitsFlitch_56 (by decide) ?_
            exact g_zret S hr hlocks (by rw [anyN_mono (n := k + 1) (k := nb g) (f := clash g fl pl sp) (by simp [anyN, he, clash, c_35_1, c_44_2]) (by omega)]; rfl) ⟨_, rfl⟩ dX5_suitsFlitch_57
          · refine lv_aload hx hb dX5_suitsFlitch_47 (lv_at hl 0 rfl) ?_
            refine g_get S hE (hW.bd (i := k) (by omega)) (C := RX0) (T := TX0) (N := 11) (v := .int (g 6 k)) rfl inU0 0 (by decide) tw_315 (Or.inr tw_313) rfl dX5_suitsFlitch_49 ?_
            refine lv_iload_n hx hb dX5_suitsFlitch_52 rfl (lv_at hl 2 rfl) ?_
            refine lv_icmp_eq (tgt := 58) hx hb dX5_suitsFlitch_53 (by decide) (fun c_53_3 => ?_) (fun c_53_3 => ?_)
            · refine lv_iinc (v := nI (k + 1)) (lv' := [(4, .int (nI (k + 1))), (5, .ref (wad w 2 (k))), (0, .ref (wad w 0 (0))), (1, .int sp), (2, .int fl), (3, .int pl)]) hx hb dX5_suitsFlitch_58 hl (k := 5) rfl (nI_1 _) (by decide) rfl (fun ls hl => ?_)
              refine lv_goto (tgt := 3) hx hb dX5_suitsFlitch_61 (by decide) ?_
              exact ih_3 (k + 1) (by omega) (by simp [anyN, he, clash, c_35_1, c_44_2, c_53_3]) (by omega) ls (lv_sub hl [2, 3, 4, 5, 0] rfl)
            · refine lv_iconst (v := 0) hx hb dX5_suitsFlitch_56 (by decide) ?_
              exact g_zret S hr hlocks (by rw [anyN_mono (n := k + 1) (k := nb g) (f := clash g fl pl sp) (by simp [anyN, he, clash, c_35_1, c_44_2, c_53_3]) (by omega)]; rfl) ⟨_, rfl⟩ dX5_suitsFlitch_57
  exact lp_3 ((nb g - 0) + 1) 0 (Nat.zero_le _) rfl (Nat.lt_succ_self _) ls (lv_sub hl [1, 2, 3, 4, 0] rfl)
set_option maxHeartbeats 4000000 in
set_option maxRecDepth 100000 in
/-- isTongue(kind, tongue) -/
theorem c_X5_isTongue (l : Launch) (z : ZE) (kd tg : Int32) : Met l yX5_isTongue (.code yX5_isTongue cX5_isTongue 2 (some .boolean) :: wU) ({ frames := 1, cells := 0, slots := 0, locals := 22 }) (PE z [.int kd, .int tg] (fun _ => True)) (rqi (bI (tgok kd tg))) 0 0 zF := by
  refine Met.ofW (cc := cX5_isTongue) (maxL := 2) (ret := (some .boolean)) (by decide) rfl ?_
  intro p e s m args below meth c s₁ BD hml hv
  obtain ⟨rfl, hE, hW⟩ := hv
  have hts : ∀ w ∈ wU, w.before _ s = true := fun w h => atoms_spec (ws := .code yX5_isTongue cX5_isTongue 2 (some .boolean) :: wU) BD.pre w (List.mem_cons_of_mem _ h)
  have S : CallFix p m c cX5_isTongue 2 s ([.int kd, .int tg] : List Value).toArray wU RX5 := ⟨BD.exec, BD.bytes, hml, findClass_of_methodNamed BD.named, hts⟩
  have hx := S.1
  have hb := S.2.1
  have hown := S.2.2.2.1
  have hr := BD.returns
  have hlocks := BD.notSynchronized
  have hS : va_S (zA z) s.heap s.heap [] := va_S.rf
  have hl := lv_entry ([.int kd, .int tg]) (n := 2) (Nat.le_of_ble_eq_true rfl)
  rw [lg_entry_eq]
  generalize (lg_sl ([.int kd, .int tg]) ++ List.replicate (2 - (lg_sl ([.int kd, .int tg])).length) Slot.unset).toArray = ls at hl ⊢
  have hl : lv_has ls 2 [(0, .int kd), (1, .int tg)] := hl
  refine lv_iload_n hx hb dX5_isTongue_0 rfl (lv_at hl 0 rfl) ?_
  refine lv_iconst (v := 2) hx hb dX5_isTongue_1 (by decide) ?_
  refine lv_icmp_ne (tgt := 16) hx hb dX5_isTongue_2 (by decide) (fun c_2 => ?_) (fun c_2 => ?_)
  · refine lv_iload_n hx hb dX5_isTongue_16 rfl (lv_at hl 1 rfl) ?_
    refine lv_if_ne (tgt := 24) hx hb dX5_isTongue_17 (by decide) (fun c_17_1 => ?_) (fun c_17_1 => ?_)
    · refine lv_iconst (v := 0) hx hb dX5_isTongue_24 (by decide) ?_
      exact g_zret S hr hlocks (by simp [tgok, bI, c_2, c_17_1]) ⟨_, rfl⟩ dX5_isTongue_25
    · refine lv_iconst (v := 1) hx hb dX5_isTongue_20 (by decide) ?_
      refine lv_goto (tgt := 25) hx hb dX5_isTongue_21 (by decide) ?_
      exact g_zret S hr hlocks (by simp [tgok, bI, c_2, c_17_1]) ⟨_, rfl⟩ dX5_isTongue_25
  · refine lv_iload_n hx hb dX5_isTongue_5 rfl (lv_at hl 1 rfl) ?_
    refine lv_iconst (v := 1) hx hb dX5_isTongue_6 (by decide) ?_
    refine lv_sipush (v := 200) hx hb dX5_isTongue_7 (by decide) ?_
    refine g_callS (As := [.int tg, .int 1, .int 200]) (rest := []) S hE hS (c_X5_isWithin l z (tg) (1) (200)) (cwS 3 hts (gU_S tw_158 tw_159 tw_1 tw_160) rfl rfl rfl (by decide +kernel) ⟨Nat.le_of_ble_eq_true rfl, Nat.le_of_ble_eq_true rfl⟩) trivial rfl hl.1 rfl (Nat.le_of_ble_eq_true rfl) dX5_isTongue_10 ⟨Nat.zero_le _, Nat.zero_le _⟩ ?_
    refine lv_goto (tgt := 25) hx hb dX5_isTongue_13 (by decide) ?_
    exact g_zret S hr hlocks (by simp [tgok, bI, c_2]) ⟨_, rfl⟩ dX5_isTongue_25
set_option maxHeartbeats 4000000 in
set_option maxRecDepth 100000 in
/-- fits(kind, part, size, tongue) -/
theorem c_X5_fits (l : Launch) (z : ZE) (w : WG) (g gm : GS) (o : Nat → Int64) (hO : OKg g) (k : Nat) (hk : k < 3) (i : Nat) (hi : i < np g) (sz tg : Int32) : Met l yX5_fits (.code yX5_fits cX5_fits 4 (some .boolean) :: wU) ({ frames := 4, cells := 0, slots := 0, locals := 83 }) (PE z [.int (nI k), .ref (wad w 3 (i)), .int sz, .int tg] (fun H => WW z w g gm o H)) (rqi (bI (fit g (nI k) i sz tg))) 0 0 zF := by
  refine Met.ofW (cc := cX5_fits) (maxL := 4) (ret := (some .boolean)) (by decide) rfl ?_
  intro p e s m args below meth c s₁ BD hml hv
  obtain ⟨rfl, hE, hW⟩ := hv
  have hts : ∀ w ∈ wU, w.before _ s = true := fun w h => atoms_spec (ws := .code yX5_fits cX5_fits 4 (some .boolean) :: wU) BD.pre w (List.mem_cons_of_mem _ h)
  have S : CallFix p m c cX5_fits 4 s ([.int (nI k), .ref (wad w 3 (i)), .int sz, .int tg] : List Value).toArray wU RX5 := ⟨BD.exec, BD.bytes, hml, findClass_of_methodNamed BD.named, hts⟩
  have hx := S.1
  have hb := S.2.1
  have hown := S.2.2.2.1
  have hr := BD.returns
  have hlocks := BD.notSynchronized
  have hS : va_S (zA z) s.heap s.heap [] := va_S.rf
  have hl := lv_entry ([.int (nI k), .ref (wad w 3 (i)), .int sz, .int tg]) (n := 4) (Nat.le_of_ble_eq_true rfl)
  rw [lg_entry_eq]
  generalize (lg_sl ([.int (nI k), .ref (wad w 3 (i)), .int sz, .int tg]) ++ List.replicate (4 - (lg_sl ([.int (nI k), .ref (wad w 3 (i)), .int sz, .int tg])).length) Slot.unset).toArray = ls at hl ⊢
  have hl : lv_has ls 4 [(0, .int (nI k)), (1, .ref (wad w 3 (i))), (2, .int sz), (3, .int tg)] := hl
  have h40 := hO.l16
  have h20 := hO.l5
  rcases (show k = 0 ∨ k = 1 ∨ k = 2 by omega) with rfl | rfl | rfl
  · refine lv_iload_n hx hb dX5_fits_0 rfl (lv_at hl 0 rfl) ?_
    refine lv_lookup (off := 27) (tgt := 28) hx hb dX5_fits_1 (by decide) (by decide) (by decide) ?_
    refine lv_iload_n hx hb dX5_fits_28 rfl (lv_at hl 2 rfl) ?_
    refine lv_aload_n hx hb dX5_fits_29 rfl (lv_at hl 1 rfl) ?_
    refine g_get S hE (hW.pt (i := i) (by omega)) (C := RX2) (T := TX2) (N := 9) (v := .int (g 19 i)) rfl inU2 8 (by decide) tw_458 (Or.inl rfl) rfl dX5_fits_30 ?_
    refine lv_icmp_gt (tgt := 40) hx hb dX5_fits_33 (by decide) (fun c_33 => ?_) (fun c_33 => ?_)
    · refine lv_iconst (v := 0) hx hb dX5_fits_40 (by decide) ?_
      exact g_zret S hr hlocks (by simp [fit, bI, show nI 0 = (0 : Int32) from rfl, show nI 1 = (1 : Int32) from rfl, c_33]) ⟨_, rfl⟩ dX5_fits_41
    · refine lv_iconst (v := 1) hx hb dX5_fits_36 (by decide) ?_
      refine lv_goto (tgt := 41) hx hb dX5_fits_37 (by decide) ?_
      exact g_zret S hr hlocks (by simp [fit, bI, show nI 0 = (0 : Int32) from rfl, show nI 1 = (1 : Int32) from rfl, c_33]) ⟨_, rfl⟩ dX5_fits_41
  · refine lv_iload_n hx hb dX5_fits_0 rfl (lv_at hl 0 rfl) ?_
    refine lv_lookup (off := 41) (tgt := 42) hx hb dX5_fits_1 (by decide) (by decide) (by decide) ?_
    refine lv_iload_n hx hb dX5_fits_42 rfl (lv_at hl 2 rfl) ?_
    refine lv_aload_n hx hb dX5_fits_43 rfl (lv_at hl 1 rfl) ?_
    refine g_callU (As := []) (rest := [.int sz]) S hE hS (c_wNowP l z w g gm o hO (i) (by omega)) (va_cwU (y := yX4_widthNow) (x := ⟨"DovetailRow$Part", "widthNow", "()I"⟩) (C := "DovetailRow$Part") (owner := "DovetailRow$Wood") 0 hts (gU_U tw_513 tw_514 tw_515 tw_436 tw_13 tw_437) rfl rfl rfl rfl (by decide +kernel) ⟨Nat.le_of_ble_eq_true rfl, Nat.le_of_ble_eq_true rfl⟩) (hE.recv (hW.pt (i := i) (by omega)) (q := (RX2, TX2, 9)) rfl) hW rfl hl.1 rfl (Nat.le_of_ble_eq_true rfl) dX5_fits_44 ⟨Nat.zero_le _, Nat.zero_le _⟩ ?_
    refine lv_icmp_gt (tgt := 54) hx hb dX5_fits_47 (by decide) (fun c_47_1 => ?_) (fun c_47_1 => ?_)
    · refine lv_iconst (v := 0) hx hb dX5_fits_54 (by decide) ?_
      exact g_zret S hr hlocks (by simp [fit, bI, show nI 0 = (0 : Int32) from rfl, show nI 1 = (1 : Int32) from rfl, c_47_1]) ⟨_, rfl⟩ dX5_fits_55
    · refine lv_iconst (v := 1) hx hb dX5_fits_50 (by decide) ?_
      refine lv_goto (tgt := 55) hx hb dX5_fits_51 (by decide) ?_
      exact g_zret S hr hlocks (by simp [fit, bI, show nI 0 = (0 : Int32) from rfl, show nI 1 = (1 : Int32) from rfl, c_47_1]) ⟨_, rfl⟩ dX5_fits_55
  · refine lv_iload_n hx hb dX5_fits_0 rfl (lv_at hl 0 rfl) ?_
    refine lv_lookup (off := 55) (tgt := 56) hx hb dX5_fits_1 (by decide) (by decide) (by decide) ?_
    refine lv_aload_n hx hb dX5_fits_56 rfl (lv_at hl 1 rfl) ?_
    refine g_callU (As := []) (rest := []) S hE hS (c_wNowP l z w g gm o hO (i) (by omega)) (va_cwU (y := yX4_widthNow) (x := ⟨"DovetailRow$Part", "widthNow", "()I"⟩) (C := "DovetailRow$Part") (owner := "DovetailRow$Wood") 0 hts (gU_U tw_513 tw_514 tw_515 tw_436 tw_13 tw_437) rfl rfl rfl rfl (by decide +kernel) ⟨Nat.le_of_ble_eq_true rfl, Nat.le_of_ble_eq_true rfl⟩) (hE.recv (hW.pt (i := i) (by omega)) (q := (RX2, TX2, 9)) rfl) hW rfl hl.1 rfl (Nat.le_of_ble_eq_true rfl) dX5_fits_57 ⟨Nat.zero_le _, Nat.zero_le _⟩ ?_
    refine lv_iload_n hx hb dX5_fits_60 rfl (lv_at hl 2 rfl) ?_
    refine lv_iconst (v := 2) hx hb dX5_fits_61 (by decide) ?_
    refine lv_iload_n hx hb dX5_fits_62 rfl (lv_at hl 3 rfl) ?_
    refine lv_imul hx hb dX5_fits_63 ?_
    refine lv_isub hx hb dX5_fits_64 ?_
    refine lv_iload_n hx hb dX5_fits_65 rfl (lv_at hl 2 rfl) ?_
    refine g_callS (As := [.int (wAt g i (g 22 i)), .int (sz - (2 * tg)), .int sz]) (rest := []) S hE hS (c_X5_isWithin l z (wAt g i (g 22 i)) (sz - (2 * tg)) (sz)) (cwS 3 hts (gU_S tw_158 tw_159 tw_1 tw_160) rfl rfl rfl (by decide +kernel) ⟨Nat.le_of_ble_eq_true rfl, Nat.le_of_ble_eq_true rfl⟩) trivial rfl hl.1 rfl (Nat.le_of_ble_eq_true rfl) dX5_fits_66 ⟨Nat.zero_le _, Nat.zero_le _⟩ ?_
    exact g_zret S hr hlocks (by simp [fit, wi, bI, show nI 2 = (2 : Int32) from rfl, Bool.and_comm]) ⟨_, rfl⟩ dX5_fits_69
set_option maxHeartbeats 4000000 in
set_option maxRecDepth 100000 in
/-- canBeGlued(set) -/
theorem c_X5_canBeGlued (l : Launch) (z : ZE) (w : WG) (g gm : GS) (o : Nat → Int64) (hO : OKg g) (v1 : Int32) : Met l yX5_canBeGlued (.code yX5_canBeGlued cX5_canBeGlued 5 (some .boolean) :: wU) ({ frames := 3, cells := 0, slots := 0, locals := 64 }) (PE z [.ref (wad w 0 (0)), .int v1] (fun H => WW z w g gm o H)) (rqi (bI (myN g v1 (dnN g v1 (nj g)) (nj g)))) 0 0 zF := by
  refine Met.ofW (cc := cX5_canBeGlued) (maxL := 5) (ret := (some .boolean)) (by decide) rfl ?_
  intro p e s m args below meth c s₁ BD hml hv
  obtain ⟨rfl, hE, hW⟩ := hv
  have hts : ∀ w ∈ wU, w.before _ s = true := fun w h => atoms_spec (ws := .code yX5_canBeGlued cX5_canBeGlued 5 (some .boolean) :: wU) BD.pre w (List.mem_cons_of_mem _ h)
  have S : CallFix p m c cX5_canBeGlued 5 s ([.ref (wad w 0 (0)), .int v1] : List Value).toArray wU RX5 := ⟨BD.exec, BD.bytes, hml, findClass_of_methodNamed BD.named, hts⟩
  have hx := S.1
  have hb := S.2.1
  have hown := S.2.2.2.1
  have hr := BD.returns
  have hlocks := BD.notSynchronized
  have hS : va_S (zA z) s.heap s.heap [] := va_S.rf
  have hl := lv_entry ([.ref (wad w 0 (0)), .int v1]) (n := 5) (Nat.le_of_ble_eq_true rfl)
  rw [lg_entry_eq]
  generalize (lg_sl ([.ref (wad w 0 (0)), .int v1]) ++ List.replicate (5 - (lg_sl ([.ref (wad w 0 (0)), .int v1])).length) Slot.unset).toArray = ls at hl ⊢
  have hl : lv_has ls 5 [(0, .ref (wad w 0 (0))), (1, .int v1)] := hl
  have h30 := hO.l24
  refine lv_iload_n hx hb dX5_canBeGlued_0 rfl (lv_at hl 1 rfl) ?_
  refine lv_istore_n (lv' := [(2, .int v1), (0, .ref (wad w 0 (0))), (1, .int v1)]) hx hb dX5_canBeGlued_1 rfl hl (by decide) rfl (fun ls hl => ?_)
  refine lv_iconst (v := nI 0) hx hb dX5_canBeGlued_2 (by decide) ?_
  refine lv_istore_n (lv' := [(3, .int (nI 0)), (2, .int v1), (0, .ref (wad w 0 (0))), (1, .int v1)]) hx hb dX5_canBeGlued_3 rfl hl (by decide) rfl (fun ls hl => ?_)
  have lp_4 : ∀ (k9 : Nat) (i : Nat) (x : Int32) (hi : i ≤ nj g) (he : x = dnN g v1 i), nj g - i < k9 → ∀ (ls : Array Slot), lv_has ls 5 [(0, .ref (wad w 0 (0))), (1, .int v1), (2, .int x), (3, .int (nI i))] → W p l e ({ frames := 3, cells := 0, slots := 0, locals := 64 } : Room) s m ([.ref (wad w 0 (0)), .int v1] : List Value).toArray below meth c s.heap [] 0 0 (MQ below (rqi (bI (myN g v1 (dnN g v1 (nj g)) (nj g)))) ([.ref (wad w 0 (0)), .int v1] : List Value).toArray s 0 0 zF) (F0 m 4 ls []) := by
    intro k9
    induction k9 with
    | zero => intro i x hi he h9; exact absurd h9 (Nat.not_lt_zero _)
    | succ k9 ih_4 =>
      intro i x hi he hk9 ls hl
      subst he
      refine lv_iload_n hx hb dX5_canBeGlued_4 rfl (lv_at hl 3 rfl) ?_
      refine lv_aload_n hx hb dX5_canBeGlued_5 rfl (lv_at hl 0 rfl) ?_
      refine g_get S hE hW.sh (C := RX5) (T := TX5) (N := 8) (v := .ref (wad w 5 (2))) rfl inU5 2 (by decide) tw_62 (Or.inl rfl) rfl dX5_canBeGlued_6 ?_
      refine g_callV (As := []) (rest := [.int (nI i)]) S hE hS (c_sizeJ l z w g gm o) (cwV 0 hts (gU_V tw_209 tw_210 tw_211 tw_4 tw_212) rfl rfl rfl (by decide +kernel) ⟨Nat.le_of_ble_eq_true rfl, Nat.le_of_ble_eq_true rfl⟩) (hE.recv (hW.lst (i := 2) (by omega)) (q := (RJx4a65c, TJx4a65c, 3)) rfl) hW rfl hl.1 rfl (Nat.le_of_ble_eq_true rfl) dX5_canBeGlued_9 ⟨Nat.zero_le _, Nat.zero_le _⟩ ?_
      refine g_icmp_ge S (by omega) (by omega) (tgt := 44) dX5_canBeGlued_12 (by decide) (fun c_12 => ?_) (fun c_12 => ?_)
      · obtain rfl : i = nj g := by omega
        refine lv_iconst (v := nI 0) hx hb dX5_canBeGlued_44 (by decide) ?_
        refine lv_istore_n (lv' := [(3, .int (nI 0)), (0, .ref (wad w 0 (0))), (1, .int v1), (2, .int (dnN g v1 (nj g)))]) hx hb dX5_canBeGlued_45 rfl hl (by decide) rfl (fun ls hl => ?_)
        have lp_46 : ∀ (k9 : Nat) (i2 : Nat) (hi2 : i2 ≤ nj g) (he2 : myN g v1 (dnN g v1 (nj g)) i2 = true), nj g - i2 < k9 → ∀ (ls : Array Slot), lv_has ls 5 [(0, .ref (wad w 0 (0))), (1, .int v1), (2, .int (dnN g v1 (nj g))), (3, .int (nI i2))] → W p l e ({ frames := 3, cells := 0, slots := 0, locals := 64 } : Room) s m ([.ref (wad w 0 (0)), .int v1] : List Value).toArray below meth c s.heap [] 0 0 (MQ below (rqi (bI (myN g v1 (dnN g v1 (nj g)) (nj g)))) ([.ref (wad w 0 (0)), .int v1] : List Value).toArray s 0 0 zF) (F0 m 46 ls []) := by
          intro k9
          induction k9 with
          | zero => intro i2 hi2 he2 h9; exact absurd h9 (Nat.not_lt_zero _)
          | succ k9 ih_46 =>
            intro i2 hi2 he2 hk9 ls hl
            refine lv_iload_n hx hb dX5_canBeGlued_46 rfl (lv_at hl 3 rfl) ?_
            refine lv_aload_n hx hb dX5_canBeGlued_47 rfl (lv_at hl 0 rfl) ?_
            refine g_get S hE hW.sh (C := RX5) (T := TX5) (N := 8) (v := .ref (wad w 5 (2))) rfl inU5 2 (by decide) tw_62 (Or.inl rfl) rfl dX5_canBeGlued_48 ?_
            refine g_callV (As := []) (rest := [.int (nI i2)]) S hE hS (c_sizeJ l z w g gm o) (cwV 0 hts (gU_V tw_209 tw_210 tw_211 tw_4 tw_212) rfl rfl rfl (by decide +kernel) ⟨Nat.le_of_ble_eq_true rfl, Nat.le_of_ble_eq_true rfl⟩) (hE.recv (hW.lst (i := 2) (by omega)) (q := (RJx4a65c, TJx4a65c, 3)) rfl) hW rfl hl.1 rfl (Nat.le_of_ble_eq_true rfl) dX5_canBeGlued_51 ⟨Nat.zero_le _, Nat.zero_le _⟩ ?_
            refine g_icmp_ge S (by omega) (by omega) (tgt := 106) dX5_canBeGlued_54 (by decide) (fun c_54_1 => ?_) (fun c_54_1 => ?_)
            · refine lv_iconst (v := 1) hx hb dX5_canBeGlued_106 (by decide) ?_
              exact g_zret S hr hlocks (by rw [show myN g v1 (dnN g v1 (nj g)) (nj g) = true from (show nj g = i2 by omega) ▸ he2]; rfl) ⟨_, rfl⟩ dX5_canBeGlued_107
            · refine lv_aload_n hx hb dX5_canBeGlued_57 rfl (lv_at hl 0 rfl) ?_
              refine g_get S hE hW.sh (C := RX5) (T := TX5) (N := 8) (v := .ref (wad w 5 (2))) rfl inU5 2 (by decide) tw_62 (Or.inl rfl) rfl dX5_canBeGlued_58 ?_
              refine lv_iload_n hx hb dX5_canBeGlued_61 rfl (lv_at hl 3 rfl) ?_
              refine g_callVq (As := [.int (nI i2)]) (rest := []) S hE hS (c_getJ l z w g gm o (i2) (by omega)) (cwV 1 hts (gU_V tw_213 tw_214 tw_215 tw_4 tw_216) rfl rfl rfl (by decide +kernel) ⟨Nat.le_of_ble_eq_true rfl, Nat.le_of_ble_eq_true rfl⟩) (hE.recv (hW.lst (i := 2) (by omega)) (q := (RJx4a65c, TJx4a65c, 3)) rfl) hW rfl hl.1 rfl (Nat.le_of_ble_eq_true rfl) dX5_canBeGlued_62 ⟨Nat.zero_le _, Nat.zero_le _⟩ ?_
              rw [show va_rf (some (wad w 4 (i2))) = .ref (wad w 4 (i2)) from rfl]
              refine g_cast S hE (hW.jt (i := i2) (by omega)) (C := RX1) (T := TX1) (N := 9) rfl tw_251 dX5_canBeGlued_65 ?_
              refine lv_astore (lv' := [(4, .ref (wad w 4 (i2))), (0, .ref (wad w 0 (0))), (1, .int v1), (2, .int (dnN g v1 (nj g))), (3, .int (nI i2))]) hx hb dX5_canBeGlued_68 hl (by decide) rfl (fun ls hl => ?_)
              refine lv_iload_n hx hb dX5_canBeGlued_70 rfl (lv_at hl 2 rfl) ?_
              refine lv_iload_n hx hb dX5_canBeGlued_71 rfl (lv_at hl 4 rfl) ?_
              refine g_callS (As := [.int v1, .int (nI i2)]) (rest := []) S hE hS (c_X5_has l z (v1) (i2)) (cwS 2 hts (gU_S tw_617 tw_618 tw_1 tw_619) rfl rfl rfl (by decide +kernel) ⟨Nat.le_of_ble_eq_true rfl, Nat.le_of_ble_eq_true rfl⟩) trivial rfl hl.1 rfl (Nat.le_of_ble_eq_true rfl) dX5_canBeGlued_72 ⟨Nat.zero_le _, Nat.zero_le _⟩ ?_
              rw [hs_bt (set := v1) (j := i2) (by omega)]
              refine g_if_eq S (tgt := 100) dX5_canBeGlued_75 (by decide) (fun c_75_2 => ?_) (fun c_75_2 => ?_)
              · refine lv_iinc (v := nI (i2 + 1)) (lv' := [(3, .int (nI (i2 + 1))), (4, .ref (wad w 4 (i2))), (0, .ref (wad w 0 (0))), (1, .int v1), (2, .int (dnN g v1 (nj g)))]) hx hb dX5_canBeGlued_100 hl (k := 4) rfl (nI_1 _) (by decide) rfl (fun ls hl => ?_)
                refine lv_goto (tgt := 46) hx hb dX5_canBeGlued_103 (by decide) ?_
                exact ih_46 (i2 + 1) (by omega) (by simp [myN, he2, c_75_2]) (by omega) ls (lv_sub hl [2, 3, 4, 0] rfl)
              · refine lv_aload hx hb dX5_canBeGlued_78 (lv_at hl 0 rfl) ?_
                refine g_get S hE (hW.jt (i := i2) (by omega)) (C := RX1) (T := TX1) (N := 9) (v := .int (g 31 i2)) rfl inU1 6 (by decide) tw_536 (Or.inl rfl) rfl dX5_canBeGlued_80 ?_
                refine lv_if_ne (tgt := 98) hx hb dX5_canBeGlued_83 (by decide) (fun c_83_3 => ?_) (fun c_83_3 => ?_)
                · refine lv_iconst (v := 0) hx hb dX5_canBeGlued_98 (by decide) ?_
                  exact g_zret S hr hlocks (by rw [myN_mono (i := i2 + 1) (k := nj g) (by simp [myN, c_75_2, c_83_3]) (by omega)]; rfl) ⟨_, rfl⟩ dX5_canBeGlued_99
                · refine lv_aload hx hb dX5_canBeGlued_86 (lv_at hl 0 rfl) ?_
                  refine g_get S hE (hW.jt (i := i2) (by omega)) (C := RX1) (T := TX1) (N := 9) (v := .int (g 30 i2)) rfl inU1 5 (by decide) tw_534 (Or.inl rfl) rfl dX5_canBeGlued_88 ?_
                  refine lv_iload_n hx hb dX5_canBeGlued_91 rfl (lv_at hl 3 rfl) ?_
                  refine lv_iconst (v := (-1)) hx hb dX5_canBeGlued_92 (by decide) ?_
                  refine lv_ixor hx hb dX5_canBeGlued_93 ?_
                  refine lv_iand hx hb dX5_canBeGlued_94 ?_
                  refine lv_if_eq (tgt := 100) hx hb dX5_canBeGlued_95 (by decide) (fun c_95_4 => ?_) (fun c_95_4 => ?_)
                  · refine lv_iinc (v := nI (i2 + 1)) (lv' := [(3, .int (nI (i2 + 1))), (4, .ref (wad w 4 (i2))), (0, .ref (wad w 0 (0))), (1, .int v1), (2, .int (dnN g v1 (nj g)))]) hx hb dX5_canBeGlued_100 hl (k := 4) rfl (nI_1 _) (by decide) rfl (fun ls hl => ?_)
                    refine lv_goto (tgt := 46) hx hb dX5_canBeGlued_103 (by decide) ?_
                    exact ih_46 (i2 + 1) (by omega) (by have q9 : ndz (g 30 i2) (dnN g v1 (nj g)) = true := (by unfold ndz; exact decide_eq_true c_95_4); simp [myN, he2, q9, c_75_2, c_83_3]) (by omega) ls (lv_sub hl [2, 3, 4, 0] rfl)
                  · refine lv_iconst (v := 0) hx hb dX5_canBeGlued_98 (by decide) ?_
                    exact g_zret S hr hlocks (by have q9 : ndz (g 30 i2) (dnN g v1 (nj g)) = false := (by unfold ndz; exact decide_eq_false c_95_4); rw [myN_mono (i := i2 + 1) (k := nj g) (by simp [myN, q9, c_75_2, c_83_3]) (by omega)]; rfl) ⟨_, rfl⟩ dX5_canBeGlued_99
        exact lp_46 ((nj g - 0) + 1) 0 (Nat.zero_le _) rfl (Nat.lt_succ_self _) ls (lv_sub hl [1, 2, 3, 0] rfl)
      · refine lv_aload_n hx hb dX5_canBeGlued_15 rfl (lv_at hl 0 rfl) ?_
        refine g_get S hE hW.sh (C := RX5) (T := TX5) (N := 8) (v := .ref (wad w 5 (2))) rfl inU5 2 (by decide) tw_62 (Or.inl rfl) rfl dX5_canBeGlued_16 ?_
        refine lv_iload_n hx hb dX5_canBeGlued_19 rfl (lv_at hl 3 rfl) ?_
        refine g_callVq (As := [.int (nI i)]) (rest := []) S hE hS (c_getJ l z w g gm o (i) (by omega)) (cwV 1 hts (gU_V tw_213 tw_214 tw_215 tw_4 tw_216) rfl rfl rfl (by decide +kernel) ⟨Nat.le_of_ble_eq_true rfl, Nat.le_of_ble_eq_true rfl⟩) (hE.recv (hW.lst (i := 2) (by omega)) (q := (RJx4a65c, TJx4a65c, 3)) rfl) hW rfl hl.1 rfl (Nat.le_of_ble_eq_true rfl) dX5_canBeGlued_20 ⟨Nat.zero_le _, Nat.zero_le _⟩ ?_
        rw [show va_rf (some (wad w 4 (i))) = .ref (wad w 4 (i)) from rfl]
        refine g_cast S hE (hW.jt (i := i) (by omega)) (C := RX1) (T := TX1) (N := 9) rfl tw_251 dX5_canBeGlued_23 ?_
        refine g_get S hE (hW.jt (i := i) (by omega)) (C := RX1) (T := TX1) (N := 9) (v := .int (g 31 i)) rfl inU1 6 (by decide) tw_536 (Or.inl rfl) rfl dX5_canBeGlued_26 ?_
        refine lv_if_eq (tgt := 38) hx hb dX5_canBeGlued_29 (by decide) (fun c_29_5 => ?_) (fun c_29_5 => ?_)
        · refine lv_iinc (v := nI (i + 1)) (lv' := [(3, .int (nI (i + 1))), (0, .ref (wad w 0 (0))), (1, .int v1), (2, .int (dnN g v1 i))]) hx hb dX5_canBeGlued_38 hl (k := 3) rfl (nI_1 _) (by decide) rfl (fun ls hl => ?_)
          refine lv_goto (tgt := 4) hx hb dX5_canBeGlued_41 (by decide) ?_
          exact ih_4 (i + 1) _ (by omega) (by simp [dnN, c_29_5]) (by omega) ls (lv_sub hl [1, 2, 3, 0] rfl)
        · refine lv_iload_n hx hb dX5_canBeGlued_32 rfl (lv_at hl 2 rfl) ?_
          refine lv_iconst (v := 1) hx hb dX5_canBeGlued_33 (by decide) ?_
          refine lv_iload_n hx hb dX5_canBeGlued_34 rfl (lv_at hl 3 rfl) ?_
          refine lv_ishl hx hb dX5_canBeGlued_35 ?_
          refine lv_ior hx hb dX5_canBeGlued_36 ?_
          refine lv_istore_n (lv' := [(2, .int ((dnN g v1 i) ||| (1 <<< ((nI i) &&& 31)))), (0, .ref (wad w 0 (0))), (1, .int v1), (3, .int (nI i))]) hx hb dX5_canBeGlued_37 rfl hl (by decide) rfl (fun ls hl => ?_)
          refine lv_iinc (v := nI (i + 1)) (lv' := [(3, .int (nI (i + 1))), (2, .int ((dnN g v1 i) ||| (1 <<< ((nI i) &&& 31)))), (0, .ref (wad w 0 (0))), (1, .int v1)]) hx hb dX5_canBeGlued_38 hl (k := 3) rfl (nI_1 _) (by decide) rfl (fun ls hl => ?_)
          refine lv_goto (tgt := 4) hx hb dX5_canBeGlued_41 (by decide) ?_
          exact ih_4 (i + 1) _ (by omega) (by simp [dnN, c_29_5]) (by omega) ls (lv_sub hl [2, 3, 1, 0] rfl)
  exact lp_4 ((nj g - 0) + 1) 0 _ (Nat.zero_le _) rfl (Nat.lt_succ_self _) ls (lv_sub hl [2, 3, 1, 0] rfl)
set_option maxHeartbeats 4000000 in
set_option maxRecDepth 100000 in
/-- minutesOf(set) -/
theorem c_X5_minutesOf (l : Launch) (z : ZE) (w : WG) (g gm : GS) (o : Nat → Int64) (hO : OKg g) (v1 : Int32) : Met l yX5_minutesOf (.code yX5_minutesOf cX5_minutesOf 4 (some .int) :: wU) ({ frames := 3, cells := 0, slots := 0, locals := 64 }) (PE z [.ref (wad w 0 (0)), .int v1] (fun H => WW z w g gm o H)) (rqi (miN g v1 (nj g))) 0 0 zF := by
  refine Met.ofW (cc := cX5_minutesOf) (maxL := 4) (ret := (some .int)) (by decide) rfl ?_
  intro p e s m args below meth c s₁ BD hml hv
  obtain ⟨rfl, hE, hW⟩ := hv
  have hts : ∀ w ∈ wU, w.before _ s = true := fun w h => atoms_spec (ws := .code yX5_minutesOf cX5_minutesOf 4 (some .int) :: wU) BD.pre w (List.mem_cons_of_mem _ h)
  have S : CallFix p m c cX5_minutesOf 4 s ([.ref (wad w 0 (0)), .int v1] : List Value).toArray wU RX5 := ⟨BD.exec, BD.bytes, hml, findClass_of_methodNamed BD.named, hts⟩
  have hx := S.1
  have hb := S.2.1
  have hown := S.2.2.2.1
  have hr := BD.returns
  have hlocks := BD.notSynchronized
  have hS : va_S (zA z) s.heap s.heap [] := va_S.rf
  have hl := lv_entry ([.ref (wad w 0 (0)), .int v1]) (n := 4) (Nat.le_of_ble_eq_true rfl)
  rw [lg_entry_eq]
  generalize (lg_sl ([.ref (wad w 0 (0)), .int v1]) ++ List.replicate (4 - (lg_sl ([.ref (wad w 0 (0)), .int v1])).length) Slot.unset).toArray = ls at hl ⊢
  have hl : lv_has ls 4 [(0, .ref (wad w 0 (0))), (1, .int v1)] := hl
  have h30 := hO.l24
  refine lv_iconst (v := 0) hx hb dX5_minutesOf_0 (by decide) ?_
  refine lv_istore_n (lv' := [(2, .int 0), (0, .ref (wad w 0 (0))), (1, .int v1)]) hx hb dX5_minutesOf_1 rfl hl (by decide) rfl (fun ls hl => ?_)
  refine lv_iconst (v := nI 0) hx hb dX5_minutesOf_2 (by decide) ?_
  refine lv_istore_n (lv' := [(3, .int (nI 0)), (2, .int 0), (0, .ref (wad w 0 (0))), (1, .int v1)]) hx hb dX5_minutesOf_3 rfl hl (by decide) rfl (fun ls hl => ?_)
  have lp_4 : ∀ (k9 : Nat) (i : Nat) (x : Int32) (hi : i ≤ nj g) (he : x = miN g v1 i), nj g - i < k9 → ∀ (ls : Array Slot), lv_has ls 4 [(0, .ref (wad w 0 (0))), (1, .int v1), (2, .int x), (3, .int (nI i))] → W p l e ({ frames := 3, cells := 0, slots := 0, locals := 64 } : Room) s m ([.ref (wad w 0 (0)), .int v1] : List Value).toArray below meth c s.heap [] 0 0 (MQ below (rqi (miN g v1 (nj g))) ([.ref (wad w 0 (0)), .int v1] : List Value).toArray s 0 0 zF) (F0 m 4 ls []) := by
    intro k9
    induction k9 with
    | zero => intro i x hi he h9; exact absurd h9 (Nat.not_lt_zero _)
    | succ k9 ih_4 =>
      intro i x hi he hk9 ls hl
      subst he
      refine lv_iload_n hx hb dX5_minutesOf_4 rfl (lv_at hl 3 rfl) ?_
      refine lv_aload_n hx hb dX5_minutesOf_5 rfl (lv_at hl 0 rfl) ?_
      refine g_get S hE hW.sh (C := RX5) (T := TX5) (N := 8) (v := .ref (wad w 5 (2))) rfl inU5 2 (by decide) tw_62 (Or.inl rfl) rfl dX5_minutesOf_6 ?_
      refine g_callV (As := []) (rest := [.int (nI i)]) S hE hS (c_sizeJ l z w g gm o) (cwV 0 hts (gU_V tw_209 tw_210 tw_211 tw_4 tw_212) rfl rfl rfl (by decide +kernel) ⟨Nat.le_of_ble_eq_true rfl, Nat.le_of_ble_eq_true rfl⟩) (hE.recv (hW.lst (i := 2) (by omega)) (q := (RJx4a65c, TJx4a65c, 3)) rfl) hW rfl hl.1 rfl (Nat.le_of_ble_eq_true rfl) dX5_minutesOf_9 ⟨Nat.zero_le _, Nat.zero_le _⟩ ?_
      refine g_icmp_ge S (by omega) (by omega) (tgt := 52) dX5_minutesOf_12 (by decide) (fun c_12 => ?_) (fun c_12 => ?_)
      · refine lv_iload_n hx hb dX5_minutesOf_52 rfl (lv_at hl 2 rfl) ?_
        exact g_iret S hr hlocks (by rw [show nj g = i by omega]) dX5_minutesOf_53
      · refine lv_iload_n hx hb dX5_minutesOf_15 rfl (lv_at hl 1 rfl) ?_
        refine lv_iload_n hx hb dX5_minutesOf_16 rfl (lv_at hl 3 rfl) ?_
        refine g_callS (As := [.int v1, .int (nI i)]) (rest := []) S hE hS (c_X5_has l z (v1) (i)) (cwS 2 hts (gU_S tw_617 tw_618 tw_1 tw_619) rfl rfl rfl (by decide +kernel) ⟨Nat.le_of_ble_eq_true rfl, Nat.le_of_ble_eq_true rfl⟩) trivial rfl hl.1 rfl (Nat.le_of_ble_eq_true rfl) dX5_minutesOf_17 ⟨Nat.zero_le _, Nat.zero_le _⟩ ?_
        rw [hs_bt (set := v1) (j := i) (by omega)]
        refine g_if_eq S (tgt := 46) dX5_minutesOf_20 (by decide) (fun c_20_1 => ?_) (fun c_20_1 => ?_)
        · refine lv_iinc (v := nI (i + 1)) (lv' := [(3, .int (nI (i + 1))), (0, .ref (wad w 0 (0))), (1, .int v1), (2, .int (miN g v1 i))]) hx hb dX5_minutesOf_46 hl (k := 3) rfl (nI_1 _) (by decide) rfl (fun ls hl => ?_)
          refine lv_goto (tgt := 4) hx hb dX5_minutesOf_49 (by decide) ?_
          exact ih_4 (i + 1) _ (by omega) (by simp [miN, c_20_1]) (by omega) ls (lv_sub hl [1, 2, 3, 0] rfl)
        · refine lv_iload_n hx hb dX5_minutesOf_23 rfl (lv_at hl 2 rfl) ?_
          refine lv_iconst (v := 3) hx hb dX5_minutesOf_24 (by decide) ?_
          refine lv_aload_n hx hb dX5_minutesOf_25 rfl (lv_at hl 0 rfl) ?_
          refine g_get S hE hW.sh (C := RX5) (T := TX5) (N := 8) (v := .ref (wad w 5 (2))) rfl inU5 2 (by decide) tw_62 (Or.inl rfl) rfl dX5_minutesOf_26 ?_
          refine lv_iload_n hx hb dX5_minutesOf_29 rfl (lv_at hl 3 rfl) ?_
          refine g_callVq (As := [.int (nI i)]) (rest := [.int 3, .int (miN g v1 i)]) S hE hS (c_getJ l z w g gm o (i) (by omega)) (cwV 1 hts (gU_V tw_213 tw_214 tw_215 tw_4 tw_216) rfl rfl rfl (by decide +kernel) ⟨Nat.le_of_ble_eq_true rfl, Nat.le_of_ble_eq_true rfl⟩) (hE.recv (hW.lst (i := 2) (by omega)) (q := (RJx4a65c, TJx4a65c, 3)) rfl) hW rfl hl.1 rfl (Nat.le_of_ble_eq_true rfl) dX5_minutesOf_30 ⟨Nat.zero_le _, Nat.zero_le _⟩ ?_
          rw [show va_rf (some (wad w 4 (i))) = .ref (wad w 4 (i)) from rfl]
          refine g_cast S hE (hW.jt (i := i) (by omega)) (C := RX1) (T := TX1) (N := 9) rfl tw_251 dX5_minutesOf_33 ?_
          refine g_get S hE (hW.jt (i := i) (by omega)) (C := RX1) (T := TX1) (N := 9) (v := .int (g 28 i)) rfl inU1 4 (by decide) tw_532 (Or.inl rfl) rfl dX5_minutesOf_36 ?_
          refine lv_sipush (v := 1000) hx hb dX5_minutesOf_39 (by decide) ?_
          refine lv_idiv hx hb dX5_minutesOf_42 (by decide) ?_
          refine lv_iadd hx hb dX5_minutesOf_43 ?_
          refine lv_iadd hx hb dX5_minutesOf_44 ?_
          refine lv_istore_n (lv' := [(2, .int ((miN g v1 i) + (3 + ((g 28 i) / (1000))))), (0, .ref (wad w 0 (0))), (1, .int v1), (3, .int (nI i))]) hx hb dX5_minutesOf_45 rfl hl (by decide) rfl (fun ls hl => ?_)
          refine lv_iinc (v := nI (i + 1)) (lv' := [(3, .int (nI (i + 1))), (2, .int ((miN g v1 i) + (3 + ((g 28 i) / (1000))))), (0, .ref (wad w 0 (0))), (1, .int v1)]) hx hb dX5_minutesOf_46 hl (k := 3) rfl (nI_1 _) (by decide) rfl (fun ls hl => ?_)
          refine lv_goto (tgt := 4) hx hb dX5_minutesOf_49 (by decide) ?_
          exact ih_4 (i + 1) _ (by omega) (by simp [miN, c_20_1]) (by omega) ls (lv_sub hl [2, 3, 1, 0] rfl)
  exact lp_4 ((nj g - 0) + 1) 0 _ (Nat.zero_le _) rfl (Nat.lt_succ_self _) ls (lv_sub hl [2, 3, 1, 0] rfl)
set_option maxHeartbeats 4000000 in
set_option maxRecDepth 100000 in
/-- clampsOf(set) -/
theorem c_X5_clampsOf (l : Launch) (z : ZE) (w : WG) (g gm : GS) (o : Nat → Int64) (hO : OKg g) (v1 : Int32) : Met l yX5_clampsOf (.code yX5_clampsOf cX5_clampsOf 4 (some .int) :: wU) ({ frames := 3, cells := 0, slots := 0, locals := 64 }) (PE z [.ref (wad w 0 (0)), .int v1] (fun H => WW z w g gm o H)) (rqi (taN g v1 (nj g))) 0 0 zF := by
  refine Met.ofW (cc := cX5_clampsOf) (maxL := 4) (ret := (some .int)) (by decide) rfl ?_
  intro p e s m args below meth c s₁ BD hml hv
  obtain ⟨rfl, hE, hW⟩ := hv
  have hts : ∀ w ∈ wU, w.before _ s = true := fun w h => atoms_spec (ws := .code yX5_clampsOf cX5_clampsOf 4 (some .int) :: wU) BD.pre w (List.mem_cons_of_mem _ h)
  have S : CallFix p m c cX5_clampsOf 4 s ([.ref (wad w 0 (0)), .int v1] : List Value).toArray wU RX5 := ⟨BD.exec, BD.bytes, hml, findClass_of_methodNamed BD.named, hts⟩
  have hx := S.1
  have hb := S.2.1
  have hown := S.2.2.2.1
  have hr := BD.returns
  have hlocks := BD.notSynchronized
  have hS : va_S (zA z) s.heap s.heap [] := va_S.rf
  have hl := lv_entry ([.ref (wad w 0 (0)), .int v1]) (n := 4) (Nat.le_of_ble_eq_true rfl)
  rw [lg_entry_eq]
  generalize (lg_sl ([.ref (wad w 0 (0)), .int v1]) ++ List.replicate (4 - (lg_sl ([.ref (wad w 0 (0)), .int v1])).length) Slot.unset).toArray = ls at hl ⊢
  have hl : lv_has ls 4 [(0, .ref (wad w 0 (0))), (1, .int v1)] := hl
  have h30 := hO.l24
  refine lv_iconst (v := 0) hx hb dX5_clampsOf_0 (by decide) ?_
  refine lv_istore_n (lv' := [(2, .int 0), (0, .ref (wad w 0 (0))), (1, .int v1)]) hx hb dX5_clampsOf_1 rfl hl (by decide) rfl (fun ls hl => ?_)
  refine lv_iconst (v := nI 0) hx hb dX5_clampsOf_2 (by decide) ?_
  refine lv_istore_n (lv' := [(3, .int (nI 0)), (2, .int 0), (0, .ref (wad w 0 (0))), (1, .int v1)]) hx hb dX5_clampsOf_3 rfl hl (by decide) rfl (fun ls hl => ?_)
  have lp_4 : ∀ (k9 : Nat) (i : Nat) (x : Int32) (hi : i ≤ nj g) (he : x = taN g v1 i), nj g - i < k9 → ∀ (ls : Array Slot), lv_has ls 4 [(0, .ref (wad w 0 (0))), (1, .int v1), (2, .int x), (3, .int (nI i))] → W p l e ({ frames := 3, cells := 0, slots := 0, locals := 64 } : Room) s m ([.ref (wad w 0 (0)), .int v1] : List Value).toArray below meth c s.heap [] 0 0 (MQ below (rqi (taN g v1 (nj g))) ([.ref (wad w 0 (0)), .int v1] : List Value).toArray s 0 0 zF) (F0 m 4 ls []) := by
    intro k9
    induction k9 with
    | zero => intro i x hi he h9; exact absurd h9 (Nat.not_lt_zero _)
    | succ k9 ih_4 =>
      intro i x hi he hk9 ls hl
      subst he
      refine lv_iload_n hx hb dX5_clampsOf_4 rfl (lv_at hl 3 rfl) ?_
      refine lv_aload_n hx hb dX5_clampsOf_5 rfl (lv_at hl 0 rfl) ?_
      refine g_get S hE hW.sh (C := RX5) (T := TX5) (N := 8) (v := .ref (wad w 5 (2))) rfl inU5 2 (by decide) tw_62 (Or.inl rfl) rfl dX5_clampsOf_6 ?_
      refine g_callV (As := []) (rest := [.int (nI i)]) S hE hS (c_sizeJ l z w g gm o) (cwV 0 hts (gU_V tw_209 tw_210 tw_211 tw_4 tw_212) rfl rfl rfl (by decide +kernel) ⟨Nat.le_of_ble_eq_true rfl, Nat.le_of_ble_eq_true rfl⟩) (hE.recv (hW.lst (i := 2) (by omega)) (q := (RJx4a65c, TJx4a65c, 3)) rfl) hW rfl hl.1 rfl (Nat.le_of_ble_eq_true rfl) dX5_clampsOf_9 ⟨Nat.zero_le _, Nat.zero_le _⟩ ?_
      refine g_icmp_ge S (by omega) (by omega) (tgt := 52) dX5_clampsOf_12 (by decide) (fun c_12 => ?_) (fun c_12 => ?_)
      · refine lv_iload_n hx hb dX5_clampsOf_52 rfl (lv_at hl 2 rfl) ?_
        exact g_iret S hr hlocks (by rw [show nj g = i by omega]) dX5_clampsOf_53
      · refine lv_iload_n hx hb dX5_clampsOf_15 rfl (lv_at hl 1 rfl) ?_
        refine lv_iload_n hx hb dX5_clampsOf_16 rfl (lv_at hl 3 rfl) ?_
        refine g_callS (As := [.int v1, .int (nI i)]) (rest := []) S hE hS (c_X5_has l z (v1) (i)) (cwS 2 hts (gU_S tw_617 tw_618 tw_1 tw_619) rfl rfl rfl (by decide +kernel) ⟨Nat.le_of_ble_eq_true rfl, Nat.le_of_ble_eq_true rfl⟩) trivial rfl hl.1 rfl (Nat.le_of_ble_eq_true rfl) dX5_clampsOf_17 ⟨Nat.zero_le _, Nat.zero_le _⟩ ?_
        rw [hs_bt (set := v1) (j := i) (by omega)]
        refine g_if_eq S (tgt := 46) dX5_clampsOf_20 (by decide) (fun c_20_1 => ?_) (fun c_20_1 => ?_)
        · refine lv_iinc (v := nI (i + 1)) (lv' := [(3, .int (nI (i + 1))), (0, .ref (wad w 0 (0))), (1, .int v1), (2, .int (taN g v1 i))]) hx hb dX5_clampsOf_46 hl (k := 3) rfl (nI_1 _) (by decide) rfl (fun ls hl => ?_)
          refine lv_goto (tgt := 4) hx hb dX5_clampsOf_49 (by decide) ?_
          exact ih_4 (i + 1) _ (by omega) (by simp [taN, c_20_1]) (by omega) ls (lv_sub hl [1, 2, 3, 0] rfl)
        · refine lv_iload_n hx hb dX5_clampsOf_23 rfl (lv_at hl 2 rfl) ?_
          refine lv_iconst (v := 1) hx hb dX5_clampsOf_24 (by decide) ?_
          refine lv_aload_n hx hb dX5_clampsOf_25 rfl (lv_at hl 0 rfl) ?_
          refine g_get S hE hW.sh (C := RX5) (T := TX5) (N := 8) (v := .ref (wad w 5 (2))) rfl inU5 2 (by decide) tw_62 (Or.inl rfl) rfl dX5_clampsOf_26 ?_
          refine lv_iload_n hx hb dX5_clampsOf_29 rfl (lv_at hl 3 rfl) ?_
          refine g_callVq (As := [.int (nI i)]) (rest := [.int 1, .int (taN g v1 i)]) S hE hS (c_getJ l z w g gm o (i) (by omega)) (cwV 1 hts (gU_V tw_213 tw_214 tw_215 tw_4 tw_216) rfl rfl rfl (by decide +kernel) ⟨Nat.le_of_ble_eq_true rfl, Nat.le_of_ble_eq_true rfl⟩) (hE.recv (hW.lst (i := 2) (by omega)) (q := (RJx4a65c, TJx4a65c, 3)) rfl) hW rfl hl.1 rfl (Nat.le_of_ble_eq_true rfl) dX5_clampsOf_30 ⟨Nat.zero_le _, Nat.zero_le _⟩ ?_
          rw [show va_rf (some (wad w 4 (i))) = .ref (wad w 4 (i)) from rfl]
          refine g_cast S hE (hW.jt (i := i) (by omega)) (C := RX1) (T := TX1) (N := 9) rfl tw_251 dX5_clampsOf_33 ?_
          refine g_get S hE (hW.jt (i := i) (by omega)) (C := RX1) (T := TX1) (N := 9) (v := .int (g 28 i)) rfl inU1 4 (by decide) tw_532 (Or.inl rfl) rfl dX5_clampsOf_36 ?_
          refine lv_sipush (v := 500) hx hb dX5_clampsOf_39 (by decide) ?_
          refine lv_idiv hx hb dX5_clampsOf_42 (by decide) ?_
          refine lv_iadd hx hb dX5_clampsOf_43 ?_
          refine lv_iadd hx hb dX5_clampsOf_44 ?_
          refine lv_istore_n (lv' := [(2, .int ((taN g v1 i) + (1 + ((g 28 i) / (500))))), (0, .ref (wad w 0 (0))), (1, .int v1), (3, .int (nI i))]) hx hb dX5_clampsOf_45 rfl hl (by decide) rfl (fun ls hl => ?_)
          refine lv_iinc (v := nI (i + 1)) (lv' := [(3, .int (nI (i + 1))), (2, .int ((taN g v1 i) + (1 + ((g 28 i) / (500))))), (0, .ref (wad w 0 (0))), (1, .int v1)]) hx hb dX5_clampsOf_46 hl (k := 3) rfl (nI_1 _) (by decide) rfl (fun ls hl => ?_)
          refine lv_goto (tgt := 4) hx hb dX5_clampsOf_49 (by decide) ?_
          exact ih_4 (i + 1) _ (by omega) (by simp [taN, c_20_1]) (by omega) ls (lv_sub hl [2, 3, 1, 0] rfl)
  exact lp_4 ((nj g - 0) + 1) 0 _ (Nat.zero_le _) rfl (Nat.lt_succ_self _) ls (lv_sub hl [2, 3, 1, 0] rfl)
set_option maxHeartbeats 4000000 in
set_option maxRecDepth 100000 in
/-- monthOfBreak(joint, months) -/
theorem c_X5_monthOfBreak (l : Launch) (z : ZE) (w : WG) (g gm : GS) (o : Nat → Int64) (hO : OKg g) (j : Nat) (hj : j < nj g) (n : Nat) (hn : n ≤ 24) : Met l yX5_monthOfBreak (.code yX5_monthOfBreak cX5_monthOfBreak 5 (some .int) :: wU) ({ frames := 4, cells := 0, slots := 0, locals := 84 }) (PE z [.ref (wad w 0 (0)), .ref (wad w 4 (j)), .int (nI n)] (fun H => WW z w g gm o H)) (rqi (mbk g j n 0)) 0 0 zF := by
  refine Met.ofW (cc := cX5_monthOfBreak) (maxL := 5) (ret := (some .int)) (by decide) rfl ?_
  intro p e s m args below meth c s₁ BD hml hv
  obtain ⟨rfl, hE, hW⟩ := hv
  have hts : ∀ w ∈ wU, w.before _ s = true := fun w h => atoms_spec (ws := .code yX5_monthOfBreak cX5_monthOfBreak 5 (some .int) :: wU) BD.pre w (List.mem_cons_of_mem _ h)
  have S : CallFix p m c cX5_monthOfBreak 5 s ([.ref (wad w 0 (0)), .ref (wad w 4 (j)), .int (nI n)] : List Value).toArray wU RX5 := ⟨BD.exec, BD.bytes, hml, findClass_of_methodNamed BD.named, hts⟩
  have hx := S.1
  have hb := S.2.1
  have hown := S.2.2.2.1
  have hr := BD.returns
  have hlocks := BD.notSynchronized
  have hS : va_S (zA z) s.heap s.heap [] := va_S.rf
  have hl := lv_entry ([.ref (wad w 0 (0)), .ref (wad w 4 (j)), .int (nI n)]) (n := 5) (Nat.le_of_ble_eq_true rfl)
  rw [lg_entry_eq]
  generalize (lg_sl ([.ref (wad w 0 (0)), .ref (wad w 4 (j)), .int (nI n)]) ++ List.replicate (5 - (lg_sl ([.ref (wad w 0 (0)), .ref (wad w 4 (j)), .int (nI n)])).length) Slot.unset).toArray = ls at hl ⊢
  have hl : lv_has ls 5 [(0, .ref (wad w 0 (0))), (1, .ref (wad w 4 (j))), (2, .int (nI n))] := hl
  have h40 := hO.l16
  have h30 := hO.l24
  have hjp := hO.l26 hj
  have h20 := hO.l5
  have hm0 := hO.l1
  refine lv_aload_n hx hb dX5_monthOfBreak_0 rfl (lv_at hl 1 rfl) ?_
  refine g_get S hE (hW.jt (i := j) (by omega)) (C := RX1) (T := TX1) (N := 9) (v := .ref (wad w 3 (jp g j))) rfl inU1 1 (by decide) tw_526 (Or.inl rfl) rfl dX5_monthOfBreak_1 ?_
  refine g_get S hE (hW.pt (i := jp g j) (by omega)) (C := RX2) (T := TX2) (N := 9) (v := .int (g 22 (jp g j))) rfl inU2 3 (by decide) tw_326 (Or.inr tw_324) rfl dX5_monthOfBreak_4 ?_
  refine lv_istore_n (lv' := [(3, .int (g 22 (jp g j))), (0, .ref (wad w 0 (0))), (1, .ref (wad w 4 (j))), (2, .int (nI n))]) hx hb dX5_monthOfBreak_7 rfl hl (by decide) rfl (fun ls hl => ?_)
  refine lv_iconst (v := nI 0) hx hb dX5_monthOfBreak_8 (by decide) ?_
  refine lv_istore (lv' := [(4, .int (nI 0)), (3, .int (g 22 (jp g j))), (0, .ref (wad w 0 (0))), (1, .ref (wad w 4 (j))), (2, .int (nI n))]) hx hb dX5_monthOfBreak_9 hl (by decide) rfl (fun ls hl => ?_)
  have lp_11 : ∀ (k9 : Nat) (i : Nat) (x : Int32) (hi : i ≤ n) (he : x = wdk g (jp g j) i) (hm9 : mbk g j n 0 = mbk g j (n - i) i), n - i < k9 → ∀ (ls : Array Slot), lv_has ls 5 [(0, .ref (wad w 0 (0))), (1, .ref (wad w 4 (j))), (2, .int (nI n)), (3, .int x), (4, .int (nI i))] → W p l e ({ frames := 4, cells := 0, slots := 0, locals := 84 } : Room) s m ([.ref (wad w 0 (0)), .ref (wad w 4 (j)), .int (nI n)] : List Value).toArray below meth c s.heap [] 0 0 (MQ below (rqi (mbk g j n 0)) ([.ref (wad w 0 (0)), .ref (wad w 4 (j)), .int (nI n)] : List Value).toArray s 0 0 zF) (F0 m 11 ls []) := by
    intro k9
    induction k9 with
    | zero => intro i x hi he hm9 h9; exact absurd h9 (Nat.not_lt_zero _)
    | succ k9 ih_11 =>
      intro i x hi he hm9 hk9 ls hl
      subst he
      refine lv_iload hx hb dX5_monthOfBreak_11 (lv_at hl 4 rfl) ?_
      refine lv_iload_n hx hb dX5_monthOfBreak_13 rfl (lv_at hl 2 rfl) ?_
      refine g_icmp_ge S (by omega) (by omega) (tgt := 56) dX5_monthOfBreak_14 (by decide) (fun c_14 => ?_) (fun c_14 => ?_)
      · refine lv_iconst (v := (-1)) hx hb dX5_monthOfBreak_56 (by decide) ?_
        exact g_iret S hr hlocks (by rw [hm9, show n - i = 0 by omega, mbk]) dX5_monthOfBreak_57
      · refine lv_aload_n hx hb dX5_monthOfBreak_17 rfl (lv_at hl 1 rfl) ?_
        refine g_get S hE (hW.jt (i := j) (by omega)) (C := RX1) (T := TX1) (N := 9) (v := .ref (wad w 3 (jp g j))) rfl inU1 1 (by decide) tw_526 (Or.inl rfl) rfl dX5_monthOfBreak_18 ?_
        refine lv_iload_n hx hb dX5_monthOfBreak_21 rfl (lv_at hl 3 rfl) ?_
        refine lv_aload_n hx hb dX5_monthOfBreak_22 rfl (lv_at hl 0 rfl) ?_
        refine lv_aload_n hx hb dX5_monthOfBreak_23 rfl (lv_at hl 0 rfl) ?_
        refine g_get S hE hW.sh (C := RX5) (T := TX5) (N := 8) (v := .int (nI (mo g))) rfl inU5 4 (by decide) tw_64 (Or.inl rfl) (by rw [← hO.n1]; rfl) dX5_monthOfBreak_24 ?_
        refine lv_iload hx hb dX5_monthOfBreak_27 (lv_at hl 4 rfl) ?_
        refine g_iadd S dX5_monthOfBreak_29 ?_
        refine g_callV (As := [.int (nI ((mo g) + i))]) (rest := [.int (wdk g (jp g j) i), .ref (wad w 3 (jp g j))]) S hE hS (c_X5_airIn l z w g gm o ((mo g) + i) (by omega)) (cwV 1 hts (gU_V tw_198 tw_200 tp_1 tw_1 tw_201) rfl rfl rfl (by decide +kernel) ⟨Nat.le_of_ble_eq_true rfl, Nat.le_of_ble_eq_true rfl⟩) (hE.recv hW.sh (q := (RX5, TX5, 8)) rfl) hW rfl hl.1 rfl (Nat.le_of_ble_eq_true rfl) dX5_monthOfBreak_30 ⟨Nat.zero_le _, Nat.zero_le _⟩ ?_
        refine g_callU (As := [.int (wdk g (jp g j) i), .int (wea g ((mo g) + i))]) (rest := []) S hE hS (c_mAfP l z w g gm o hO (jp g j) (by omega) (wdk g (jp g j) i) (wea g ((mo g) + i))) (va_cwU (y := yX4_moistureAfter) (x := ⟨"DovetailRow$Part", "moistureAfter", "(II)I"⟩) (C := "DovetailRow$Part") (owner := "DovetailRow$Wood") 2 hts (gU_U tw_567 tw_568 tw_570 tw_235 tw_13 tw_239) rfl rfl rfl rfl (by decide +kernel) ⟨Nat.le_of_ble_eq_true rfl, Nat.le_of_ble_eq_true rfl⟩) (hE.recv (hW.pt (i := jp g j) (by omega)) (q := (RX2, TX2, 9)) rfl) hW rfl hl.1 rfl (Nat.le_of_ble_eq_true rfl) dX5_monthOfBreak_33 ⟨Nat.zero_le _, Nat.zero_le _⟩ ?_
        refine lv_topi (fun x_2 ex_2 => ?_)
        refine lv_istore_n (lv' := [(3, .int x_2), (0, .ref (wad w 0 (0))), (1, .ref (wad w 4 (j))), (2, .int (nI n)), (4, .int (nI i))]) hx hb dX5_monthOfBreak_36 rfl hl (by decide) rfl (fun ls hl => ?_)
        subst ex_2
        refine lv_aload_n hx hb dX5_monthOfBreak_37 rfl (lv_at hl 2 rfl) ?_
        refine lv_iload_n hx hb dX5_monthOfBreak_38 rfl (lv_at hl 0 rfl) ?_
        refine g_callV (As := [.int (wdk g (jp g j) (i + 1))]) (rest := []) S hE hS (c_X1_breaksAt l z w g gm o hO (j) (by omega) (wdk g (jp g j) (i + 1))) (cwV 1 hts (gU_V tw_256 tw_257 tw_258 tw_21 tw_259) rfl rfl rfl (by decide +kernel) ⟨Nat.le_of_ble_eq_true rfl, Nat.le_of_ble_eq_true rfl⟩) (hE.recv (hW.jt (i := j) (by omega)) (q := (RX1, TX1, 9)) rfl) hW rfl hl.1 rfl (Nat.le_of_ble_eq_true rfl) dX5_monthOfBreak_39 ⟨Nat.zero_le _, Nat.zero_le _⟩ ?_
        refine g_if_eq S (tgt := 50) dX5_monthOfBreak_42 (by decide) (fun c_42_2 => ?_) (fun c_42_2 => ?_)
        · refine lv_iinc (v := nI (i + 1)) (lv' := [(4, .int (nI (i + 1))), (3, .int (wdk g (jp g j) (i + 1))), (0, .ref (wad w 0 (0))), (1, .ref (wad w 4 (j))), (2, .int (nI n))]) hx hb dX5_monthOfBreak_50 hl (k := 4) rfl (nI_1 _) (by decide) rfl (fun ls hl => ?_)
          refine lv_goto (tgt := 11) hx hb dX5_monthOfBreak_53 (by decide) ?_
          exact ih_11 (i + 1) _ (by omega) rfl (by rw [hm9, show n - i = (n - (i + 1)) + 1 by omega, mbk, if_neg (show ¬ wbr g j (wdk g (jp g j) (i + 1)) = true from by rw [show wbr g j (wdk g (jp g j) (i + 1)) = false from c_42_2]; decide)]) (by omega) ls (lv_sub hl [2, 3, 4, 1, 0] rfl)
        · refine lv_iload hx hb dX5_monthOfBreak_45 (lv_at hl 4 rfl) ?_
          refine lv_iconst (v := 1) hx hb dX5_monthOfBreak_47 (by decide) ?_
          refine lv_iadd hx hb dX5_monthOfBreak_48 ?_
          rw [show (nI i : Int32) + 1 = nI (i + 1) from nI_add _ 1]
          exact g_iret S hr hlocks (by rw [hm9, show n - i = (n - (i + 1)) + 1 by omega, mbk, if_pos (show wbr g j (wdk g (jp g j) (i + 1)) = true from c_42_2)]) dX5_monthOfBreak_49
  exact lp_11 ((n - 0) + 1) 0 _ (Nat.zero_le _) rfl rfl (Nat.lt_succ_self _) ls (lv_sub hl [2, 3, 4, 1, 0] rfl)
