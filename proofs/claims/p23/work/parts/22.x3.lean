/-! ===== the shop, the calls that build nothing ===== -/
set_option maxHeartbeats 4000000 in
set_option maxRecDepth 100000 in
/-- weather(month, moisture) -/
theorem c_X5_weather (l : Launch) (z : ZE) (hst : l.stackTraces = false) (w : WG) (g gm : GS) (o : Nat → Int64) (hO : OKg g) (a b : Int32) : vx_Met l yX5_weather (.code yX5_weather cX5_weather 4 (some .int) :: wU) ({ frames := 6, cells := 1, slots := 6, locals := 90 }) (PE z [.ref (wad w 0 (0)), .int a, .int b] (fun H => WW z w g gm o H)) (xQ z w gm o (sp_weather g a b)) (xX z w g gm o (sp_weather g a b) xI xA xI) 1 6 (zA z) := by
  refine vx_ofW (cc := cX5_weather) (maxL := 4) (ret := (some .int)) (by decide) rfl ?_
  intro p e s m args below meth c s₁ BD hml hno hv
  obtain ⟨rfl, hE, hW⟩ := hv
  have hts : ∀ w ∈ wU, w.before _ s = true := fun w h => atoms_spec (ws := .code yX5_weather cX5_weather 4 (some .int) :: wU) BD.pre w (List.mem_cons_of_mem _ h)
  have S : CallFix p m c cX5_weather 4 s ([.ref (wad w 0 (0)), .int a, .int b] : List Value).toArray wU RX5 := ⟨BD.exec, BD.bytes, hml, findClass_of_methodNamed BD.named, hts⟩
  have hx := S.1
  have hb := S.2.1
  have hown := S.2.2.2.1
  have hr := BD.returns
  have hlocks := BD.notSynchronized
  have hS : va_S (zA z) s.heap s.heap [] := va_S.rf
  have hl := lv_entry ([.ref (wad w 0 (0)), .int a, .int b]) (n := 4) (Nat.le_of_ble_eq_true rfl)
  rw [lg_entry_eq]
  generalize (lg_sl ([.ref (wad w 0 (0)), .int a, .int b]) ++ List.replicate (4 - (lg_sl ([.ref (wad w 0 (0)), .int a, .int b])).length) Slot.unset).toArray = ls at hl ⊢
  have hl : lv_has ls 4 [(0, .ref (wad w 0 (0))), (1, .int a), (2, .int b)] := hl
  by_cases h9 : wi a 0 11 = true
  · obtain ⟨k, hk, rfl⟩ := wi_nat (n := 11) (by decide) h9
    have tk9 : tN (nI k) = k := tNn (by omega)
    refine lv_iload_n hx hb dX5_weather_0 rfl (lv_at hl 1 rfl) ?_
    refine lv_if_lt (tgt := 10) hx hb dX5_weather_1 (by decide) (fun h9 => absurd h9 (nI_pos (by omega))) (fun c_1 => ?_)
    refine lv_iload_n hx hb dX5_weather_4 rfl (lv_at hl 1 rfl) ?_
    refine lv_bipush (v := 12) hx hb dX5_weather_5 (by decide) ?_
    rw [show (12 : Int32) = nI 12 from rfl]
    refine g_icmp_lt S (by omega) (by omega) (tgt := 20) dX5_weather_7 (by decide) (fun c_7_1 => ?_) (fun h9 => absurd h9 (by omega))
    refine lv_iload_n hx hb dX5_weather_20 rfl (lv_at hl 2 rfl) ?_
    refine lv_bipush (v := 40) hx hb dX5_weather_21 (by decide) ?_
    refine lv_sipush (v := 300) hx hb dX5_weather_23 (by decide) ?_
    refine g_callS (As := [.int b, .int 40, .int 300]) (rest := []) S hE hS (c_X5_isWithin l z (b) (40) (300)) (cwS 3 hts (gU_S tw_158 tw_159 tw_1 tw_160) rfl rfl rfl (by decide +kernel) ⟨Nat.le_of_ble_eq_true rfl, Nat.le_of_ble_eq_true rfl⟩) trivial rfl hl.1 rfl (Nat.le_of_ble_eq_true rfl) dX5_weather_26 ⟨Nat.zero_le _, Nat.zero_le _⟩ ?_
    refine g_if_ne S (tgt := 42) dX5_weather_29 (by decide) (fun c_29_2 => ?_) (fun c_29_2 => ?_)
    · refine lv_aload_n hx hb dX5_weather_42 rfl (lv_at hl 0 rfl) ?_
      refine g_get S hE hW.sh (C := RX5) (T := TX5) (N := 8) (v := .ref (wad w 1 (0))) rfl inU5 3 (by decide) tw_63 (Or.inl rfl) rfl dX5_weather_43 ?_
      refine lv_iload_n hx hb dX5_weather_46 rfl (lv_at hl 1 rfl) ?_
      refine g_iald S hE hW.air (vp_in_nI (show k < 12 from (by omega)) (by decide)) dX5_weather_47 ?_
      rw [show (nI k : Int32).toNatClampNeg = k from nI_clamp (by omega)]
      refine lv_istore_n (lv' := [(3, .int (g 2 (k))), (0, .ref (wad w 0 (0))), (1, .int (nI k)), (2, .int b)]) hx hb dX5_weather_48 rfl hl (by decide) rfl (fun ls hl => ?_)
      refine lv_aload_n hx hb dX5_weather_49 rfl (lv_at hl 1 rfl) ?_
      refine g_get S hE hW.sh (C := RX5) (T := TX5) (N := 8) (v := .ref (wad w 1 (0))) rfl inU5 3 (by decide) tw_63 (Or.inl rfl) rfl dX5_weather_50 ?_
      refine lv_iload_n hx hb dX5_weather_53 rfl (lv_at hl 2 rfl) ?_
      refine lv_iload_n hx hb dX5_weather_54 rfl (lv_at hl 3 rfl) ?_
      refine g_iast S hE hS hW.air (hW.2.2.1 1 0 rfl) (vp_in_nI (show k < 12 from (by omega)) (by decide)) dX5_weather_55 (fun H locs he oq _ hS => ?_)
      rw [show (nI k : Int32).toNatClampNeg = k from nI_clamp (by omega)] at he
      replace hW := hW.u2 he oq
      refine lv_iload_n hx hb dX5_weather_56 rfl (lv_at hl 0 rfl) ?_
      exact x_ret S hr hlocks hS hW (by simp [sp_weather, h9, tk9, c_1, c_7_1, c_29_2]) wsm.rf ⟨Nat.le_of_ble_eq_true rfl, Nat.le_of_ble_eq_true rfl⟩ dX5_weather_57
    · exact g_throw 56 58 60 xA _ 2 exA S hst hE hS hW (show (58, "moisture is out of its range") ∈ strL by decide +kernel) hl.1 hno hlocks dX5_weather_32 dX5_weather_35 dX5_weather_36 dX5_weather_38 dX5_weather_41 ⟨Nat.le_of_ble_eq_true rfl, Nat.le_of_ble_eq_true rfl, Nat.le_of_ble_eq_true rfl, Nat.le_of_ble_eq_true rfl⟩ ⟨Nat.le_of_ble_eq_true rfl, Nat.le_of_ble_eq_true rfl⟩ ⟨by simp [sp_weather, h9, tk9, c_1, c_7_1, c_29_2], by decide⟩ (by decide +kernel)
  · replace h9 : wi a 0 11 = false := by simpa using h9
    refine lv_iload_n hx hb dX5_weather_0 rfl (lv_at hl 1 rfl) ?_
    refine lv_if_lt (tgt := 10) hx hb dX5_weather_1 (by decide) (fun c_1_3 => ?_) (fun c_1_3 => ?_)
    · exact g_throw 45 47 49 xI _ 1 exI S hst hE hS hW (show (47, "there is no such month") ∈ strL by decide +kernel) hl.1 hno hlocks dX5_weather_10 dX5_weather_13 dX5_weather_14 dX5_weather_16 dX5_weather_19 ⟨Nat.le_of_ble_eq_true rfl, Nat.le_of_ble_eq_true rfl, Nat.le_of_ble_eq_true rfl, Nat.le_of_ble_eq_true rfl⟩ ⟨Nat.le_of_ble_eq_true rfl, Nat.le_of_ble_eq_true rfl⟩ ⟨by simp [sp_weather, h9, c_1_3], by decide⟩ (by decide +kernel)
    · refine lv_iload_n hx hb dX5_weather_4 rfl (lv_at hl 1 rfl) ?_
      refine lv_bipush (v := 12) hx hb dX5_weather_5 (by decide) ?_
      refine lv_icmp_lt (tgt := 20) hx hb dX5_weather_7 (by decide) (fun c_7_4 => ?_) (fun c_7_4 => ?_)
      · exact (wi_no (n := 12) (by omega) h9 c_1_3 (Int32.not_le.mpr c_7_4)).elim
      · exact g_throw 45 47 49 xI _ 1 exI S hst hE hS hW (show (47, "there is no such month") ∈ strL by decide +kernel) hl.1 hno hlocks dX5_weather_10 dX5_weather_13 dX5_weather_14 dX5_weather_16 dX5_weather_19 ⟨Nat.le_of_ble_eq_true rfl, Nat.le_of_ble_eq_true rfl, Nat.le_of_ble_eq_true rfl, Nat.le_of_ble_eq_true rfl⟩ ⟨Nat.le_of_ble_eq_true rfl, Nat.le_of_ble_eq_true rfl⟩ ⟨by simp [sp_weather, h9, c_1_3, c_7_4], by decide⟩ (by decide +kernel)
set_option maxHeartbeats 4000000 in
set_option maxRecDepth 100000 in
/-- sharpen(edge) -/
theorem c_X5_sharpen (l : Launch) (z : ZE) (hst : l.stackTraces = false) (w : WG) (g gm : GS) (o : Nat → Int64) (hO : OKg g) (a : Int32) : vx_Met l yX5_sharpen (.code yX5_sharpen cX5_sharpen 3 (some .int) :: wU) ({ frames := 6, cells := 1, slots := 6, locals := 90 }) (PE z [.ref (wad w 0 (0)), .int a] (fun H => WW z w g gm o H)) (xQ z w gm o (sp_sharpen g a)) (xX z w g gm o (sp_sharpen g a) xI xI xI) 1 6 (zA z) := by
  refine vx_ofW (cc := cX5_sharpen) (maxL := 3) (ret := (some .int)) (by decide) rfl ?_
  intro p e s m args below meth c s₁ BD hml hno hv
  obtain ⟨rfl, hE, hW⟩ := hv
  have hts : ∀ w ∈ wU, w.before _ s = true := fun w h => atoms_spec (ws := .code yX5_sharpen cX5_sharpen 3 (some .int) :: wU) BD.pre w (List.mem_cons_of_mem _ h)
  have S : CallFix p m c cX5_sharpen 3 s ([.ref (wad w 0 (0)), .int a] : List Value).toArray wU RX5 := ⟨BD.exec, BD.bytes, hml, findClass_of_methodNamed BD.named, hts⟩
  have hx := S.1
  have hb := S.2.1
  have hown := S.2.2.2.1
  have hr := BD.returns
  have hlocks := BD.notSynchronized
  have hS : va_S (zA z) s.heap s.heap [] := va_S.rf
  have hl := lv_entry ([.ref (wad w 0 (0)), .int a]) (n := 3) (Nat.le_of_ble_eq_true rfl)
  rw [lg_entry_eq]
  generalize (lg_sl ([.ref (wad w 0 (0)), .int a]) ++ List.replicate (3 - (lg_sl ([.ref (wad w 0 (0)), .int a])).length) Slot.unset).toArray = ls at hl ⊢
  have hl : lv_has ls 3 [(0, .ref (wad w 0 (0))), (1, .int a)] := hl
  refine lv_iload_n hx hb dX5_sharpen_0 rfl (lv_at hl 1 rfl) ?_
  refine lv_iconst (v := 0) hx hb dX5_sharpen_1 (by decide) ?_
  refine lv_iconst (v := 1) hx hb dX5_sharpen_2 (by decide) ?_
  refine g_callS (As := [.int a, .int 0, .int 1]) (rest := []) S hE hS (c_X5_isWithin l z (a) (0) (1)) (cwS 3 hts (gU_S tw_158 tw_159 tw_1 tw_160) rfl rfl rfl (by decide +kernel) ⟨Nat.le_of_ble_eq_true rfl, Nat.le_of_ble_eq_true rfl⟩) trivial rfl hl.1 rfl (Nat.le_of_ble_eq_true rfl) dX5_sharpen_3 ⟨Nat.zero_le _, Nat.zero_le _⟩ ?_
  refine g_if_ne S (tgt := 19) dX5_sharpen_6 (by decide) (fun c_6 => ?_) (fun c_6 => ?_)
  · obtain ⟨k9, hk9, rfl⟩ := wi_nat (n := 1) (by decide) c_6
    rcases (show k9 = 0 ∨ k9 = 1 by omega) with rfl | rfl
    · refine lv_iload_n hx hb dX5_sharpen_19 rfl (lv_at hl 1 rfl) ?_
      refine lv_if_ne (tgt := 30) hx hb dX5_sharpen_20 (by decide) (fun h9 => absurd h9 (by decide)) (fun _ => ?_)
      refine lv_aload_n hx hb dX5_sharpen_23 rfl (lv_at hl 0 rfl) ?_
      refine g_get S hE hW.sh (C := RX5) (T := TX5) (N := 8) (v := .int (g 3 0)) rfl inU5 5 (by decide) tw_65 (Or.inl rfl) rfl dX5_sharpen_24 ?_
      refine lv_goto (tgt := 34) hx hb dX5_sharpen_27 (by decide) ?_
      refine lv_istore_n (lv' := [(2, .int (g 3 0)), (0, .ref (wad w 0 (0))), (1, .int (nI 0))]) hx hb dX5_sharpen_34 rfl hl (by decide) rfl (fun ls hl => ?_)
      refine lv_iload_n hx hb dX5_sharpen_35 rfl (lv_at hl 2 rfl) ?_
      refine lv_if_ne (tgt := 48) hx hb dX5_sharpen_36 (by decide) (fun h9 => absurd h9 (by decide)) (fun _ => ?_)
      refine lv_aload_n hx hb dX5_sharpen_39 rfl (lv_at hl 1 rfl) ?_
      refine lv_bipush (v := 100) hx hb dX5_sharpen_40 (by decide) ?_
      refine g_put S hE hS hW.sh (hW.2.2.1 0 0 rfl) (C := RX5) (T := TX5) (N := 8) rfl inU5 tyX5 tyX5_ok nmX5 5 (by decide) tw_65 (Or.inl rfl) (Or.inl rfl) (v := .int 100) rfl rfl (Nat.le_of_ble_eq_true rfl) dX5_sharpen_42 (fun H locs he oq _ hS => ?_)
      replace hW := hW.us30 he oq
      refine lv_goto (tgt := 54) hx hb dX5_sharpen_45 (by decide) ?_
      refine lv_iload_n hx hb dX5_sharpen_54 rfl (lv_at hl 0 rfl) ?_
      exact x_ret S hr hlocks hS hW (by simp [sp_sharpen, c_6, tNn]) wsm.rf ⟨Nat.le_of_ble_eq_true rfl, Nat.le_of_ble_eq_true rfl⟩ dX5_sharpen_55
    · refine lv_iload_n hx hb dX5_sharpen_19 rfl (lv_at hl 1 rfl) ?_
      refine lv_if_ne (tgt := 30) hx hb dX5_sharpen_20 (by decide) (fun _ => ?_) (fun h9 => absurd h9 (by decide))
      refine lv_aload_n hx hb dX5_sharpen_30 rfl (lv_at hl 0 rfl) ?_
      refine g_get S hE hW.sh (C := RX5) (T := TX5) (N := 8) (v := .int (g 3 1)) rfl inU5 6 (by decide) tw_66 (Or.inl rfl) rfl dX5_sharpen_31 ?_
      refine lv_istore_n (lv' := [(2, .int (g 3 1)), (0, .ref (wad w 0 (0))), (1, .int (nI 1))]) hx hb dX5_sharpen_34 rfl hl (by decide) rfl (fun ls hl => ?_)
      refine lv_iload_n hx hb dX5_sharpen_35 rfl (lv_at hl 2 rfl) ?_
      refine lv_if_ne (tgt := 48) hx hb dX5_sharpen_36 (by decide) (fun _ => ?_) (fun h9 => absurd h9 (by decide))
      refine lv_aload_n hx hb dX5_sharpen_48 rfl (lv_at hl 1 rfl) ?_
      refine lv_bipush (v := 100) hx hb dX5_sharpen_49 (by decide) ?_
      refine g_put S hE hS hW.sh (hW.2.2.1 0 0 rfl) (C := RX5) (T := TX5) (N := 8) rfl inU5 tyX5 tyX5_ok nmX5 6 (by decide) tw_66 (Or.inl rfl) (Or.inl rfl) (v := .int 100) rfl rfl (Nat.le_of_ble_eq_true rfl) dX5_sharpen_51 (fun H locs he oq _ hS => ?_)
      replace hW := hW.us31 he oq
      refine lv_iload_n hx hb dX5_sharpen_54 rfl (lv_at hl 0 rfl) ?_
      exact x_ret S hr hlocks hS hW (by simp [sp_sharpen, c_6, tNn]) wsm.rf ⟨Nat.le_of_ble_eq_true rfl, Nat.le_of_ble_eq_true rfl⟩ dX5_sharpen_55
  · exact g_throw 45 161 49 xI _ 1 exI S hst hE hS hW (show (161, "there is no such edge") ∈ strL by decide +kernel) hl.1 hno hlocks dX5_sharpen_9 dX5_sharpen_12 dX5_sharpen_13 dX5_sharpen_15 dX5_sharpen_18 ⟨Nat.le_of_ble_eq_true rfl, Nat.le_of_ble_eq_true rfl, Nat.le_of_ble_eq_true rfl, Nat.le_of_ble_eq_true rfl⟩ ⟨Nat.le_of_ble_eq_true rfl, Nat.le_of_ble_eq_true rfl⟩ ⟨by simp [sp_sharpen, c_6], by decide⟩ (by decide +kernel)
set_option maxHeartbeats 4000000 in
set_option maxRecDepth 100000 in
/-- coat(part) -/
theorem c_X5_coat (l : Launch) (z : ZE) (hst : l.stackTraces = false) (w : WG) (g gm : GS) (o : Nat → Int64) (hO : OKg g) (a : Int32) : vx_Met l yX5_coat (.code yX5_coat cX5_coat 3 (some .int) :: wU) ({ frames := 6, cells := 1, slots := 6, locals := 90 }) (PE z [.ref (wad w 0 (0)), .int a] (fun H => WW z w g gm o H)) (xQ z w gm o (sp_coat g a)) (xX z w g gm o (sp_coat g a) xI xS xI) 1 6 (zA z) := by
  refine vx_ofW (cc := cX5_coat) (maxL := 3) (ret := (some .int)) (by decide) rfl ?_
  intro p e s m args below meth c s₁ BD hml hno hv
  obtain ⟨rfl, hE, hW⟩ := hv
  have hts : ∀ w ∈ wU, w.before _ s = true := fun w h => atoms_spec (ws := .code yX5_coat cX5_coat 3 (some .int) :: wU) BD.pre w (List.mem_cons_of_mem _ h)
  have S : CallFix p m c cX5_coat 3 s ([.ref (wad w 0 (0)), .int a] : List Value).toArray wU RX5 := ⟨BD.exec, BD.bytes, hml, findClass_of_methodNamed BD.named, hts⟩
  have hx := S.1
  have hb := S.2.1
  have hown := S.2.2.2.1
  have hr := BD.returns
  have hlocks := BD.notSynchronized
  have hS : va_S (zA z) s.heap s.heap [] := va_S.rf
  have hl := lv_entry ([.ref (wad w 0 (0)), .int a]) (n := 3) (Nat.le_of_ble_eq_true rfl)
  rw [lg_entry_eq]
  generalize (lg_sl ([.ref (wad w 0 (0)), .int a]) ++ List.replicate (3 - (lg_sl ([.ref (wad w 0 (0)), .int a])).length) Slot.unset).toArray = ls at hl ⊢
  have hl : lv_has ls 3 [(0, .ref (wad w 0 (0))), (1, .int a)] := hl
  have h20 := hO.l5
  have h40 := hO.l16
  have h30 := hO.l24
  by_cases h9 : isP g a = true
  · obtain ⟨i, hi, rfl⟩ := wi_lt (by omega) h9
    have ti : tN (nI i) = i := tNn (by omega)
    obtain ⟨c9, hc9, ec9⟩ := hO.cts hi
    refine lv_aload_n hx hb dX5_coat_0 rfl (lv_at hl 0 rfl) ?_
    refine lv_iload_n hx hb dX5_coat_1 rfl (lv_at hl 1 rfl) ?_
    refine g_callVq (As := [.int (nI i)]) (rest := []) S hE hS (c_findPart_y l z w g gm o hO (i) (by omega)) (cwV 1 hts (gU_V tw_494 tw_496 tp_9 tw_1 tw_497) rfl rfl rfl (by decide +kernel) ⟨Nat.le_of_ble_eq_true rfl, Nat.le_of_ble_eq_true rfl⟩) (hE.recv hW.sh (q := (RX5, TX5, 8)) rfl) hW rfl hl.1 rfl (Nat.le_of_ble_eq_true rfl) dX5_coat_2 ⟨Nat.zero_le _, Nat.zero_le _⟩ ?_
    rw [show va_rf (some (wad w 3 (i))) = .ref (wad w 3 (i)) from rfl]
    refine lv_astore_n (lv' := [(2, .ref (wad w 3 (i))), (0, .ref (wad w 0 (0))), (1, .int (nI i))]) hx hb dX5_coat_5 rfl hl (by decide) rfl (fun ls hl => ?_)
    refine lv_aload_n hx hb dX5_coat_6 rfl (lv_at hl 0 rfl) ?_
    refine lv_ifnonnull (tgt := 20) hx hb dX5_coat_7 (by decide) ?_
    refine lv_aload_n hx hb dX5_coat_20 rfl (lv_at hl 0 rfl) ?_
    refine g_get S hE (hW.pt (i := i) (by omega)) (C := RX2) (T := TX2) (N := 9) (v := .int (nI c9)) rfl inU2 4 (by decide) tw_328 (Or.inr tw_329) (by rw [← ec9]; rfl) dX5_coat_21 ?_
    refine lv_bipush (v := 6) hx hb dX5_coat_24 (by decide) ?_
    rw [show (6 : Int32) = nI 6 from rfl]
    refine g_icmp_lt S (by omega) (by omega) (tgt := 39) dX5_coat_26 (by decide) (fun c_26 => ?_) (fun c_26 => ?_)
    · refine lv_aload_n hx hb dX5_coat_39 rfl (lv_at hl 0 rfl) ?_
      refine lv_dup hx hb dX5_coat_40 rfl ?_
      refine g_get S hE (hW.pt (i := i) (by omega)) (C := RX2) (T := TX2) (N := 9) (v := .int (nI c9)) rfl inU2 4 (by decide) tw_328 (Or.inr tw_329) (by rw [← ec9]; rfl) dX5_coat_41 ?_
      refine lv_iconst (v := 1) hx hb dX5_coat_44 (by decide) ?_
      refine lv_iadd hx hb dX5_coat_45 ?_
      rw [show (nI c9 : Int32) + 1 = nI (c9 + 1) from nI_add _ 1]
      refine g_put S hE hS (hW.pt (i := i) (show i < np g by omega)) (hW.2.2.1 3 (i) (show i < np g by omega)) (C := RX2) (T := TX2) (N := 9) rfl inU2 tyX2 tyX2_ok nmX2 4 (by decide) tw_328 (Or.inr tw_329) (Or.inl rfl) (v := .int (nI (c9 + 1))) rfl rfl (Nat.le_of_ble_eq_true rfl) dX5_coat_46 (fun H locs he oq _ hS => ?_)
      replace hW := hW.u23 (i := i) (show i < np g by omega) he oq
      refine lv_aload_n hx hb dX5_coat_49 rfl (lv_at hl 0 rfl) ?_
      refine g_get S hE (hW.pt (i := i) (show i < np g by omega)) (C := RX2) (T := TX2) (N := 9) (v := .int (nI (c9 + 1))) rfl inU2 4 (by decide) tw_328 (Or.inr tw_329) (congrArg (fun q => some (Value.int q)) gup_s) dX5_coat_50 ?_
      have q9 : ¬ g 23 i = 6 := by rw [ec9, show (6 : Int32) = nI 6 from rfl, nI_eq (by omega) (by omega)]; omega
      exact x_ret S hr hlocks hS hW (by simp [sp_coat, h9, ti, q9]; rw [ec9, show (1 : Int32) = nI 1 from rfl, nI_add]; exact ⟨rfl, rfl⟩) wsm.rf ⟨Nat.le_of_ble_eq_true rfl, Nat.le_of_ble_eq_true rfl⟩ dX5_coat_53
    · obtain rfl : c9 = 6 := by omega
      exact g_throw 63 181 67 xS _ 2 exS S hst hE hS hW (show (181, "the part has 6 coats") ∈ strL by decide +kernel) hl.1 hno hlocks dX5_coat_29 dX5_coat_32 dX5_coat_33 dX5_coat_35 dX5_coat_38 ⟨Nat.le_of_ble_eq_true rfl, Nat.le_of_ble_eq_true rfl, Nat.le_of_ble_eq_true rfl, Nat.le_of_ble_eq_true rfl⟩ ⟨Nat.le_of_ble_eq_true rfl, Nat.le_of_ble_eq_true rfl⟩ ⟨by simp [sp_coat, h9, ti, show g 23 i = 6 from ec9], by decide⟩ (by decide +kernel)
  · replace h9 : isP g a = false := by simpa using h9
    refine lv_aload_n hx hb dX5_coat_0 rfl (lv_at hl 0 rfl) ?_
    refine lv_iload_n hx hb dX5_coat_1 rfl (lv_at hl 1 rfl) ?_
    refine g_callVq (As := [.int a]) (rest := []) S hE hS (c_findPart_n l z w g gm o hO (a) h9) (cwV 1 hts (gU_V tw_494 tw_496 tp_9 tw_1 tw_497) rfl rfl rfl (by decide +kernel) ⟨Nat.le_of_ble_eq_true rfl, Nat.le_of_ble_eq_true rfl⟩) (hE.recv hW.sh (q := (RX5, TX5, 8)) rfl) hW rfl hl.1 rfl (Nat.le_of_ble_eq_true rfl) dX5_coat_2 ⟨Nat.zero_le _, Nat.zero_le _⟩ ?_
    rw [show va_rf none = .null from rfl]
    refine lv_astore_nN (lv' := [(2, .null), (0, .ref (wad w 0 (0))), (1, .int a)]) hx hb dX5_coat_5 rfl hl (by decide) rfl (fun ls hl => ?_)
    refine lv_aload_nN hx hb dX5_coat_6 rfl (lv_at hl 0 rfl) ?_
    refine lv_ifnonnullN hx hb dX5_coat_7 ?_
    exact g_throw 45 176 49 xI _ 1 exI S hst hE hS hW (show (176, "there is no such part") ∈ strL by decide +kernel) hl.1 hno hlocks dX5_coat_10 dX5_coat_13 dX5_coat_14 dX5_coat_16 dX5_coat_19 ⟨Nat.le_of_ble_eq_true rfl, Nat.le_of_ble_eq_true rfl, Nat.le_of_ble_eq_true rfl, Nat.le_of_ble_eq_true rfl⟩ ⟨Nat.le_of_ble_eq_true rfl, Nat.le_of_ble_eq_true rfl⟩ ⟨by simp [sp_coat, h9], by decide⟩ (by decide +kernel)
