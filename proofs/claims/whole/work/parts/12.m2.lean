set_option maxHeartbeats 4000000 in
set_option maxRecDepth 100000 in
/-- weather(month, moisture) -/
theorem c_X6_weather (l : Launch) (z : ZE) (w : WG) (g1 g : GS) (o : Nat → Int64) (t : Int32) (A B : Nat → Int32) (hO : OKg g) (a b : Int32) : Met l yX6_weather (.code yX6_weather cX6_weather 4 (some .int) :: wU) ({ frames := 2, cells := 0, slots := 0, locals := 44 }) (PE z [.ref (wad w 9 (0)), .int a, .int b] (fun H => MW z w g1 o g t A B H)) (qM z w g1 o (fun r u => RR (sp_weather g a b) r u.2.1 u.1)) 0 0 (zA z) := by
  refine Met.ofW (cc := cX6_weather) (maxL := 4) (ret := (some .int)) (by decide) rfl ?_
  intro p e s m args below meth c s₁ BD hml hv
  obtain ⟨rfl, hE, hW⟩ := hv
  have hts : ∀ w ∈ wU, w.before _ s = true := fun w h => atoms_spec (ws := .code yX6_weather cX6_weather 4 (some .int) :: wU) BD.pre w (List.mem_cons_of_mem _ h)
  have S : CallFix p m c cX6_weather 4 s ([.ref (wad w 9 (0)), .int a, .int b] : List Value).toArray wU RX6 := ⟨BD.exec, BD.bytes, hml, findClass_of_methodNamed BD.named, hts⟩
  have hx := S.1
  have hb := S.2.1
  have hown := S.2.2.2.1
  have hr := BD.returns
  have hlocks := BD.notSynchronized
  have hS : va_S (zA z) s.heap s.heap [] := va_S.rf
  have hl := lv_entry ([.ref (wad w 9 (0)), .int a, .int b]) (n := 4) (Nat.le_of_ble_eq_true rfl)
  rw [lg_entry_eq]
  generalize (lg_sl ([.ref (wad w 9 (0)), .int a, .int b]) ++ List.replicate (4 - (lg_sl ([.ref (wad w 9 (0)), .int a, .int b])).length) Slot.unset).toArray = ls at hl ⊢
  have hl : lv_has ls 4 [(0, .ref (wad w 9 (0))), (1, .int a), (2, .int b)] := hl
  have h20 := hO.l5
  have h40 := hO.l16
  have h30 := hO.l24
  refine lv_aload_n hx hb dX6_weather_0 rfl (lv_at hl 0 rfl) ?_
  refine lv_aload_n hx hb dX6_weather_1 rfl (lv_at hl 0 rfl) ?_
  refine lv_iload_n hx hb dX6_weather_2 rfl (lv_at hl 1 rfl) ?_
  refine lv_iconst (v := 0) hx hb dX6_weather_3 (by decide) ?_
  refine lv_bipush (v := 11) hx hb dX6_weather_4 (by decide) ?_
  refine g_callV (As := [.int a, .int 0, .int 11]) (rest := [.ref (wad w 9 (0))]) S hE hS (c_X6_between l z w g1 g o (t) A B (a) (0) (11)) (cwV 3 hts (gU_V tw_858 tw_860 tp_15 tw_6 tw_861) rfl rfl rfl (by decide +kernel) ⟨Nat.le_of_ble_eq_true rfl, Nat.le_of_ble_eq_true rfl⟩) (by obtain ⟨gm9, hW9, -⟩ := hW; exact hE.recv hW9.md (q := (RX6, TX6, 36)) rfl) hW rfl hl.1 rfl (Nat.le_of_ble_eq_true rfl) dX6_weather_6 ⟨Nat.zero_le _, Nat.zero_le _⟩ ?_
  refine g_if_ne S (tgt := 16) dX6_weather_9 (by decide) (fun c_9 => ?_) (fun c_9 => ?_)
  · obtain ⟨j, hj, rfl⟩ := wi_nat (n := 11) (by omega) c_9
    have qj : (nI j).toNatClampNeg = j := nI_clamp (by omega)
    refine lv_aload_n hx hb dX6_weather_16 rfl (lv_at hl 0 rfl) ?_
    refine lv_iload_n hx hb dX6_weather_17 rfl (lv_at hl 2 rfl) ?_
    refine g_callV (As := [.int b]) (rest := [.ref (wad w 9 (0))]) S hE hS (c_X6_isMoisture l z w g1 g o (t) A B (b)) (cwV 1 hts (gU_V tw_862 tw_864 tp_16 tw_6 tw_865) rfl rfl rfl (by decide +kernel) ⟨Nat.le_of_ble_eq_true rfl, Nat.le_of_ble_eq_true rfl⟩) (by obtain ⟨gm9, hW9, -⟩ := hW; exact hE.recv hW9.md (q := (RX6, TX6, 36)) rfl) hW rfl hl.1 rfl (Nat.le_of_ble_eq_true rfl) dX6_weather_18 ⟨Nat.zero_le _, Nat.zero_le _⟩ ?_
    refine g_if_ne S (tgt := 28) dX6_weather_21 (by decide) (fun c_21_1 => ?_) (fun c_21_1 => ?_)
    · refine lv_iconst (v := 0) hx hb dX6_weather_28 (by decide) ?_
      refine m_putt S hE hS hW tw_740 dX6_weather_29 (fun H locs hW hS => ?_)
      refine lv_aload_n hx hb dX6_weather_32 rfl (lv_at hl 0 rfl) ?_
      refine m_gett S hE hW tw_740 dX6_weather_33 ?_
      refine lv_if_le (tgt := 41) hx hb dX6_weather_36 (by decide) (fun _ => ?_) (fun h9 => absurd h9 (by decide))
      refine lv_aload_n hx hb dX6_weather_41 rfl (lv_at hl 0 rfl) ?_
      refine m_geta S hE hW 2 (by decide) rfl tw_742 rfl dX6_weather_42 ?_
      refine lv_iload_n hx hb dX6_weather_45 rfl (lv_at hl 1 rfl) ?_
      refine m_ald S hE hW (k := 2) (v := g 2 j) rfl (vp_in_nI (show j < 12 from (by omega)) (by decide)) (by rw [show (nI j : Int32).toNatClampNeg = j from (nI_clamp (by omega))]) dX6_weather_46 ?_
      refine lv_istore_n (lv' := [(3, .int (g 2 j)), (0, .ref (wad w 9 (0))), (1, .int (nI j)), (2, .int b)]) hx hb dX6_weather_47 rfl hl (by decide) rfl (fun ls hl => ?_)
      refine lv_aload_n hx hb dX6_weather_48 rfl (lv_at hl 1 rfl) ?_
      refine m_geta S hE hW 2 (by decide) rfl tw_742 rfl dX6_weather_49 ?_
      refine lv_iload_n hx hb dX6_weather_52 rfl (lv_at hl 2 rfl) ?_
      refine lv_iload_n hx hb dX6_weather_53 rfl (lv_at hl 3 rfl) ?_
      refine m_ast S hE hS hW (k := 2) (j := j) rfl (vp_in_nI (show j < 12 from (by omega)) (by decide)) (nI_clamp (by omega)) dX6_weather_54 (fun H locs hW hS => ?_)
      refine lv_iload_n hx hb dX6_weather_55 rfl (lv_at hl 0 rfl) ?_
      exact m_ret S hr hlocks hS hW (by simp [RR, sp_weather, bad, isB, isP, isJ, c_9, c_21_1, qj]) dX6_weather_56
    · refine lv_iconst (v := 2) hx hb dX6_weather_24 (by decide) ?_
      refine lv_goto (tgt := 29) hx hb dX6_weather_25 (by decide) ?_
      refine m_putt S hE hS hW tw_740 dX6_weather_29 (fun H locs hW hS => ?_)
      refine lv_aload_n hx hb dX6_weather_32 rfl (lv_at hl 0 rfl) ?_
      refine m_gett S hE hW tw_740 dX6_weather_33 ?_
      refine lv_if_le (tgt := 41) hx hb dX6_weather_36 (by decide) (fun h9 => absurd h9 (by decide)) (fun _ => ?_)
      refine lv_iconst (v := 0) hx hb dX6_weather_39 (by decide) ?_
      exact m_ret S hr hlocks hS hW (by simp [RR, sp_weather, bad, isB, isP, isJ, c_9, c_21_1, qj]) dX6_weather_40
  · refine lv_iconst (v := 1) hx hb dX6_weather_12 (by decide) ?_
    refine lv_goto (tgt := 29) hx hb dX6_weather_13 (by decide) ?_
    refine m_putt S hE hS hW tw_740 dX6_weather_29 (fun H locs hW hS => ?_)
    refine lv_aload_n hx hb dX6_weather_32 rfl (lv_at hl 0 rfl) ?_
    refine m_gett S hE hW tw_740 dX6_weather_33 ?_
    refine lv_if_le (tgt := 41) hx hb dX6_weather_36 (by decide) (fun h9 => absurd h9 (by decide)) (fun _ => ?_)
    refine lv_iconst (v := 0) hx hb dX6_weather_39 (by decide) ?_
    exact m_ret S hr hlocks hS hW (by simp [RR, sp_weather, bad, isB, isP, isJ, c_9]) dX6_weather_40
set_option maxHeartbeats 4000000 in
set_option maxRecDepth 100000 in
/-- sharpen(edge) -/
theorem c_X6_sharpen (l : Launch) (z : ZE) (w : WG) (g1 g : GS) (o : Nat → Int64) (t : Int32) (A B : Nat → Int32) (hO : OKg g) (a : Int32) : Met l yX6_sharpen (.code yX6_sharpen cX6_sharpen 3 (some .int) :: wU) ({ frames := 1, cells := 0, slots := 0, locals := 23 }) (PE z [.ref (wad w 9 (0)), .int a] (fun H => MW z w g1 o g t A B H)) (qM z w g1 o (fun r u => RR (sp_sharpen g a) r u.2.1 u.1)) 0 0 (zA z) := by
  refine Met.ofW (cc := cX6_sharpen) (maxL := 3) (ret := (some .int)) (by decide) rfl ?_
  intro p e s m args below meth c s₁ BD hml hv
  obtain ⟨rfl, hE, hW⟩ := hv
  have hts : ∀ w ∈ wU, w.before _ s = true := fun w h => atoms_spec (ws := .code yX6_sharpen cX6_sharpen 3 (some .int) :: wU) BD.pre w (List.mem_cons_of_mem _ h)
  have S : CallFix p m c cX6_sharpen 3 s ([.ref (wad w 9 (0)), .int a] : List Value).toArray wU RX6 := ⟨BD.exec, BD.bytes, hml, findClass_of_methodNamed BD.named, hts⟩
  have hx := S.1
  have hb := S.2.1
  have hown := S.2.2.2.1
  have hr := BD.returns
  have hlocks := BD.notSynchronized
  have hS : va_S (zA z) s.heap s.heap [] := va_S.rf
  have hl := lv_entry ([.ref (wad w 9 (0)), .int a]) (n := 3) (Nat.le_of_ble_eq_true rfl)
  rw [lg_entry_eq]
  generalize (lg_sl ([.ref (wad w 9 (0)), .int a]) ++ List.replicate (3 - (lg_sl ([.ref (wad w 9 (0)), .int a])).length) Slot.unset).toArray = ls at hl ⊢
  have hl : lv_has ls 3 [(0, .ref (wad w 9 (0))), (1, .int a)] := hl
  have h20 := hO.l5
  have h40 := hO.l16
  have h30 := hO.l24
  refine lv_aload_n hx hb dX6_sharpen_0 rfl (lv_at hl 0 rfl) ?_
  refine lv_aload_n hx hb dX6_sharpen_1 rfl (lv_at hl 0 rfl) ?_
  refine lv_iload_n hx hb dX6_sharpen_2 rfl (lv_at hl 1 rfl) ?_
  refine lv_iconst (v := 0) hx hb dX6_sharpen_3 (by decide) ?_
  refine lv_iconst (v := 1) hx hb dX6_sharpen_4 (by decide) ?_
  refine g_callV (As := [.int a, .int 0, .int 1]) (rest := [.ref (wad w 9 (0))]) S hE hS (c_X6_between l z w g1 g o (t) A B (a) (0) (1)) (cwV 3 hts (gU_V tw_858 tw_860 tp_15 tw_6 tw_861) rfl rfl rfl (by decide +kernel) ⟨Nat.le_of_ble_eq_true rfl, Nat.le_of_ble_eq_true rfl⟩) (by obtain ⟨gm9, hW9, -⟩ := hW; exact hE.recv hW9.md (q := (RX6, TX6, 36)) rfl) hW rfl hl.1 rfl (Nat.le_of_ble_eq_true rfl) dX6_sharpen_5 ⟨Nat.zero_le _, Nat.zero_le _⟩ ?_
  refine g_if_ne S (tgt := 15) dX6_sharpen_8 (by decide) (fun c_8 => ?_) (fun c_8 => ?_)
  · obtain ⟨j, hj, rfl⟩ := wi_nat (n := 1) (by omega) c_8
    have qj : (nI j).toNatClampNeg = j := nI_clamp (by omega)
    refine lv_iconst (v := 0) hx hb dX6_sharpen_15 (by decide) ?_
    refine m_putt S hE hS hW tw_740 dX6_sharpen_16 (fun H locs hW hS => ?_)
    refine lv_aload_n hx hb dX6_sharpen_19 rfl (lv_at hl 0 rfl) ?_
    refine m_gett S hE hW tw_740 dX6_sharpen_20 ?_
    refine lv_if_le (tgt := 28) hx hb dX6_sharpen_23 (by decide) (fun _ => ?_) (fun h9 => absurd h9 (by decide))
    refine lv_aload_n hx hb dX6_sharpen_28 rfl (lv_at hl 0 rfl) ?_
    refine m_geta S hE hW 3 (by decide) rfl tw_743 rfl dX6_sharpen_29 ?_
    refine lv_iload_n hx hb dX6_sharpen_32 rfl (lv_at hl 1 rfl) ?_
    refine m_ald S hE hW (k := 3) (v := g 3 j) rfl (vp_in_nI (show j < 2 from (by omega)) (by decide)) (by rw [show (nI j : Int32).toNatClampNeg = j from (nI_clamp (by omega))]) dX6_sharpen_33 ?_
    refine lv_istore_n (lv' := [(2, .int (g 3 j)), (0, .ref (wad w 9 (0))), (1, .int (nI j))]) hx hb dX6_sharpen_34 rfl hl (by decide) rfl (fun ls hl => ?_)
    refine lv_aload_n hx hb dX6_sharpen_35 rfl (lv_at hl 1 rfl) ?_
    refine m_geta S hE hW 3 (by decide) rfl tw_743 rfl dX6_sharpen_36 ?_
    refine lv_iload_n hx hb dX6_sharpen_39 rfl (lv_at hl 2 rfl) ?_
    refine lv_bipush (v := 100) hx hb dX6_sharpen_40 (by decide) ?_
    refine m_ast S hE hS hW (k := 3) (j := j) rfl (vp_in_nI (show j < 2 from (by omega)) (by decide)) (nI_clamp (by omega)) dX6_sharpen_42 (fun H locs hW hS => ?_)
    refine lv_iload_n hx hb dX6_sharpen_43 rfl (lv_at hl 0 rfl) ?_
    exact m_ret S hr hlocks hS hW (by simp [RR, sp_sharpen, bad, isB, isP, isJ, c_8, qj]) dX6_sharpen_44
  · refine lv_iconst (v := 1) hx hb dX6_sharpen_11 (by decide) ?_
    refine lv_goto (tgt := 16) hx hb dX6_sharpen_12 (by decide) ?_
    refine m_putt S hE hS hW tw_740 dX6_sharpen_16 (fun H locs hW hS => ?_)
    refine lv_aload_n hx hb dX6_sharpen_19 rfl (lv_at hl 0 rfl) ?_
    refine m_gett S hE hW tw_740 dX6_sharpen_20 ?_
    refine lv_if_le (tgt := 28) hx hb dX6_sharpen_23 (by decide) (fun h9 => absurd h9 (by decide)) (fun _ => ?_)
    refine lv_iconst (v := 0) hx hb dX6_sharpen_26 (by decide) ?_
    exact m_ret S hr hlocks hS hW (by simp [RR, sp_sharpen, bad, isB, isP, isJ, c_8]) dX6_sharpen_27
set_option maxHeartbeats 4000000 in
set_option maxRecDepth 100000 in
/-- clamps(clamps) -/
theorem c_X6_clamps (l : Launch) (z : ZE) (w : WG) (g1 g : GS) (o : Nat → Int64) (t : Int32) (A B : Nat → Int32) (hO : OKg g) (a : Int32) : Met l yX6_clamps (.code yX6_clamps cX6_clamps 3 (some .int) :: wU) ({ frames := 1, cells := 0, slots := 0, locals := 23 }) (PE z [.ref (wad w 9 (0)), .int a] (fun H => MW z w g1 o g t A B H)) (qM z w g1 o (fun r u => RR (sp_clamps g a) r u.2.1 u.1)) 0 0 (zA z) := by
  refine Met.ofW (cc := cX6_clamps) (maxL := 3) (ret := (some .int)) (by decide) rfl ?_
  intro p e s m args below meth c s₁ BD hml hv
  obtain ⟨rfl, hE, hW⟩ := hv
  have hts : ∀ w ∈ wU, w.before _ s = true := fun w h => atoms_spec (ws := .code yX6_clamps cX6_clamps 3 (some .int) :: wU) BD.pre w (List.mem_cons_of_mem _ h)
  have S : CallFix p m c cX6_clamps 3 s ([.ref (wad w 9 (0)), .int a] : List Value).toArray wU RX6 := ⟨BD.exec, BD.bytes, hml, findClass_of_methodNamed BD.named, hts⟩
  have hx := S.1
  have hb := S.2.1
  have hown := S.2.2.2.1
  have hr := BD.returns
  have hlocks := BD.notSynchronized
  have hS : va_S (zA z) s.heap s.heap [] := va_S.rf
  have hl := lv_entry ([.ref (wad w 9 (0)), .int a]) (n := 3) (Nat.le_of_ble_eq_true rfl)
  rw [lg_entry_eq]
  generalize (lg_sl ([.ref (wad w 9 (0)), .int a]) ++ List.replicate (3 - (lg_sl ([.ref (wad w 9 (0)), .int a])).length) Slot.unset).toArray = ls at hl ⊢
  have hl : lv_has ls 3 [(0, .ref (wad w 9 (0))), (1, .int a)] := hl
  have h20 := hO.l5
  have h40 := hO.l16
  have h30 := hO.l24
  refine lv_aload_n hx hb dX6_clamps_0 rfl (lv_at hl 0 rfl) ?_
  refine lv_aload_n hx hb dX6_clamps_1 rfl (lv_at hl 0 rfl) ?_
  refine lv_iload_n hx hb dX6_clamps_2 rfl (lv_at hl 1 rfl) ?_
  refine lv_iconst (v := 1) hx hb dX6_clamps_3 (by decide) ?_
  refine lv_bipush (v := 99) hx hb dX6_clamps_4 (by decide) ?_
  refine g_callV (As := [.int a, .int 1, .int 99]) (rest := [.ref (wad w 9 (0))]) S hE hS (c_X6_between l z w g1 g o (t) A B (a) (1) (99)) (cwV 3 hts (gU_V tw_858 tw_860 tp_15 tw_6 tw_861) rfl rfl rfl (by decide +kernel) ⟨Nat.le_of_ble_eq_true rfl, Nat.le_of_ble_eq_true rfl⟩) (by obtain ⟨gm9, hW9, -⟩ := hW; exact hE.recv hW9.md (q := (RX6, TX6, 36)) rfl) hW rfl hl.1 rfl (Nat.le_of_ble_eq_true rfl) dX6_clamps_6 ⟨Nat.zero_le _, Nat.zero_le _⟩ ?_
  refine g_if_ne S (tgt := 16) dX6_clamps_9 (by decide) (fun c_9 => ?_) (fun c_9 => ?_)
  · refine lv_iconst (v := 0) hx hb dX6_clamps_16 (by decide) ?_
    refine m_putt S hE hS hW tw_740 dX6_clamps_17 (fun H locs hW hS => ?_)
    refine lv_aload_n hx hb dX6_clamps_20 rfl (lv_at hl 0 rfl) ?_
    refine m_gett S hE hW tw_740 dX6_clamps_21 ?_
    refine lv_if_le (tgt := 29) hx hb dX6_clamps_24 (by decide) (fun _ => ?_) (fun h9 => absurd h9 (by decide))
    refine lv_aload_n hx hb dX6_clamps_29 rfl (lv_at hl 0 rfl) ?_
    refine m_geti S hE hW 4 (v := g 4 0) (by decide) rfl (by decide) tw_744 rfl rfl dX6_clamps_30 ?_
    refine lv_istore_n (lv' := [(2, .int (g 4 0)), (0, .ref (wad w 9 (0))), (1, .int a)]) hx hb dX6_clamps_33 rfl hl (by decide) rfl (fun ls hl => ?_)
    refine lv_aload_n hx hb dX6_clamps_34 rfl (lv_at hl 1 rfl) ?_
    refine lv_iload_n hx hb dX6_clamps_35 rfl (lv_at hl 2 rfl) ?_
    refine m_puti S hE hS hW 4 (by decide) rfl (by decide) tw_744 ⟨rfl, rfl, rfl⟩ dX6_clamps_36 (fun H locs hW hS => ?_)
    refine lv_iload_n hx hb dX6_clamps_39 rfl (lv_at hl 0 rfl) ?_
    exact m_ret S hr hlocks hS hW (by simp [RR, sp_clamps, bad, isB, isP, isJ, c_9]) dX6_clamps_40
  · refine lv_iconst (v := 1) hx hb dX6_clamps_12 (by decide) ?_
    refine lv_goto (tgt := 17) hx hb dX6_clamps_13 (by decide) ?_
    refine m_putt S hE hS hW tw_740 dX6_clamps_17 (fun H locs hW hS => ?_)
    refine lv_aload_n hx hb dX6_clamps_20 rfl (lv_at hl 0 rfl) ?_
    refine m_gett S hE hW tw_740 dX6_clamps_21 ?_
    refine lv_if_le (tgt := 29) hx hb dX6_clamps_24 (by decide) (fun h9 => absurd h9 (by decide)) (fun _ => ?_)
    refine lv_iconst (v := 0) hx hb dX6_clamps_27 (by decide) ?_
    exact m_ret S hr hlocks hS hW (by simp [RR, sp_clamps, bad, isB, isP, isJ, c_9]) dX6_clamps_28
set_option maxHeartbeats 4000000 in
set_option maxRecDepth 100000 in
/-- coat(part) -/
theorem c_X6_coat (l : Launch) (z : ZE) (w : WG) (g1 g : GS) (o : Nat → Int64) (t : Int32) (A B : Nat → Int32) (hO : OKg g) (a : Int32) : Met l yX6_coat (.code yX6_coat cX6_coat 2 (some .int) :: wU) ({ frames := 2, cells := 0, slots := 0, locals := 44 }) (PE z [.ref (wad w 9 (0)), .int a] (fun H => MW z w g1 o g t A B H)) (qM z w g1 o (fun r u => RR (sp_coat g a) r u.2.1 u.1)) 0 0 (zA z) := by
  refine Met.ofW (cc := cX6_coat) (maxL := 2) (ret := (some .int)) (by decide) rfl ?_
  intro p e s m args below meth c s₁ BD hml hv
  obtain ⟨rfl, hE, hW⟩ := hv
  have hts : ∀ w ∈ wU, w.before _ s = true := fun w h => atoms_spec (ws := .code yX6_coat cX6_coat 2 (some .int) :: wU) BD.pre w (List.mem_cons_of_mem _ h)
  have S : CallFix p m c cX6_coat 2 s ([.ref (wad w 9 (0)), .int a] : List Value).toArray wU RX6 := ⟨BD.exec, BD.bytes, hml, findClass_of_methodNamed BD.named, hts⟩
  have hx := S.1
  have hb := S.2.1
  have hown := S.2.2.2.1
  have hr := BD.returns
  have hlocks := BD.notSynchronized
  have hS : va_S (zA z) s.heap s.heap [] := va_S.rf
  have hl := lv_entry ([.ref (wad w 9 (0)), .int a]) (n := 2) (Nat.le_of_ble_eq_true rfl)
  rw [lg_entry_eq]
  generalize (lg_sl ([.ref (wad w 9 (0)), .int a]) ++ List.replicate (2 - (lg_sl ([.ref (wad w 9 (0)), .int a])).length) Slot.unset).toArray = ls at hl ⊢
  have hl : lv_has ls 2 [(0, .ref (wad w 9 (0))), (1, .int a)] := hl
  have h20 := hO.l5
  have h40 := hO.l16
  have h30 := hO.l24
  refine lv_aload_n hx hb dX6_coat_0 rfl (lv_at hl 0 rfl) ?_
  refine lv_aload_n hx hb dX6_coat_1 rfl (lv_at hl 0 rfl) ?_
  refine lv_iload_n hx hb dX6_coat_2 rfl (lv_at hl 1 rfl) ?_
  refine g_callV (As := [.int a]) (rest := [.ref (wad w 9 (0))]) S hE hS (c_X6_isPart l z w g1 g o (t) A B hO (a)) (cwV 1 hts (gU_V tw_938 tw_940 tp_28 tw_6 tw_941) rfl rfl rfl (by decide +kernel) ⟨Nat.le_of_ble_eq_true rfl, Nat.le_of_ble_eq_true rfl⟩) (by obtain ⟨gm9, hW9, -⟩ := hW; exact hE.recv hW9.md (q := (RX6, TX6, 36)) rfl) hW rfl hl.1 rfl (Nat.le_of_ble_eq_true rfl) dX6_coat_3 ⟨Nat.zero_le _, Nat.zero_le _⟩ ?_
  refine g_if_ne S (tgt := 13) dX6_coat_6 (by decide) (fun c_6 => ?_) (fun c_6 => ?_)
  · obtain ⟨i, hi, rfl⟩ := wi_lt (n := np g) (by omega) c_6
    have qi : (nI i).toNatClampNeg = i := nI_clamp (by omega)
    refine lv_aload_n hx hb dX6_coat_13 rfl (lv_at hl 0 rfl) ?_
    refine m_geta S hE hW 23 (by decide) rfl tw_763 rfl dX6_coat_14 ?_
    refine lv_iload_n hx hb dX6_coat_17 rfl (lv_at hl 1 rfl) ?_
    refine m_ald S hE hW (k := 23) (v := g 23 i) rfl (vp_in_nI (show i < 40 from (by omega)) (by decide)) (by rw [show (nI i : Int32).toNatClampNeg = i from (nI_clamp (by omega))]) dX6_coat_18 ?_
    refine lv_bipush (v := 6) hx hb dX6_coat_19 (by decide) ?_
    refine lv_icmp_ne (tgt := 28) hx hb dX6_coat_21 (by decide) (fun c_21_1 => ?_) (fun c_21_1 => ?_)
    · refine lv_iconst (v := 0) hx hb dX6_coat_28 (by decide) ?_
      refine m_putt S hE hS hW tw_740 dX6_coat_29 (fun H locs hW hS => ?_)
      refine lv_aload_n hx hb dX6_coat_32 rfl (lv_at hl 0 rfl) ?_
      refine m_gett S hE hW tw_740 dX6_coat_33 ?_
      refine lv_if_le (tgt := 41) hx hb dX6_coat_36 (by decide) (fun _ => ?_) (fun h9 => absurd h9 (by decide))
      refine lv_aload_n hx hb dX6_coat_41 rfl (lv_at hl 0 rfl) ?_
      refine m_geta S hE hW 23 (by decide) rfl tw_763 rfl dX6_coat_42 ?_
      refine lv_iload_n hx hb dX6_coat_45 rfl (lv_at hl 1 rfl) ?_
      refine lv_dup2_11 hx hb dX6_coat_46 rfl rfl ?_
      refine m_ald S hE hW (k := 23) (v := g 23 i) rfl (vp_in_nI (show i < 40 from (by omega)) (by decide)) (by rw [show (nI i : Int32).toNatClampNeg = i from (nI_clamp (by omega))]) dX6_coat_47 ?_
      refine lv_iconst (v := 1) hx hb dX6_coat_48 (by decide) ?_
      refine lv_iadd hx hb dX6_coat_49 ?_
      refine m_ast S hE hS hW (k := 23) (j := i) rfl (vp_in_nI (show i < 40 from (by omega)) (by decide)) (nI_clamp (by omega)) dX6_coat_50 (fun H locs hW hS => ?_)
      refine lv_aload_n hx hb dX6_coat_51 rfl (lv_at hl 0 rfl) ?_
      refine m_geta S hE hW 23 (by decide) rfl tw_763 rfl dX6_coat_52 ?_
      refine lv_iload_n hx hb dX6_coat_55 rfl (lv_at hl 1 rfl) ?_
      refine m_ald S hE hW (k := 23) (v := (g 23 i) + 1) rfl (vp_in_nI (show i < 40 from (by omega)) (by decide)) (by rw [show (nI i : Int32).toNatClampNeg = i from (nI_clamp (by omega))]; exact (by simp [gup])) dX6_coat_56 ?_
      exact m_ret S hr hlocks hS hW (by simp [RR, sp_coat, bad, isB, isP, isJ, c_6, c_21_1, qi]) dX6_coat_57
    · refine lv_iconst (v := 2) hx hb dX6_coat_24 (by decide) ?_
      refine lv_goto (tgt := 29) hx hb dX6_coat_25 (by decide) ?_
      refine m_putt S hE hS hW tw_740 dX6_coat_29 (fun H locs hW hS => ?_)
      refine lv_aload_n hx hb dX6_coat_32 rfl (lv_at hl 0 rfl) ?_
      refine m_gett S hE hW tw_740 dX6_coat_33 ?_
      refine lv_if_le (tgt := 41) hx hb dX6_coat_36 (by decide) (fun h9 => absurd h9 (by decide)) (fun _ => ?_)
      refine lv_iconst (v := 0) hx hb dX6_coat_39 (by decide) ?_
      exact m_ret S hr hlocks hS hW (by simp [RR, sp_coat, bad, isB, isP, isJ, c_6, c_21_1, qi]) dX6_coat_40
  · refine lv_iconst (v := 1) hx hb dX6_coat_9 (by decide) ?_
    refine lv_goto (tgt := 29) hx hb dX6_coat_10 (by decide) ?_
    refine m_putt S hE hS hW tw_740 dX6_coat_29 (fun H locs hW hS => ?_)
    refine lv_aload_n hx hb dX6_coat_32 rfl (lv_at hl 0 rfl) ?_
    refine m_gett S hE hW tw_740 dX6_coat_33 ?_
    refine lv_if_le (tgt := 41) hx hb dX6_coat_36 (by decide) (fun h9 => absurd h9 (by decide)) (fun _ => ?_)
    refine lv_iconst (v := 0) hx hb dX6_coat_39 (by decide) ?_
    exact m_ret S hr hlocks hS hW (by simp [RR, sp_coat, bad, isB, isP, isJ, c_6]) dX6_coat_40
set_option maxHeartbeats 4000000 in
set_option maxRecDepth 100000 in
/-- month() -/
theorem c_X6_month (l : Launch) (z : ZE) (w : WG) (g1 g : GS) (o : Nat → Int64) (t : Int32) (A B : Nat → Int32) (hO : OKg g) : Met l yX6_month (.code yX6_month cX6_month 1 (some .int) :: wU) ({ frames := 0, cells := 0, slots := 0, locals := 0 }) (PE z [.ref (wad w 9 (0))] (fun H => MW z w g1 o g t A B H)) (qM z w g1 o (fun r u => RR (sp_month g) r u.2.1 u.1)) 0 0 (zA z) := by
  refine Met.ofW (cc := cX6_month) (maxL := 1) (ret := (some .int)) (by decide) rfl ?_
  intro p e s m args below meth c s₁ BD hml hv
  obtain ⟨rfl, hE, hW⟩ := hv
  have hts : ∀ w ∈ wU, w.before _ s = true := fun w h => atoms_spec (ws := .code yX6_month cX6_month 1 (some .int) :: wU) BD.pre w (List.mem_cons_of_mem _ h)
  have S : CallFix p m c cX6_month 1 s ([.ref (wad w 9 (0))] : List Value).toArray wU RX6 := ⟨BD.exec, BD.bytes, hml, findClass_of_methodNamed BD.named, hts⟩
  have hx := S.1
  have hb := S.2.1
  have hown := S.2.2.2.1
  have hr := BD.returns
  have hlocks := BD.notSynchronized
  have hS : va_S (zA z) s.heap s.heap [] := va_S.rf
  have hl := lv_entry ([.ref (wad w 9 (0))]) (n := 1) (Nat.le_of_ble_eq_true rfl)
  rw [lg_entry_eq]
  generalize (lg_sl ([.ref (wad w 9 (0))]) ++ List.replicate (1 - (lg_sl ([.ref (wad w 9 (0))])).length) Slot.unset).toArray = ls at hl ⊢
  have hl : lv_has ls 1 [(0, .ref (wad w 9 (0)))] := hl
  have h20 := hO.l5
  have h40 := hO.l16
  have h30 := hO.l24
  refine lv_aload_n hx hb dX6_month_0 rfl (lv_at hl 0 rfl) ?_
  refine lv_iconst (v := 0) hx hb dX6_month_1 (by decide) ?_
  refine m_putt S hE hS hW tw_740 dX6_month_2 (fun H locs hW hS => ?_)
  refine lv_aload_n hx hb dX6_month_5 rfl (lv_at hl 0 rfl) ?_
  refine m_geti S hE hW 1 (v := nI (mo g)) (by decide) rfl (by decide) tw_741 rfl hO.n1 dX6_month_6 ?_
  exact m_ret S hr hlocks hS hW (by simp [RR, sp_month, bad, isB, isP, isJ]) dX6_month_9
