set_option maxHeartbeats 4000000 in
set_option maxRecDepth 100000 in
/-- weather(month, moisture) -/
theorem c_X6_weather (l : Launch) (z : ZE) (w : WG) (g1 g : GS) (o : Nat → Int64) (t : Int32) (A B : Nat → Int32) (hO : OKg g) (a b : Int32) : Met l yX6_weather (.code yX6_weather cX6_weather 4 (some .int) :: wU) ({ frames := 2, cells := 0, slots := 0, locals := 44 }) (PE z [.ref (wad w 9 (0)), .int a, .int b] (fun H => MW z w g1 o g t A B H)) (qM z w g1 o (fun r u => RR (sp_weather g a b) r u.2.1 u.1)) 0 0 (zA z) := by
  refine Met.ofW (cc := cX6_weather) (maxL := 4) (ret := (some .int)) (by decide) rfl ?_
  intro p e s m args below meth c s₁ BD hml hv
  obtain ⟨rfl, hE, hW⟩ := hv
  have hts : ∀ w ∈ wU, w.before _ s = true := fun w h => atoms_spec (ws := .code yX6_weather cX6_weather 4 (some .int) :: wU) BD.pre w (List.mem_cons_of_mem _ h)
  have S : CallFix p m c cX6_weather 4 s ([.ref (wad w 9 (0)), .int a, .int b] : List Value).toArray wU RX6 := ⟨BD.exec, BD.bytes, hml, findClass_of_methodNamed BD.named, hts⟩
  have hx := S.1
  have hb := S.2.1
  have hown := S.2.2.2.1
  have hr := BD.returns
  have hlocks := BD.notSynchronized
  have hS : va_S (zA z) s.heap s.heap [] := va_S.rf
  have hl := lv_entry ([.ref (wad w 9 (0)), .int a, .int b]) (n := 4) (Nat.le_of_ble_eq_true rfl)
  rw [lg_entry_eq]
  generalize (lg_sl ([.ref (wad w 9 (0)), .int a, .int b]) ++ List.replicate (4 - (lg_sl ([.ref (wad w 9 (0)), .int a, .int b])).length) Slot.unset).toArray = ls at hl ⊢
  have hl : lv_has ls 4 [(0, .ref (wad w 9 (0))), (1, .int a), (2, .int b)] := hl
  have h20 := hO.l5
  have h40 := hO.l16
  have h30 := hO.l24
  refine lv_aload_n hx hb dX6_weather_0 rfl (lv_at hl 0 rfl) ?_
  refine lv_aload_n hx hb dX6_weather_1 rfl (lv_at hl 0 rfl) ?_
  refine lv_iload_n hx hb dX6_weather_2 rfl (lv_at hl 1 rfl) ?_
  refine lv_iconst (v := 0) hx hb dX6_weather_3 (by decide) ?_
  refine lv_bipush (v := 11) hx hb dX6_weather_4 (by decide) ?_
  refine g_callV (As := [.int a, .int 0, .int 11]) (rest := [.ref (wad w 9 (0))]) S hE hS (c_X6_between l z w g1 g o (t) A B (a) (0) (11)) (cwV 3 hts (gU_V tw_858 tw_860 tp_15 tw_6 tw_861) rfl rfl rfl (by decide +kernel) ⟨Nat.le_of_ble_eq_true rfl, Nat.le_of_ble_eq_true rfl⟩) (by obtain ⟨gm9, hW9, -⟩ := hW; exact hE.recv hW9.md (q := (RX6, TX6, 36)) rfl) hW rfl hl.1 rfl (Nat.le_of_ble_eq_true rfl) dX6_weather_6 ⟨Nat.zero_le _, Nat.zero_le _⟩ ?_
  refine g_if_ne S (tgt := 16) dX6_weather_9 (by decide) (fun c_9 => ?_) (fun c_9 => ?_)
  · obtain ⟨j, hj, rfl⟩ := wi_nat (n := 11) (by omega) c_9
    have qj : (nI j).toNatClampNeg = j := nI_clamp (by omega)
    refine lv_aload_n hx hb dX6_weather_16 rfl (lv_at hl 0 rfl) ?_
    refine lv_iload_n hx hb dX6_weather_17 rfl (lv_at hl 2 rfl) ?_
    refine g_callV (As := [.int b]) (rest := [.ref (wad w 9 (0))]) S hE hS (c_X6_isMoisture l z w g1 g o (t) A B (b)) (cwV 1 hts (gU_V tw_862 tw_864 tp_16 tw_6 tw_865) rfl rfl rfl (by decide +kernel) ⟨Nat.le_of_ble_eq_true rfl, Nat.le_of_ble_eq_true rfl⟩) (by obtain ⟨gm9, hW9, -⟩ := hW; exact hE.recv hW9.md (q := (RX6, TX6, 36)) rfl) hW rfl hl.1 rfl (Nat.le_of_ble_eq_true rfl) dX6_weather_18 ⟨Nat.zero_le _, Nat.zero_le _⟩ ?_
    refine g_if_ne S (tgt := 28) dX6_weather_21 (by decide) (fun c_21_1 => ?_) (fun c_21_1 => ?_)
    · refine lv_iconst (v := 0) hx hb dX6_weather_28 (by decide) ?_
      refine m_putt S hE hS hW tw_740 dX6_weather_29 (fun H locs hW hS => ?_)
      refine lv_aload_n hx hb dX6_weather_32 rfl (lv_at hl 0 rfl) ?_
      refine m_gett S hE hW tw_740 dX6_weather_33 ?_
      refine lv_if_le (tgt := 41) hx hb dX6_weather_36 (by decide) (fun _ => ?_) (fun h9 => absurd h9 (by decide))
      refine lv_aload_n hx hb dX6_weather_41 rfl (lv_at hl 0 rfl) ?_
      refine m_geta S hE hW 2 (by decide) rfl tw_742 rfl dX6_weather_42 ?_
      refine lv_iload_n hx hb dX6_weather_45 rfl (lv_at hl 1 rfl) ?_
      refine m_ald S hE hW (k := 2) (v := g 2 j) rfl (vp_in_nI (show j < 12 from (by omega)) (by decide)) (by rw [show (nI j : Int32).toNatClampNeg = j from (nI_clamp (by omega))]) dX6_weather_46 ?_
      refine lv_istore_n (lv' := [(3, .int (g 2 j)), (0, .ref (wad w 9 (0))), (1, .int (nI j)), (2, .int b)]) hx hb dX6_weather_47 rfl hl (by decide) rfl (fun ls hl => ?_)
      refine lv_aload_n hx hb dX6_weather_48 rfl (lv_at hl 1 rfl) ?_
      refine m_geta S hE hW 2 (by decide) rfl tw_742 rfl dX6_weather_49 ?_
      refine lv_iload_n hx hb dX6_weather_52 rfl (lv_at hl 2 rfl) ?_
      refine lv_iload_n hx hb dX6_weather_53 rfl (lv_at hl 3 rfl) ?_
      refine m_ast S hE hS hW (k := 2) (j := j) rfl (vp_in_nI (show j < 12 from (by omega)) (by decide)) (nI_clamp (by omega)) dX6_weather_54 (fun H locs hW hS => ?_)
      refine lv_iload_n hx hb dX6_weather_55 rfl (lv_at hl 0 rfl) ?_
      exact m_ret S hr hlocks hS hW (by simp [RR, sp_weather, bad, isB, isP, isJ, c_9, c_21_1, qj]) dX6_weather_56
    · refine lv_iconst (v := 2) hx hb dX6_weather_24 (by decide) ?_
      refine lv_goto (tgt := 29) hx hb dX6_weather_25 (by decide) ?_
      refine m_putt S hE hS hW tw_740 dX6_weather_29 (fun H locs hW hS => ?_)
      refine lv_aload_n hx hb dX6_weather_32 rfl (lv_at hl 0 rfl) ?_
      refine m_gett S hE hW tw_740 dX6_weather_33 ?_
      refine lv_if_le (tgt := 41) hx hb dX6_weather_36 (by decide) (fun h9 => absurd h9 (by decide)) (fun _ => ?_)
      refine lv_iconst (v := 0) hx hb dX6_weather_39 (by decide) ?_
      exact m_ret S hr hlocks hS hW (by simp [RR, sp_weather, bad, isB, isP, isJ, c_9, c_21_1, qj]) dX6_weather_40
  · refine lv_iconst (v := 1) hx hb dX6_weather_12 (by decide) ?_
    refine lv_goto (tgt := 29) hx hb dX6_weather_13 (by decide) ?_
    refine m_putt S hE hS hW tw_740 dX6_weather_29 (fun H locs hW hS => ?_)
    refine lv_aload_n hx hb dX6_weather_32 rfl (lv_at hl 0 rfl) ?_
    refine m_gett S hE hW tw_740 dX6_weather_33 ?_
    refine lv_if_le (tgt := 41) hx hb dX6_weather_36 (by decide) (fun h9 => absurd h9 (by decide)) (fun _ => ?_)
    refine lv_iconst (v := 0) hx hb dX6_weather_39 (by decide) ?_
    exact m_ret S hr hlocks hS hW (by simp [RR, sp_weather, bad, isB, isP, isJ, c_9]) dX6_weather_40
set_option maxHeartbeats 4000000 in
set_option maxRecDepth 100000 in
/-- sharpen(edge) -/
theorem c_X6_sharpen (l : Launch) (z : ZE) (w : WG) (g1 g : GS) (o : Nat → Int64) (t : Int32) (A B : Nat → Int32) (hO : OKg g) (a : Int32) : Met l yX6_sharpen (.code yX6_sharpen cX6_sharpen 3 (some .int) :: wU) ({ frames := 1, cells := 0, slots := 0, locals := 23 }) (PE z [.ref (wad w 9 (0)), .int a] (fun H => MW z w g1 o g t A B H)) (qM z w g1 o (fun r u => RR (sp_sharpen g a) r u.2.1 u.1)) 0 0 (zA z) := by
  refine Met.ofW (cc := cX6_sharpen) (maxL := 3) (ret := (some .int)) (by decide) rfl ?_
  intro p e s m args below meth c s₁ BD hml hv
  obtain ⟨rfl, hE, hW⟩ := hv
  have hts : ∀ w ∈ wU, w.before _ s = true := fun w h => atoms_spec (ws := .code yX6_sharpen cX6_sharpen 3 (some .int) :: wU) BD.pre w (List.mem_cons_of_mem _ h)
  have S : CallFix p m c cX6_sharpen 3 s ([.ref (wad w 9 (0)), .int a] : List Value).toArray wU RX6 := ⟨BD.exec, BD.bytes, hml, findClass_of_methodNamed BD.named, hts⟩
  have hx := S.1
  have hb := S.2.1
  have hown := S.2.2.2.1
  have hr := BD.returns
  have hlocks := BD.notSynchronized
  have hS : va_S (zA z) s.heap s.heap [] := va_S.rf
  have hl := lv_entry ([.ref (wad w 9 (0)), .int a]) (n := 3) (Nat.le_of_ble_eq_true rfl)
  rw [lg_entry_eq]
  generalize (lg_sl ([.ref (wad w 9 (0)), .int a]) ++ List.replicate (3 - (lg_sl ([.ref (wad w 9 (0)), .int a])).length) Slot.unset).toArray = ls at hl ⊢
  have hl : lv_has ls 3 [(0, .ref (wad w 9 (0))), (1, .int a)] := hl
  have h20 := hO.l5
  have h40 := hO.l16
  have h30 := hO.l24
  refine lv_aload_n hx hb dX6_sharpen_0 rfl (lv_at hl 0 rfl) ?_
  refine lv_aload_n hx hb dX6_sharpen_1 rfl (lv_at hl 0 rfl) ?_
  refine lv_iload_n hx hb dX6_sharpen_2 rfl (lv_at hl 1 rfl) ?_
  refine lv_iconst (v := 0) hx hb dX6_sharpen_3 (by decide) ?_
  refine lv_iconst (v := 1) hx hb dX6_sharpen_4 (by decide) ?_
  refine g_callV (As := [.int a, .int 0, .int 1]) (rest := [.ref (wad w 9 (0))]) S hE hS (c_X6_between l z w g1 g o (t) A B (a) (0) (1)) (cwV 3 hts (gU_V tw_858 tw_860 tp_15 tw_6 tw_861) rfl rfl rfl (by decide +kernel) ⟨Nat.le_of_ble_eq_true rfl, Nat.le_of_ble_eq_true rfl⟩) (by obtain ⟨gm9, hW9, -⟩ := hW; exact hE.recv hW9.md (q := (RX6, TX6, 36)) rfl) hW rfl hl.1 rfl (Nat.le_of_ble_eq_true rfl) dX6_sharpen_5 ⟨Nat.zero_le _, Nat.zero_le _⟩ ?_
  refine g_if_ne S (tgt := 15) dX6_sharpen_8 (by decide) (fun c_8 => ?_) (fun c_8 => ?_)
  · obtain ⟨j, hj, rfl⟩ := wi_nat (n := 1) (by omega) c_8
    have qj : (nI j).toNatClampNeg = j := nI_clamp (by omega)
    refine lv_iconst (v := 0) hx hb dX6_sharpen_15 (by decide) ?_
    refine m_putt S hE hS hW tw_740 dX6_sharpen_16 (fun H locs hW hS => ?_)
    refine lv_aload_n hx hb dX6_sharpen_19 rfl (lv_at hl 0 rfl) ?_
    refine m_gett S hE hW tw_740 dX6_sharpen_20 ?_
    refine lv_if_le (tgt := 28) hx hb dX6_sharpen_23 (by decide) (fun _ => ?_) (fun h9 => absurd h9 (by decide))
    refine lv_aload_n hx hb dX6_sharpen_28 rfl (lv_at hl 0 rfl) ?_
    refine m_geta S hE hW 3 (by decide) rfl tw_743 rfl dX6_sharpen_29 ?_
    refine lv_iload_n hx hb dX6_sharpen_32 rfl (lv_at hl 1 rfl) ?_
    refine m_ald S hE hW (k := 3) (v := g 3 j) rfl (vp_in_nI (show j < 2 from (by omega)) (by decide)) (by rw [show (nI j : Int32).toNatClampNeg = j from (nI_clamp (by omega))]) dX6_sharpen_33 ?_
    refine lv_istore_n (lv' := [(2, .int (g 3 j)), (0, .ref (wad w 9 (0))), (1, .int (nI j))]) hx hb dX6_sharpen_34 rfl hl (by decide) rfl (fun ls hl => ?_)
    refine lv_aload_n hx hb dX6_sharpen_35 rfl (lv_at hl 1 rfl) ?_
    refine m_geta S hE hW 3 (by decide) rfl tw_743 rfl dX6_sharpen_36 ?_
    refine lv_iload_n hx hb dX6_sharpen_39 rfl (lv_at hl 2 rfl) ?_
    refine lv_bipush (v := 100) hx hb dX6_sharpen_40 (by decide) ?_
    refine m_ast S hE hS hW (k := 3) (j := j) rfl (vp_in_nI (show j < 2 from (by omega)) (by decide)) (nI_clamp (by omega)) dX6_sharpen_42 (fun H locs hW hS => ?_)
    refine lv_iload_n hx hb dX6_sharpen_43 rfl (lv_at hl 0 rfl) ?_
    exact m_ret S hr hlocks hS hW (by simp [RR, sp_sharpen, bad, isB, isP, isJ, c_8, qj]) dX6_sharpen_44
  · refine lv_iconst (v := 1) hx hb dX6_sharpen_11 (by decide) ?_
    refine lv_goto (tgt := 16) hx hb dX6_sharpen_12 (by decide) ?_
    refine m_putt S hE hS hW tw_740 dX6_sharpen_16 (fun H locs hW hS => ?_)
    refine lv_aload_n hx hb dX6_sharpen_19 rfl (lv_at hl 0 rfl) ?_
    refine m_gett S hE hW tw_740 dX6_sharpen_20 ?_
    refine lv_if_le (tgt := 28) hx hb dX6_sharpen_23 (by decide) (fun h9 => absurd h9 (by decide)) (fun _ => ?_)
    refine lv_iconst (v := 0) hx hb dX6_sharpen_26 (by decide) ?_
    exact m_ret S hr hlocks hS hW (by simp [RR, sp_sharpen, bad, isB, isP, isJ, c_8]) dX6_sharpen_27
set_option maxHeartbeats 4000000 in
set_option maxRecDepth 100000 in
/-- clamps(clamps) -/
theorem c_X6_clamps (l : Launch) (z : ZE) (w : WG) (g1 g : GS) (o : Nat → Int64) (t : Int32) (A B : Nat → Int32) (hO : OKg g) (a : Int32) : Met l yX6_clamps (.code yX6_clamps cX6_clamps 3 (some .int) :: wU) ({ frames := 1, cells := 0, slots := 0, locals := 23 }) (PE z [.ref (wad w 9 (0)), .int a] (fun H => MW z w g1 o g t A B H)) (qM z w g1 o (fun r u => RR (sp_clamps g a) r u.2.1 u.1)) 0 0 (zA z) := by
  refine Met.ofW (cc := cX6_clamps) (maxL := 3) (ret := (some .int)) (by decide) rfl ?_
  intro p e s m args below meth c s₁ BD hml hv
  obtain ⟨rfl, hE, hW⟩ := hv
  have hts : ∀ w ∈ wU, w.before _ s = true := fun w h => atoms_spec (ws := .code yX6_clamps cX6_clamps 3 (some .int) :: wU) BD.pre w (List.mem_cons_of_mem _ h)
  have S : CallFix p m c cX6_clamps 3 s ([.ref (wad w 9 (0)), .int a] : List Value).toArray wU RX6 := ⟨BD.exec, BD.bytes, hml, findClass_of_methodNamed BD.named, hts⟩
  have hx := S.1
  have hb := S.2.1
  have hown := S.2.2.2.1
  have hr := BD.returns
  have hlocks := BD.notSynchronized
  have hS : va_S (zA z) s.heap s.heap [] := va_S.rf
  have hl := lv_entry ([.ref (wad w 9 (0)), .int a]) (n := 3) (Nat.le_of_ble_eq_true rfl)
  rw [lg_entry_eq]
  generalize (lg_sl ([.ref (wad w 9 (0)), .int a]) ++ List.replicate (3 - (lg_sl ([.ref (wad w 9 (0)), .int a])).length) Slot.unset).toArray = ls at hl ⊢
  have hl : lv_has ls 3 [(0, .ref (wad w 9 (0))), (1, .int a)] := hl
  have h20 := hO.l5
  have h40 := hO.l16
  have h30 := hO.l24
  refine lv_aload_n hx hb dX6_clamps_0 rfl (lv_at hl 0 rfl) ?_
  refine lv_aload_n hx hb dX6_clamps_1 rfl (lv_at hl 0 rfl) ?_
  refine lv_iload_n hx hb dX6_clamps_2 rfl (lv_at hl 1 rfl) ?_
  refine lv_iconst (v := 1) hx hb dX6_clamps_3 (by decide) ?_
  refine lv_bipush (v := 99) hx hb dX6_clamps_4 (by decide) ?_
  refine g_callV (As := [.int a, .int 1, .int 99]) (rest := [.ref (wad w 9 (0))]) S hE hS (c_X6_between l z w g1 g o (t) A B (a) (1) (99)) (cwV 3 hts (gU_V tw_858 tw_860 tp_15 tw_6 tw_861) rfl rfl rfl (by decide +kernel) ⟨Nat.le_of_ble_eq_true rfl, Nat.le_of_ble_eq_true rfl⟩) (by obtain ⟨gm9, hW9, -⟩ := hW; exact hE.recv hW9.md (q := (RX6, TX6, 36)) rfl) hW rfl hl.1 rfl (Nat.le_of_ble_eq_true rfl) dX6_clamps_6 ⟨Nat.zero_le _, Nat.zero_le _⟩ ?_
  refine g_if_ne S (tgt := 16) dX6_clamps_9 (by decide) (fun c_9 => ?_) (fun c_9 => ?_)
  · refine lv_iconst (v := 0) hx hb dX6_clamps_16 (by decide) ?_
    refine m_putt S hE hS hW tw_740 dX6_clamps_17 (fun H locs hW hS => ?_)
    refine lv_aload_n hx hb dX6_clamps_20 rfl (lv_at hl 0 rfl) ?_
    refine m_gett S hE hW tw_740 dX6_clamps_21 ?_
    refine lv_if_le (tgt := 29) hx hb dX6_clamps_24 (by decide) (fun _ => ?_) (fun h9 => absurd h9 (by decide))
    refine lv_aload_n hx hb dX6_clamps_29 rfl (lv_at hl 0 rfl) ?_
    refine m_geti S hE hW 4 (v := g 4 0) (by decide) rfl (by decide) tw_744 rfl rfl dX6_clamps_30 ?_
    refine lv_istore_n (lv' := [(2, .int (g 4 0)), (0, .ref (wad w 9 (0))), (1, .int a)]) hx hb dX6_clamps_33 rfl hl (by decide) rfl (fun ls hl => ?_)
    refine lv_aload_n hx hb dX6_clamps_34 rfl (lv_at hl 1 rfl) ?_
    refine lv_iload_n hx hb dX6_clamps_35 rfl (lv_at hl 2 rfl) ?_
    refine m_puti S hE hS hW 4 (by decide) rfl (by decide) tw_744 ⟨rfl, rfl, rfl⟩ dX6_clamps_36 (fun H locs hW hS => ?_)
    refine lv_iload_n hx hb dX6_clamps_39 rfl (lv_at hl 0 rfl) ?_
    exact m_ret S hr hlocks hS hW (by simp [RR, sp_clamps, bad, isB, isP, isJ, c_9]) dX6_clamps_40
  · refine lv_iconst (v := 1) hx hb dX6_clamps_12 (by decide) ?_
    refine lv_goto (tgt := 17) hx hb dX6_clamps_13 (by decide) ?_
    refine m_putt S hE hS hW tw_740 dX6_clamps_17 (fun H locs hW hS => ?_)
    refine lv_aload_n hx hb dX6_clamps_20 rfl (lv_at hl 0 rfl) ?_
    refine m_gett S hE hW tw_740 dX6_clamps_21 ?_
    refine lv_if_le (tgt := 29) hx hb dX6_clamps_24 (by decide) (fun h9 => absurd h9 (by decide)) (fun _ => ?_)
    refine lv_iconst (v := 0) hx hb dX6_clamps_27 (by decide) ?_
    exact m_ret S hr hlocks hS hW (by simp [RR, sp_clamps, bad, isB, isP, isJ, c_9]) dX6_clamps_28
set_option maxHeartbeats 4000000 in
set_option maxRecDepth 100000 in
/-- coat(part) -/
theorem c_X6_coat (l : Launch) (z : ZE) (w : WG) (g1 g : GS) (o : Nat → Int64) (t : Int32) (A B : Nat → Int32) (hO : OKg g) (a : Int32) : Met l yX6_coat (.code yX6_coat cX6_coat 2 (some .int) :: wU) ({ frames := 2, cells := 0, slots := 0, locals := 44 }) (PE z [.ref (wad w 9 (0)), .int a] (fun H => MW z w g1 o g t A B H)) (qM z w g1 o (fun r u => RR (sp_coat g a) r u.2.1 u.1)) 0 0 (zA z) := by
  refine Met.ofW (cc := cX6_coat) (maxL := 2) (ret := (some .int)) (by decide) rfl ?_
  intro p e s m args below meth c s₁ BD hml hv
  obtain ⟨rfl, hE, hW⟩ := hv
  have hts : ∀ w ∈ wU, w.before _ s = true := fun w h => atoms_spec (ws := .code yX6_coat cX6_coat 2 (some .int) :: wU) BD.pre w (List.mem_cons_of_mem _ h)
  have S : CallFix p m c cX6_coat 2 s ([.ref (wad w 9 (0)), .int a] : List Value).toArray wU RX6 := ⟨BD.exec, BD.bytes, hml, findClass_of_methodNamed BD.named, hts⟩
  have hx := S.1
  have hb := S.2.1
  have hown := S.2.2.2.1
  have hr := BD.returns
  have hlocks := BD.notSynchronized
  have hS : va_S (zA z) s.heap s.heap [] := va_S.rf
  have hl := lv_entry ([.ref (wad w 9 (0)), .int a]) (n := 2) (Nat.le_of_ble_eq_true rfl)
  rw [lg_entry_eq]
  generalize (lg_sl ([.ref (wad w 9 (0)), .int a]) ++ List.replicate (2 - (lg_sl ([.ref (wad w 9 (0)), .int a])).length) Slot.unset).toArray = ls at hl ⊢
  have hl : lv_has ls 2 [(0, .ref (wad w 9 (0))), (1, .int a)] := hl
  have h20 := hO.l5
  have h40 := hO.l16
  have h30 := hO.l24
  refine lv_aload_n hx hb dX6_coat_0 rfl (lv_at hl 0 rfl) ?_
  refine lv_aload_n hx hb dX6_coat_1 rfl (lv_at hl 0 rfl) ?_
  refine lv_iload_n hx hb dX6_coat_2 rfl (lv_at hl 1 rfl) ?_
  refine g_callV (As := [.int a]) (rest := [.ref (wad w 9 (0))]) S hE hS (c_X6_isPart l z w g1 g o (t) A B hO (a)) (cwV 1 hts (gU_V tw_938 tw_940 tp_28 tw_6 tw_941) rfl rfl rfl (by decide +kernel) ⟨Nat.le_of_ble_eq_true rfl, Nat.le_of_ble_eq_true rfl⟩) (by obtain ⟨gm9, hW9, -⟩ := hW; exact hE.recv hW9.md (q := (RX6, TX6, 36)) rfl) hW rfl hl.1 rfl (Nat.le_of_ble_eq_true rfl) dX6_coat_3 ⟨Nat.zero_le _, Nat.zero_le _⟩ ?_
  refine g_if_ne S (tgt := 13) dX6_coat_6 (by decide) (fun c_6 => ?_) (fun c_6 => ?_)
  · obtain ⟨i, hi, rfl⟩ := wi_lt (n := np g) (by omega) c_6
    have qi : (nI i).toNatClampNeg = i := nI_clamp (by omega)
    refine lv_aload_n hx hb dX6_coat_13 rfl (lv_at hl 0 rfl) ?_
    refine m_geta S hE hW 23 (by decide) rfl tw_763 rfl dX6_coat_14 ?_
    refine lv_iload_n hx hb dX6_coat_17 rfl (lv_at hl 1 rfl) ?_
    refine m_ald S hE hW (k := 23) (v := g 23 i) rfl (vp_in_nI (show i < 40 from (by omega)) (by decide)) (by rw [show (nI i : Int32).toNatClampNeg = i from (nI_clamp (by omega))]) dX6_coat_18 ?_
    refine lv_bipush (v := 6) hx hb dX6_coat_19 (by decide) ?_
    refine lv_icmp_ne (tgt := 28) hx hb dX6_coat_21 (by decide) (fun c_21_1 => ?_) (fun c_21_1 => ?_)
    · refine lv_iconst (v := 0) hx hb dX6_coat_28 (by decide) ?_
      refine m_putt S hE hS hW tw_740 dX6_coat_29 (fun H locs hW hS => ?_)
      refine lv_aload_n hx hb dX6_coat_32 rfl (lv_at hl 0 rfl) ?_
      refine m_gett S hE hW tw_740 dX6_coat_33 ?_
      refine lv_if_le (tgt := 41) hx hb dX6_coat_36 (by decide) (fun _ => ?_) (fun h9 => absurd h9 (by decide))
      refine lv_aload_n hx hb dX6_coat_41 rfl (lv_at hl 0 rfl) ?_
      refine m_geta S hE hW 23 (by decide) rfl tw_763 rfl dX6_coat_42 ?_
      refine lv_iload_n hx hb dX6_coat_45 rfl (lv_at hl 1 rfl) ?_
      refine lv_dup2_11 hx hb dX6_coat_46 rfl rfl ?_
      refine m_ald S hE hW (k := 23) (v := g 23 i) rfl (vp_in_nI (show i < 40 from (by omega)) (by decide)) (by rw [show (nI i : Int32).toNatClampNeg = i from (nI_clamp (by omega))]) dX6_coat_47 ?_
      refine lv_iconst (v := 1) hx hb dX6_coat_48 (by decide) ?_
      refine lv_iadd hx hb dX6_coat_49 ?_
      refine m_ast S hE hS hW (k := 23) (j := i) rfl (vp_in_nI (show i < 40 from (by omega)) (by decide)) (nI_clamp (by omega)) dX6_coat_50 (fun H locs hW hS => ?_)
      refine lv_aload_n hx hb dX6_coat_51 rfl (lv_at hl 0 rfl) ?_
      refine m_geta S hE hW 23 (by decide) rfl tw_763 rfl dX6_coat_52 ?_
      refine lv_iload_n hx hb dX6_coat_55 rfl (lv_at hl 1 rfl) ?_
      refine m_ald S hE hW (k := 23) (v := (g 23 i) + 1) rfl (vp_in_nI (show i < 40 from (by omega)) (by decide)) (by rw [show (nI i : Int32).toNatClampNeg = i from (nI_clamp (by omega))]; exact (by simp [gup])) dX6_coat_56 ?_
      exact m_ret S hr hlocks hS hW (by simp [RR, sp_coat, bad, isB, isP, isJ, c_6, c_21_1, qi]) dX6_coat_57
    · refine lv_iconst (v := 2) hx hb dX6_coat_24 (by decide) ?_
      refine lv_goto (tgt := 29) hx hb dX6_coat_25 (by decide) ?_
      refine m_putt S hE hS hW tw_740 dX6_coat_29 (fun H locs hW hS => ?_)
      refine lv_aload_n hx hb dX6_coat_32 rfl (lv_at hl 0 rfl) ?_
      refine m_gett S hE hW tw_740 dX6_coat_33 ?_
      refine lv_if_le (tgt := 41) hx hb dX6_coat_36 (by decide) (fun h9 => absurd h9 (by decide)) (fun _ => ?_)
      refine lv_iconst (v := 0) hx hb dX6_coat_39 (by decide) ?_
      exact m_ret S hr hlocks hS hW (by simp [RR, sp_coat, bad, isB, isP, isJ, c_6, c_21_1, qi]) dX6_coat_40
  · refine lv_iconst (v := 1) hx hb dX6_coat_9 (by decide) ?_
    refine lv_goto (tgt := 29) hx hb dX6_coat_10 (by decide) ?_
    refine m_putt S hE hS hW tw_740 dX6_coat_29 (fun H locs hW hS => ?_)
    refine lv_aload_n hx hb dX6_coat_32 rfl (lv_at hl 0 rfl) ?_
    refine m_gett S hE hW tw_740 dX6_coat_33 ?_
    refine lv_if_le (tgt := 41) hx hb dX6_coat_36 (by decide) (fun h9 => absurd h9 (by decide)) (fun _ => ?_)
    refine lv_iconst (v := 0) hx hb dX6_coat_39 (by decide) ?_
    exact m_ret S hr hlocks hS hW (by simp [RR, sp_coat, bad, isB, isP, isJ, c_6]) dX6_coat_40
set_option maxHeartbeats 4000000 in
set_option maxRecDepth 100000 in
/-- month() -/
theorem c_X6_month (l : Launch) (z : ZE) (w : WG) (g1 g : GS) (o : Nat → Int64) (t : Int32) (A B : Nat → Int32) (hO : OKg g) : Met l yX6_month (.code yX6_month cX6_month 1 (some .int) :: wU) ({ frames := 0, cells := 0, slots := 0, locals := 0 }) (PE z [.ref (wad w 9 (0))] (fun H => MW z w g1 o g t A B H)) (qM z w g1 o (fun r u => RR (sp_month g) r u.2.1 u.1)) 0 0 (zA z) := by
  refine Met.ofW (cc := cX6_month) (maxL := 1) (ret := (some .int)) (by decide) rfl ?_
  intro p e s m args below meth c s₁ BD hml hv
  obtain ⟨rfl, hE, hW⟩ := hv
  have hts : ∀ w ∈ wU, w.before _ s = true := fun w h => atoms_spec (ws := .code yX6_month cX6_month 1 (some .int) :: wU) BD.pre w (List.mem_cons_of_mem _ h)
  have S : CallFix p m c cX6_month 1 s ([.ref (wad w 9 (0))] : List Value).toArray wU RX6 := ⟨BD.exec, BD.bytes, hml, findClass_of_methodNamed BD.named, hts⟩
  have hx := S.1
  have hb := S.2.1
  have hown := S.2.2.2.1
  have hr := BD.returns
  have hlocks := BD.notSynchronized
  have hS : va_S (zA z) s.heap s.heap [] := va_S.rf
  have hl := lv_entry ([.ref (wad w 9 (0))]) (n := 1) (Nat.le_of_ble_eq_true rfl)
  rw [lg_entry_eq]
  generalize (lg_sl ([.ref (wad w 9 (0))]) ++ List.replicate (1 - (lg_sl ([.ref (wad w 9 (0))])).length) Slot.unset).toArray = ls at hl ⊢
  have hl : lv_has ls 1 [(0, .ref (wad w 9 (0)))] := hl
  have h20 := hO.l5
  have h40 := hO.l16
  have h30 := hO.l24
  refine lv_aload_n hx hb dX6_month_0 rfl (lv_at hl 0 rfl) ?_
  refine lv_iconst (v := 0) hx hb dX6_month_1 (by decide) ?_
  refine m_putt S hE hS hW tw_740 dX6_month_2 (fun H locs hW hS => ?_)
  refine lv_aload_n hx hb dX6_month_5 rfl (lv_at hl 0 rfl) ?_
  refine m_geti S hE hW 1 (v := nI (mo g)) (by decide) rfl (by decide) tw_741 rfl hO.n1 dX6_month_6 ?_
  exact m_ret S hr hlocks hS hW (by simp [RR, sp_month, bad, isB, isP, isJ]) dX6_month_9
set_option maxHeartbeats 4000000 in
set_option maxRecDepth 100000 in
/-- match(part, other) -/
theorem c_X6_match (l : Launch) (z : ZE) (w : WG) (g1 g : GS) (o : Nat → Int64) (t : Int32) (A B : Nat → Int32) (hO : OKg g) (a b : Int32) : Met l yX6_match (.code yX6_match cX6_match 6 (some .int) :: wU) ({ frames := 2, cells := 0, slots := 0, locals := 44 }) (PE z [.ref (wad w 9 (0)), .int a, .int b] (fun H => MW z w g1 o g t A B H)) (qM z w g1 o (fun r u => RR (sp_match g a b) r u.2.1 u.1)) 0 0 (zA z) := by
  refine Met.ofW (cc := cX6_match) (maxL := 6) (ret := (some .int)) (by decide) rfl ?_
  intro p e s m args below meth c s₁ BD hml hv
  obtain ⟨rfl, hE, hW⟩ := hv
  have hts : ∀ w ∈ wU, w.before _ s = true := fun w h => atoms_spec (ws := .code yX6_match cX6_match 6 (some .int) :: wU) BD.pre w (List.mem_cons_of_mem _ h)
  have S : CallFix p m c cX6_match 6 s ([.ref (wad w 9 (0)), .int a, .int b] : List Value).toArray wU RX6 := ⟨BD.exec, BD.bytes, hml, findClass_of_methodNamed BD.named, hts⟩
  have hx := S.1
  have hb := S.2.1
  have hown := S.2.2.2.1
  have hr := BD.returns
  have hlocks := BD.notSynchronized
  have hS : va_S (zA z) s.heap s.heap [] := va_S.rf
  have hl := lv_entry ([.ref (wad w 9 (0)), .int a, .int b]) (n := 6) (Nat.le_of_ble_eq_true rfl)
  rw [lg_entry_eq]
  generalize (lg_sl ([.ref (wad w 9 (0)), .int a, .int b]) ++ List.replicate (6 - (lg_sl ([.ref (wad w 9 (0)), .int a, .int b])).length) Slot.unset).toArray = ls at hl ⊢
  have hl : lv_has ls 6 [(0, .ref (wad w 9 (0))), (1, .int a), (2, .int b)] := hl
  have h20 := hO.l5
  have h40 := hO.l16
  have h30 := hO.l24
  refine lv_aload_n hx hb dX6_match_0 rfl (lv_at hl 0 rfl) ?_
  refine lv_aload_n hx hb dX6_match_1 rfl (lv_at hl 0 rfl) ?_
  refine lv_iload_n hx hb dX6_match_2 rfl (lv_at hl 1 rfl) ?_
  refine g_callV (As := [.int a]) (rest := [.ref (wad w 9 (0))]) S hE hS (c_X6_isPart l z w g1 g o (t) A B hO (a)) (cwV 1 hts (gU_V tw_938 tw_940 tp_28 tw_6 tw_941) rfl rfl rfl (by decide +kernel) ⟨Nat.le_of_ble_eq_true rfl, Nat.le_of_ble_eq_true rfl⟩) (by obtain ⟨gm9, hW9, -⟩ := hW; exact hE.recv hW9.md (q := (RX6, TX6, 36)) rfl) hW rfl hl.1 rfl (Nat.le_of_ble_eq_true rfl) dX6_match_3 ⟨Nat.zero_le _, Nat.zero_le _⟩ ?_
  refine g_if_eq S (tgt := 17) dX6_match_6 (by decide) (fun c_6 => ?_) (fun c_6 => ?_)
  · refine lv_iconst (v := 1) hx hb dX6_match_17 (by decide) ?_
    refine lv_goto (tgt := 31) hx hb dX6_match_18 (by decide) ?_
    refine m_putt S hE hS hW tw_740 dX6_match_31 (fun H locs hW hS => ?_)
    refine lv_aload_n hx hb dX6_match_34 rfl (lv_at hl 0 rfl) ?_
    refine m_gett S hE hW tw_740 dX6_match_35 ?_
    refine lv_if_le (tgt := 43) hx hb dX6_match_38 (by decide) (fun h9 => absurd h9 (by decide)) (fun _ => ?_)
    refine lv_iconst (v := 0) hx hb dX6_match_41 (by decide) ?_
    exact m_ret S hr hlocks hS hW (by simp [RR, sp_match, mtc, bad, isB, isP, isJ, c_6]) dX6_match_42
  · obtain ⟨i, hi, rfl⟩ := wi_lt (n := np g) (by omega) c_6
    have qi : (nI i).toNatClampNeg = i := nI_clamp (by omega)
    have hpbi := hO.l17 hi
    refine lv_aload_n hx hb dX6_match_9 rfl (lv_at hl 0 rfl) ?_
    refine lv_iload_n hx hb dX6_match_10 rfl (lv_at hl 2 rfl) ?_
    refine g_callV (As := [.int b]) (rest := [.ref (wad w 9 (0))]) S hE hS (c_X6_isPart l z w g1 g o (t) A B hO (b)) (cwV 1 hts (gU_V tw_938 tw_940 tp_28 tw_6 tw_941) rfl rfl rfl (by decide +kernel) ⟨Nat.le_of_ble_eq_true rfl, Nat.le_of_ble_eq_true rfl⟩) (by obtain ⟨gm9, hW9, -⟩ := hW; exact hE.recv hW9.md (q := (RX6, TX6, 36)) rfl) hW rfl hl.1 rfl (Nat.le_of_ble_eq_true rfl) dX6_match_11 ⟨Nat.zero_le _, Nat.zero_le _⟩ ?_
    refine g_if_ne S (tgt := 21) dX6_match_14 (by decide) (fun c_14_1 => ?_) (fun c_14_1 => ?_)
    · obtain ⟨k, hk, rfl⟩ := wi_lt (n := np g) (by omega) c_14_1
      have qk : (nI k).toNatClampNeg = k := nI_clamp (by omega)
      have hpbk := hO.l17 hk
      have qe : (nI i = nI k) = (i = k) := propext (nI_eq (by omega) (by omega))
      refine lv_iload_n hx hb dX6_match_21 rfl (lv_at hl 1 rfl) ?_
      refine lv_iload_n hx hb dX6_match_22 rfl (lv_at hl 2 rfl) ?_
      refine g_icmp_ne S (by omega) (by omega) (tgt := 30) dX6_match_23 (by decide) (fun c_23_2 => ?_) (fun c_23_2 => ?_)
      · refine lv_iconst (v := 0) hx hb dX6_match_30 (by decide) ?_
        refine m_putt S hE hS hW tw_740 dX6_match_31 (fun H locs hW hS => ?_)
        refine lv_aload_n hx hb dX6_match_34 rfl (lv_at hl 0 rfl) ?_
        refine m_gett S hE hW tw_740 dX6_match_35 ?_
        refine lv_if_le (tgt := 43) hx hb dX6_match_38 (by decide) (fun _ => ?_) (fun h9 => absurd h9 (by decide))
        refine lv_aload_n hx hb dX6_match_43 rfl (lv_at hl 0 rfl) ?_
        refine m_geta S hE hW 17 (by decide) rfl tw_757 rfl dX6_match_44 ?_
        refine lv_iload_n hx hb dX6_match_47 rfl (lv_at hl 1 rfl) ?_
        refine m_ald S hE hW (k := 17) (v := nI (pb g (i))) rfl (vp_in_nI (show i < 40 from (by omega)) (by decide)) (by rw [show (nI i : Int32).toNatClampNeg = i from (nI_clamp (by omega))]; exact (hO.n17 (i := i) (by omega))) dX6_match_48 ?_
        refine lv_istore_n (lv' := [(3, .int (nI (pb g (i)))), (0, .ref (wad w 9 (0))), (1, .int (nI i)), (2, .int (nI k))]) hx hb dX6_match_49 rfl hl (by decide) rfl (fun ls hl => ?_)
        refine lv_aload_n hx hb dX6_match_50 rfl (lv_at hl 1 rfl) ?_
        refine m_geta S hE hW 17 (by decide) rfl tw_757 rfl dX6_match_51 ?_
        refine lv_iload_n hx hb dX6_match_54 rfl (lv_at hl 3 rfl) ?_
        refine m_ald S hE hW (k := 17) (v := nI (pb g (k))) rfl (vp_in_nI (show k < 40 from (by omega)) (by decide)) (by rw [show (nI k : Int32).toNatClampNeg = k from (nI_clamp (by omega))]; exact (hO.n17 (i := k) (by omega))) dX6_match_55 ?_
        refine lv_istore (lv' := [(4, .int (nI (pb g (k)))), (3, .int (nI (pb g (i)))), (0, .ref (wad w 9 (0))), (1, .int (nI i)), (2, .int (nI k))]) hx hb dX6_match_56 hl (by decide) rfl (fun ls hl => ?_)
        refine lv_aload_n hx hb dX6_match_58 rfl (lv_at hl 2 rfl) ?_
        refine m_geta S hE hW 8 (by decide) rfl tw_748 rfl dX6_match_59 ?_
        refine lv_iload_n hx hb dX6_match_62 rfl (lv_at hl 1 rfl) ?_
        refine m_ald S hE hW (k := 8) (v := g 8 (pb g (i))) rfl (vp_in_nI (show pb g (i) < 20 from (by omega)) (by decide)) (by rw [show (nI (pb g (i)) : Int32).toNatClampNeg = pb g (i) from (nI_clamp (by omega))]) dX6_match_63 ?_
        refine lv_aload_n hx hb dX6_match_64 rfl (lv_at hl 2 rfl) ?_
        refine m_geta S hE hW 8 (by decide) rfl tw_748 rfl dX6_match_65 ?_
        refine lv_iload hx hb dX6_match_68 (lv_at hl 0 rfl) ?_
        refine m_ald S hE hW (k := 8) (v := g 8 (pb g (k))) rfl (vp_in_nI (show pb g (k) < 20 from (by omega)) (by decide)) (by rw [show (nI (pb g (k)) : Int32).toNatClampNeg = pb g (k) from (nI_clamp (by omega))]) dX6_match_70 ?_
        refine lv_isub hx hb dX6_match_71 ?_
        refine lv_istore (lv' := [(5, .int ((g 8 (pb g (i))) - (g 8 (pb g (k))))), (4, .int (nI (pb g (k)))), (3, .int (nI (pb g (i)))), (0, .ref (wad w 9 (0))), (1, .int (nI i)), (2, .int (nI k))]) hx hb dX6_match_72 hl (by decide) rfl (fun ls hl => ?_)
        refine lv_iload_n hx hb dX6_match_74 rfl (lv_at hl 2 rfl) ?_
        refine lv_iload hx hb dX6_match_75 (lv_at hl 1 rfl) ?_
        refine g_icmp_ne S (by omega) (by omega) (tgt := 84) dX6_match_77 (by decide) (fun c_77_3 => ?_) (fun c_77_3 => ?_)
        · refine lv_aload_n hx hb dX6_match_84 rfl (lv_at hl 3 rfl) ?_
          refine m_geta S hE hW 7 (by decide) rfl tw_747 rfl dX6_match_85 ?_
          refine lv_iload_n hx hb dX6_match_88 rfl (lv_at hl 2 rfl) ?_
          refine m_ald S hE hW (k := 7) (v := g 7 (pb g (i))) rfl (vp_in_nI (show pb g (i) < 20 from (by omega)) (by decide)) (by rw [show (nI (pb g (i)) : Int32).toNatClampNeg = pb g (i) from (nI_clamp (by omega))]) dX6_match_89 ?_
          refine lv_aload_n hx hb dX6_match_90 rfl (lv_at hl 3 rfl) ?_
          refine m_geta S hE hW 7 (by decide) rfl tw_747 rfl dX6_match_91 ?_
          refine lv_iload hx hb dX6_match_94 (lv_at hl 1 rfl) ?_
          refine m_ald S hE hW (k := 7) (v := g 7 (pb g (k))) rfl (vp_in_nI (show pb g (k) < 20 from (by omega)) (by decide)) (by rw [show (nI (pb g (k)) : Int32).toNatClampNeg = pb g (k) from (nI_clamp (by omega))]) dX6_match_96 ?_
          refine lv_icmp_eq (tgt := 104) hx hb dX6_match_97 (by decide) (fun c_97_4 => ?_) (fun c_97_4 => ?_)
          · refine lv_iload hx hb dX6_match_104 (lv_at hl 0 rfl) ?_
            refine lv_iconst (v := 1) hx hb dX6_match_106 (by decide) ?_
            refine lv_icmp_eq (tgt := 116) hx hb dX6_match_107 (by decide) (fun c_107_5 => ?_) (fun c_107_5 => ?_)
            · refine lv_iconst (v := 2) hx hb dX6_match_116 (by decide) ?_
              refine lv_goto (tgt := 121) hx hb dX6_match_117 (by decide) ?_
              exact m_ret S hr hlocks hS hW (by simp [RR, sp_match, mtc, bad, isB, isP, isJ, c_6, c_14_1, c_23_2, c_77_3, c_97_4, c_107_5, qi, qk, qe]) dX6_match_121
            · refine lv_iload hx hb dX6_match_110 (lv_at hl 0 rfl) ?_
              refine lv_iconst (v := (-1)) hx hb dX6_match_112 (by decide) ?_
              refine lv_icmp_ne (tgt := 120) hx hb dX6_match_113 (by decide) (fun c_113_6 => ?_) (fun c_113_6 => ?_)
              · refine lv_iconst (v := 1) hx hb dX6_match_120 (by decide) ?_
                exact m_ret S hr hlocks hS hW (by simp [RR, sp_match, mtc, bad, isB, isP, isJ, c_6, c_14_1, c_23_2, c_77_3, c_97_4, c_107_5, c_113_6, qi, qk, qe]) dX6_match_121
              · refine lv_iconst (v := 2) hx hb dX6_match_116 (by decide) ?_
                refine lv_goto (tgt := 121) hx hb dX6_match_117 (by decide) ?_
                exact m_ret S hr hlocks hS hW (by simp [RR, sp_match, mtc, bad, isB, isP, isJ, c_6, c_14_1, c_23_2, c_77_3, c_97_4, c_107_5, c_113_6, qi, qk, qe]) dX6_match_121
          · refine lv_iconst (v := 0) hx hb dX6_match_100 (by decide) ?_
            refine lv_goto (tgt := 121) hx hb dX6_match_101 (by decide) ?_
            exact m_ret S hr hlocks hS hW (by simp [RR, sp_match, mtc, bad, isB, isP, isJ, c_6, c_14_1, c_23_2, c_77_3, c_97_4, qi, qk, qe]) dX6_match_121
        · refine lv_iconst (v := 3) hx hb dX6_match_80 (by decide) ?_
          refine lv_goto (tgt := 121) hx hb dX6_match_81 (by decide) ?_
          exact m_ret S hr hlocks hS hW (by simp [RR, sp_match, mtc, bad, isB, isP, isJ, c_6, c_14_1, c_23_2, c_77_3, qi, qk, qe]) dX6_match_121
      · refine lv_iconst (v := 2) hx hb dX6_match_26 (by decide) ?_
        refine lv_goto (tgt := 31) hx hb dX6_match_27 (by decide) ?_
        refine m_putt S hE hS hW tw_740 dX6_match_31 (fun H locs hW hS => ?_)
        refine lv_aload_n hx hb dX6_match_34 rfl (lv_at hl 0 rfl) ?_
        refine m_gett S hE hW tw_740 dX6_match_35 ?_
        refine lv_if_le (tgt := 43) hx hb dX6_match_38 (by decide) (fun h9 => absurd h9 (by decide)) (fun _ => ?_)
        refine lv_iconst (v := 0) hx hb dX6_match_41 (by decide) ?_
        exact m_ret S hr hlocks hS hW (by simp [RR, sp_match, mtc, bad, isB, isP, isJ, c_6, c_14_1, c_23_2, qi, qk, qe]) dX6_match_42
    · refine lv_iconst (v := 1) hx hb dX6_match_17 (by decide) ?_
      refine lv_goto (tgt := 31) hx hb dX6_match_18 (by decide) ?_
      refine m_putt S hE hS hW tw_740 dX6_match_31 (fun H locs hW hS => ?_)
      refine lv_aload_n hx hb dX6_match_34 rfl (lv_at hl 0 rfl) ?_
      refine m_gett S hE hW tw_740 dX6_match_35 ?_
      refine lv_if_le (tgt := 43) hx hb dX6_match_38 (by decide) (fun h9 => absurd h9 (by decide)) (fun _ => ?_)
      refine lv_iconst (v := 0) hx hb dX6_match_41 (by decide) ?_
      exact m_ret S hr hlocks hS hW (by simp [RR, sp_match, mtc, bad, isB, isP, isJ, c_6, c_14_1, qi]) dX6_match_42
set_option maxHeartbeats 4000000 in
set_option maxRecDepth 100000 in
/-- need(joint, needed) -/
theorem c_X6_need (l : Launch) (z : ZE) (w : WG) (g1 g : GS) (o : Nat → Int64) (t : Int32) (A B : Nat → Int32) (hO : OKg g) (a b : Int32) : Met l yX6_need (.code yX6_need cX6_need 3 (some .int) :: wU) ({ frames := 2, cells := 0, slots := 0, locals := 44 }) (PE z [.ref (wad w 9 (0)), .int a, .int b] (fun H => MW z w g1 o g t A B H)) (qM z w g1 o (fun r u => RR (sp_need g a b) r u.2.1 u.1)) 0 0 (zA z) := by
  refine Met.ofW (cc := cX6_need) (maxL := 3) (ret := (some .int)) (by decide) rfl ?_
  intro p e s m args below meth c s₁ BD hml hv
  obtain ⟨rfl, hE, hW⟩ := hv
  have hts : ∀ w ∈ wU, w.before _ s = true := fun w h => atoms_spec (ws := .code yX6_need cX6_need 3 (some .int) :: wU) BD.pre w (List.mem_cons_of_mem _ h)
  have S : CallFix p m c cX6_need 3 s ([.ref (wad w 9 (0)), .int a, .int b] : List Value).toArray wU RX6 := ⟨BD.exec, BD.bytes, hml, findClass_of_methodNamed BD.named, hts⟩
  have hx := S.1
  have hb := S.2.1
  have hown := S.2.2.2.1
  have hr := BD.returns
  have hlocks := BD.notSynchronized
  have hS : va_S (zA z) s.heap s.heap [] := va_S.rf
  have hl := lv_entry ([.ref (wad w 9 (0)), .int a, .int b]) (n := 3) (Nat.le_of_ble_eq_true rfl)
  rw [lg_entry_eq]
  generalize (lg_sl ([.ref (wad w 9 (0)), .int a, .int b]) ++ List.replicate (3 - (lg_sl ([.ref (wad w 9 (0)), .int a, .int b])).length) Slot.unset).toArray = ls at hl ⊢
  have hl : lv_has ls 3 [(0, .ref (wad w 9 (0))), (1, .int a), (2, .int b)] := hl
  have h20 := hO.l5
  have h40 := hO.l16
  have h30 := hO.l24
  refine lv_aload_n hx hb dX6_need_0 rfl (lv_at hl 0 rfl) ?_
  refine lv_aload_n hx hb dX6_need_1 rfl (lv_at hl 0 rfl) ?_
  refine lv_iload_n hx hb dX6_need_2 rfl (lv_at hl 1 rfl) ?_
  refine g_callV (As := [.int a]) (rest := [.ref (wad w 9 (0))]) S hE hS (c_X6_isJoint l z w g1 g o (t) A B hO (a)) (cwV 1 hts (gU_V tw_958 tw_960 tp_30 tw_6 tw_961) rfl rfl rfl (by decide +kernel) ⟨Nat.le_of_ble_eq_true rfl, Nat.le_of_ble_eq_true rfl⟩) (by obtain ⟨gm9, hW9, -⟩ := hW; exact hE.recv hW9.md (q := (RX6, TX6, 36)) rfl) hW rfl hl.1 rfl (Nat.le_of_ble_eq_true rfl) dX6_need_3 ⟨Nat.zero_le _, Nat.zero_le _⟩ ?_
  refine g_if_eq S (tgt := 17) dX6_need_6 (by decide) (fun c_6 => ?_) (fun c_6 => ?_)
  · refine lv_iconst (v := 1) hx hb dX6_need_17 (by decide) ?_
    refine lv_goto (tgt := 31) hx hb dX6_need_18 (by decide) ?_
    refine m_putt S hE hS hW tw_740 dX6_need_31 (fun H locs hW hS => ?_)
    refine lv_aload_n hx hb dX6_need_34 rfl (lv_at hl 0 rfl) ?_
    refine m_gett S hE hW tw_740 dX6_need_35 ?_
    refine lv_if_ne (tgt := 59) hx hb dX6_need_38 (by decide) (fun _ => ?_) (fun h9 => absurd h9 (by decide))
    refine lv_aload_n hx hb dX6_need_59 rfl (lv_at hl 0 rfl) ?_
    refine m_gett S hE hW tw_740 dX6_need_60 ?_
    refine lv_if_le (tgt := 68) hx hb dX6_need_63 (by decide) (fun h9 => absurd h9 (by decide)) (fun _ => ?_)
    refine lv_iconst (v := 0) hx hb dX6_need_66 (by decide) ?_
    exact m_ret S hr hlocks hS hW (by simp [RR, sp_need, bad, isB, isP, isJ, c_6]) dX6_need_67
  · obtain ⟨i, hi, rfl⟩ := wi_lt (n := nj g) (by omega) c_6
    have qi : (nI i).toNatClampNeg = i := nI_clamp (by omega)
    have hjpi := hO.l26 hi
    have hjoi := hO.l27 hi
    refine lv_aload_n hx hb dX6_need_9 rfl (lv_at hl 0 rfl) ?_
    refine lv_iload_n hx hb dX6_need_10 rfl (lv_at hl 2 rfl) ?_
    refine g_callV (As := [.int b]) (rest := [.ref (wad w 9 (0))]) S hE hS (c_X6_isJoint l z w g1 g o (t) A B hO (b)) (cwV 1 hts (gU_V tw_958 tw_960 tp_30 tw_6 tw_961) rfl rfl rfl (by decide +kernel) ⟨Nat.le_of_ble_eq_true rfl, Nat.le_of_ble_eq_true rfl⟩) (by obtain ⟨gm9, hW9, -⟩ := hW; exact hE.recv hW9.md (q := (RX6, TX6, 36)) rfl) hW rfl hl.1 rfl (Nat.le_of_ble_eq_true rfl) dX6_need_11 ⟨Nat.zero_le _, Nat.zero_le _⟩ ?_
    refine g_if_ne S (tgt := 21) dX6_need_14 (by decide) (fun c_14_1 => ?_) (fun c_14_1 => ?_)
    · obtain ⟨k, hk, rfl⟩ := wi_lt (n := nj g) (by omega) c_14_1
      have qk : (nI k).toNatClampNeg = k := nI_clamp (by omega)
      have qe : (nI k < nI i) = (k < i) := propext (nI_ltI (by omega) (by omega))
      refine lv_iload_n hx hb dX6_need_21 rfl (lv_at hl 2 rfl) ?_
      refine lv_iload_n hx hb dX6_need_22 rfl (lv_at hl 1 rfl) ?_
      refine g_icmp_lt S (by omega) (by omega) (tgt := 30) dX6_need_23 (by decide) (fun c_23_2 => ?_) (fun c_23_2 => ?_)
      · refine lv_iconst (v := 0) hx hb dX6_need_30 (by decide) ?_
        refine m_putt S hE hS hW tw_740 dX6_need_31 (fun H locs hW hS => ?_)
        refine lv_aload_n hx hb dX6_need_34 rfl (lv_at hl 0 rfl) ?_
        refine m_gett S hE hW tw_740 dX6_need_35 ?_
        refine lv_if_ne (tgt := 59) hx hb dX6_need_38 (by decide) (fun h9 => absurd h9 (by decide)) (fun _ => ?_)
        refine lv_aload_n hx hb dX6_need_41 rfl (lv_at hl 0 rfl) ?_
        refine lv_aload_n hx hb dX6_need_42 rfl (lv_at hl 0 rfl) ?_
        refine m_geta S hE hW 31 (by decide) rfl tw_771 rfl dX6_need_43 ?_
        refine lv_iload_n hx hb dX6_need_46 rfl (lv_at hl 1 rfl) ?_
        refine m_zald S hE hW (k := 31) (v := g 31 i) rfl (vp_in_nI (show i < 30 from (by omega)) (by decide)) (by rw [show (nI i : Int32).toNatClampNeg = i from (nI_clamp (by omega))]) dX6_need_47 ?_
        refine lv_if_eq (tgt := 55) hx hb dX6_need_48 (by decide) (fun c_48_3 => ?_) (fun c_48_3 => ?_)
        · refine lv_iconst (v := 0) hx hb dX6_need_55 (by decide) ?_
          refine m_putt S hE hS hW tw_740 dX6_need_56 (fun H locs hW hS => ?_)
          refine lv_aload_n hx hb dX6_need_59 rfl (lv_at hl 0 rfl) ?_
          refine m_gett S hE hW tw_740 dX6_need_60 ?_
          refine lv_if_le (tgt := 68) hx hb dX6_need_63 (by decide) (fun _ => ?_) (fun h9 => absurd h9 (by decide))
          refine lv_aload_n hx hb dX6_need_68 rfl (lv_at hl 0 rfl) ?_
          refine m_geta S hE hW 30 (by decide) rfl tw_770 rfl dX6_need_69 ?_
          refine lv_iload_n hx hb dX6_need_72 rfl (lv_at hl 1 rfl) ?_
          refine lv_dup2_11 hx hb dX6_need_73 rfl rfl ?_
          refine m_ald S hE hW (k := 30) (v := g 30 i) rfl (vp_in_nI (show i < 30 from (by omega)) (by decide)) (by rw [show (nI i : Int32).toNatClampNeg = i from (nI_clamp (by omega))]) dX6_need_74 ?_
          refine lv_iconst (v := 1) hx hb dX6_need_75 (by decide) ?_
          refine lv_iload_n hx hb dX6_need_76 rfl (lv_at hl 2 rfl) ?_
          refine lv_ishl hx hb dX6_need_77 ?_
          refine lv_ior hx hb dX6_need_78 ?_
          refine m_ast S hE hS hW (k := 30) (j := i) rfl (vp_in_nI (show i < 30 from (by omega)) (by decide)) (nI_clamp (by omega)) dX6_need_79 (fun H locs hW hS => ?_)
          refine lv_aload_n hx hb dX6_need_80 rfl (lv_at hl 0 rfl) ?_
          refine m_geta S hE hW 30 (by decide) rfl tw_770 rfl dX6_need_81 ?_
          refine lv_iload_n hx hb dX6_need_84 rfl (lv_at hl 1 rfl) ?_
          refine m_ald S hE hW (k := 30) (v := (g 30 i) ||| (1 <<< ((nI k) &&& 31))) rfl (vp_in_nI (show i < 30 from (by omega)) (by decide)) (by rw [show (nI i : Int32).toNatClampNeg = i from (nI_clamp (by omega))]; exact (by simp [gup])) dX6_need_85 ?_
          exact m_ret S hr hlocks hS hW (by simp [RR, sp_need, bad, isB, isP, isJ, c_6, c_14_1, c_23_2, c_48_3, qi, qk, qe]) dX6_need_86
        · refine lv_iconst (v := 3) hx hb dX6_need_51 (by decide) ?_
          refine lv_goto (tgt := 56) hx hb dX6_need_52 (by decide) ?_
          refine m_putt S hE hS hW tw_740 dX6_need_56 (fun H locs hW hS => ?_)
          refine lv_aload_n hx hb dX6_need_59 rfl (lv_at hl 0 rfl) ?_
          refine m_gett S hE hW tw_740 dX6_need_60 ?_
          refine lv_if_le (tgt := 68) hx hb dX6_need_63 (by decide) (fun h9 => absurd h9 (by decide)) (fun _ => ?_)
          refine lv_iconst (v := 0) hx hb dX6_need_66 (by decide) ?_
          exact m_ret S hr hlocks hS hW (by simp [RR, sp_need, bad, isB, isP, isJ, c_6, c_14_1, c_23_2, c_48_3, qi, qk, qe]) dX6_need_67
      · refine lv_iconst (v := 2) hx hb dX6_need_26 (by decide) ?_
        refine lv_goto (tgt := 31) hx hb dX6_need_27 (by decide) ?_
        refine m_putt S hE hS hW tw_740 dX6_need_31 (fun H locs hW hS => ?_)
        refine lv_aload_n hx hb dX6_need_34 rfl (lv_at hl 0 rfl) ?_
        refine m_gett S hE hW tw_740 dX6_need_35 ?_
        refine lv_if_ne (tgt := 59) hx hb dX6_need_38 (by decide) (fun _ => ?_) (fun h9 => absurd h9 (by decide))
        refine lv_aload_n hx hb dX6_need_59 rfl (lv_at hl 0 rfl) ?_
        refine m_gett S hE hW tw_740 dX6_need_60 ?_
        refine lv_if_le (tgt := 68) hx hb dX6_need_63 (by decide) (fun h9 => absurd h9 (by decide)) (fun _ => ?_)
        refine lv_iconst (v := 0) hx hb dX6_need_66 (by decide) ?_
        exact m_ret S hr hlocks hS hW (by simp [RR, sp_need, bad, isB, isP, isJ, c_6, c_14_1, c_23_2, qi, qk, qe]) dX6_need_67
    · refine lv_iconst (v := 1) hx hb dX6_need_17 (by decide) ?_
      refine lv_goto (tgt := 31) hx hb dX6_need_18 (by decide) ?_
      refine m_putt S hE hS hW tw_740 dX6_need_31 (fun H locs hW hS => ?_)
      refine lv_aload_n hx hb dX6_need_34 rfl (lv_at hl 0 rfl) ?_
      refine m_gett S hE hW tw_740 dX6_need_35 ?_
      refine lv_if_ne (tgt := 59) hx hb dX6_need_38 (by decide) (fun _ => ?_) (fun h9 => absurd h9 (by decide))
      refine lv_aload_n hx hb dX6_need_59 rfl (lv_at hl 0 rfl) ?_
      refine m_gett S hE hW tw_740 dX6_need_60 ?_
      refine lv_if_le (tgt := 68) hx hb dX6_need_63 (by decide) (fun h9 => absurd h9 (by decide)) (fun _ => ?_)
      refine lv_iconst (v := 0) hx hb dX6_need_66 (by decide) ?_
      exact m_ret S hr hlocks hS hW (by simp [RR, sp_need, bad, isB, isP, isJ, c_6, c_14_1, qi]) dX6_need_67
set_option maxHeartbeats 4000000 in
set_option maxRecDepth 100000 in
/-- repair(joint) -/
theorem c_X6_repair (l : Launch) (z : ZE) (w : WG) (g1 g : GS) (o : Nat → Int64) (t : Int32) (A B : Nat → Int32) (hO : OKg g) (a : Int32) : Met l yX6_repair (.code yX6_repair cX6_repair 3 (some .int) :: wU) ({ frames := 3, cells := 0, slots := 0, locals := 66 }) (PE z [.ref (wad w 9 (0)), .int a] (fun H => MW z w g1 o g t A B H)) (qM z w g1 o (fun r u => RR (sp_repair g a) r u.2.1 u.1)) 0 0 (zA z) := by
  refine Met.ofW (cc := cX6_repair) (maxL := 3) (ret := (some .int)) (by decide) rfl ?_
  intro p e s m args below meth c s₁ BD hml hv
  obtain ⟨rfl, hE, hW⟩ := hv
  have hts : ∀ w ∈ wU, w.before _ s = true := fun w h => atoms_spec (ws := .code yX6_repair cX6_repair 3 (some .int) :: wU) BD.pre w (List.mem_cons_of_mem _ h)
  have S : CallFix p m c cX6_repair 3 s ([.ref (wad w 9 (0)), .int a] : List Value).toArray wU RX6 := ⟨BD.exec, BD.bytes, hml, findClass_of_methodNamed BD.named, hts⟩
  have hx := S.1
  have hb := S.2.1
  have hown := S.2.2.2.1
  have hr := BD.returns
  have hlocks := BD.notSynchronized
  have hS : va_S (zA z) s.heap s.heap [] := va_S.rf
  have hl := lv_entry ([.ref (wad w 9 (0)), .int a]) (n := 3) (Nat.le_of_ble_eq_true rfl)
  rw [lg_entry_eq]
  generalize (lg_sl ([.ref (wad w 9 (0)), .int a]) ++ List.replicate (3 - (lg_sl ([.ref (wad w 9 (0)), .int a])).length) Slot.unset).toArray = ls at hl ⊢
  have hl : lv_has ls 3 [(0, .ref (wad w 9 (0))), (1, .int a)] := hl
  have h20 := hO.l5
  have h40 := hO.l16
  have h30 := hO.l24
  refine lv_aload_n hx hb dX6_repair_0 rfl (lv_at hl 0 rfl) ?_
  refine lv_aload_n hx hb dX6_repair_1 rfl (lv_at hl 0 rfl) ?_
  refine lv_iload_n hx hb dX6_repair_2 rfl (lv_at hl 1 rfl) ?_
  refine g_callV (As := [.int a]) (rest := [.ref (wad w 9 (0))]) S hE hS (c_X6_isJoint l z w g1 g o (t) A B hO (a)) (cwV 1 hts (gU_V tw_958 tw_960 tp_30 tw_6 tw_961) rfl rfl rfl (by decide +kernel) ⟨Nat.le_of_ble_eq_true rfl, Nat.le_of_ble_eq_true rfl⟩) (by obtain ⟨gm9, hW9, -⟩ := hW; exact hE.recv hW9.md (q := (RX6, TX6, 36)) rfl) hW rfl hl.1 rfl (Nat.le_of_ble_eq_true rfl) dX6_repair_3 ⟨Nat.zero_le _, Nat.zero_le _⟩ ?_
  refine g_if_ne S (tgt := 13) dX6_repair_6 (by decide) (fun c_6 => ?_) (fun c_6 => ?_)
  · obtain ⟨i, hi, rfl⟩ := wi_lt (n := nj g) (by omega) c_6
    have qi : (nI i).toNatClampNeg = i := nI_clamp (by omega)
    have hjpi := hO.l26 hi
    have hjoi := hO.l27 hi
    refine lv_iconst (v := 0) hx hb dX6_repair_13 (by decide) ?_
    refine m_putt S hE hS hW tw_740 dX6_repair_14 (fun H locs hW hS => ?_)
    refine lv_aload_n hx hb dX6_repair_17 rfl (lv_at hl 0 rfl) ?_
    refine m_gett S hE hW tw_740 dX6_repair_18 ?_
    refine lv_if_ne (tgt := 42) hx hb dX6_repair_21 (by decide) (fun h9 => absurd h9 (by decide)) (fun _ => ?_)
    refine lv_aload_n hx hb dX6_repair_24 rfl (lv_at hl 0 rfl) ?_
    refine lv_aload_n hx hb dX6_repair_25 rfl (lv_at hl 0 rfl) ?_
    refine m_geta S hE hW 32 (by decide) rfl tw_772 rfl dX6_repair_26 ?_
    refine lv_iload_n hx hb dX6_repair_29 rfl (lv_at hl 1 rfl) ?_
    refine m_zald S hE hW (k := 32) (v := g 32 i) rfl (vp_in_nI (show i < 30 from (by omega)) (by decide)) (by rw [show (nI i : Int32).toNatClampNeg = i from (nI_clamp (by omega))]) dX6_repair_30 ?_
    refine lv_if_ne (tgt := 38) hx hb dX6_repair_31 (by decide) (fun c_31_1 => ?_) (fun c_31_1 => ?_)
    · refine lv_iconst (v := 0) hx hb dX6_repair_38 (by decide) ?_
      refine m_putt S hE hS hW tw_740 dX6_repair_39 (fun H locs hW hS => ?_)
      refine lv_aload_n hx hb dX6_repair_42 rfl (lv_at hl 0 rfl) ?_
      refine m_gett S hE hW tw_740 dX6_repair_43 ?_
      refine lv_if_le (tgt := 51) hx hb dX6_repair_46 (by decide) (fun _ => ?_) (fun h9 => absurd h9 (by decide))
      refine lv_aload_n hx hb dX6_repair_51 rfl (lv_at hl 0 rfl) ?_
      refine m_geta S hE hW 26 (by decide) rfl tw_766 rfl dX6_repair_52 ?_
      refine lv_iload_n hx hb dX6_repair_55 rfl (lv_at hl 1 rfl) ?_
      refine m_ald S hE hW (k := 26) (v := nI (jp g (i))) rfl (vp_in_nI (show i < 30 from (by omega)) (by decide)) (by rw [show (nI i : Int32).toNatClampNeg = i from (nI_clamp (by omega))]; exact (hO.n26 (i := i) (by omega))) dX6_repair_56 ?_
      refine lv_istore_n (lv' := [(2, .int (nI (jp g (i)))), (0, .ref (wad w 9 (0))), (1, .int (nI i))]) hx hb dX6_repair_57 rfl hl (by decide) rfl (fun ls hl => ?_)
      refine lv_aload_n hx hb dX6_repair_58 rfl (lv_at hl 1 rfl) ?_
      refine m_geta S hE hW 32 (by decide) rfl tw_772 rfl dX6_repair_59 ?_
      refine lv_iload_n hx hb dX6_repair_62 rfl (lv_at hl 2 rfl) ?_
      refine lv_iconst (v := 0) hx hb dX6_repair_63 (by decide) ?_
      refine m_zast S hE hS hW (k := 32) (j := i) rfl (vp_in_nI (show i < 30 from (by omega)) (by decide)) (nI_clamp (by omega)) rfl dX6_repair_64 (fun H locs hW hS => ?_)
      refine lv_aload_n hx hb dX6_repair_65 rfl (lv_at hl 1 rfl) ?_
      refine m_geta S hE hW 33 (by decide) rfl tw_773 rfl dX6_repair_66 ?_
      refine lv_iload_n hx hb dX6_repair_69 rfl (lv_at hl 2 rfl) ?_
      refine lv_aload_n hx hb dX6_repair_70 rfl (lv_at hl 1 rfl) ?_
      refine m_geta S hE hW 22 (by decide) rfl tw_762 rfl dX6_repair_71 ?_
      refine lv_iload_n hx hb dX6_repair_74 rfl (lv_at hl 0 rfl) ?_
      refine m_ald S hE hW (k := 22) (v := g 22 (jp g (i))) rfl (vp_in_nI (show jp g (i) < 40 from (by omega)) (by decide)) (by rw [show (nI (jp g (i)) : Int32).toNatClampNeg = jp g (i) from (nI_clamp (by omega))]; exact (by simp [gup])) dX6_repair_75 ?_
      refine m_ast S hE hS hW (k := 33) (j := i) rfl (vp_in_nI (show i < 30 from (by omega)) (by decide)) (nI_clamp (by omega)) dX6_repair_76 (fun H locs hW hS => ?_)
      refine lv_aload_n hx hb dX6_repair_77 rfl (lv_at hl 1 rfl) ?_
      refine m_geta S hE hW 28 (by decide) rfl tw_768 rfl dX6_repair_78 ?_
      refine lv_iload_n hx hb dX6_repair_81 rfl (lv_at hl 2 rfl) ?_
      refine lv_aload_n hx hb dX6_repair_82 rfl (lv_at hl 1 rfl) ?_
      refine m_geta S hE hW 25 (by decide) rfl tw_765 rfl dX6_repair_83 ?_
      refine lv_iload_n hx hb dX6_repair_86 rfl (lv_at hl 2 rfl) ?_
      refine m_ald S hE hW (k := 25) (v := g 25 i) rfl (vp_in_nI (show i < 30 from (by omega)) (by decide)) (by rw [show (nI i : Int32).toNatClampNeg = i from (nI_clamp (by omega))]; exact (by simp [gup])) dX6_repair_87 ?_
      refine lv_iconst (v := 2) hx hb dX6_repair_88 (by decide) ?_
      refine lv_icmp_ne (tgt := 113) hx hb dX6_repair_89 (by decide) (fun c_89_2 => ?_) (fun c_89_2 => ?_)
      · refine lv_aload_n hx hb dX6_repair_113 rfl (lv_at hl 1 rfl) ?_
        refine m_geta S hE hW 28 (by decide) rfl tw_768 rfl dX6_repair_114 ?_
        refine lv_iload_n hx hb dX6_repair_117 rfl (lv_at hl 2 rfl) ?_
        refine m_ald S hE hW (k := 28) (v := g 28 i) rfl (vp_in_nI (show i < 30 from (by omega)) (by decide)) (by rw [show (nI i : Int32).toNatClampNeg = i from (nI_clamp (by omega))]; exact (by simp [gup])) dX6_repair_118 ?_
        refine m_ast S hE hS hW (k := 28) (j := i) rfl (vp_in_nI (show i < 30 from (by omega)) (by decide)) (nI_clamp (by omega)) dX6_repair_119 (fun H locs hW hS => ?_)
        refine lv_aload_n hx hb dX6_repair_120 rfl (lv_at hl 1 rfl) ?_
        refine m_geta S hE hW 28 (by decide) rfl tw_768 rfl dX6_repair_121 ?_
        refine lv_iload_n hx hb dX6_repair_124 rfl (lv_at hl 2 rfl) ?_
        refine m_ald S hE hW (k := 28) (v := g 28 i) rfl (vp_in_nI (show i < 30 from (by omega)) (by decide)) (by rw [show (nI i : Int32).toNatClampNeg = i from (nI_clamp (by omega))]; exact (by simp [gup])) dX6_repair_125 ?_
        exact m_ret S hr hlocks hS hW (by simp [RR, sp_repair, rsz, gup, bad, isB, isP, isJ, c_6, c_31_1, c_89_2, qi]) dX6_repair_126
      · refine lv_aload_n hx hb dX6_repair_92 rfl (lv_at hl 1 rfl) ?_
        refine lv_iload_n hx hb dX6_repair_93 rfl (lv_at hl 0 rfl) ?_
        refine lv_aload_n hx hb dX6_repair_94 rfl (lv_at hl 1 rfl) ?_
        refine m_geta S hE hW 22 (by decide) rfl tw_762 rfl dX6_repair_95 ?_
        refine lv_iload_n hx hb dX6_repair_98 rfl (lv_at hl 0 rfl) ?_
        refine m_ald S hE hW (k := 22) (v := g 22 (jp g (i))) rfl (vp_in_nI (show jp g (i) < 40 from (by omega)) (by decide)) (by rw [show (nI (jp g (i)) : Int32).toNatClampNeg = jp g (i) from (nI_clamp (by omega))]; exact (by simp [gup])) dX6_repair_99 ?_
        refine g_callV (As := [.int (nI (jp g (i))), .int (g 22 (jp g (i)))]) (rest := [.int (nI i), .ref (wad w 10 (28))]) S hE hS (c_X6_widthAt l z w g1 (gup (gup g 32 (i) (0)) 33 (i) (g 22 (jp g (i)))) o (0) A B (hO.rep hi _) (jp g (i)) (by first | omega | exact (show _ < np g by omega) | exact (show _ < nb g by omega) | exact (show _ < nj g by omega)) (g 22 (jp g (i)))) (cwV 2 hts (gU_V tw_890 tw_892 tp_22 tw_6 tw_893) rfl rfl rfl (by decide +kernel) ⟨Nat.le_of_ble_eq_true rfl, Nat.le_of_ble_eq_true rfl⟩) (by obtain ⟨gm9, hW9, -⟩ := hW; exact hE.recv hW9.md (q := (RX6, TX6, 36)) rfl) hW rfl hl.1 rfl (Nat.le_of_ble_eq_true rfl) dX6_repair_100 ⟨Nat.zero_le _, Nat.zero_le _⟩ ?_
        rw [show (wAt (gup (gup g 32 (i) (0)) 33 (i) (g 22 (jp g (i)))) (jp g (i)) (g 22 (jp g (i)))) = wAt g (jp g (i)) (g 22 (jp g (i))) from rfl]
        refine lv_aload_n hx hb dX6_repair_103 rfl (lv_at hl 1 rfl) ?_
        refine m_geta S hE hW 29 (by decide) rfl tw_769 rfl dX6_repair_104 ?_
        refine lv_iload_n hx hb dX6_repair_107 rfl (lv_at hl 2 rfl) ?_
        refine m_ald S hE hW (k := 29) (v := g 29 i) rfl (vp_in_nI (show i < 30 from (by omega)) (by decide)) (by rw [show (nI i : Int32).toNatClampNeg = i from (nI_clamp (by omega))]; exact (by simp [gup])) dX6_repair_108 ?_
        refine lv_iadd hx hb dX6_repair_109 ?_
        refine lv_goto (tgt := 119) hx hb dX6_repair_110 (by decide) ?_
        refine m_ast S hE hS hW (k := 28) (j := i) rfl (vp_in_nI (show i < 30 from (by omega)) (by decide)) (nI_clamp (by omega)) dX6_repair_119 (fun H locs hW hS => ?_)
        refine lv_aload_n hx hb dX6_repair_120 rfl (lv_at hl 1 rfl) ?_
        refine m_geta S hE hW 28 (by decide) rfl tw_768 rfl dX6_repair_121 ?_
        refine lv_iload_n hx hb dX6_repair_124 rfl (lv_at hl 2 rfl) ?_
        refine m_ald S hE hW (k := 28) (v := (wAt g (jp g (i)) (g 22 (jp g (i)))) + (g 29 i)) rfl (vp_in_nI (show i < 30 from (by omega)) (by decide)) (by rw [show (nI i : Int32).toNatClampNeg = i from (nI_clamp (by omega))]; exact (by simp [gup])) dX6_repair_125 ?_
        exact m_ret S hr hlocks hS hW (by simp [RR, sp_repair, rsz, gup, bad, isB, isP, isJ, c_6, c_31_1, c_89_2, qi]) dX6_repair_126
    · refine lv_iconst (v := 2) hx hb dX6_repair_34 (by decide) ?_
      refine lv_goto (tgt := 39) hx hb dX6_repair_35 (by decide) ?_
      refine m_putt S hE hS hW tw_740 dX6_repair_39 (fun H locs hW hS => ?_)
      refine lv_aload_n hx hb dX6_repair_42 rfl (lv_at hl 0 rfl) ?_
      refine m_gett S hE hW tw_740 dX6_repair_43 ?_
      refine lv_if_le (tgt := 51) hx hb dX6_repair_46 (by decide) (fun h9 => absurd h9 (by decide)) (fun _ => ?_)
      refine lv_iconst (v := 0) hx hb dX6_repair_49 (by decide) ?_
      exact m_ret S hr hlocks hS hW (by simp [RR, sp_repair, rsz, gup, bad, isB, isP, isJ, c_6, c_31_1, qi]) dX6_repair_50
  · refine lv_iconst (v := 1) hx hb dX6_repair_9 (by decide) ?_
    refine lv_goto (tgt := 14) hx hb dX6_repair_10 (by decide) ?_
    refine m_putt S hE hS hW tw_740 dX6_repair_14 (fun H locs hW hS => ?_)
    refine lv_aload_n hx hb dX6_repair_17 rfl (lv_at hl 0 rfl) ?_
    refine m_gett S hE hW tw_740 dX6_repair_18 ?_
    refine lv_if_ne (tgt := 42) hx hb dX6_repair_21 (by decide) (fun _ => ?_) (fun h9 => absurd h9 (by decide))
    refine lv_aload_n hx hb dX6_repair_42 rfl (lv_at hl 0 rfl) ?_
    refine m_gett S hE hW tw_740 dX6_repair_43 ?_
    refine lv_if_le (tgt := 51) hx hb dX6_repair_46 (by decide) (fun h9 => absurd h9 (by decide)) (fun _ => ?_)
    refine lv_iconst (v := 0) hx hb dX6_repair_49 (by decide) ?_
    exact m_ret S hr hlocks hS hW (by simp [RR, sp_repair, rsz, gup, bad, isB, isP, isJ, c_6]) dX6_repair_50
set_option maxHeartbeats 4000000 in
set_option maxRecDepth 100000 in
/-- ofBoard(board, what) -/
theorem c_X6_ofBoard (l : Launch) (z : ZE) (w : WG) (g1 g : GS) (o : Nat → Int64) (t : Int32) (A B : Nat → Int32) (hO : OKg g) (a b : Int32) : Met l yX6_ofBoard (.code yX6_ofBoard cX6_ofBoard 3 (some .int) :: wU) ({ frames := 3, cells := 0, slots := 0, locals := 65 }) (PE z [.ref (wad w 9 (0)), .int a, .int b] (fun H => MW z w g1 o g t A B H)) (qM z w g1 o (fun r u => RR (sp_ofBoard g a b) r u.2.1 u.1)) 0 0 (zA z) := by
  refine Met.ofW (cc := cX6_ofBoard) (maxL := 3) (ret := (some .int)) (by decide) rfl ?_
  intro p e s m args below meth c s₁ BD hml hv
  obtain ⟨rfl, hE, hW⟩ := hv
  have hts : ∀ w ∈ wU, w.before _ s = true := fun w h => atoms_spec (ws := .code yX6_ofBoard cX6_ofBoard 3 (some .int) :: wU) BD.pre w (List.mem_cons_of_mem _ h)
  have S : CallFix p m c cX6_ofBoard 3 s ([.ref (wad w 9 (0)), .int a, .int b] : List Value).toArray wU RX6 := ⟨BD.exec, BD.bytes, hml, findClass_of_methodNamed BD.named, hts⟩
  have hx := S.1
  have hb := S.2.1
  have hown := S.2.2.2.1
  have hr := BD.returns
  have hlocks := BD.notSynchronized
  have hS : va_S (zA z) s.heap s.heap [] := va_S.rf
  have hl := lv_entry ([.ref (wad w 9 (0)), .int a, .int b]) (n := 3) (Nat.le_of_ble_eq_true rfl)
  rw [lg_entry_eq]
  generalize (lg_sl ([.ref (wad w 9 (0)), .int a, .int b]) ++ List.replicate (3 - (lg_sl ([.ref (wad w 9 (0)), .int a, .int b])).length) Slot.unset).toArray = ls at hl ⊢
  have hl : lv_has ls 3 [(0, .ref (wad w 9 (0))), (1, .int a), (2, .int b)] := hl
  have h20 := hO.l5
  have h40 := hO.l16
  have h30 := hO.l24
  refine lv_aload_n hx hb dX6_ofBoard_0 rfl (lv_at hl 0 rfl) ?_
  refine lv_aload_n hx hb dX6_ofBoard_1 rfl (lv_at hl 0 rfl) ?_
  refine lv_iload_n hx hb dX6_ofBoard_2 rfl (lv_at hl 1 rfl) ?_
  refine g_callV (As := [.int a]) (rest := [.ref (wad w 9 (0))]) S hE hS (c_X6_isBoard l z w g1 g o (t) A B hO (a)) (cwV 1 hts (gU_V tw_902 tw_904 tp_23 tw_6 tw_905) rfl rfl rfl (by decide +kernel) ⟨Nat.le_of_ble_eq_true rfl, Nat.le_of_ble_eq_true rfl⟩) (by obtain ⟨gm9, hW9, -⟩ := hW; exact hE.recv hW9.md (q := (RX6, TX6, 36)) rfl) hW rfl hl.1 rfl (Nat.le_of_ble_eq_true rfl) dX6_ofBoard_3 ⟨Nat.zero_le _, Nat.zero_le _⟩ ?_
  refine g_if_ne S (tgt := 13) dX6_ofBoard_6 (by decide) (fun c_6 => ?_) (fun c_6 => ?_)
  · obtain ⟨i, hi, rfl⟩ := wi_lt (n := nb g) (by omega) c_6
    have qi : (nI i).toNatClampNeg = i := nI_clamp (by omega)
    have hk4 := hO.l13 hi
    refine lv_aload_n hx hb dX6_ofBoard_13 rfl (lv_at hl 0 rfl) ?_
    refine lv_iload_n hx hb dX6_ofBoard_14 rfl (lv_at hl 2 rfl) ?_
    refine lv_iconst (v := 0) hx hb dX6_ofBoard_15 (by decide) ?_
    refine lv_iconst (v := 2) hx hb dX6_ofBoard_16 (by decide) ?_
    refine g_callV (As := [.int b, .int 0, .int 2]) (rest := [.ref (wad w 9 (0))]) S hE hS (c_X6_between l z w g1 g o (t) A B (b) (0) (2)) (cwV 3 hts (gU_V tw_858 tw_860 tp_15 tw_6 tw_861) rfl rfl rfl (by decide +kernel) ⟨Nat.le_of_ble_eq_true rfl, Nat.le_of_ble_eq_true rfl⟩) (by obtain ⟨gm9, hW9, -⟩ := hW; exact hE.recv hW9.md (q := (RX6, TX6, 36)) rfl) hW rfl hl.1 rfl (Nat.le_of_ble_eq_true rfl) dX6_ofBoard_17 ⟨Nat.zero_le _, Nat.zero_le _⟩ ?_
    refine g_if_ne S (tgt := 27) dX6_ofBoard_20 (by decide) (fun c_20_1 => ?_) (fun c_20_1 => ?_)
    · refine lv_iconst (v := 0) hx hb dX6_ofBoard_27 (by decide) ?_
      refine m_putt S hE hS hW tw_740 dX6_ofBoard_28 (fun H locs hW hS => ?_)
      refine lv_aload_n hx hb dX6_ofBoard_31 rfl (lv_at hl 0 rfl) ?_
      refine m_gett S hE hW tw_740 dX6_ofBoard_32 ?_
      refine lv_if_le (tgt := 40) hx hb dX6_ofBoard_35 (by decide) (fun _ => ?_) (fun h9 => absurd h9 (by decide))
      refine lv_iload_n hx hb dX6_ofBoard_40 rfl (lv_at hl 2 rfl) ?_
      refine lv_if_ne (tgt := 53) hx hb dX6_ofBoard_41 (by decide) (fun c_41_2 => ?_) (fun c_41_2 => ?_)
      · refine lv_iload_n hx hb dX6_ofBoard_53 rfl (lv_at hl 2 rfl) ?_
        refine lv_iconst (v := 1) hx hb dX6_ofBoard_54 (by decide) ?_
        refine lv_icmp_ne (tgt := 66) hx hb dX6_ofBoard_55 (by decide) (fun c_55_3 => ?_) (fun c_55_3 => ?_)
        · refine lv_aload_n hx hb dX6_ofBoard_66 rfl (lv_at hl 0 rfl) ?_
          refine m_geta S hE hW 13 (by decide) rfl tw_753 rfl dX6_ofBoard_67 ?_
          refine lv_iload_n hx hb dX6_ofBoard_70 rfl (lv_at hl 1 rfl) ?_
          refine m_ald S hE hW (k := 13) (v := nI (kn g (i))) rfl (vp_in_nI (show i < 20 from (by omega)) (by decide)) (by rw [show (nI i : Int32).toNatClampNeg = i from (nI_clamp (by omega))]; exact (hO.n13 (i := i) (by omega))) dX6_ofBoard_71 ?_
          exact m_ret S hr hlocks hS hW (by simp [RR, sp_ofBoard, wik1, wik2, wik3, wik4, wik5, wik6, bad, isB, isP, isJ, c_6, c_20_1, c_41_2, c_55_3, qi]) dX6_ofBoard_72
        · refine lv_aload_n hx hb dX6_ofBoard_58 rfl (lv_at hl 0 rfl) ?_
          refine lv_iload_n hx hb dX6_ofBoard_59 rfl (lv_at hl 1 rfl) ?_
          refine g_callV (As := [.int (nI i)]) (rest := []) S hE hS (c_X6_boardWidth l z w g1 g o (0) A B hO (i) (by omega)) (cwV 1 hts (gU_V tw_914 tw_916 tp_25 tw_6 tw_917) rfl rfl rfl (by decide +kernel) ⟨Nat.le_of_ble_eq_true rfl, Nat.le_of_ble_eq_true rfl⟩) (by obtain ⟨gm9, hW9, -⟩ := hW; exact hE.recv hW9.md (q := (RX6, TX6, 36)) rfl) hW rfl hl.1 rfl (Nat.le_of_ble_eq_true rfl) dX6_ofBoard_60 ⟨Nat.zero_le _, Nat.zero_le _⟩ ?_
          refine lv_goto (tgt := 72) hx hb dX6_ofBoard_63 (by decide) ?_
          exact m_ret S hr hlocks hS hW (by simp [RR, sp_ofBoard, wik1, wik2, wik3, wik4, wik5, wik6, bad, isB, isP, isJ, c_6, c_20_1, c_41_2, c_55_3, qi]) dX6_ofBoard_72
      · refine lv_aload_n hx hb dX6_ofBoard_44 rfl (lv_at hl 0 rfl) ?_
        refine m_geta S hE hW 12 (by decide) rfl tw_752 rfl dX6_ofBoard_45 ?_
        refine lv_iload_n hx hb dX6_ofBoard_48 rfl (lv_at hl 1 rfl) ?_
        refine m_ald S hE hW (k := 12) (v := g 12 i) rfl (vp_in_nI (show i < 20 from (by omega)) (by decide)) (by rw [show (nI i : Int32).toNatClampNeg = i from (nI_clamp (by omega))]) dX6_ofBoard_49 ?_
        refine lv_goto (tgt := 72) hx hb dX6_ofBoard_50 (by decide) ?_
        exact m_ret S hr hlocks hS hW (by simp [RR, sp_ofBoard, wik1, wik2, wik3, wik4, wik5, wik6, bad, isB, isP, isJ, c_6, c_20_1, c_41_2, qi]) dX6_ofBoard_72
    · refine lv_iconst (v := 2) hx hb dX6_ofBoard_23 (by decide) ?_
      refine lv_goto (tgt := 28) hx hb dX6_ofBoard_24 (by decide) ?_
      refine m_putt S hE hS hW tw_740 dX6_ofBoard_28 (fun H locs hW hS => ?_)
      refine lv_aload_n hx hb dX6_ofBoard_31 rfl (lv_at hl 0 rfl) ?_
      refine m_gett S hE hW tw_740 dX6_ofBoard_32 ?_
      refine lv_if_le (tgt := 40) hx hb dX6_ofBoard_35 (by decide) (fun h9 => absurd h9 (by decide)) (fun _ => ?_)
      refine lv_iconst (v := 0) hx hb dX6_ofBoard_38 (by decide) ?_
      exact m_ret S hr hlocks hS hW (by simp [RR, sp_ofBoard, wik1, wik2, wik3, wik4, wik5, wik6, bad, isB, isP, isJ, c_6, c_20_1, qi]) dX6_ofBoard_39
  · refine lv_iconst (v := 1) hx hb dX6_ofBoard_9 (by decide) ?_
    refine lv_goto (tgt := 28) hx hb dX6_ofBoard_10 (by decide) ?_
    refine m_putt S hE hS hW tw_740 dX6_ofBoard_28 (fun H locs hW hS => ?_)
    refine lv_aload_n hx hb dX6_ofBoard_31 rfl (lv_at hl 0 rfl) ?_
    refine m_gett S hE hW tw_740 dX6_ofBoard_32 ?_
    refine lv_if_le (tgt := 40) hx hb dX6_ofBoard_35 (by decide) (fun h9 => absurd h9 (by decide)) (fun _ => ?_)
    refine lv_iconst (v := 0) hx hb dX6_ofBoard_38 (by decide) ?_
    exact m_ret S hr hlocks hS hW (by simp [RR, sp_ofBoard, wik1, wik2, wik3, wik4, wik5, wik6, bad, isB, isP, isJ, c_6]) dX6_ofBoard_39
set_option maxHeartbeats 4000000 in
set_option maxRecDepth 100000 in
/-- ofPart(part, what) -/
theorem c_X6_ofPart (l : Launch) (z : ZE) (w : WG) (g1 g : GS) (o : Nat → Int64) (t : Int32) (A B : Nat → Int32) (hO : OKg g) (a b : Int32) : Met l yX6_ofPart (.code yX6_ofPart cX6_ofPart 3 (some .int) :: wU) ({ frames := 3, cells := 0, slots := 0, locals := 66 }) (PE z [.ref (wad w 9 (0)), .int a, .int b] (fun H => MW z w g1 o g t A B H)) (qM z w g1 o (fun r u => RR (sp_ofPart g a b) r u.2.1 u.1)) 0 0 (zA z) := by
  refine Met.ofW (cc := cX6_ofPart) (maxL := 3) (ret := (some .int)) (by decide) rfl ?_
  intro p e s m args below meth c s₁ BD hml hv
  obtain ⟨rfl, hE, hW⟩ := hv
  have hts : ∀ w ∈ wU, w.before _ s = true := fun w h => atoms_spec (ws := .code yX6_ofPart cX6_ofPart 3 (some .int) :: wU) BD.pre w (List.mem_cons_of_mem _ h)
  have S : CallFix p m c cX6_ofPart 3 s ([.ref (wad w 9 (0)), .int a, .int b] : List Value).toArray wU RX6 := ⟨BD.exec, BD.bytes, hml, findClass_of_methodNamed BD.named, hts⟩
  have hx := S.1
  have hb := S.2.1
  have hown := S.2.2.2.1
  have hr := BD.returns
  have hlocks := BD.notSynchronized
  have hS : va_S (zA z) s.heap s.heap [] := va_S.rf
  have hl := lv_entry ([.ref (wad w 9 (0)), .int a, .int b]) (n := 3) (Nat.le_of_ble_eq_true rfl)
  rw [lg_entry_eq]
  generalize (lg_sl ([.ref (wad w 9 (0)), .int a, .int b]) ++ List.replicate (3 - (lg_sl ([.ref (wad w 9 (0)), .int a, .int b])).length) Slot.unset).toArray = ls at hl ⊢
  have hl : lv_has ls 3 [(0, .ref (wad w 9 (0))), (1, .int a), (2, .int b)] := hl
  have h20 := hO.l5
  have h40 := hO.l16
  have h30 := hO.l24
  refine lv_aload_n hx hb dX6_ofPart_0 rfl (lv_at hl 0 rfl) ?_
  refine lv_aload_n hx hb dX6_ofPart_1 rfl (lv_at hl 0 rfl) ?_
  refine lv_iload_n hx hb dX6_ofPart_2 rfl (lv_at hl 1 rfl) ?_
  refine g_callV (As := [.int a]) (rest := [.ref (wad w 9 (0))]) S hE hS (c_X6_isPart l z w g1 g o (t) A B hO (a)) (cwV 1 hts (gU_V tw_938 tw_940 tp_28 tw_6 tw_941) rfl rfl rfl (by decide +kernel) ⟨Nat.le_of_ble_eq_true rfl, Nat.le_of_ble_eq_true rfl⟩) (by obtain ⟨gm9, hW9, -⟩ := hW; exact hE.recv hW9.md (q := (RX6, TX6, 36)) rfl) hW rfl hl.1 rfl (Nat.le_of_ble_eq_true rfl) dX6_ofPart_3 ⟨Nat.zero_le _, Nat.zero_le _⟩ ?_
  refine g_if_ne S (tgt := 13) dX6_ofPart_6 (by decide) (fun c_6 => ?_) (fun c_6 => ?_)
  · obtain ⟨i, hi, rfl⟩ := wi_lt (n := np g) (by omega) c_6
    have qi : (nI i).toNatClampNeg = i := nI_clamp (by omega)
    have hpbi := hO.l17 hi
    refine lv_aload_n hx hb dX6_ofPart_13 rfl (lv_at hl 0 rfl) ?_
    refine lv_iload_n hx hb dX6_ofPart_14 rfl (lv_at hl 2 rfl) ?_
    refine lv_iconst (v := 0) hx hb dX6_ofPart_15 (by decide) ?_
    refine lv_iconst (v := 4) hx hb dX6_ofPart_16 (by decide) ?_
    refine g_callV (As := [.int b, .int 0, .int 4]) (rest := [.ref (wad w 9 (0))]) S hE hS (c_X6_between l z w g1 g o (t) A B (b) (0) (4)) (cwV 3 hts (gU_V tw_858 tw_860 tp_15 tw_6 tw_861) rfl rfl rfl (by decide +kernel) ⟨Nat.le_of_ble_eq_true rfl, Nat.le_of_ble_eq_true rfl⟩) (by obtain ⟨gm9, hW9, -⟩ := hW; exact hE.recv hW9.md (q := (RX6, TX6, 36)) rfl) hW rfl hl.1 rfl (Nat.le_of_ble_eq_true rfl) dX6_ofPart_17 ⟨Nat.zero_le _, Nat.zero_le _⟩ ?_
    refine g_if_ne S (tgt := 27) dX6_ofPart_20 (by decide) (fun c_20_1 => ?_) (fun c_20_1 => ?_)
    · refine lv_iconst (v := 0) hx hb dX6_ofPart_27 (by decide) ?_
      refine m_putt S hE hS hW tw_740 dX6_ofPart_28 (fun H locs hW hS => ?_)
      refine lv_aload_n hx hb dX6_ofPart_31 rfl (lv_at hl 0 rfl) ?_
      refine m_gett S hE hW tw_740 dX6_ofPart_32 ?_
      refine lv_if_le (tgt := 40) hx hb dX6_ofPart_35 (by decide) (fun _ => ?_) (fun h9 => absurd h9 (by decide))
      refine lv_iload_n hx hb dX6_ofPart_40 rfl (lv_at hl 2 rfl) ?_
      refine lv_if_ne (tgt := 53) hx hb dX6_ofPart_41 (by decide) (fun c_41_2 => ?_) (fun c_41_2 => ?_)
      · refine lv_iload_n hx hb dX6_ofPart_53 rfl (lv_at hl 2 rfl) ?_
        refine lv_iconst (v := 1) hx hb dX6_ofPart_54 (by decide) ?_
        refine lv_icmp_ne (tgt := 72) hx hb dX6_ofPart_55 (by decide) (fun c_55_3 => ?_) (fun c_55_3 => ?_)
        · refine lv_iload_n hx hb dX6_ofPart_72 rfl (lv_at hl 2 rfl) ?_
          refine lv_iconst (v := 2) hx hb dX6_ofPart_73 (by decide) ?_
          refine lv_icmp_ne (tgt := 86) hx hb dX6_ofPart_74 (by decide) (fun c_74_4 => ?_) (fun c_74_4 => ?_)
          · refine lv_iload_n hx hb dX6_ofPart_86 rfl (lv_at hl 2 rfl) ?_
            refine lv_iconst (v := 3) hx hb dX6_ofPart_87 (by decide) ?_
            refine lv_icmp_ne (tgt := 100) hx hb dX6_ofPart_88 (by decide) (fun c_88_5 => ?_) (fun c_88_5 => ?_)
            · refine lv_aload_n hx hb dX6_ofPart_100 rfl (lv_at hl 0 rfl) ?_
              refine m_geta S hE hW 18 (by decide) rfl tw_758 rfl dX6_ofPart_101 ?_
              refine lv_iload_n hx hb dX6_ofPart_104 rfl (lv_at hl 1 rfl) ?_
              refine m_ald S hE hW (k := 18) (v := g 18 i) rfl (vp_in_nI (show i < 40 from (by omega)) (by decide)) (by rw [show (nI i : Int32).toNatClampNeg = i from (nI_clamp (by omega))]) dX6_ofPart_105 ?_
              exact m_ret S hr hlocks hS hW (by simp [RR, sp_ofPart, wik1, wik2, wik3, wik4, wik5, wik6, bad, isB, isP, isJ, c_6, c_20_1, c_41_2, c_55_3, c_74_4, c_88_5, qi]) dX6_ofPart_106
            · refine lv_aload_n hx hb dX6_ofPart_91 rfl (lv_at hl 0 rfl) ?_
              refine m_geta S hE hW 23 (by decide) rfl tw_763 rfl dX6_ofPart_92 ?_
              refine lv_iload_n hx hb dX6_ofPart_95 rfl (lv_at hl 1 rfl) ?_
              refine m_ald S hE hW (k := 23) (v := g 23 i) rfl (vp_in_nI (show i < 40 from (by omega)) (by decide)) (by rw [show (nI i : Int32).toNatClampNeg = i from (nI_clamp (by omega))]) dX6_ofPart_96 ?_
              refine lv_goto (tgt := 106) hx hb dX6_ofPart_97 (by decide) ?_
              exact m_ret S hr hlocks hS hW (by simp [RR, sp_ofPart, wik1, wik2, wik3, wik4, wik5, wik6, bad, isB, isP, isJ, c_6, c_20_1, c_41_2, c_55_3, c_74_4, c_88_5, qi]) dX6_ofPart_106
          · refine lv_aload_n hx hb dX6_ofPart_77 rfl (lv_at hl 0 rfl) ?_
            refine m_geta S hE hW 22 (by decide) rfl tw_762 rfl dX6_ofPart_78 ?_
            refine lv_iload_n hx hb dX6_ofPart_81 rfl (lv_at hl 1 rfl) ?_
            refine m_ald S hE hW (k := 22) (v := g 22 i) rfl (vp_in_nI (show i < 40 from (by omega)) (by decide)) (by rw [show (nI i : Int32).toNatClampNeg = i from (nI_clamp (by omega))]) dX6_ofPart_82 ?_
            refine lv_goto (tgt := 106) hx hb dX6_ofPart_83 (by decide) ?_
            exact m_ret S hr hlocks hS hW (by simp [RR, sp_ofPart, wik1, wik2, wik3, wik4, wik5, wik6, bad, isB, isP, isJ, c_6, c_20_1, c_41_2, c_55_3, c_74_4, qi]) dX6_ofPart_106
        · refine lv_aload_n hx hb dX6_ofPart_58 rfl (lv_at hl 0 rfl) ?_
          refine lv_iload_n hx hb dX6_ofPart_59 rfl (lv_at hl 1 rfl) ?_
          refine lv_aload_n hx hb dX6_ofPart_60 rfl (lv_at hl 0 rfl) ?_
          refine m_geta S hE hW 22 (by decide) rfl tw_762 rfl dX6_ofPart_61 ?_
          refine lv_iload_n hx hb dX6_ofPart_64 rfl (lv_at hl 1 rfl) ?_
          refine m_ald S hE hW (k := 22) (v := g 22 i) rfl (vp_in_nI (show i < 40 from (by omega)) (by decide)) (by rw [show (nI i : Int32).toNatClampNeg = i from (nI_clamp (by omega))]) dX6_ofPart_65 ?_
          refine g_callV (As := [.int (nI i), .int (g 22 i)]) (rest := []) S hE hS (c_X6_widthAt l z w g1 g o (0) A B hO (i) (by omega) (g 22 i)) (cwV 2 hts (gU_V tw_890 tw_892 tp_22 tw_6 tw_893) rfl rfl rfl (by decide +kernel) ⟨Nat.le_of_ble_eq_true rfl, Nat.le_of_ble_eq_true rfl⟩) (by obtain ⟨gm9, hW9, -⟩ := hW; exact hE.recv hW9.md (q := (RX6, TX6, 36)) rfl) hW rfl hl.1 rfl (Nat.le_of_ble_eq_true rfl) dX6_ofPart_66 ⟨Nat.zero_le _, Nat.zero_le _⟩ ?_
          refine lv_goto (tgt := 106) hx hb dX6_ofPart_69 (by decide) ?_
          exact m_ret S hr hlocks hS hW (by simp [RR, sp_ofPart, wik1, wik2, wik3, wik4, wik5, wik6, bad, isB, isP, isJ, c_6, c_20_1, c_41_2, c_55_3, qi]) dX6_ofPart_106
      · refine lv_aload_n hx hb dX6_ofPart_44 rfl (lv_at hl 0 rfl) ?_
        refine m_geta S hE hW 17 (by decide) rfl tw_757 rfl dX6_ofPart_45 ?_
        refine lv_iload_n hx hb dX6_ofPart_48 rfl (lv_at hl 1 rfl) ?_
        refine m_ald S hE hW (k := 17) (v := nI (pb g (i))) rfl (vp_in_nI (show i < 40 from (by omega)) (by decide)) (by rw [show (nI i : Int32).toNatClampNeg = i from (nI_clamp (by omega))]; exact (hO.n17 (i := i) (by omega))) dX6_ofPart_49 ?_
        refine lv_goto (tgt := 106) hx hb dX6_ofPart_50 (by decide) ?_
        exact m_ret S hr hlocks hS hW (by simp [RR, sp_ofPart, wik1, wik2, wik3, wik4, wik5, wik6, bad, isB, isP, isJ, c_6, c_20_1, c_41_2, qi]) dX6_ofPart_106
    · refine lv_iconst (v := 2) hx hb dX6_ofPart_23 (by decide) ?_
      refine lv_goto (tgt := 28) hx hb dX6_ofPart_24 (by decide) ?_
      refine m_putt S hE hS hW tw_740 dX6_ofPart_28 (fun H locs hW hS => ?_)
      refine lv_aload_n hx hb dX6_ofPart_31 rfl (lv_at hl 0 rfl) ?_
      refine m_gett S hE hW tw_740 dX6_ofPart_32 ?_
      refine lv_if_le (tgt := 40) hx hb dX6_ofPart_35 (by decide) (fun h9 => absurd h9 (by decide)) (fun _ => ?_)
      refine lv_iconst (v := 0) hx hb dX6_ofPart_38 (by decide) ?_
      exact m_ret S hr hlocks hS hW (by simp [RR, sp_ofPart, wik1, wik2, wik3, wik4, wik5, wik6, bad, isB, isP, isJ, c_6, c_20_1, qi]) dX6_ofPart_39
  · refine lv_iconst (v := 1) hx hb dX6_ofPart_9 (by decide) ?_
    refine lv_goto (tgt := 28) hx hb dX6_ofPart_10 (by decide) ?_
    refine m_putt S hE hS hW tw_740 dX6_ofPart_28 (fun H locs hW hS => ?_)
    refine lv_aload_n hx hb dX6_ofPart_31 rfl (lv_at hl 0 rfl) ?_
    refine m_gett S hE hW tw_740 dX6_ofPart_32 ?_
    refine lv_if_le (tgt := 40) hx hb dX6_ofPart_35 (by decide) (fun h9 => absurd h9 (by decide)) (fun _ => ?_)
    refine lv_iconst (v := 0) hx hb dX6_ofPart_38 (by decide) ?_
    exact m_ret S hr hlocks hS hW (by simp [RR, sp_ofPart, wik1, wik2, wik3, wik4, wik5, wik6, bad, isB, isP, isJ, c_6]) dX6_ofPart_39
set_option maxHeartbeats 4000000 in
set_option maxRecDepth 100000 in
/-- ofJoint(joint, what) -/
theorem c_X6_ofJoint (l : Launch) (z : ZE) (w : WG) (g1 g : GS) (o : Nat → Int64) (t : Int32) (A B : Nat → Int32) (hO : OKg g) (a b : Int32) : Met l yX6_ofJoint (.code yX6_ofJoint cX6_ofJoint 3 (some .int) :: wU) ({ frames := 4, cells := 0, slots := 0, locals := 88 }) (PE z [.ref (wad w 9 (0)), .int a, .int b] (fun H => MW z w g1 o g t A B H)) (qM z w g1 o (fun r u => RR (sp_ofJoint g a b) r u.2.1 u.1)) 0 0 (zA z) := by
  refine Met.ofW (cc := cX6_ofJoint) (maxL := 3) (ret := (some .int)) (by decide) rfl ?_
  intro p e s m args below meth c s₁ BD hml hv
  obtain ⟨rfl, hE, hW⟩ := hv
  have hts : ∀ w ∈ wU, w.before _ s = true := fun w h => atoms_spec (ws := .code yX6_ofJoint cX6_ofJoint 3 (some .int) :: wU) BD.pre w (List.mem_cons_of_mem _ h)
  have S : CallFix p m c cX6_ofJoint 3 s ([.ref (wad w 9 (0)), .int a, .int b] : List Value).toArray wU RX6 := ⟨BD.exec, BD.bytes, hml, findClass_of_methodNamed BD.named, hts⟩
  have hx := S.1
  have hb := S.2.1
  have hown := S.2.2.2.1
  have hr := BD.returns
  have hlocks := BD.notSynchronized
  have hS : va_S (zA z) s.heap s.heap [] := va_S.rf
  have hl := lv_entry ([.ref (wad w 9 (0)), .int a, .int b]) (n := 3) (Nat.le_of_ble_eq_true rfl)
  rw [lg_entry_eq]
  generalize (lg_sl ([.ref (wad w 9 (0)), .int a, .int b]) ++ List.replicate (3 - (lg_sl ([.ref (wad w 9 (0)), .int a, .int b])).length) Slot.unset).toArray = ls at hl ⊢
  have hl : lv_has ls 3 [(0, .ref (wad w 9 (0))), (1, .int a), (2, .int b)] := hl
  have h20 := hO.l5
  have h40 := hO.l16
  have h30 := hO.l24
  refine lv_aload_n hx hb dX6_ofJoint_0 rfl (lv_at hl 0 rfl) ?_
  refine lv_aload_n hx hb dX6_ofJoint_1 rfl (lv_at hl 0 rfl) ?_
  refine lv_iload_n hx hb dX6_ofJoint_2 rfl (lv_at hl 1 rfl) ?_
  refine g_callV (As := [.int a]) (rest := [.ref (wad w 9 (0))]) S hE hS (c_X6_isJoint l z w g1 g o (t) A B hO (a)) (cwV 1 hts (gU_V tw_958 tw_960 tp_30 tw_6 tw_961) rfl rfl rfl (by decide +kernel) ⟨Nat.le_of_ble_eq_true rfl, Nat.le_of_ble_eq_true rfl⟩) (by obtain ⟨gm9, hW9, -⟩ := hW; exact hE.recv hW9.md (q := (RX6, TX6, 36)) rfl) hW rfl hl.1 rfl (Nat.le_of_ble_eq_true rfl) dX6_ofJoint_3 ⟨Nat.zero_le _, Nat.zero_le _⟩ ?_
  refine g_if_ne S (tgt := 13) dX6_ofJoint_6 (by decide) (fun c_6 => ?_) (fun c_6 => ?_)
  · obtain ⟨i, hi, rfl⟩ := wi_lt (n := nj g) (by omega) c_6
    have qi : (nI i).toNatClampNeg = i := nI_clamp (by omega)
    have hjpi := hO.l26 hi
    have hjoi := hO.l27 hi
    refine lv_aload_n hx hb dX6_ofJoint_13 rfl (lv_at hl 0 rfl) ?_
    refine lv_iload_n hx hb dX6_ofJoint_14 rfl (lv_at hl 2 rfl) ?_
    refine lv_iconst (v := 0) hx hb dX6_ofJoint_15 (by decide) ?_
    refine lv_iconst (v := 4) hx hb dX6_ofJoint_16 (by decide) ?_
    refine g_callV (As := [.int b, .int 0, .int 4]) (rest := [.ref (wad w 9 (0))]) S hE hS (c_X6_between l z w g1 g o (t) A B (b) (0) (4)) (cwV 3 hts (gU_V tw_858 tw_860 tp_15 tw_6 tw_861) rfl rfl rfl (by decide +kernel) ⟨Nat.le_of_ble_eq_true rfl, Nat.le_of_ble_eq_true rfl⟩) (by obtain ⟨gm9, hW9, -⟩ := hW; exact hE.recv hW9.md (q := (RX6, TX6, 36)) rfl) hW rfl hl.1 rfl (Nat.le_of_ble_eq_true rfl) dX6_ofJoint_17 ⟨Nat.zero_le _, Nat.zero_le _⟩ ?_
    refine g_if_ne S (tgt := 27) dX6_ofJoint_20 (by decide) (fun c_20_1 => ?_) (fun c_20_1 => ?_)
    · refine lv_iconst (v := 0) hx hb dX6_ofJoint_27 (by decide) ?_
      refine m_putt S hE hS hW tw_740 dX6_ofJoint_28 (fun H locs hW hS => ?_)
      refine lv_aload_n hx hb dX6_ofJoint_31 rfl (lv_at hl 0 rfl) ?_
      refine m_gett S hE hW tw_740 dX6_ofJoint_32 ?_
      refine lv_if_le (tgt := 40) hx hb dX6_ofJoint_35 (by decide) (fun _ => ?_) (fun h9 => absurd h9 (by decide))
      refine lv_iload_n hx hb dX6_ofJoint_40 rfl (lv_at hl 2 rfl) ?_
      refine lv_if_ne (tgt := 52) hx hb dX6_ofJoint_41 (by decide) (fun c_41_2 => ?_) (fun c_41_2 => ?_)
      · refine lv_iload_n hx hb dX6_ofJoint_52 rfl (lv_at hl 2 rfl) ?_
        refine lv_iconst (v := 1) hx hb dX6_ofJoint_53 (by decide) ?_
        refine lv_icmp_ne (tgt := 66) hx hb dX6_ofJoint_54 (by decide) (fun c_54_3 => ?_) (fun c_54_3 => ?_)
        · refine lv_iload_n hx hb dX6_ofJoint_66 rfl (lv_at hl 2 rfl) ?_
          refine lv_iconst (v := 2) hx hb dX6_ofJoint_67 (by decide) ?_
          refine lv_icmp_ne (tgt := 80) hx hb dX6_ofJoint_68 (by decide) (fun c_68_4 => ?_) (fun c_68_4 => ?_)
          · refine lv_iload_n hx hb dX6_ofJoint_80 rfl (lv_at hl 2 rfl) ?_
            refine lv_iconst (v := 3) hx hb dX6_ofJoint_81 (by decide) ?_
            refine lv_icmp_ne (tgt := 94) hx hb dX6_ofJoint_82 (by decide) (fun c_82_5 => ?_) (fun c_82_5 => ?_)
            · refine lv_aload_n hx hb dX6_ofJoint_94 rfl (lv_at hl 0 rfl) ?_
              refine m_geta S hE hW 27 (by decide) rfl tw_767 rfl dX6_ofJoint_95 ?_
              refine lv_iload_n hx hb dX6_ofJoint_98 rfl (lv_at hl 1 rfl) ?_
              refine m_ald S hE hW (k := 27) (v := nI (jo g (i))) rfl (vp_in_nI (show i < 30 from (by omega)) (by decide)) (by rw [show (nI i : Int32).toNatClampNeg = i from (nI_clamp (by omega))]; exact (hO.n27 (i := i) (by omega))) dX6_ofJoint_99 ?_
              exact m_ret S hr hlocks hS hW (by simp [RR, sp_ofJoint, wik1, wik2, wik3, wik4, wik5, wik6, bad, isB, isP, isJ, c_6, c_20_1, c_41_2, c_54_3, c_68_4, c_82_5, qi]) dX6_ofJoint_100
            · refine lv_aload_n hx hb dX6_ofJoint_85 rfl (lv_at hl 0 rfl) ?_
              refine m_geta S hE hW 26 (by decide) rfl tw_766 rfl dX6_ofJoint_86 ?_
              refine lv_iload_n hx hb dX6_ofJoint_89 rfl (lv_at hl 1 rfl) ?_
              refine m_ald S hE hW (k := 26) (v := nI (jp g (i))) rfl (vp_in_nI (show i < 30 from (by omega)) (by decide)) (by rw [show (nI i : Int32).toNatClampNeg = i from (nI_clamp (by omega))]; exact (hO.n26 (i := i) (by omega))) dX6_ofJoint_90 ?_
              refine lv_goto (tgt := 100) hx hb dX6_ofJoint_91 (by decide) ?_
              exact m_ret S hr hlocks hS hW (by simp [RR, sp_ofJoint, wik1, wik2, wik3, wik4, wik5, wik6, bad, isB, isP, isJ, c_6, c_20_1, c_41_2, c_54_3, c_68_4, c_82_5, qi]) dX6_ofJoint_100
          · refine lv_aload_n hx hb dX6_ofJoint_71 rfl (lv_at hl 0 rfl) ?_
            refine m_geta S hE hW 30 (by decide) rfl tw_770 rfl dX6_ofJoint_72 ?_
            refine lv_iload_n hx hb dX6_ofJoint_75 rfl (lv_at hl 1 rfl) ?_
            refine m_ald S hE hW (k := 30) (v := g 30 i) rfl (vp_in_nI (show i < 30 from (by omega)) (by decide)) (by rw [show (nI i : Int32).toNatClampNeg = i from (nI_clamp (by omega))]) dX6_ofJoint_76 ?_
            refine lv_goto (tgt := 100) hx hb dX6_ofJoint_77 (by decide) ?_
            exact m_ret S hr hlocks hS hW (by simp [RR, sp_ofJoint, wik1, wik2, wik3, wik4, wik5, wik6, bad, isB, isP, isJ, c_6, c_20_1, c_41_2, c_54_3, c_68_4, qi]) dX6_ofJoint_100
        · refine lv_aload_n hx hb dX6_ofJoint_57 rfl (lv_at hl 0 rfl) ?_
          refine m_geta S hE hW 28 (by decide) rfl tw_768 rfl dX6_ofJoint_58 ?_
          refine lv_iload_n hx hb dX6_ofJoint_61 rfl (lv_at hl 1 rfl) ?_
          refine m_ald S hE hW (k := 28) (v := g 28 i) rfl (vp_in_nI (show i < 30 from (by omega)) (by decide)) (by rw [show (nI i : Int32).toNatClampNeg = i from (nI_clamp (by omega))]) dX6_ofJoint_62 ?_
          refine lv_goto (tgt := 100) hx hb dX6_ofJoint_63 (by decide) ?_
          exact m_ret S hr hlocks hS hW (by simp [RR, sp_ofJoint, wik1, wik2, wik3, wik4, wik5, wik6, bad, isB, isP, isJ, c_6, c_20_1, c_41_2, c_54_3, qi]) dX6_ofJoint_100
      · refine lv_aload_n hx hb dX6_ofJoint_44 rfl (lv_at hl 0 rfl) ?_
        refine lv_iload_n hx hb dX6_ofJoint_45 rfl (lv_at hl 1 rfl) ?_
        refine g_callV (As := [.int (nI i)]) (rest := []) S hE hS (c_X6_stateOf l z w g1 g o (0) A B hO (i) (by omega)) (cwV 1 hts (gU_V tw_1002 tw_1004 tp_32 tw_6 tw_1005) rfl rfl rfl (by decide +kernel) ⟨Nat.le_of_ble_eq_true rfl, Nat.le_of_ble_eq_true rfl⟩) (by obtain ⟨gm9, hW9, -⟩ := hW; exact hE.recv hW9.md (q := (RX6, TX6, 36)) rfl) hW rfl hl.1 rfl (Nat.le_of_ble_eq_true rfl) dX6_ofJoint_46 ⟨Nat.zero_le _, Nat.zero_le _⟩ ?_
        refine lv_goto (tgt := 100) hx hb dX6_ofJoint_49 (by decide) ?_
        exact m_ret S hr hlocks hS hW (by simp [RR, sp_ofJoint, wik1, wik2, wik3, wik4, wik5, wik6, bad, isB, isP, isJ, c_6, c_20_1, c_41_2, qi]) dX6_ofJoint_100
    · refine lv_iconst (v := 2) hx hb dX6_ofJoint_23 (by decide) ?_
      refine lv_goto (tgt := 28) hx hb dX6_ofJoint_24 (by decide) ?_
      refine m_putt S hE hS hW tw_740 dX6_ofJoint_28 (fun H locs hW hS => ?_)
      refine lv_aload_n hx hb dX6_ofJoint_31 rfl (lv_at hl 0 rfl) ?_
      refine m_gett S hE hW tw_740 dX6_ofJoint_32 ?_
      refine lv_if_le (tgt := 40) hx hb dX6_ofJoint_35 (by decide) (fun h9 => absurd h9 (by decide)) (fun _ => ?_)
      refine lv_iconst (v := 0) hx hb dX6_ofJoint_38 (by decide) ?_
      exact m_ret S hr hlocks hS hW (by simp [RR, sp_ofJoint, wik1, wik2, wik3, wik4, wik5, wik6, bad, isB, isP, isJ, c_6, c_20_1, qi]) dX6_ofJoint_39
  · refine lv_iconst (v := 1) hx hb dX6_ofJoint_9 (by decide) ?_
    refine lv_goto (tgt := 28) hx hb dX6_ofJoint_10 (by decide) ?_
    refine m_putt S hE hS hW tw_740 dX6_ofJoint_28 (fun H locs hW hS => ?_)
    refine lv_aload_n hx hb dX6_ofJoint_31 rfl (lv_at hl 0 rfl) ?_
    refine m_gett S hE hW tw_740 dX6_ofJoint_32 ?_
    refine lv_if_le (tgt := 40) hx hb dX6_ofJoint_35 (by decide) (fun h9 => absurd h9 (by decide)) (fun _ => ?_)
    refine lv_iconst (v := 0) hx hb dX6_ofJoint_38 (by decide) ?_
    exact m_ret S hr hlocks hS hW (by simp [RR, sp_ofJoint, wik1, wik2, wik3, wik4, wik5, wik6, bad, isB, isP, isJ, c_6]) dX6_ofJoint_39
set_option maxHeartbeats 4000000 in
set_option maxRecDepth 100000 in
/-- knot(board, from, to) -/
theorem c_X6_knot (l : Launch) (z : ZE) (w : WG) (g1 g : GS) (o : Nat → Int64) (t : Int32) (A B : Nat → Int32) (hO : OKg g) (a f9 t9 : Int32) : Met l yX6_knot (.code yX6_knot cX6_knot 5 (some .int) :: wU) ({ frames := 2, cells := 0, slots := 0, locals := 44 }) (PE z [.ref (wad w 9 (0)), .int a, .int f9, .int t9] (fun H => MW z w g1 o g t A B H)) (qM z w g1 o (fun r u => RR (sp_knot g a f9 t9) r u.2.1 u.1)) 0 0 (zA z) := by
  refine Met.ofW (cc := cX6_knot) (maxL := 5) (ret := (some .int)) (by decide) rfl ?_
  intro p e s m args below meth c s₁ BD hml hv
  obtain ⟨rfl, hE, hW⟩ := hv
  have hts : ∀ w ∈ wU, w.before _ s = true := fun w h => atoms_spec (ws := .code yX6_knot cX6_knot 5 (some .int) :: wU) BD.pre w (List.mem_cons_of_mem _ h)
  have S : CallFix p m c cX6_knot 5 s ([.ref (wad w 9 (0)), .int a, .int f9, .int t9] : List Value).toArray wU RX6 := ⟨BD.exec, BD.bytes, hml, findClass_of_methodNamed BD.named, hts⟩
  have hx := S.1
  have hb := S.2.1
  have hown := S.2.2.2.1
  have hr := BD.returns
  have hlocks := BD.notSynchronized
  have hS : va_S (zA z) s.heap s.heap [] := va_S.rf
  have hl := lv_entry ([.ref (wad w 9 (0)), .int a, .int f9, .int t9]) (n := 5) (Nat.le_of_ble_eq_true rfl)
  rw [lg_entry_eq]
  generalize (lg_sl ([.ref (wad w 9 (0)), .int a, .int f9, .int t9]) ++ List.replicate (5 - (lg_sl ([.ref (wad w 9 (0)), .int a, .int f9, .int t9])).length) Slot.unset).toArray = ls at hl ⊢
  have hl : lv_has ls 5 [(0, .ref (wad w 9 (0))), (1, .int a), (2, .int f9), (3, .int t9)] := hl
  have h20 := hO.l5
  have h40 := hO.l16
  have h30 := hO.l24
  refine lv_aload_n hx hb dX6_knot_0 rfl (lv_at hl 0 rfl) ?_
  refine lv_aload_n hx hb dX6_knot_1 rfl (lv_at hl 0 rfl) ?_
  refine lv_iload_n hx hb dX6_knot_2 rfl (lv_at hl 1 rfl) ?_
  refine g_callV (As := [.int a]) (rest := [.ref (wad w 9 (0))]) S hE hS (c_X6_isBoard l z w g1 g o (t) A B hO (a)) (cwV 1 hts (gU_V tw_902 tw_904 tp_23 tw_6 tw_905) rfl rfl rfl (by decide +kernel) ⟨Nat.le_of_ble_eq_true rfl, Nat.le_of_ble_eq_true rfl⟩) (by obtain ⟨gm9, hW9, -⟩ := hW; exact hE.recv hW9.md (q := (RX6, TX6, 36)) rfl) hW rfl hl.1 rfl (Nat.le_of_ble_eq_true rfl) dX6_knot_3 ⟨Nat.zero_le _, Nat.zero_le _⟩ ?_
  refine g_if_ne S (tgt := 13) dX6_knot_6 (by decide) (fun c_6 => ?_) (fun c_6 => ?_)
  · obtain ⟨i, hi, rfl⟩ := wi_lt (n := nb g) (by omega) c_6
    have qi : (nI i).toNatClampNeg = i := nI_clamp (by omega)
    have hk4 := hO.l13 hi
    refine lv_iconst (v := 0) hx hb dX6_knot_13 (by decide) ?_
    refine m_putt S hE hS hW tw_740 dX6_knot_14 (fun H locs hW hS => ?_)
    refine lv_aload_n hx hb dX6_knot_17 rfl (lv_at hl 0 rfl) ?_
    refine m_gett S hE hW tw_740 dX6_knot_18 ?_
    refine lv_if_ne (tgt := 103) hx hb dX6_knot_21 (by decide) (fun h9 => absurd h9 (by decide)) (fun _ => ?_)
    refine lv_aload_n hx hb dX6_knot_24 rfl (lv_at hl 0 rfl) ?_
    refine lv_iload_n hx hb dX6_knot_25 rfl (lv_at hl 2 rfl) ?_
    refine lv_iconst (v := 0) hx hb dX6_knot_26 (by decide) ?_
    refine lv_aload_n hx hb dX6_knot_27 rfl (lv_at hl 0 rfl) ?_
    refine m_geta S hE hW 10 (by decide) rfl tw_750 rfl dX6_knot_28 ?_
    refine lv_iload_n hx hb dX6_knot_31 rfl (lv_at hl 1 rfl) ?_
    refine m_ald S hE hW (k := 10) (v := g 10 i) rfl (vp_in_nI (show i < 20 from (by omega)) (by decide)) (by rw [show (nI i : Int32).toNatClampNeg = i from (nI_clamp (by omega))]) dX6_knot_32 ?_
    refine lv_iconst (v := 1) hx hb dX6_knot_33 (by decide) ?_
    refine lv_isub hx hb dX6_knot_34 ?_
    refine g_callV (As := [.int f9, .int 0, .int ((g 10 i) - 1)]) (rest := []) S hE hS (c_X6_between l z w g1 g o (0) A B (f9) (0) ((g 10 i) - 1)) (cwV 3 hts (gU_V tw_858 tw_860 tp_15 tw_6 tw_861) rfl rfl rfl (by decide +kernel) ⟨Nat.le_of_ble_eq_true rfl, Nat.le_of_ble_eq_true rfl⟩) (by obtain ⟨gm9, hW9, -⟩ := hW; exact hE.recv hW9.md (q := (RX6, TX6, 36)) rfl) hW rfl hl.1 rfl (Nat.le_of_ble_eq_true rfl) dX6_knot_35 ⟨Nat.zero_le _, Nat.zero_le _⟩ ?_
    refine g_if_eq S (tgt := 62) dX6_knot_38 (by decide) (fun c_38_1 => ?_) (fun c_38_1 => ?_)
    · refine lv_iconst (v := 0) hx hb dX6_knot_62 (by decide) ?_
      refine lv_istore (lv' := [(4, .int 0), (0, .ref (wad w 9 (0))), (1, .int (nI i)), (2, .int f9), (3, .int t9)]) hx hb dX6_knot_63 hl (by decide) rfl (fun ls hl => ?_)
      refine lv_aload_n hx hb dX6_knot_65 rfl (lv_at hl 1 rfl) ?_
      refine lv_iload hx hb dX6_knot_66 (lv_at hl 0 rfl) ?_
      refine lv_if_ne (tgt := 75) hx hb dX6_knot_68 (by decide) (fun h9 => absurd h9 (by decide)) (fun _ => ?_)
      refine lv_iconst (v := 2) hx hb dX6_knot_71 (by decide) ?_
      refine lv_goto (tgt := 100) hx hb dX6_knot_72 (by decide) ?_
      refine m_putt S hE hS hW tw_740 dX6_knot_100 (fun H locs hW hS => ?_)
      refine lv_aload_n hx hb dX6_knot_103 rfl (lv_at hl 1 rfl) ?_
      refine m_gett S hE hW tw_740 dX6_knot_104 ?_
      refine lv_if_le (tgt := 112) hx hb dX6_knot_107 (by decide) (fun h9 => absurd h9 (by decide)) (fun _ => ?_)
      refine lv_iconst (v := 0) hx hb dX6_knot_110 (by decide) ?_
      exact m_ret S hr hlocks hS hW (by simp [RR, sp_knot, bad, isB, isP, isJ, c_6, c_38_1, qi]) dX6_knot_111
    · refine lv_aload_n hx hb dX6_knot_41 rfl (lv_at hl 0 rfl) ?_
      refine lv_iload_n hx hb dX6_knot_42 rfl (lv_at hl 3 rfl) ?_
      refine lv_iload_n hx hb dX6_knot_43 rfl (lv_at hl 2 rfl) ?_
      refine lv_iconst (v := 1) hx hb dX6_knot_44 (by decide) ?_
      refine lv_iadd hx hb dX6_knot_45 ?_
      refine lv_aload_n hx hb dX6_knot_46 rfl (lv_at hl 0 rfl) ?_
      refine m_geta S hE hW 10 (by decide) rfl tw_750 rfl dX6_knot_47 ?_
      refine lv_iload_n hx hb dX6_knot_50 rfl (lv_at hl 1 rfl) ?_
      refine m_ald S hE hW (k := 10) (v := g 10 i) rfl (vp_in_nI (show i < 20 from (by omega)) (by decide)) (by rw [show (nI i : Int32).toNatClampNeg = i from (nI_clamp (by omega))]) dX6_knot_51 ?_
      refine g_callV (As := [.int t9, .int (f9 + 1), .int (g 10 i)]) (rest := []) S hE hS (c_X6_between l z w g1 g o (0) A B (t9) (f9 + 1) (g 10 i)) (cwV 3 hts (gU_V tw_858 tw_860 tp_15 tw_6 tw_861) rfl rfl rfl (by decide +kernel) ⟨Nat.le_of_ble_eq_true rfl, Nat.le_of_ble_eq_true rfl⟩) (by obtain ⟨gm9, hW9, -⟩ := hW; exact hE.recv hW9.md (q := (RX6, TX6, 36)) rfl) hW rfl hl.1 rfl (Nat.le_of_ble_eq_true rfl) dX6_knot_52 ⟨Nat.zero_le _, Nat.zero_le _⟩ ?_
      refine g_if_eq S (tgt := 62) dX6_knot_55 (by decide) (fun c_55_2 => ?_) (fun c_55_2 => ?_)
      · refine lv_iconst (v := 0) hx hb dX6_knot_62 (by decide) ?_
        refine lv_istore (lv' := [(4, .int 0), (0, .ref (wad w 9 (0))), (1, .int (nI i)), (2, .int f9), (3, .int t9)]) hx hb dX6_knot_63 hl (by decide) rfl (fun ls hl => ?_)
        refine lv_aload_n hx hb dX6_knot_65 rfl (lv_at hl 1 rfl) ?_
        refine lv_iload hx hb dX6_knot_66 (lv_at hl 0 rfl) ?_
        refine lv_if_ne (tgt := 75) hx hb dX6_knot_68 (by decide) (fun h9 => absurd h9 (by decide)) (fun _ => ?_)
        refine lv_iconst (v := 2) hx hb dX6_knot_71 (by decide) ?_
        refine lv_goto (tgt := 100) hx hb dX6_knot_72 (by decide) ?_
        refine m_putt S hE hS hW tw_740 dX6_knot_100 (fun H locs hW hS => ?_)
        refine lv_aload_n hx hb dX6_knot_103 rfl (lv_at hl 1 rfl) ?_
        refine m_gett S hE hW tw_740 dX6_knot_104 ?_
        refine lv_if_le (tgt := 112) hx hb dX6_knot_107 (by decide) (fun h9 => absurd h9 (by decide)) (fun _ => ?_)
        refine lv_iconst (v := 0) hx hb dX6_knot_110 (by decide) ?_
        exact m_ret S hr hlocks hS hW (by simp [RR, sp_knot, bad, isB, isP, isJ, c_6, c_38_1, c_55_2, qi]) dX6_knot_111
      · refine lv_iconst (v := 1) hx hb dX6_knot_58 (by decide) ?_
        refine lv_goto (tgt := 63) hx hb dX6_knot_59 (by decide) ?_
        refine lv_istore (lv' := [(4, .int 1), (0, .ref (wad w 9 (0))), (1, .int (nI i)), (2, .int f9), (3, .int t9)]) hx hb dX6_knot_63 hl (by decide) rfl (fun ls hl => ?_)
        refine lv_aload_n hx hb dX6_knot_65 rfl (lv_at hl 1 rfl) ?_
        refine lv_iload hx hb dX6_knot_66 (lv_at hl 0 rfl) ?_
        refine lv_if_ne (tgt := 75) hx hb dX6_knot_68 (by decide) (fun _ => ?_) (fun h9 => absurd h9 (by decide))
        refine lv_aload_n hx hb dX6_knot_75 rfl (lv_at hl 1 rfl) ?_
        refine m_geta S hE hW 13 (by decide) rfl tw_753 rfl dX6_knot_76 ?_
        refine lv_iload_n hx hb dX6_knot_79 rfl (lv_at hl 2 rfl) ?_
        refine m_ald S hE hW (k := 13) (v := nI (kn g (i))) rfl (vp_in_nI (show i < 20 from (by omega)) (by decide)) (by rw [show (nI i : Int32).toNatClampNeg = i from (nI_clamp (by omega))]; exact (hO.n13 (i := i) (by omega))) dX6_knot_80 ?_
        refine lv_iconst (v := 4) hx hb dX6_knot_81 (by decide) ?_
        rw [show (4 : Int32) = nI 4 from rfl]
        refine g_icmp_eq S (by omega) (by omega) (tgt := 95) dX6_knot_82 (by decide) (fun c_82_3 => ?_) (fun c_82_3 => ?_)
        · refine lv_iconst (v := 3) hx hb dX6_knot_95 (by decide) ?_
          refine lv_goto (tgt := 100) hx hb dX6_knot_96 (by decide) ?_
          refine m_putt S hE hS hW tw_740 dX6_knot_100 (fun H locs hW hS => ?_)
          refine lv_aload_n hx hb dX6_knot_103 rfl (lv_at hl 1 rfl) ?_
          refine m_gett S hE hW tw_740 dX6_knot_104 ?_
          refine lv_if_le (tgt := 112) hx hb dX6_knot_107 (by decide) (fun h9 => absurd h9 (by decide)) (fun _ => ?_)
          refine lv_iconst (v := 0) hx hb dX6_knot_110 (by decide) ?_
          exact m_ret S hr hlocks hS hW (by simp [RR, sp_knot, bad, isB, isP, isJ, c_6, c_38_1, c_55_2, c_82_3, qi]) dX6_knot_111
        · refine lv_aload_n hx hb dX6_knot_85 rfl (lv_at hl 1 rfl) ?_
          refine lv_iload_n hx hb dX6_knot_86 rfl (lv_at hl 2 rfl) ?_
          refine lv_iload_n hx hb dX6_knot_87 rfl (lv_at hl 3 rfl) ?_
          refine lv_iload_n hx hb dX6_knot_88 rfl (lv_at hl 4 rfl) ?_
          refine g_callV (As := [.int (nI i), .int f9, .int t9]) (rest := [.ref (wad w 9 (0))]) S hE hS (c_X6_isTaken l z w g1 g o (0) A B hO (i) (by omega) (f9) (t9)) (cwV 3 hts (gU_V tw_906 tw_908 tp_24 tw_6 tw_909) rfl rfl rfl (by decide +kernel) ⟨Nat.le_of_ble_eq_true rfl, Nat.le_of_ble_eq_true rfl⟩) (by obtain ⟨gm9, hW9, -⟩ := hW; exact hE.recv hW9.md (q := (RX6, TX6, 36)) rfl) hW rfl hl.1 rfl (Nat.le_of_ble_eq_true rfl) dX6_knot_89 ⟨Nat.zero_le _, Nat.zero_le _⟩ ?_
          refine g_if_eq S (tgt := 99) dX6_knot_92 (by decide) (fun c_92_4 => ?_) (fun c_92_4 => ?_)
          · refine lv_iconst (v := 0) hx hb dX6_knot_99 (by decide) ?_
            refine m_putt S hE hS hW tw_740 dX6_knot_100 (fun H locs hW hS => ?_)
            refine lv_aload_n hx hb dX6_knot_103 rfl (lv_at hl 1 rfl) ?_
            refine m_gett S hE hW tw_740 dX6_knot_104 ?_
            refine lv_if_le (tgt := 112) hx hb dX6_knot_107 (by decide) (fun _ => ?_) (fun h9 => absurd h9 (by decide))
            refine lv_aload_n hx hb dX6_knot_112 rfl (lv_at hl 1 rfl) ?_
            refine m_geta S hE hW 14 (by decide) rfl tw_754 rfl dX6_knot_113 ?_
            refine lv_iconst (v := 4) hx hb dX6_knot_116 (by decide) ?_
            refine lv_iload_n hx hb dX6_knot_117 rfl (lv_at hl 2 rfl) ?_
            refine lv_imul hx hb dX6_knot_118 ?_
            rw [show (4 : Int32) * nI i = nI (4 * (i)) from pk_mul 4 _]
            refine lv_aload_n hx hb dX6_knot_119 rfl (lv_at hl 1 rfl) ?_
            refine m_geta S hE hW 13 (by decide) rfl tw_753 rfl dX6_knot_120 ?_
            refine lv_iload_n hx hb dX6_knot_123 rfl (lv_at hl 2 rfl) ?_
            refine m_ald S hE hW (k := 13) (v := nI (kn g (i))) rfl (vp_in_nI (show i < 20 from (by omega)) (by decide)) (by rw [show (nI i : Int32).toNatClampNeg = i from (nI_clamp (by omega))]; exact (hO.n13 (i := i) (by omega))) dX6_knot_124 ?_
            refine g_iadd S dX6_knot_125 ?_
            refine lv_iload_n hx hb dX6_knot_126 rfl (lv_at hl 3 rfl) ?_
            refine m_ast S hE hS hW (k := 14) (j := (4 * (i)) + (kn g (i))) rfl (vp_in_nI (show (4 * (i)) + (kn g (i)) < 80 from (by omega)) (by decide)) (nI_clamp (by omega)) dX6_knot_127 (fun H locs hW hS => ?_)
            refine lv_aload_n hx hb dX6_knot_128 rfl (lv_at hl 1 rfl) ?_
            refine m_geta S hE hW 15 (by decide) rfl tw_755 rfl dX6_knot_129 ?_
            refine lv_iconst (v := 4) hx hb dX6_knot_132 (by decide) ?_
            refine lv_iload_n hx hb dX6_knot_133 rfl (lv_at hl 2 rfl) ?_
            refine lv_imul hx hb dX6_knot_134 ?_
            rw [show (4 : Int32) * nI i = nI (4 * (i)) from pk_mul 4 _]
            refine lv_aload_n hx hb dX6_knot_135 rfl (lv_at hl 1 rfl) ?_
            refine m_geta S hE hW 13 (by decide) rfl tw_753 rfl dX6_knot_136 ?_
            refine lv_iload_n hx hb dX6_knot_139 rfl (lv_at hl 2 rfl) ?_
            refine m_ald S hE hW (k := 13) (v := nI (kn g (i))) rfl (vp_in_nI (show i < 20 from (by omega)) (by decide)) (by rw [show (nI i : Int32).toNatClampNeg = i from (nI_clamp (by omega))]; exact ((by simp [gup] : _ = g 13 (i)).trans (hO.n13 (i := i) (by omega)))) dX6_knot_140 ?_
            refine g_iadd S dX6_knot_141 ?_
            refine lv_iload_n hx hb dX6_knot_142 rfl (lv_at hl 4 rfl) ?_
            refine m_ast S hE hS hW (k := 15) (j := (4 * (i)) + (kn g (i))) rfl (vp_in_nI (show (4 * (i)) + (kn g (i)) < 80 from (by omega)) (by decide)) (nI_clamp (by omega)) dX6_knot_143 (fun H locs hW hS => ?_)
            refine lv_aload_n hx hb dX6_knot_144 rfl (lv_at hl 1 rfl) ?_
            refine m_geta S hE hW 13 (by decide) rfl tw_753 rfl dX6_knot_145 ?_
            refine lv_iload_n hx hb dX6_knot_148 rfl (lv_at hl 2 rfl) ?_
            refine lv_dup2_11 hx hb dX6_knot_149 rfl rfl ?_
            refine m_ald S hE hW (k := 13) (v := nI (kn g (i))) rfl (vp_in_nI (show i < 20 from (by omega)) (by decide)) (by rw [show (nI i : Int32).toNatClampNeg = i from (nI_clamp (by omega))]; exact ((by simp [gup] : _ = g 13 (i)).trans (hO.n13 (i := i) (by omega)))) dX6_knot_150 ?_
            refine lv_iconst (v := 1) hx hb dX6_knot_151 (by decide) ?_
            refine lv_iadd hx hb dX6_knot_152 ?_
            rw [show (nI (kn g (i)) : Int32) + 1 = nI ((kn g (i)) + 1) from nI_add _ 1]
            refine m_ast S hE hS hW (k := 13) (j := i) rfl (vp_in_nI (show i < 20 from (by omega)) (by decide)) (nI_clamp (by omega)) dX6_knot_153 (fun H locs hW hS => ?_)
            refine lv_aload_n hx hb dX6_knot_154 rfl (lv_at hl 1 rfl) ?_
            refine m_geta S hE hW 13 (by decide) rfl tw_753 rfl dX6_knot_155 ?_
            refine lv_iload_n hx hb dX6_knot_158 rfl (lv_at hl 2 rfl) ?_
            refine m_ald S hE hW (k := 13) (v := nI ((kn g (i)) + 1)) rfl (vp_in_nI (show i < 20 from (by omega)) (by decide)) (by rw [show (nI i : Int32).toNatClampNeg = i from (nI_clamp (by omega))]; exact (by simp [gup])) dX6_knot_159 ?_
            exact m_ret S hr hlocks hS hW (by simp [RR, sp_knot, bad, isB, isP, isJ, c_6, c_38_1, c_55_2, c_82_3, c_92_4, qi]) dX6_knot_160
          · refine lv_iconst (v := 3) hx hb dX6_knot_95 (by decide) ?_
            refine lv_goto (tgt := 100) hx hb dX6_knot_96 (by decide) ?_
            refine m_putt S hE hS hW tw_740 dX6_knot_100 (fun H locs hW hS => ?_)
            refine lv_aload_n hx hb dX6_knot_103 rfl (lv_at hl 1 rfl) ?_
            refine m_gett S hE hW tw_740 dX6_knot_104 ?_
            refine lv_if_le (tgt := 112) hx hb dX6_knot_107 (by decide) (fun h9 => absurd h9 (by decide)) (fun _ => ?_)
            refine lv_iconst (v := 0) hx hb dX6_knot_110 (by decide) ?_
            exact m_ret S hr hlocks hS hW (by simp [RR, sp_knot, bad, isB, isP, isJ, c_6, c_38_1, c_55_2, c_82_3, c_92_4, qi]) dX6_knot_111
  · refine lv_iconst (v := 1) hx hb dX6_knot_9 (by decide) ?_
    refine lv_goto (tgt := 14) hx hb dX6_knot_10 (by decide) ?_
    refine m_putt S hE hS hW tw_740 dX6_knot_14 (fun H locs hW hS => ?_)
    refine lv_aload_n hx hb dX6_knot_17 rfl (lv_at hl 0 rfl) ?_
    refine m_gett S hE hW tw_740 dX6_knot_18 ?_
    refine lv_if_ne (tgt := 103) hx hb dX6_knot_21 (by decide) (fun _ => ?_) (fun h9 => absurd h9 (by decide))
    refine lv_aload_n hx hb dX6_knot_103 rfl (lv_at hl 0 rfl) ?_
    refine m_gett S hE hW tw_740 dX6_knot_104 ?_
    refine lv_if_le (tgt := 112) hx hb dX6_knot_107 (by decide) (fun h9 => absurd h9 (by decide)) (fun _ => ?_)
    refine lv_iconst (v := 0) hx hb dX6_knot_110 (by decide) ?_
    exact m_ret S hr hlocks hS hW (by simp [RR, sp_knot, bad, isB, isP, isJ, c_6]) dX6_knot_111
set_option maxHeartbeats 4000000 in
set_option maxRecDepth 100000 in
/-- cut(board, from, length, width, isHidden) -/
theorem c_X6_cut (l : Launch) (z : ZE) (w : WG) (g1 g : GS) (o : Nat → Int64) (t : Int32) (A B : Nat → Int32) (hO : OKg g) (a f9 l9 w9 hid : Int32) : Met l yX6_cut (.code yX6_cut cX6_cut 8 (some .int) :: wU) ({ frames := 3, cells := 0, slots := 0, locals := 65 }) (PE z [.ref (wad w 9 (0)), .int a, .int f9, .int l9, .int w9, .int hid] (fun H => MW z w g1 o g t A B H)) (qM z w g1 o (fun r u => RR (sp_cut g a f9 l9 w9 hid) r u.2.1 u.1)) 0 0 (zA z) := by
  refine Met.ofW (cc := cX6_cut) (maxL := 8) (ret := (some .int)) (by decide) rfl ?_
  intro p e s m args below meth c s₁ BD hml hv
  obtain ⟨rfl, hE, hW⟩ := hv
  have hts : ∀ w ∈ wU, w.before _ s = true := fun w h => atoms_spec (ws := .code yX6_cut cX6_cut 8 (some .int) :: wU) BD.pre w (List.mem_cons_of_mem _ h)
  have S : CallFix p m c cX6_cut 8 s ([.ref (wad w 9 (0)), .int a, .int f9, .int l9, .int w9, .int hid] : List Value).toArray wU RX6 := ⟨BD.exec, BD.bytes, hml, findClass_of_methodNamed BD.named, hts⟩
  have hx := S.1
  have hb := S.2.1
  have hown := S.2.2.2.1
  have hr := BD.returns
  have hlocks := BD.notSynchronized
  have hS : va_S (zA z) s.heap s.heap [] := va_S.rf
  have hl := lv_entry ([.ref (wad w 9 (0)), .int a, .int f9, .int l9, .int w9, .int hid]) (n := 8) (Nat.le_of_ble_eq_true rfl)
  rw [lg_entry_eq]
  generalize (lg_sl ([.ref (wad w 9 (0)), .int a, .int f9, .int l9, .int w9, .int hid]) ++ List.replicate (8 - (lg_sl ([.ref (wad w 9 (0)), .int a, .int f9, .int l9, .int w9, .int hid])).length) Slot.unset).toArray = ls at hl ⊢
  have hl : lv_has ls 8 [(0, .ref (wad w 9 (0))), (1, .int a), (2, .int f9), (3, .int l9), (4, .int w9), (5, .int hid)] := hl
  have h20 := hO.l5
  have h40 := hO.l16
  have h30 := hO.l24
  refine lv_aload_n hx hb dX6_cut_0 rfl (lv_at hl 0 rfl) ?_
  refine lv_aload_n hx hb dX6_cut_1 rfl (lv_at hl 0 rfl) ?_
  refine lv_iload_n hx hb dX6_cut_2 rfl (lv_at hl 1 rfl) ?_
  refine g_callV (As := [.int a]) (rest := [.ref (wad w 9 (0))]) S hE hS (c_X6_isBoard l z w g1 g o (t) A B hO (a)) (cwV 1 hts (gU_V tw_902 tw_904 tp_23 tw_6 tw_905) rfl rfl rfl (by decide +kernel) ⟨Nat.le_of_ble_eq_true rfl, Nat.le_of_ble_eq_true rfl⟩) (by obtain ⟨gm9, hW9, -⟩ := hW; exact hE.recv hW9.md (q := (RX6, TX6, 36)) rfl) hW rfl hl.1 rfl (Nat.le_of_ble_eq_true rfl) dX6_cut_3 ⟨Nat.zero_le _, Nat.zero_le _⟩ ?_
  refine g_if_ne S (tgt := 13) dX6_cut_6 (by decide) (fun c_6 => ?_) (fun c_6 => ?_)
  · obtain ⟨i, hi, rfl⟩ := wi_lt (n := nb g) (by omega) c_6
    have qi : (nI i).toNatClampNeg = i := nI_clamp (by omega)
    have hk4 := hO.l13 hi
    refine lv_aload_n hx hb dX6_cut_13 rfl (lv_at hl 0 rfl) ?_
    refine lv_iload_n hx hb dX6_cut_14 rfl (lv_at hl 2 rfl) ?_
    refine lv_iconst (v := 0) hx hb dX6_cut_15 (by decide) ?_
    refine lv_sipush (v := 30000) hx hb dX6_cut_16 (by decide) ?_
    refine g_callV (As := [.int f9, .int 0, .int 30000]) (rest := [.ref (wad w 9 (0))]) S hE hS (c_X6_between l z w g1 g o (t) A B (f9) (0) (30000)) (cwV 3 hts (gU_V tw_858 tw_860 tp_15 tw_6 tw_861) rfl rfl rfl (by decide +kernel) ⟨Nat.le_of_ble_eq_true rfl, Nat.le_of_ble_eq_true rfl⟩) (by obtain ⟨gm9, hW9, -⟩ := hW; exact hE.recv hW9.md (q := (RX6, TX6, 36)) rfl) hW rfl hl.1 rfl (Nat.le_of_ble_eq_true rfl) dX6_cut_19 ⟨Nat.zero_le _, Nat.zero_le _⟩ ?_
    refine g_if_eq S (tgt := 52) dX6_cut_22 (by decide) (fun c_22_1 => ?_) (fun c_22_1 => ?_)
    · refine lv_iconst (v := 2) hx hb dX6_cut_52 (by decide) ?_
      refine lv_goto (tgt := 57) hx hb dX6_cut_53 (by decide) ?_
      refine m_putt S hE hS hW tw_740 dX6_cut_57 (fun H locs hW hS => ?_)
      refine lv_aload_n hx hb dX6_cut_60 rfl (lv_at hl 0 rfl) ?_
      refine m_gett S hE hW tw_740 dX6_cut_61 ?_
      refine lv_if_ne (tgt := 179) hx hb dX6_cut_64 (by decide) (fun _ => ?_) (fun h9 => absurd h9 (by decide))
      refine lv_aload_n hx hb dX6_cut_179 rfl (lv_at hl 0 rfl) ?_
      refine m_gett S hE hW tw_740 dX6_cut_180 ?_
      refine lv_if_le (tgt := 188) hx hb dX6_cut_183 (by decide) (fun h9 => absurd h9 (by decide)) (fun _ => ?_)
      refine lv_iconst (v := 0) hx hb dX6_cut_186 (by decide) ?_
      exact m_ret S hr hlocks hS hW (by simp [RR, sp_cut, cutok, cutst, bad, isB, isP, isJ, c_6, c_22_1, qi]) dX6_cut_187
    · refine lv_aload_n hx hb dX6_cut_25 rfl (lv_at hl 0 rfl) ?_
      refine lv_iload_n hx hb dX6_cut_26 rfl (lv_at hl 3 rfl) ?_
      refine lv_bipush (v := 10) hx hb dX6_cut_27 (by decide) ?_
      refine lv_sipush (v := 30000) hx hb dX6_cut_29 (by decide) ?_
      refine g_callV (As := [.int l9, .int 10, .int 30000]) (rest := [.ref (wad w 9 (0))]) S hE hS (c_X6_between l z w g1 g o (t) A B (l9) (10) (30000)) (cwV 3 hts (gU_V tw_858 tw_860 tp_15 tw_6 tw_861) rfl rfl rfl (by decide +kernel) ⟨Nat.le_of_ble_eq_true rfl, Nat.le_of_ble_eq_true rfl⟩) (by obtain ⟨gm9, hW9, -⟩ := hW; exact hE.recv hW9.md (q := (RX6, TX6, 36)) rfl) hW rfl hl.1 rfl (Nat.le_of_ble_eq_true rfl) dX6_cut_32 ⟨Nat.zero_le _, Nat.zero_le _⟩ ?_
      refine g_if_eq S (tgt := 52) dX6_cut_35 (by decide) (fun c_35_2 => ?_) (fun c_35_2 => ?_)
      · refine lv_iconst (v := 2) hx hb dX6_cut_52 (by decide) ?_
        refine lv_goto (tgt := 57) hx hb dX6_cut_53 (by decide) ?_
        refine m_putt S hE hS hW tw_740 dX6_cut_57 (fun H locs hW hS => ?_)
        refine lv_aload_n hx hb dX6_cut_60 rfl (lv_at hl 0 rfl) ?_
        refine m_gett S hE hW tw_740 dX6_cut_61 ?_
        refine lv_if_ne (tgt := 179) hx hb dX6_cut_64 (by decide) (fun _ => ?_) (fun h9 => absurd h9 (by decide))
        refine lv_aload_n hx hb dX6_cut_179 rfl (lv_at hl 0 rfl) ?_
        refine m_gett S hE hW tw_740 dX6_cut_180 ?_
        refine lv_if_le (tgt := 188) hx hb dX6_cut_183 (by decide) (fun h9 => absurd h9 (by decide)) (fun _ => ?_)
        refine lv_iconst (v := 0) hx hb dX6_cut_186 (by decide) ?_
        exact m_ret S hr hlocks hS hW (by simp [RR, sp_cut, cutok, cutst, bad, isB, isP, isJ, c_6, c_22_1, c_35_2, qi]) dX6_cut_187
      · refine lv_aload_n hx hb dX6_cut_38 rfl (lv_at hl 0 rfl) ?_
        refine lv_iload hx hb dX6_cut_39 (lv_at hl 4 rfl) ?_
        refine lv_bipush (v := 10) hx hb dX6_cut_41 (by decide) ?_
        refine lv_sipush (v := 6000) hx hb dX6_cut_43 (by decide) ?_
        refine g_callV (As := [.int w9, .int 10, .int 6000]) (rest := [.ref (wad w 9 (0))]) S hE hS (c_X6_between l z w g1 g o (t) A B (w9) (10) (6000)) (cwV 3 hts (gU_V tw_858 tw_860 tp_15 tw_6 tw_861) rfl rfl rfl (by decide +kernel) ⟨Nat.le_of_ble_eq_true rfl, Nat.le_of_ble_eq_true rfl⟩) (by obtain ⟨gm9, hW9, -⟩ := hW; exact hE.recv hW9.md (q := (RX6, TX6, 36)) rfl) hW rfl hl.1 rfl (Nat.le_of_ble_eq_true rfl) dX6_cut_46 ⟨Nat.zero_le _, Nat.zero_le _⟩ ?_
        refine g_if_ne S (tgt := 56) dX6_cut_49 (by decide) (fun c_49_3 => ?_) (fun c_49_3 => ?_)
        · refine lv_iconst (v := 0) hx hb dX6_cut_56 (by decide) ?_
          refine m_putt S hE hS hW tw_740 dX6_cut_57 (fun H locs hW hS => ?_)
          refine lv_aload_n hx hb dX6_cut_60 rfl (lv_at hl 0 rfl) ?_
          refine m_gett S hE hW tw_740 dX6_cut_61 ?_
          refine lv_if_ne (tgt := 179) hx hb dX6_cut_64 (by decide) (fun h9 => absurd h9 (by decide)) (fun _ => ?_)
          refine lv_aload_n hx hb dX6_cut_67 rfl (lv_at hl 0 rfl) ?_
          refine m_geti S hE hW 16 (v := nI (np g)) (by decide) rfl (by decide) tw_756 rfl hO.n16 dX6_cut_68 ?_
          refine lv_bipush (v := 40) hx hb dX6_cut_71 (by decide) ?_
          rw [show (40 : Int32) = nI 40 from rfl]
          refine g_icmp_ge S (by omega) (by omega) (tgt := 114) dX6_cut_73 (by decide) (fun c_73_4 => ?_) (fun c_73_4 => ?_)
          · refine lv_iconst (v := 0) hx hb dX6_cut_114 (by decide) ?_
            refine lv_istore (lv' := [(6, .int 0), (0, .ref (wad w 9 (0))), (1, .int (nI i)), (2, .int f9), (3, .int l9), (4, .int w9), (5, .int hid)]) hx hb dX6_cut_115 hl (by decide) rfl (fun ls hl => ?_)
            refine lv_iload hx hb dX6_cut_117 (lv_at hl 6 rfl) ?_
            refine lv_if_ne (tgt := 134) hx hb dX6_cut_119 (by decide) (fun c_119_5 => ?_) (fun c_119_5 => ?_)
            · refine lv_iconst (v := 1) hx hb dX6_cut_134 (by decide) ?_
              refine lv_goto (tgt := 139) hx hb dX6_cut_135 (by decide) ?_
              refine lv_istore (lv' := [(7, .int 1), (6, .int 0), (0, .ref (wad w 9 (0))), (1, .int (nI i)), (2, .int f9), (3, .int l9), (4, .int w9), (5, .int hid)]) hx hb dX6_cut_139 hl (by decide) rfl (fun ls hl => ?_)
              refine lv_aload_n hx hb dX6_cut_141 rfl (lv_at hl 2 rfl) ?_
              refine lv_iload hx hb dX6_cut_142 (lv_at hl 1 rfl) ?_
              refine lv_if_eq (tgt := 175) hx hb dX6_cut_144 (by decide) (fun _ => ?_) (fun h9 => absurd h9 (by decide))
              refine lv_iconst (v := 3) hx hb dX6_cut_175 (by decide) ?_
              refine m_putt S hE hS hW tw_740 dX6_cut_176 (fun H locs hW hS => ?_)
              refine lv_aload_n hx hb dX6_cut_179 rfl (lv_at hl 2 rfl) ?_
              refine m_gett S hE hW tw_740 dX6_cut_180 ?_
              refine lv_if_le (tgt := 188) hx hb dX6_cut_183 (by decide) (fun h9 => absurd h9 (by decide)) (fun _ => ?_)
              refine lv_iconst (v := 0) hx hb dX6_cut_186 (by decide) ?_
              exact m_ret S hr hlocks hS hW (by simp [RR, sp_cut, cutok, cutst, bad, isB, isP, isJ, c_6, c_22_1, c_35_2, c_49_3, c_73_4, c_119_5, qi]) dX6_cut_187
            · refine lv_aload_n hx hb dX6_cut_122 rfl (lv_at hl 1 rfl) ?_
              refine lv_iload_n hx hb dX6_cut_123 rfl (lv_at hl 2 rfl) ?_
              refine lv_iload_n hx hb dX6_cut_124 rfl (lv_at hl 3 rfl) ?_
              refine lv_iload_n hx hb dX6_cut_125 rfl (lv_at hl 3 rfl) ?_
              refine lv_iload_n hx hb dX6_cut_126 rfl (lv_at hl 4 rfl) ?_
              refine lv_iadd hx hb dX6_cut_127 ?_
              refine g_callV (As := [.int (nI i), .int f9, .int (f9 + l9)]) (rest := []) S hE hS (c_X6_hasKnot l z w g1 g o (0) A B hO (i) (by omega) (f9) (f9 + l9)) (cwV 3 hts (gU_V tw_918 tw_920 tp_26 tw_6 tw_921) rfl rfl rfl (by decide +kernel) ⟨Nat.le_of_ble_eq_true rfl, Nat.le_of_ble_eq_true rfl⟩) (by obtain ⟨gm9, hW9, -⟩ := hW; exact hE.recv hW9.md (q := (RX6, TX6, 36)) rfl) hW rfl hl.1 rfl (Nat.le_of_ble_eq_true rfl) dX6_cut_128 ⟨Nat.zero_le _, Nat.zero_le _⟩ ?_
              refine g_if_ne S (tgt := 138) dX6_cut_131 (by decide) (fun c_131_6 => ?_) (fun c_131_6 => ?_)
              · refine lv_iconst (v := 0) hx hb dX6_cut_138 (by decide) ?_
                refine lv_istore (lv' := [(7, .int 0), (6, .int 0), (0, .ref (wad w 9 (0))), (1, .int (nI i)), (2, .int f9), (3, .int l9), (4, .int w9), (5, .int hid)]) hx hb dX6_cut_139 hl (by decide) rfl (fun ls hl => ?_)
                refine lv_aload_n hx hb dX6_cut_141 rfl (lv_at hl 2 rfl) ?_
                refine lv_iload hx hb dX6_cut_142 (lv_at hl 1 rfl) ?_
                refine lv_if_eq (tgt := 175) hx hb dX6_cut_144 (by decide) (fun _ => ?_) (fun h9 => absurd h9 (by decide))
                refine lv_iconst (v := 3) hx hb dX6_cut_175 (by decide) ?_
                refine m_putt S hE hS hW tw_740 dX6_cut_176 (fun H locs hW hS => ?_)
                refine lv_aload_n hx hb dX6_cut_179 rfl (lv_at hl 2 rfl) ?_
                refine m_gett S hE hW tw_740 dX6_cut_180 ?_
                refine lv_if_le (tgt := 188) hx hb dX6_cut_183 (by decide) (fun h9 => absurd h9 (by decide)) (fun _ => ?_)
                refine lv_iconst (v := 0) hx hb dX6_cut_186 (by decide) ?_
                exact m_ret S hr hlocks hS hW (by simp [RR, sp_cut, cutok, cutst, bad, isB, isP, isJ, c_6, c_22_1, c_35_2, c_49_3, c_73_4, c_119_5, c_131_6, qi]) dX6_cut_187
              · refine lv_iconst (v := 1) hx hb dX6_cut_134 (by decide) ?_
                refine lv_goto (tgt := 139) hx hb dX6_cut_135 (by decide) ?_
                refine lv_istore (lv' := [(7, .int 1), (6, .int 0), (0, .ref (wad w 9 (0))), (1, .int (nI i)), (2, .int f9), (3, .int l9), (4, .int w9), (5, .int hid)]) hx hb dX6_cut_139 hl (by decide) rfl (fun ls hl => ?_)
                refine lv_aload_n hx hb dX6_cut_141 rfl (lv_at hl 2 rfl) ?_
                refine lv_iload hx hb dX6_cut_142 (lv_at hl 1 rfl) ?_
                refine lv_if_eq (tgt := 175) hx hb dX6_cut_144 (by decide) (fun _ => ?_) (fun h9 => absurd h9 (by decide))
                refine lv_iconst (v := 3) hx hb dX6_cut_175 (by decide) ?_
                refine m_putt S hE hS hW tw_740 dX6_cut_176 (fun H locs hW hS => ?_)
                refine lv_aload_n hx hb dX6_cut_179 rfl (lv_at hl 2 rfl) ?_
                refine m_gett S hE hW tw_740 dX6_cut_180 ?_
                refine lv_if_le (tgt := 188) hx hb dX6_cut_183 (by decide) (fun h9 => absurd h9 (by decide)) (fun _ => ?_)
                refine lv_iconst (v := 0) hx hb dX6_cut_186 (by decide) ?_
                exact m_ret S hr hlocks hS hW (by simp [RR, sp_cut, cutok, cutst, bad, isB, isP, isJ, c_6, c_22_1, c_35_2, c_49_3, c_73_4, c_119_5, c_131_6, qi]) dX6_cut_187
          · refine lv_iload_n hx hb dX6_cut_76 rfl (lv_at hl 2 rfl) ?_
            refine lv_iload_n hx hb dX6_cut_77 rfl (lv_at hl 3 rfl) ?_
            refine lv_iadd hx hb dX6_cut_78 ?_
            refine lv_aload_n hx hb dX6_cut_79 rfl (lv_at hl 0 rfl) ?_
            refine m_geta S hE hW 10 (by decide) rfl tw_750 rfl dX6_cut_80 ?_
            refine lv_iload_n hx hb dX6_cut_83 rfl (lv_at hl 1 rfl) ?_
            refine m_ald S hE hW (k := 10) (v := g 10 i) rfl (vp_in_nI (show i < 20 from (by omega)) (by decide)) (by rw [show (nI i : Int32).toNatClampNeg = i from (nI_clamp (by omega))]) dX6_cut_84 ?_
            refine lv_icmp_gt (tgt := 114) hx hb dX6_cut_85 (by decide) (fun c_85_7 => ?_) (fun c_85_7 => ?_)
            · refine lv_iconst (v := 0) hx hb dX6_cut_114 (by decide) ?_
              refine lv_istore (lv' := [(6, .int 0), (0, .ref (wad w 9 (0))), (1, .int (nI i)), (2, .int f9), (3, .int l9), (4, .int w9), (5, .int hid)]) hx hb dX6_cut_115 hl (by decide) rfl (fun ls hl => ?_)
              refine lv_iload hx hb dX6_cut_117 (lv_at hl 6 rfl) ?_
              refine lv_if_ne (tgt := 134) hx hb dX6_cut_119 (by decide) (fun c_119_8 => ?_) (fun c_119_8 => ?_)
              · refine lv_iconst (v := 1) hx hb dX6_cut_134 (by decide) ?_
                refine lv_goto (tgt := 139) hx hb dX6_cut_135 (by decide) ?_
                refine lv_istore (lv' := [(7, .int 1), (6, .int 0), (0, .ref (wad w 9 (0))), (1, .int (nI i)), (2, .int f9), (3, .int l9), (4, .int w9), (5, .int hid)]) hx hb dX6_cut_139 hl (by decide) rfl (fun ls hl => ?_)
                refine lv_aload_n hx hb dX6_cut_141 rfl (lv_at hl 2 rfl) ?_
                refine lv_iload hx hb dX6_cut_142 (lv_at hl 1 rfl) ?_
                refine lv_if_eq (tgt := 175) hx hb dX6_cut_144 (by decide) (fun _ => ?_) (fun h9 => absurd h9 (by decide))
                refine lv_iconst (v := 3) hx hb dX6_cut_175 (by decide) ?_
                refine m_putt S hE hS hW tw_740 dX6_cut_176 (fun H locs hW hS => ?_)
                refine lv_aload_n hx hb dX6_cut_179 rfl (lv_at hl 2 rfl) ?_
                refine m_gett S hE hW tw_740 dX6_cut_180 ?_
                refine lv_if_le (tgt := 188) hx hb dX6_cut_183 (by decide) (fun h9 => absurd h9 (by decide)) (fun _ => ?_)
                refine lv_iconst (v := 0) hx hb dX6_cut_186 (by decide) ?_
                exact m_ret S hr hlocks hS hW (by simp [RR, sp_cut, cutok, cutst, bad, isB, isP, isJ, c_6, c_22_1, c_35_2, c_49_3, c_73_4, c_85_7, c_119_8, qi]) dX6_cut_187
              · refine lv_aload_n hx hb dX6_cut_122 rfl (lv_at hl 1 rfl) ?_
                refine lv_iload_n hx hb dX6_cut_123 rfl (lv_at hl 2 rfl) ?_
                refine lv_iload_n hx hb dX6_cut_124 rfl (lv_at hl 3 rfl) ?_
                refine lv_iload_n hx hb dX6_cut_125 rfl (lv_at hl 3 rfl) ?_
                refine lv_iload_n hx hb dX6_cut_126 rfl (lv_at hl 4 rfl) ?_
                refine lv_iadd hx hb dX6_cut_127 ?_
                refine g_callV (As := [.int (nI i), .int f9, .int (f9 + l9)]) (rest := []) S hE hS (c_X6_hasKnot l z w g1 g o (0) A B hO (i) (by omega) (f9) (f9 + l9)) (cwV 3 hts (gU_V tw_918 tw_920 tp_26 tw_6 tw_921) rfl rfl rfl (by decide +kernel) ⟨Nat.le_of_ble_eq_true rfl, Nat.le_of_ble_eq_true rfl⟩) (by obtain ⟨gm9, hW9, -⟩ := hW; exact hE.recv hW9.md (q := (RX6, TX6, 36)) rfl) hW rfl hl.1 rfl (Nat.le_of_ble_eq_true rfl) dX6_cut_128 ⟨Nat.zero_le _, Nat.zero_le _⟩ ?_
                refine g_if_ne S (tgt := 138) dX6_cut_131 (by decide) (fun c_131_9 => ?_) (fun c_131_9 => ?_)
                · refine lv_iconst (v := 0) hx hb dX6_cut_138 (by decide) ?_
                  refine lv_istore (lv' := [(7, .int 0), (6, .int 0), (0, .ref (wad w 9 (0))), (1, .int (nI i)), (2, .int f9), (3, .int l9), (4, .int w9), (5, .int hid)]) hx hb dX6_cut_139 hl (by decide) rfl (fun ls hl => ?_)
                  refine lv_aload_n hx hb dX6_cut_141 rfl (lv_at hl 2 rfl) ?_
                  refine lv_iload hx hb dX6_cut_142 (lv_at hl 1 rfl) ?_
                  refine lv_if_eq (tgt := 175) hx hb dX6_cut_144 (by decide) (fun _ => ?_) (fun h9 => absurd h9 (by decide))
                  refine lv_iconst (v := 3) hx hb dX6_cut_175 (by decide) ?_
                  refine m_putt S hE hS hW tw_740 dX6_cut_176 (fun H locs hW hS => ?_)
                  refine lv_aload_n hx hb dX6_cut_179 rfl (lv_at hl 2 rfl) ?_
                  refine m_gett S hE hW tw_740 dX6_cut_180 ?_
                  refine lv_if_le (tgt := 188) hx hb dX6_cut_183 (by decide) (fun h9 => absurd h9 (by decide)) (fun _ => ?_)
                  refine lv_iconst (v := 0) hx hb dX6_cut_186 (by decide) ?_
                  exact m_ret S hr hlocks hS hW (by simp [RR, sp_cut, cutok, cutst, bad, isB, isP, isJ, c_6, c_22_1, c_35_2, c_49_3, c_73_4, c_85_7, c_119_8, c_131_9, qi]) dX6_cut_187
                · refine lv_iconst (v := 1) hx hb dX6_cut_134 (by decide) ?_
                  refine lv_goto (tgt := 139) hx hb dX6_cut_135 (by decide) ?_
                  refine lv_istore (lv' := [(7, .int 1), (6, .int 0), (0, .ref (wad w 9 (0))), (1, .int (nI i)), (2, .int f9), (3, .int l9), (4, .int w9), (5, .int hid)]) hx hb dX6_cut_139 hl (by decide) rfl (fun ls hl => ?_)
                  refine lv_aload_n hx hb dX6_cut_141 rfl (lv_at hl 2 rfl) ?_
                  refine lv_iload hx hb dX6_cut_142 (lv_at hl 1 rfl) ?_
                  refine lv_if_eq (tgt := 175) hx hb dX6_cut_144 (by decide) (fun _ => ?_) (fun h9 => absurd h9 (by decide))
                  refine lv_iconst (v := 3) hx hb dX6_cut_175 (by decide) ?_
                  refine m_putt S hE hS hW tw_740 dX6_cut_176 (fun H locs hW hS => ?_)
                  refine lv_aload_n hx hb dX6_cut_179 rfl (lv_at hl 2 rfl) ?_
                  refine m_gett S hE hW tw_740 dX6_cut_180 ?_
                  refine lv_if_le (tgt := 188) hx hb dX6_cut_183 (by decide) (fun h9 => absurd h9 (by decide)) (fun _ => ?_)
                  refine lv_iconst (v := 0) hx hb dX6_cut_186 (by decide) ?_
                  exact m_ret S hr hlocks hS hW (by simp [RR, sp_cut, cutok, cutst, bad, isB, isP, isJ, c_6, c_22_1, c_35_2, c_49_3, c_73_4, c_85_7, c_119_8, c_131_9, qi]) dX6_cut_187
            · refine lv_aload_n hx hb dX6_cut_88 rfl (lv_at hl 0 rfl) ?_
              refine lv_iload_n hx hb dX6_cut_89 rfl (lv_at hl 1 rfl) ?_
              refine lv_iload_n hx hb dX6_cut_90 rfl (lv_at hl 2 rfl) ?_
              refine lv_iload_n hx hb dX6_cut_91 rfl (lv_at hl 2 rfl) ?_
              refine lv_iload_n hx hb dX6_cut_92 rfl (lv_at hl 3 rfl) ?_
              refine lv_iadd hx hb dX6_cut_93 ?_
              refine g_callV (As := [.int (nI i), .int f9, .int (f9 + l9)]) (rest := []) S hE hS (c_X6_isTaken l z w g1 g o (0) A B hO (i) (by omega) (f9) (f9 + l9)) (cwV 3 hts (gU_V tw_906 tw_908 tp_24 tw_6 tw_909) rfl rfl rfl (by decide +kernel) ⟨Nat.le_of_ble_eq_true rfl, Nat.le_of_ble_eq_true rfl⟩) (by obtain ⟨gm9, hW9, -⟩ := hW; exact hE.recv hW9.md (q := (RX6, TX6, 36)) rfl) hW rfl hl.1 rfl (Nat.le_of_ble_eq_true rfl) dX6_cut_94 ⟨Nat.zero_le _, Nat.zero_le _⟩ ?_
              refine g_if_ne S (tgt := 114) dX6_cut_97 (by decide) (fun c_97_10 => ?_) (fun c_97_10 => ?_)
              · refine lv_iconst (v := 0) hx hb dX6_cut_114 (by decide) ?_
                refine lv_istore (lv' := [(6, .int 0), (0, .ref (wad w 9 (0))), (1, .int (nI i)), (2, .int f9), (3, .int l9), (4, .int w9), (5, .int hid)]) hx hb dX6_cut_115 hl (by decide) rfl (fun ls hl => ?_)
                refine lv_iload hx hb dX6_cut_117 (lv_at hl 6 rfl) ?_
                refine lv_if_ne (tgt := 134) hx hb dX6_cut_119 (by decide) (fun c_119_11 => ?_) (fun c_119_11 => ?_)
                · refine lv_iconst (v := 1) hx hb dX6_cut_134 (by decide) ?_
                  refine lv_goto (tgt := 139) hx hb dX6_cut_135 (by decide) ?_
                  refine lv_istore (lv' := [(7, .int 1), (6, .int 0), (0, .ref (wad w 9 (0))), (1, .int (nI i)), (2, .int f9), (3, .int l9), (4, .int w9), (5, .int hid)]) hx hb dX6_cut_139 hl (by decide) rfl (fun ls hl => ?_)
                  refine lv_aload_n hx hb dX6_cut_141 rfl (lv_at hl 2 rfl) ?_
                  refine lv_iload hx hb dX6_cut_142 (lv_at hl 1 rfl) ?_
                  refine lv_if_eq (tgt := 175) hx hb dX6_cut_144 (by decide) (fun _ => ?_) (fun h9 => absurd h9 (by decide))
                  refine lv_iconst (v := 3) hx hb dX6_cut_175 (by decide) ?_
                  refine m_putt S hE hS hW tw_740 dX6_cut_176 (fun H locs hW hS => ?_)
                  refine lv_aload_n hx hb dX6_cut_179 rfl (lv_at hl 2 rfl) ?_
                  refine m_gett S hE hW tw_740 dX6_cut_180 ?_
                  refine lv_if_le (tgt := 188) hx hb dX6_cut_183 (by decide) (fun h9 => absurd h9 (by decide)) (fun _ => ?_)
                  refine lv_iconst (v := 0) hx hb dX6_cut_186 (by decide) ?_
                  exact m_ret S hr hlocks hS hW (by simp [RR, sp_cut, cutok, cutst, bad, isB, isP, isJ, c_6, c_22_1, c_35_2, c_49_3, c_73_4, c_85_7, c_97_10, c_119_11, qi]) dX6_cut_187
                · refine lv_aload_n hx hb dX6_cut_122 rfl (lv_at hl 1 rfl) ?_
                  refine lv_iload_n hx hb dX6_cut_123 rfl (lv_at hl 2 rfl) ?_
                  refine lv_iload_n hx hb dX6_cut_124 rfl (lv_at hl 3 rfl) ?_
                  refine lv_iload_n hx hb dX6_cut_125 rfl (lv_at hl 3 rfl) ?_
                  refine lv_iload_n hx hb dX6_cut_126 rfl (lv_at hl 4 rfl) ?_
                  refine lv_iadd hx hb dX6_cut_127 ?_
                  refine g_callV (As := [.int (nI i), .int f9, .int (f9 + l9)]) (rest := []) S hE hS (c_X6_hasKnot l z w g1 g o (0) A B hO (i) (by omega) (f9) (f9 + l9)) (cwV 3 hts (gU_V tw_918 tw_920 tp_26 tw_6 tw_921) rfl rfl rfl (by decide +kernel) ⟨Nat.le_of_ble_eq_true rfl, Nat.le_of_ble_eq_true rfl⟩) (by obtain ⟨gm9, hW9, -⟩ := hW; exact hE.recv hW9.md (q := (RX6, TX6, 36)) rfl) hW rfl hl.1 rfl (Nat.le_of_ble_eq_true rfl) dX6_cut_128 ⟨Nat.zero_le _, Nat.zero_le _⟩ ?_
                  refine g_if_ne S (tgt := 138) dX6_cut_131 (by decide) (fun c_131_12 => ?_) (fun c_131_12 => ?_)
                  · refine lv_iconst (v := 0) hx hb dX6_cut_138 (by decide) ?_
                    refine lv_istore (lv' := [(7, .int 0), (6, .int 0), (0, .ref (wad w 9 (0))), (1, .int (nI i)), (2, .int f9), (3, .int l9), (4, .int w9), (5, .int hid)]) hx hb dX6_cut_139 hl (by decide) rfl (fun ls hl => ?_)
                    refine lv_aload_n hx hb dX6_cut_141 rfl (lv_at hl 2 rfl) ?_
                    refine lv_iload hx hb dX6_cut_142 (lv_at hl 1 rfl) ?_
                    refine lv_if_eq (tgt := 175) hx hb dX6_cut_144 (by decide) (fun _ => ?_) (fun h9 => absurd h9 (by decide))
                    refine lv_iconst (v := 3) hx hb dX6_cut_175 (by decide) ?_
                    refine m_putt S hE hS hW tw_740 dX6_cut_176 (fun H locs hW hS => ?_)
                    refine lv_aload_n hx hb dX6_cut_179 rfl (lv_at hl 2 rfl) ?_
                    refine m_gett S hE hW tw_740 dX6_cut_180 ?_
                    refine lv_if_le (tgt := 188) hx hb dX6_cut_183 (by decide) (fun h9 => absurd h9 (by decide)) (fun _ => ?_)
                    refine lv_iconst (v := 0) hx hb dX6_cut_186 (by decide) ?_
                    exact m_ret S hr hlocks hS hW (by simp [RR, sp_cut, cutok, cutst, bad, isB, isP, isJ, c_6, c_22_1, c_35_2, c_49_3, c_73_4, c_85_7, c_97_10, c_119_11, c_131_12, qi]) dX6_cut_187
                  · refine lv_iconst (v := 1) hx hb dX6_cut_134 (by decide) ?_
                    refine lv_goto (tgt := 139) hx hb dX6_cut_135 (by decide) ?_
                    refine lv_istore (lv' := [(7, .int 1), (6, .int 0), (0, .ref (wad w 9 (0))), (1, .int (nI i)), (2, .int f9), (3, .int l9), (4, .int w9), (5, .int hid)]) hx hb dX6_cut_139 hl (by decide) rfl (fun ls hl => ?_)
                    refine lv_aload_n hx hb dX6_cut_141 rfl (lv_at hl 2 rfl) ?_
                    refine lv_iload hx hb dX6_cut_142 (lv_at hl 1 rfl) ?_
                    refine lv_if_eq (tgt := 175) hx hb dX6_cut_144 (by decide) (fun _ => ?_) (fun h9 => absurd h9 (by decide))
                    refine lv_iconst (v := 3) hx hb dX6_cut_175 (by decide) ?_
                    refine m_putt S hE hS hW tw_740 dX6_cut_176 (fun H locs hW hS => ?_)
                    refine lv_aload_n hx hb dX6_cut_179 rfl (lv_at hl 2 rfl) ?_
                    refine m_gett S hE hW tw_740 dX6_cut_180 ?_
                    refine lv_if_le (tgt := 188) hx hb dX6_cut_183 (by decide) (fun h9 => absurd h9 (by decide)) (fun _ => ?_)
                    refine lv_iconst (v := 0) hx hb dX6_cut_186 (by decide) ?_
                    exact m_ret S hr hlocks hS hW (by simp [RR, sp_cut, cutok, cutst, bad, isB, isP, isJ, c_6, c_22_1, c_35_2, c_49_3, c_73_4, c_85_7, c_97_10, c_119_11, c_131_12, qi]) dX6_cut_187
              · refine lv_iload hx hb dX6_cut_100 (lv_at hl 4 rfl) ?_
                refine lv_aload_n hx hb dX6_cut_102 rfl (lv_at hl 0 rfl) ?_
                refine lv_iload_n hx hb dX6_cut_103 rfl (lv_at hl 1 rfl) ?_
                refine g_callV (As := [.int (nI i)]) (rest := [.int w9]) S hE hS (c_X6_boardWidth l z w g1 g o (0) A B hO (i) (by omega)) (cwV 1 hts (gU_V tw_914 tw_916 tp_25 tw_6 tw_917) rfl rfl rfl (by decide +kernel) ⟨Nat.le_of_ble_eq_true rfl, Nat.le_of_ble_eq_true rfl⟩) (by obtain ⟨gm9, hW9, -⟩ := hW; exact hE.recv hW9.md (q := (RX6, TX6, 36)) rfl) hW rfl hl.1 rfl (Nat.le_of_ble_eq_true rfl) dX6_cut_104 ⟨Nat.zero_le _, Nat.zero_le _⟩ ?_
                refine lv_icmp_gt (tgt := 114) hx hb dX6_cut_107 (by decide) (fun c_107_13 => ?_) (fun c_107_13 => ?_)
                · refine lv_iconst (v := 0) hx hb dX6_cut_114 (by decide) ?_
                  refine lv_istore (lv' := [(6, .int 0), (0, .ref (wad w 9 (0))), (1, .int (nI i)), (2, .int f9), (3, .int l9), (4, .int w9), (5, .int hid)]) hx hb dX6_cut_115 hl (by decide) rfl (fun ls hl => ?_)
                  refine lv_iload hx hb dX6_cut_117 (lv_at hl 6 rfl) ?_
                  refine lv_if_ne (tgt := 134) hx hb dX6_cut_119 (by decide) (fun c_119_14 => ?_) (fun c_119_14 => ?_)
                  · refine lv_iconst (v := 1) hx hb dX6_cut_134 (by decide) ?_
                    refine lv_goto (tgt := 139) hx hb dX6_cut_135 (by decide) ?_
                    refine lv_istore (lv' := [(7, .int 1), (6, .int 0), (0, .ref (wad w 9 (0))), (1, .int (nI i)), (2, .int f9), (3, .int l9), (4, .int w9), (5, .int hid)]) hx hb dX6_cut_139 hl (by decide) rfl (fun ls hl => ?_)
                    refine lv_aload_n hx hb dX6_cut_141 rfl (lv_at hl 2 rfl) ?_
                    refine lv_iload hx hb dX6_cut_142 (lv_at hl 1 rfl) ?_
                    refine lv_if_eq (tgt := 175) hx hb dX6_cut_144 (by decide) (fun _ => ?_) (fun h9 => absurd h9 (by decide))
                    refine lv_iconst (v := 3) hx hb dX6_cut_175 (by decide) ?_
                    refine m_putt S hE hS hW tw_740 dX6_cut_176 (fun H locs hW hS => ?_)
                    refine lv_aload_n hx hb dX6_cut_179 rfl (lv_at hl 2 rfl) ?_
                    refine m_gett S hE hW tw_740 dX6_cut_180 ?_
                    refine lv_if_le (tgt := 188) hx hb dX6_cut_183 (by decide) (fun h9 => absurd h9 (by decide)) (fun _ => ?_)
                    refine lv_iconst (v := 0) hx hb dX6_cut_186 (by decide) ?_
                    exact m_ret S hr hlocks hS hW (by simp [RR, sp_cut, cutok, cutst, bad, isB, isP, isJ, c_6, c_22_1, c_35_2, c_49_3, c_73_4, c_85_7, c_97_10, c_107_13, c_119_14, qi]) dX6_cut_187
                  · refine lv_aload_n hx hb dX6_cut_122 rfl (lv_at hl 1 rfl) ?_
                    refine lv_iload_n hx hb dX6_cut_123 rfl (lv_at hl 2 rfl) ?_
                    refine lv_iload_n hx hb dX6_cut_124 rfl (lv_at hl 3 rfl) ?_
                    refine lv_iload_n hx hb dX6_cut_125 rfl (lv_at hl 3 rfl) ?_
                    refine lv_iload_n hx hb dX6_cut_126 rfl (lv_at hl 4 rfl) ?_
                    refine lv_iadd hx hb dX6_cut_127 ?_
                    refine g_callV (As := [.int (nI i), .int f9, .int (f9 + l9)]) (rest := []) S hE hS (c_X6_hasKnot l z w g1 g o (0) A B hO (i) (by omega) (f9) (f9 + l9)) (cwV 3 hts (gU_V tw_918 tw_920 tp_26 tw_6 tw_921) rfl rfl rfl (by decide +kernel) ⟨Nat.le_of_ble_eq_true rfl, Nat.le_of_ble_eq_true rfl⟩) (by obtain ⟨gm9, hW9, -⟩ := hW; exact hE.recv hW9.md (q := (RX6, TX6, 36)) rfl) hW rfl hl.1 rfl (Nat.le_of_ble_eq_true rfl) dX6_cut_128 ⟨Nat.zero_le _, Nat.zero_le _⟩ ?_
                    refine g_if_ne S (tgt := 138) dX6_cut_131 (by decide) (fun c_131_15 => ?_) (fun c_131_15 => ?_)
                    · refine lv_iconst (v := 0) hx hb dX6_cut_138 (by decide) ?_
                      refine lv_istore (lv' := [(7, .int 0), (6, .int 0), (0, .ref (wad w 9 (0))), (1, .int (nI i)), (2, .int f9), (3, .int l9), (4, .int w9), (5, .int hid)]) hx hb dX6_cut_139 hl (by decide) rfl (fun ls hl => ?_)
                      refine lv_aload_n hx hb dX6_cut_141 rfl (lv_at hl 2 rfl) ?_
                      refine lv_iload hx hb dX6_cut_142 (lv_at hl 1 rfl) ?_
                      refine lv_if_eq (tgt := 175) hx hb dX6_cut_144 (by decide) (fun _ => ?_) (fun h9 => absurd h9 (by decide))
                      refine lv_iconst (v := 3) hx hb dX6_cut_175 (by decide) ?_
                      refine m_putt S hE hS hW tw_740 dX6_cut_176 (fun H locs hW hS => ?_)
                      refine lv_aload_n hx hb dX6_cut_179 rfl (lv_at hl 2 rfl) ?_
                      refine m_gett S hE hW tw_740 dX6_cut_180 ?_
                      refine lv_if_le (tgt := 188) hx hb dX6_cut_183 (by decide) (fun h9 => absurd h9 (by decide)) (fun _ => ?_)
                      refine lv_iconst (v := 0) hx hb dX6_cut_186 (by decide) ?_
                      exact m_ret S hr hlocks hS hW (by simp [RR, sp_cut, cutok, cutst, bad, isB, isP, isJ, c_6, c_22_1, c_35_2, c_49_3, c_73_4, c_85_7, c_97_10, c_107_13, c_119_14, c_131_15, qi]) dX6_cut_187
                    · refine lv_iconst (v := 1) hx hb dX6_cut_134 (by decide) ?_
                      refine lv_goto (tgt := 139) hx hb dX6_cut_135 (by decide) ?_
                      refine lv_istore (lv' := [(7, .int 1), (6, .int 0), (0, .ref (wad w 9 (0))), (1, .int (nI i)), (2, .int f9), (3, .int l9), (4, .int w9), (5, .int hid)]) hx hb dX6_cut_139 hl (by decide) rfl (fun ls hl => ?_)
                      refine lv_aload_n hx hb dX6_cut_141 rfl (lv_at hl 2 rfl) ?_
                      refine lv_iload hx hb dX6_cut_142 (lv_at hl 1 rfl) ?_
                      refine lv_if_eq (tgt := 175) hx hb dX6_cut_144 (by decide) (fun _ => ?_) (fun h9 => absurd h9 (by decide))
                      refine lv_iconst (v := 3) hx hb dX6_cut_175 (by decide) ?_
                      refine m_putt S hE hS hW tw_740 dX6_cut_176 (fun H locs hW hS => ?_)
                      refine lv_aload_n hx hb dX6_cut_179 rfl (lv_at hl 2 rfl) ?_
                      refine m_gett S hE hW tw_740 dX6_cut_180 ?_
                      refine lv_if_le (tgt := 188) hx hb dX6_cut_183 (by decide) (fun h9 => absurd h9 (by decide)) (fun _ => ?_)
                      refine lv_iconst (v := 0) hx hb dX6_cut_186 (by decide) ?_
                      exact m_ret S hr hlocks hS hW (by simp [RR, sp_cut, cutok, cutst, bad, isB, isP, isJ, c_6, c_22_1, c_35_2, c_49_3, c_73_4, c_85_7, c_97_10, c_107_13, c_119_14, c_131_15, qi]) dX6_cut_187
                · refine lv_iconst (v := 1) hx hb dX6_cut_110 (by decide) ?_
                  refine lv_goto (tgt := 115) hx hb dX6_cut_111 (by decide) ?_
                  refine lv_istore (lv' := [(6, .int 1), (0, .ref (wad w 9 (0))), (1, .int (nI i)), (2, .int f9), (3, .int l9), (4, .int w9), (5, .int hid)]) hx hb dX6_cut_115 hl (by decide) rfl (fun ls hl => ?_)
                  refine lv_iload hx hb dX6_cut_117 (lv_at hl 6 rfl) ?_
                  refine lv_if_ne (tgt := 134) hx hb dX6_cut_119 (by decide) (fun c_119_16 => ?_) (fun c_119_16 => ?_)
                  · refine lv_iconst (v := 1) hx hb dX6_cut_134 (by decide) ?_
                    refine lv_goto (tgt := 139) hx hb dX6_cut_135 (by decide) ?_
                    refine lv_istore (lv' := [(7, .int 1), (6, .int 1), (0, .ref (wad w 9 (0))), (1, .int (nI i)), (2, .int f9), (3, .int l9), (4, .int w9), (5, .int hid)]) hx hb dX6_cut_139 hl (by decide) rfl (fun ls hl => ?_)
                    refine lv_aload_n hx hb dX6_cut_141 rfl (lv_at hl 2 rfl) ?_
                    refine lv_iload hx hb dX6_cut_142 (lv_at hl 1 rfl) ?_
                    refine lv_if_eq (tgt := 175) hx hb dX6_cut_144 (by decide) (fun h9 => absurd h9 (by decide)) (fun _ => ?_)
                    refine lv_iload hx hb dX6_cut_147 (lv_at hl 0 rfl) ?_
                    refine lv_if_eq (tgt := 175) hx hb dX6_cut_149 (by decide) (fun h9 => absurd h9 (by decide)) (fun _ => ?_)
                    refine lv_aload_n hx hb dX6_cut_152 rfl (lv_at hl 2 rfl) ?_
                    refine m_geta S hE hW 3 (by decide) rfl tw_743 rfl dX6_cut_153 ?_
                    refine lv_iconst (v := 0) hx hb dX6_cut_156 (by decide) ?_
                    refine m_ald S hE hW (k := 3) (v := g 3 0) rfl (by unfold vp_in; decide) (by rw [show (0 : Int32).toNatClampNeg = 0 from (by decide)]) dX6_cut_157 ?_
                    refine lv_aload_n hx hb dX6_cut_158 rfl (lv_at hl 2 rfl) ?_
                    refine lv_aload_n hx hb dX6_cut_159 rfl (lv_at hl 2 rfl) ?_
                    refine m_geta S hE hW 6 (by decide) rfl tw_746 rfl dX6_cut_160 ?_
                    refine lv_iload_n hx hb dX6_cut_163 rfl (lv_at hl 3 rfl) ?_
                    refine m_ald S hE hW (k := 6) (v := g 6 i) rfl (vp_in_nI (show i < 20 from (by omega)) (by decide)) (by rw [show (nI i : Int32).toNatClampNeg = i from (nI_clamp (by omega))]) dX6_cut_164 ?_
                    refine g_callV (As := [.int (g 6 i)]) (rest := [.int (g 3 0), .ref (wad w 9 (0))]) S hE hS (c_X6_hardness l z w g1 g o (0) A B (g 6 i)) (cwV 1 hts (gU_V tw_922 tw_924 tp_27 tw_6 tw_925) rfl rfl rfl (by decide +kernel) ⟨Nat.le_of_ble_eq_true rfl, Nat.le_of_ble_eq_true rfl⟩) (by obtain ⟨gm9, hW9, -⟩ := hW; exact hE.recv hW9.md (q := (RX6, TX6, 36)) rfl) hW rfl hl.1 rfl (Nat.le_of_ble_eq_true rfl) dX6_cut_165 ⟨Nat.zero_le _, Nat.zero_le _⟩ ?_
                    refine lv_icmp_lt (tgt := 175) hx hb dX6_cut_168 (by decide) (fun c_168_17 => ?_) (fun c_168_17 => ?_)
                    · refine lv_iconst (v := 3) hx hb dX6_cut_175 (by decide) ?_
                      refine m_putt S hE hS hW tw_740 dX6_cut_176 (fun H locs hW hS => ?_)
                      refine lv_aload_n hx hb dX6_cut_179 rfl (lv_at hl 2 rfl) ?_
                      refine m_gett S hE hW tw_740 dX6_cut_180 ?_
                      refine lv_if_le (tgt := 188) hx hb dX6_cut_183 (by decide) (fun h9 => absurd h9 (by decide)) (fun _ => ?_)
                      refine lv_iconst (v := 0) hx hb dX6_cut_186 (by decide) ?_
                      exact m_ret S hr hlocks hS hW (by simp [RR, sp_cut, cutok, cutst, bad, isB, isP, isJ, c_6, c_22_1, c_35_2, c_49_3, c_73_4, c_85_7, c_97_10, c_107_13, c_119_16, c_168_17, qi]) dX6_cut_187
                    · refine lv_iconst (v := 0) hx hb dX6_cut_171 (by decide) ?_
                      refine lv_goto (tgt := 176) hx hb dX6_cut_172 (by decide) ?_
                      refine m_putt S hE hS hW tw_740 dX6_cut_176 (fun H locs hW hS => ?_)
                      refine lv_aload_n hx hb dX6_cut_179 rfl (lv_at hl 2 rfl) ?_
                      refine m_gett S hE hW tw_740 dX6_cut_180 ?_
                      refine lv_if_le (tgt := 188) hx hb dX6_cut_183 (by decide) (fun _ => ?_) (fun h9 => absurd h9 (by decide))
                      refine lv_aload_n hx hb dX6_cut_188 rfl (lv_at hl 2 rfl) ?_
                      refine m_geti S hE hW 16 (v := nI (np g)) (by decide) rfl (by decide) tw_756 rfl hO.n16 dX6_cut_189 ?_
                      refine lv_istore (lv' := [(6, .int (nI (np g))), (7, .int 1), (0, .ref (wad w 9 (0))), (1, .int (nI i)), (2, .int f9), (3, .int l9), (4, .int w9), (5, .int hid)]) hx hb dX6_cut_192 hl (by decide) rfl (fun ls hl => ?_)
                      refine lv_aload_n hx hb dX6_cut_194 rfl (lv_at hl 2 rfl) ?_
                      refine m_geta S hE hW 3 (by decide) rfl tw_743 rfl dX6_cut_195 ?_
                      refine lv_iconst (v := 0) hx hb dX6_cut_198 (by decide) ?_
                      refine lv_dup2_11 hx hb dX6_cut_199 rfl rfl ?_
                      refine m_ald S hE hW (k := 3) (v := g 3 0) rfl (by unfold vp_in; decide) (by rw [show (0 : Int32).toNatClampNeg = 0 from (by decide)]) dX6_cut_200 ?_
                      refine lv_aload_n hx hb dX6_cut_201 rfl (lv_at hl 2 rfl) ?_
                      refine lv_aload_n hx hb dX6_cut_202 rfl (lv_at hl 2 rfl) ?_
                      refine m_geta S hE hW 6 (by decide) rfl tw_746 rfl dX6_cut_203 ?_
                      refine lv_iload_n hx hb dX6_cut_206 rfl (lv_at hl 3 rfl) ?_
                      refine m_ald S hE hW (k := 6) (v := g 6 i) rfl (vp_in_nI (show i < 20 from (by omega)) (by decide)) (by rw [show (nI i : Int32).toNatClampNeg = i from (nI_clamp (by omega))]) dX6_cut_207 ?_
                      refine g_callV (As := [.int (g 6 i)]) (rest := [.int (g 3 0), .int 0, .ref (wad w 10 (3))]) S hE hS (c_X6_hardness l z w g1 g o (0) A B (g 6 i)) (cwV 1 hts (gU_V tw_922 tw_924 tp_27 tw_6 tw_925) rfl rfl rfl (by decide +kernel) ⟨Nat.le_of_ble_eq_true rfl, Nat.le_of_ble_eq_true rfl⟩) (by obtain ⟨gm9, hW9, -⟩ := hW; exact hE.recv hW9.md (q := (RX6, TX6, 36)) rfl) hW rfl hl.1 rfl (Nat.le_of_ble_eq_true rfl) dX6_cut_208 ⟨Nat.zero_le _, Nat.zero_le _⟩ ?_
                      refine lv_isub hx hb dX6_cut_211 ?_
                      refine m_ast S hE hS hW (k := 3) (j := 0) rfl (by unfold vp_in; decide) (by decide) dX6_cut_212 (fun H locs hW hS => ?_)
                      refine lv_aload_n hx hb dX6_cut_213 rfl (lv_at hl 2 rfl) ?_
                      refine m_geta S hE hW 17 (by decide) rfl tw_757 rfl dX6_cut_214 ?_
                      refine lv_iload hx hb dX6_cut_217 (lv_at hl 0 rfl) ?_
                      refine lv_iload_n hx hb dX6_cut_219 rfl (lv_at hl 3 rfl) ?_
                      refine m_ast S hE hS hW (k := 17) (j := np g) rfl (vp_in_nI (show np g < 40 from (by omega)) (by decide)) (nI_clamp (by omega)) dX6_cut_220 (fun H locs hW hS => ?_)
                      refine lv_aload_n hx hb dX6_cut_221 rfl (lv_at hl 2 rfl) ?_
                      refine m_geta S hE hW 18 (by decide) rfl tw_758 rfl dX6_cut_222 ?_
                      refine lv_iload hx hb dX6_cut_225 (lv_at hl 0 rfl) ?_
                      refine lv_iload_n hx hb dX6_cut_227 rfl (lv_at hl 4 rfl) ?_
                      refine m_ast S hE hS hW (k := 18) (j := np g) rfl (vp_in_nI (show np g < 40 from (by omega)) (by decide)) (nI_clamp (by omega)) dX6_cut_228 (fun H locs hW hS => ?_)
                      refine lv_aload_n hx hb dX6_cut_229 rfl (lv_at hl 2 rfl) ?_
                      refine m_geta S hE hW 19 (by decide) rfl tw_759 rfl dX6_cut_230 ?_
                      refine lv_iload hx hb dX6_cut_233 (lv_at hl 0 rfl) ?_
                      refine lv_iload_n hx hb dX6_cut_235 rfl (lv_at hl 5 rfl) ?_
                      refine m_ast S hE hS hW (k := 19) (j := np g) rfl (vp_in_nI (show np g < 40 from (by omega)) (by decide)) (nI_clamp (by omega)) dX6_cut_236 (fun H locs hW hS => ?_)
                      refine lv_aload_n hx hb dX6_cut_237 rfl (lv_at hl 2 rfl) ?_
                      refine m_geta S hE hW 20 (by decide) rfl tw_760 rfl dX6_cut_238 ?_
                      refine lv_iload hx hb dX6_cut_241 (lv_at hl 0 rfl) ?_
                      refine lv_iload hx hb dX6_cut_243 (lv_at hl 6 rfl) ?_
                      refine m_ast S hE hS hW (k := 20) (j := np g) rfl (vp_in_nI (show np g < 40 from (by omega)) (by decide)) (nI_clamp (by omega)) dX6_cut_245 (fun H locs hW hS => ?_)
                      refine lv_aload_n hx hb dX6_cut_246 rfl (lv_at hl 2 rfl) ?_
                      refine m_geta S hE hW 21 (by decide) rfl tw_761 rfl dX6_cut_247 ?_
                      refine lv_iload hx hb dX6_cut_250 (lv_at hl 0 rfl) ?_
                      refine lv_aload_n hx hb dX6_cut_252 rfl (lv_at hl 2 rfl) ?_
                      refine m_geta S hE hW 12 (by decide) rfl tw_752 rfl dX6_cut_253 ?_
                      refine lv_iload_n hx hb dX6_cut_256 rfl (lv_at hl 3 rfl) ?_
                      refine m_ald S hE hW (k := 12) (v := g 12 i) rfl (vp_in_nI (show i < 20 from (by omega)) (by decide)) (by rw [show (nI i : Int32).toNatClampNeg = i from (nI_clamp (by omega))]; exact (by simp [gup])) dX6_cut_257 ?_
                      refine m_ast S hE hS hW (k := 21) (j := np g) rfl (vp_in_nI (show np g < 40 from (by omega)) (by decide)) (nI_clamp (by omega)) dX6_cut_258 (fun H locs hW hS => ?_)
                      refine lv_aload_n hx hb dX6_cut_259 rfl (lv_at hl 2 rfl) ?_
                      refine m_geta S hE hW 22 (by decide) rfl tw_762 rfl dX6_cut_260 ?_
                      refine lv_iload hx hb dX6_cut_263 (lv_at hl 0 rfl) ?_
                      refine lv_aload_n hx hb dX6_cut_265 rfl (lv_at hl 2 rfl) ?_
                      refine m_geta S hE hW 12 (by decide) rfl tw_752 rfl dX6_cut_266 ?_
                      refine lv_iload_n hx hb dX6_cut_269 rfl (lv_at hl 3 rfl) ?_
                      refine m_ald S hE hW (k := 12) (v := g 12 i) rfl (vp_in_nI (show i < 20 from (by omega)) (by decide)) (by rw [show (nI i : Int32).toNatClampNeg = i from (nI_clamp (by omega))]; exact (by simp [gup])) dX6_cut_270 ?_
                      refine m_ast S hE hS hW (k := 22) (j := np g) rfl (vp_in_nI (show np g < 40 from (by omega)) (by decide)) (nI_clamp (by omega)) dX6_cut_271 (fun H locs hW hS => ?_)
                      refine lv_aload_n hx hb dX6_cut_272 rfl (lv_at hl 2 rfl) ?_
                      refine lv_dup hx hb dX6_cut_273 rfl ?_
                      refine m_geti S hE hW 16 (v := nI (np g)) (by decide) rfl (by decide) tw_756 rfl ((by simp [gup] : _ = g 16 0).trans hO.n16) dX6_cut_274 ?_
                      refine lv_iconst (v := 1) hx hb dX6_cut_277 (by decide) ?_
                      refine lv_iadd hx hb dX6_cut_278 ?_
                      rw [show (nI (np g) : Int32) + 1 = nI ((np g) + 1) from nI_add _ 1]
                      refine m_puti S hE hS hW 16 (by decide) rfl (by decide) tw_756 ⟨rfl, rfl, rfl⟩ dX6_cut_279 (fun H locs hW hS => ?_)
                      refine lv_iload hx hb dX6_cut_282 (lv_at hl 0 rfl) ?_
                      exact m_ret S hr hlocks hS hW (by simp [RR, sp_cut, cutok, cutst, bad, isB, isP, isJ, c_6, c_22_1, c_35_2, c_49_3, c_73_4, c_85_7, c_97_10, c_107_13, c_119_16, c_168_17, qi]) dX6_cut_284
                  · refine lv_aload_n hx hb dX6_cut_122 rfl (lv_at hl 1 rfl) ?_
                    refine lv_iload_n hx hb dX6_cut_123 rfl (lv_at hl 2 rfl) ?_
                    refine lv_iload_n hx hb dX6_cut_124 rfl (lv_at hl 3 rfl) ?_
                    refine lv_iload_n hx hb dX6_cut_125 rfl (lv_at hl 3 rfl) ?_
                    refine lv_iload_n hx hb dX6_cut_126 rfl (lv_at hl 4 rfl) ?_
                    refine lv_iadd hx hb dX6_cut_127 ?_
                    refine g_callV (As := [.int (nI i), .int f9, .int (f9 + l9)]) (rest := []) S hE hS (c_X6_hasKnot l z w g1 g o (0) A B hO (i) (by omega) (f9) (f9 + l9)) (cwV 3 hts (gU_V tw_918 tw_920 tp_26 tw_6 tw_921) rfl rfl rfl (by decide +kernel) ⟨Nat.le_of_ble_eq_true rfl, Nat.le_of_ble_eq_true rfl⟩) (by obtain ⟨gm9, hW9, -⟩ := hW; exact hE.recv hW9.md (q := (RX6, TX6, 36)) rfl) hW rfl hl.1 rfl (Nat.le_of_ble_eq_true rfl) dX6_cut_128 ⟨Nat.zero_le _, Nat.zero_le _⟩ ?_
                    refine g_if_ne S (tgt := 138) dX6_cut_131 (by decide) (fun c_131_18 => ?_) (fun c_131_18 => ?_)
                    · refine lv_iconst (v := 0) hx hb dX6_cut_138 (by decide) ?_
                      refine lv_istore (lv' := [(7, .int 0), (6, .int 1), (0, .ref (wad w 9 (0))), (1, .int (nI i)), (2, .int f9), (3, .int l9), (4, .int w9), (5, .int hid)]) hx hb dX6_cut_139 hl (by decide) rfl (fun ls hl => ?_)
                      refine lv_aload_n hx hb dX6_cut_141 rfl (lv_at hl 2 rfl) ?_
                      refine lv_iload hx hb dX6_cut_142 (lv_at hl 1 rfl) ?_
                      refine lv_if_eq (tgt := 175) hx hb dX6_cut_144 (by decide) (fun h9 => absurd h9 (by decide)) (fun _ => ?_)
                      refine lv_iload hx hb dX6_cut_147 (lv_at hl 0 rfl) ?_
                      refine lv_if_eq (tgt := 175) hx hb dX6_cut_149 (by decide) (fun _ => ?_) (fun h9 => absurd h9 (by decide))
                      refine lv_iconst (v := 3) hx hb dX6_cut_175 (by decide) ?_
                      refine m_putt S hE hS hW tw_740 dX6_cut_176 (fun H locs hW hS => ?_)
                      refine lv_aload_n hx hb dX6_cut_179 rfl (lv_at hl 2 rfl) ?_
                      refine m_gett S hE hW tw_740 dX6_cut_180 ?_
                      refine lv_if_le (tgt := 188) hx hb dX6_cut_183 (by decide) (fun h9 => absurd h9 (by decide)) (fun _ => ?_)
                      refine lv_iconst (v := 0) hx hb dX6_cut_186 (by decide) ?_
                      exact m_ret S hr hlocks hS hW (by simp [RR, sp_cut, cutok, cutst, bad, isB, isP, isJ, c_6, c_22_1, c_35_2, c_49_3, c_73_4, c_85_7, c_97_10, c_107_13, c_119_16, c_131_18, qi]) dX6_cut_187
                    · refine lv_iconst (v := 1) hx hb dX6_cut_134 (by decide) ?_
                      refine lv_goto (tgt := 139) hx hb dX6_cut_135 (by decide) ?_
                      refine lv_istore (lv' := [(7, .int 1), (6, .int 1), (0, .ref (wad w 9 (0))), (1, .int (nI i)), (2, .int f9), (3, .int l9), (4, .int w9), (5, .int hid)]) hx hb dX6_cut_139 hl (by decide) rfl (fun ls hl => ?_)
                      refine lv_aload_n hx hb dX6_cut_141 rfl (lv_at hl 2 rfl) ?_
                      refine lv_iload hx hb dX6_cut_142 (lv_at hl 1 rfl) ?_
                      refine lv_if_eq (tgt := 175) hx hb dX6_cut_144 (by decide) (fun h9 => absurd h9 (by decide)) (fun _ => ?_)
                      refine lv_iload hx hb dX6_cut_147 (lv_at hl 0 rfl) ?_
                      refine lv_if_eq (tgt := 175) hx hb dX6_cut_149 (by decide) (fun h9 => absurd h9 (by decide)) (fun _ => ?_)
                      refine lv_aload_n hx hb dX6_cut_152 rfl (lv_at hl 2 rfl) ?_
                      refine m_geta S hE hW 3 (by decide) rfl tw_743 rfl dX6_cut_153 ?_
                      refine lv_iconst (v := 0) hx hb dX6_cut_156 (by decide) ?_
                      refine m_ald S hE hW (k := 3) (v := g 3 0) rfl (by unfold vp_in; decide) (by rw [show (0 : Int32).toNatClampNeg = 0 from (by decide)]) dX6_cut_157 ?_
                      refine lv_aload_n hx hb dX6_cut_158 rfl (lv_at hl 2 rfl) ?_
                      refine lv_aload_n hx hb dX6_cut_159 rfl (lv_at hl 2 rfl) ?_
                      refine m_geta S hE hW 6 (by decide) rfl tw_746 rfl dX6_cut_160 ?_
                      refine lv_iload_n hx hb dX6_cut_163 rfl (lv_at hl 3 rfl) ?_
                      refine m_ald S hE hW (k := 6) (v := g 6 i) rfl (vp_in_nI (show i < 20 from (by omega)) (by decide)) (by rw [show (nI i : Int32).toNatClampNeg = i from (nI_clamp (by omega))]) dX6_cut_164 ?_
                      refine g_callV (As := [.int (g 6 i)]) (rest := [.int (g 3 0), .ref (wad w 9 (0))]) S hE hS (c_X6_hardness l z w g1 g o (0) A B (g 6 i)) (cwV 1 hts (gU_V tw_922 tw_924 tp_27 tw_6 tw_925) rfl rfl rfl (by decide +kernel) ⟨Nat.le_of_ble_eq_true rfl, Nat.le_of_ble_eq_true rfl⟩) (by obtain ⟨gm9, hW9, -⟩ := hW; exact hE.recv hW9.md (q := (RX6, TX6, 36)) rfl) hW rfl hl.1 rfl (Nat.le_of_ble_eq_true rfl) dX6_cut_165 ⟨Nat.zero_le _, Nat.zero_le _⟩ ?_
                      refine lv_icmp_lt (tgt := 175) hx hb dX6_cut_168 (by decide) (fun c_168_19 => ?_) (fun c_168_19 => ?_)
                      · refine lv_iconst (v := 3) hx hb dX6_cut_175 (by decide) ?_
                        refine m_putt S hE hS hW tw_740 dX6_cut_176 (fun H locs hW hS => ?_)
                        refine lv_aload_n hx hb dX6_cut_179 rfl (lv_at hl 2 rfl) ?_
                        refine m_gett S hE hW tw_740 dX6_cut_180 ?_
                        refine lv_if_le (tgt := 188) hx hb dX6_cut_183 (by decide) (fun h9 => absurd h9 (by decide)) (fun _ => ?_)
                        refine lv_iconst (v := 0) hx hb dX6_cut_186 (by decide) ?_
                        exact m_ret S hr hlocks hS hW (by simp [RR, sp_cut, cutok, cutst, bad, isB, isP, isJ, c_6, c_22_1, c_35_2, c_49_3, c_73_4, c_85_7, c_97_10, c_107_13, c_119_16, c_131_18, c_168_19, qi]) dX6_cut_187
                      · refine lv_iconst (v := 0) hx hb dX6_cut_171 (by decide) ?_
                        refine lv_goto (tgt := 176) hx hb dX6_cut_172 (by decide) ?_
                        refine m_putt S hE hS hW tw_740 dX6_cut_176 (fun H locs hW hS => ?_)
                        refine lv_aload_n hx hb dX6_cut_179 rfl (lv_at hl 2 rfl) ?_
                        refine m_gett S hE hW tw_740 dX6_cut_180 ?_
                        refine lv_if_le (tgt := 188) hx hb dX6_cut_183 (by decide) (fun _ => ?_) (fun h9 => absurd h9 (by decide))
                        refine lv_aload_n hx hb dX6_cut_188 rfl (lv_at hl 2 rfl) ?_
                        refine m_geti S hE hW 16 (v := nI (np g)) (by decide) rfl (by decide) tw_756 rfl hO.n16 dX6_cut_189 ?_
                        refine lv_istore (lv' := [(6, .int (nI (np g))), (7, .int 1), (0, .ref (wad w 9 (0))), (1, .int (nI i)), (2, .int f9), (3, .int l9), (4, .int w9), (5, .int hid)]) hx hb dX6_cut_192 hl (by decide) rfl (fun ls hl => ?_)
                        refine lv_aload_n hx hb dX6_cut_194 rfl (lv_at hl 2 rfl) ?_
                        refine m_geta S hE hW 3 (by decide) rfl tw_743 rfl dX6_cut_195 ?_
                        refine lv_iconst (v := 0) hx hb dX6_cut_198 (by decide) ?_
                        refine lv_dup2_11 hx hb dX6_cut_199 rfl rfl ?_
                        refine m_ald S hE hW (k := 3) (v := g 3 0) rfl (by unfold vp_in; decide) (by rw [show (0 : Int32).toNatClampNeg = 0 from (by decide)]) dX6_cut_200 ?_
                        refine lv_aload_n hx hb dX6_cut_201 rfl (lv_at hl 2 rfl) ?_
                        refine lv_aload_n hx hb dX6_cut_202 rfl (lv_at hl 2 rfl) ?_
                        refine m_geta S hE hW 6 (by decide) rfl tw_746 rfl dX6_cut_203 ?_
                        refine lv_iload_n hx hb dX6_cut_206 rfl (lv_at hl 3 rfl) ?_
                        refine m_ald S hE hW (k := 6) (v := g 6 i) rfl (vp_in_nI (show i < 20 from (by omega)) (by decide)) (by rw [show (nI i : Int32).toNatClampNeg = i from (nI_clamp (by omega))]) dX6_cut_207 ?_
                        refine g_callV (As := [.int (g 6 i)]) (rest := [.int (g 3 0), .int 0, .ref (wad w 10 (3))]) S hE hS (c_X6_hardness l z w g1 g o (0) A B (g 6 i)) (cwV 1 hts (gU_V tw_922 tw_924 tp_27 tw_6 tw_925) rfl rfl rfl (by decide +kernel) ⟨Nat.le_of_ble_eq_true rfl, Nat.le_of_ble_eq_true rfl⟩) (by obtain ⟨gm9, hW9, -⟩ := hW; exact hE.recv hW9.md (q := (RX6, TX6, 36)) rfl) hW rfl hl.1 rfl (Nat.le_of_ble_eq_true rfl) dX6_cut_208 ⟨Nat.zero_le _, Nat.zero_le _⟩ ?_
                        refine lv_isub hx hb dX6_cut_211 ?_
                        refine m_ast S hE hS hW (k := 3) (j := 0) rfl (by unfold vp_in; decide) (by decide) dX6_cut_212 (fun H locs hW hS => ?_)
                        refine lv_aload_n hx hb dX6_cut_213 rfl (lv_at hl 2 rfl) ?_
                        refine m_geta S hE hW 17 (by decide) rfl tw_757 rfl dX6_cut_214 ?_
                        refine lv_iload hx hb dX6_cut_217 (lv_at hl 0 rfl) ?_
                        refine lv_iload_n hx hb dX6_cut_219 rfl (lv_at hl 3 rfl) ?_
                        refine m_ast S hE hS hW (k := 17) (j := np g) rfl (vp_in_nI (show np g < 40 from (by omega)) (by decide)) (nI_clamp (by omega)) dX6_cut_220 (fun H locs hW hS => ?_)
                        refine lv_aload_n hx hb dX6_cut_221 rfl (lv_at hl 2 rfl) ?_
                        refine m_geta S hE hW 18 (by decide) rfl tw_758 rfl dX6_cut_222 ?_
                        refine lv_iload hx hb dX6_cut_225 (lv_at hl 0 rfl) ?_
                        refine lv_iload_n hx hb dX6_cut_227 rfl (lv_at hl 4 rfl) ?_
                        refine m_ast S hE hS hW (k := 18) (j := np g) rfl (vp_in_nI (show np g < 40 from (by omega)) (by decide)) (nI_clamp (by omega)) dX6_cut_228 (fun H locs hW hS => ?_)
                        refine lv_aload_n hx hb dX6_cut_229 rfl (lv_at hl 2 rfl) ?_
                        refine m_geta S hE hW 19 (by decide) rfl tw_759 rfl dX6_cut_230 ?_
                        refine lv_iload hx hb dX6_cut_233 (lv_at hl 0 rfl) ?_
                        refine lv_iload_n hx hb dX6_cut_235 rfl (lv_at hl 5 rfl) ?_
                        refine m_ast S hE hS hW (k := 19) (j := np g) rfl (vp_in_nI (show np g < 40 from (by omega)) (by decide)) (nI_clamp (by omega)) dX6_cut_236 (fun H locs hW hS => ?_)
                        refine lv_aload_n hx hb dX6_cut_237 rfl (lv_at hl 2 rfl) ?_
                        refine m_geta S hE hW 20 (by decide) rfl tw_760 rfl dX6_cut_238 ?_
                        refine lv_iload hx hb dX6_cut_241 (lv_at hl 0 rfl) ?_
                        refine lv_iload hx hb dX6_cut_243 (lv_at hl 6 rfl) ?_
                        refine m_ast S hE hS hW (k := 20) (j := np g) rfl (vp_in_nI (show np g < 40 from (by omega)) (by decide)) (nI_clamp (by omega)) dX6_cut_245 (fun H locs hW hS => ?_)
                        refine lv_aload_n hx hb dX6_cut_246 rfl (lv_at hl 2 rfl) ?_
                        refine m_geta S hE hW 21 (by decide) rfl tw_761 rfl dX6_cut_247 ?_
                        refine lv_iload hx hb dX6_cut_250 (lv_at hl 0 rfl) ?_
                        refine lv_aload_n hx hb dX6_cut_252 rfl (lv_at hl 2 rfl) ?_
                        refine m_geta S hE hW 12 (by decide) rfl tw_752 rfl dX6_cut_253 ?_
                        refine lv_iload_n hx hb dX6_cut_256 rfl (lv_at hl 3 rfl) ?_
                        refine m_ald S hE hW (k := 12) (v := g 12 i) rfl (vp_in_nI (show i < 20 from (by omega)) (by decide)) (by rw [show (nI i : Int32).toNatClampNeg = i from (nI_clamp (by omega))]; exact (by simp [gup])) dX6_cut_257 ?_
                        refine m_ast S hE hS hW (k := 21) (j := np g) rfl (vp_in_nI (show np g < 40 from (by omega)) (by decide)) (nI_clamp (by omega)) dX6_cut_258 (fun H locs hW hS => ?_)
                        refine lv_aload_n hx hb dX6_cut_259 rfl (lv_at hl 2 rfl) ?_
                        refine m_geta S hE hW 22 (by decide) rfl tw_762 rfl dX6_cut_260 ?_
                        refine lv_iload hx hb dX6_cut_263 (lv_at hl 0 rfl) ?_
                        refine lv_aload_n hx hb dX6_cut_265 rfl (lv_at hl 2 rfl) ?_
                        refine m_geta S hE hW 12 (by decide) rfl tw_752 rfl dX6_cut_266 ?_
                        refine lv_iload_n hx hb dX6_cut_269 rfl (lv_at hl 3 rfl) ?_
                        refine m_ald S hE hW (k := 12) (v := g 12 i) rfl (vp_in_nI (show i < 20 from (by omega)) (by decide)) (by rw [show (nI i : Int32).toNatClampNeg = i from (nI_clamp (by omega))]; exact (by simp [gup])) dX6_cut_270 ?_
                        refine m_ast S hE hS hW (k := 22) (j := np g) rfl (vp_in_nI (show np g < 40 from (by omega)) (by decide)) (nI_clamp (by omega)) dX6_cut_271 (fun H locs hW hS => ?_)
                        refine lv_aload_n hx hb dX6_cut_272 rfl (lv_at hl 2 rfl) ?_
                        refine lv_dup hx hb dX6_cut_273 rfl ?_
                        refine m_geti S hE hW 16 (v := nI (np g)) (by decide) rfl (by decide) tw_756 rfl ((by simp [gup] : _ = g 16 0).trans hO.n16) dX6_cut_274 ?_
                        refine lv_iconst (v := 1) hx hb dX6_cut_277 (by decide) ?_
                        refine lv_iadd hx hb dX6_cut_278 ?_
                        rw [show (nI (np g) : Int32) + 1 = nI ((np g) + 1) from nI_add _ 1]
                        refine m_puti S hE hS hW 16 (by decide) rfl (by decide) tw_756 ⟨rfl, rfl, rfl⟩ dX6_cut_279 (fun H locs hW hS => ?_)
                        refine lv_iload hx hb dX6_cut_282 (lv_at hl 0 rfl) ?_
                        exact m_ret S hr hlocks hS hW (by simp [RR, sp_cut, cutok, cutst, bad, isB, isP, isJ, c_6, c_22_1, c_35_2, c_49_3, c_73_4, c_85_7, c_97_10, c_107_13, c_119_16, c_131_18, c_168_19, qi]) dX6_cut_284
        · refine lv_iconst (v := 2) hx hb dX6_cut_52 (by decide) ?_
          refine lv_goto (tgt := 57) hx hb dX6_cut_53 (by decide) ?_
          refine m_putt S hE hS hW tw_740 dX6_cut_57 (fun H locs hW hS => ?_)
          refine lv_aload_n hx hb dX6_cut_60 rfl (lv_at hl 0 rfl) ?_
          refine m_gett S hE hW tw_740 dX6_cut_61 ?_
          refine lv_if_ne (tgt := 179) hx hb dX6_cut_64 (by decide) (fun _ => ?_) (fun h9 => absurd h9 (by decide))
          refine lv_aload_n hx hb dX6_cut_179 rfl (lv_at hl 0 rfl) ?_
          refine m_gett S hE hW tw_740 dX6_cut_180 ?_
          refine lv_if_le (tgt := 188) hx hb dX6_cut_183 (by decide) (fun h9 => absurd h9 (by decide)) (fun _ => ?_)
          refine lv_iconst (v := 0) hx hb dX6_cut_186 (by decide) ?_
          exact m_ret S hr hlocks hS hW (by simp [RR, sp_cut, cutok, cutst, bad, isB, isP, isJ, c_6, c_22_1, c_35_2, c_49_3, qi]) dX6_cut_187
  · refine lv_iconst (v := 1) hx hb dX6_cut_9 (by decide) ?_
    refine lv_goto (tgt := 57) hx hb dX6_cut_10 (by decide) ?_
    refine m_putt S hE hS hW tw_740 dX6_cut_57 (fun H locs hW hS => ?_)
    refine lv_aload_n hx hb dX6_cut_60 rfl (lv_at hl 0 rfl) ?_
    refine m_gett S hE hW tw_740 dX6_cut_61 ?_
    refine lv_if_ne (tgt := 179) hx hb dX6_cut_64 (by decide) (fun _ => ?_) (fun h9 => absurd h9 (by decide))
    refine lv_aload_n hx hb dX6_cut_179 rfl (lv_at hl 0 rfl) ?_
    refine m_gett S hE hW tw_740 dX6_cut_180 ?_
    refine lv_if_le (tgt := 188) hx hb dX6_cut_183 (by decide) (fun h9 => absurd h9 (by decide)) (fun _ => ?_)
    refine lv_iconst (v := 0) hx hb dX6_cut_186 (by decide) ?_
    exact m_ret S hr hlocks hS hW (by simp [RR, sp_cut, cutok, cutst, bad, isB, isP, isJ, c_6]) dX6_cut_187
set_option maxHeartbeats 4000000 in
set_option maxRecDepth 100000 in
/-- joint(kind, part, other, size, tongue) -/
theorem c_X6_joint (l : Launch) (z : ZE) (w : WG) (g1 g : GS) (o : Nat → Int64) (t : Int32) (A B : Nat → Int32) (hO : OKg g) (kd a b sz tg : Int32) : Met l yX6_joint (.code yX6_joint cX6_joint 8 (some .int) :: wU) ({ frames := 4, cells := 0, slots := 0, locals := 91 }) (PE z [.ref (wad w 9 (0)), .int kd, .int a, .int b, .int sz, .int tg] (fun H => MW z w g1 o g t A B H)) (qM z w g1 o (fun r u => RR (sp_joint g kd a b sz tg) r u.2.1 u.1)) 0 0 (zA z) := by
  refine Met.ofW (cc := cX6_joint) (maxL := 8) (ret := (some .int)) (by decide) rfl ?_
  intro p e s m args below meth c s₁ BD hml hv
  obtain ⟨rfl, hE, hW⟩ := hv
  have hts : ∀ w ∈ wU, w.before _ s = true := fun w h => atoms_spec (ws := .code yX6_joint cX6_joint 8 (some .int) :: wU) BD.pre w (List.mem_cons_of_mem _ h)
  have S : CallFix p m c cX6_joint 8 s ([.ref (wad w 9 (0)), .int kd, .int a, .int b, .int sz, .int tg] : List Value).toArray wU RX6 := ⟨BD.exec, BD.bytes, hml, findClass_of_methodNamed BD.named, hts⟩
  have hx := S.1
  have hb := S.2.1
  have hown := S.2.2.2.1
  have hr := BD.returns
  have hlocks := BD.notSynchronized
  have hS : va_S (zA z) s.heap s.heap [] := va_S.rf
  have hl := lv_entry ([.ref (wad w 9 (0)), .int kd, .int a, .int b, .int sz, .int tg]) (n := 8) (Nat.le_of_ble_eq_true rfl)
  rw [lg_entry_eq]
  generalize (lg_sl ([.ref (wad w 9 (0)), .int kd, .int a, .int b, .int sz, .int tg]) ++ List.replicate (8 - (lg_sl ([.ref (wad w 9 (0)), .int kd, .int a, .int b, .int sz, .int tg])).length) Slot.unset).toArray = ls at hl ⊢
  have hl : lv_has ls 8 [(0, .ref (wad w 9 (0))), (1, .int kd), (2, .int a), (3, .int b), (4, .int sz), (5, .int tg)] := hl
  have h20 := hO.l5
  have h40 := hO.l16
  have h30 := hO.l24
  refine lv_aload_n hx hb dX6_joint_0 rfl (lv_at hl 0 rfl) ?_
  refine lv_iload_n hx hb dX6_joint_1 rfl (lv_at hl 1 rfl) ?_
  refine lv_iconst (v := 0) hx hb dX6_joint_2 (by decide) ?_
  refine lv_iconst (v := 2) hx hb dX6_joint_3 (by decide) ?_
  refine g_callV (As := [.int kd, .int 0, .int 2]) (rest := []) S hE hS (c_X6_between l z w g1 g o (t) A B (kd) (0) (2)) (cwV 3 hts (gU_V tw_858 tw_860 tp_15 tw_6 tw_861) rfl rfl rfl (by decide +kernel) ⟨Nat.le_of_ble_eq_true rfl, Nat.le_of_ble_eq_true rfl⟩) (by obtain ⟨gm9, hW9, -⟩ := hW; exact hE.recv hW9.md (q := (RX6, TX6, 36)) rfl) hW rfl hl.1 rfl (Nat.le_of_ble_eq_true rfl) dX6_joint_4 ⟨Nat.zero_le _, Nat.zero_le _⟩ ?_
  refine g_if_eq S (tgt := 54) dX6_joint_7 (by decide) (fun c_7 => ?_) (fun c_7 => ?_)
  · refine lv_iconst (v := 0) hx hb dX6_joint_54 (by decide) ?_
    refine lv_istore (lv' := [(6, .int 0), (0, .ref (wad w 9 (0))), (1, .int kd), (2, .int a), (3, .int b), (4, .int sz), (5, .int tg)]) hx hb dX6_joint_55 hl (by decide) rfl (fun ls hl => ?_)
    refine lv_aload_n hx hb dX6_joint_57 rfl (lv_at hl 1 rfl) ?_
    refine lv_aload_n hx hb dX6_joint_58 rfl (lv_at hl 1 rfl) ?_
    refine lv_iload_n hx hb dX6_joint_59 rfl (lv_at hl 3 rfl) ?_
    refine g_callV (As := [.int a]) (rest := [.ref (wad w 9 (0))]) S hE hS (c_X6_isPart l z w g1 g o (t) A B hO (a)) (cwV 1 hts (gU_V tw_938 tw_940 tp_28 tw_6 tw_941) rfl rfl rfl (by decide +kernel) ⟨Nat.le_of_ble_eq_true rfl, Nat.le_of_ble_eq_true rfl⟩) (by obtain ⟨gm9, hW9, -⟩ := hW; exact hE.recv hW9.md (q := (RX6, TX6, 36)) rfl) hW rfl hl.1 rfl (Nat.le_of_ble_eq_true rfl) dX6_joint_60 ⟨Nat.zero_le _, Nat.zero_le _⟩ ?_
    refine g_if_eq S (tgt := 74) dX6_joint_63 (by decide) (fun c_63_1 => ?_) (fun c_63_1 => ?_)
    · refine lv_iconst (v := 1) hx hb dX6_joint_74 (by decide) ?_
      refine lv_goto (tgt := 93) hx hb dX6_joint_75 (by decide) ?_
      refine m_putt S hE hS hW tw_740 dX6_joint_93 (fun H locs hW hS => ?_)
      refine lv_aload_n hx hb dX6_joint_96 rfl (lv_at hl 1 rfl) ?_
      refine m_gett S hE hW tw_740 dX6_joint_97 ?_
      refine lv_if_ne (tgt := 152) hx hb dX6_joint_100 (by decide) (fun _ => ?_) (fun h9 => absurd h9 (by decide))
      refine lv_aload_n hx hb dX6_joint_152 rfl (lv_at hl 1 rfl) ?_
      refine m_gett S hE hW tw_740 dX6_joint_153 ?_
      refine lv_if_le (tgt := 161) hx hb dX6_joint_156 (by decide) (fun h9 => absurd h9 (by decide)) (fun _ => ?_)
      refine lv_iconst (v := 0) hx hb dX6_joint_159 (by decide) ?_
      exact m_ret S hr hlocks hS hW (by simp [RR, sp_joint, tgok, jst, bad, isB, isP, isJ, c_7, c_63_1]) dX6_joint_160
    · obtain ⟨i, hi, rfl⟩ := wi_lt (n := np g) (by omega) c_63_1
      have qi : (nI i).toNatClampNeg = i := nI_clamp (by omega)
      have hpbi := hO.l17 hi
      refine lv_aload_n hx hb dX6_joint_66 rfl (lv_at hl 1 rfl) ?_
      refine lv_iload_n hx hb dX6_joint_67 rfl (lv_at hl 4 rfl) ?_
      refine g_callV (As := [.int b]) (rest := [.ref (wad w 9 (0))]) S hE hS (c_X6_isPart l z w g1 g o (t) A B hO (b)) (cwV 1 hts (gU_V tw_938 tw_940 tp_28 tw_6 tw_941) rfl rfl rfl (by decide +kernel) ⟨Nat.le_of_ble_eq_true rfl, Nat.le_of_ble_eq_true rfl⟩) (by obtain ⟨gm9, hW9, -⟩ := hW; exact hE.recv hW9.md (q := (RX6, TX6, 36)) rfl) hW rfl hl.1 rfl (Nat.le_of_ble_eq_true rfl) dX6_joint_68 ⟨Nat.zero_le _, Nat.zero_le _⟩ ?_
      refine g_if_ne S (tgt := 78) dX6_joint_71 (by decide) (fun c_71_2 => ?_) (fun c_71_2 => ?_)
      · obtain ⟨k, hk, rfl⟩ := wi_lt (n := np g) (by omega) c_71_2
        have qk : (nI k).toNatClampNeg = k := nI_clamp (by omega)
        have hpbk := hO.l17 hk
        have qe : (nI i = nI k) = (i = k) := propext (nI_eq (by omega) (by omega))
        refine lv_iload hx hb dX6_joint_78 (lv_at hl 0 rfl) ?_
        refine lv_if_eq (tgt := 88) hx hb dX6_joint_80 (by decide) (fun _ => ?_) (fun h9 => absurd h9 (by decide))
        refine lv_iconst (v := 2) hx hb dX6_joint_88 (by decide) ?_
        refine lv_goto (tgt := 93) hx hb dX6_joint_89 (by decide) ?_
        refine m_putt S hE hS hW tw_740 dX6_joint_93 (fun H locs hW hS => ?_)
        refine lv_aload_n hx hb dX6_joint_96 rfl (lv_at hl 1 rfl) ?_
        refine m_gett S hE hW tw_740 dX6_joint_97 ?_
        refine lv_if_ne (tgt := 152) hx hb dX6_joint_100 (by decide) (fun _ => ?_) (fun h9 => absurd h9 (by decide))
        refine lv_aload_n hx hb dX6_joint_152 rfl (lv_at hl 1 rfl) ?_
        refine m_gett S hE hW tw_740 dX6_joint_153 ?_
        refine lv_if_le (tgt := 161) hx hb dX6_joint_156 (by decide) (fun h9 => absurd h9 (by decide)) (fun _ => ?_)
        refine lv_iconst (v := 0) hx hb dX6_joint_159 (by decide) ?_
        exact m_ret S hr hlocks hS hW (by simp [RR, sp_joint, tgok, jst, bad, isB, isP, isJ, c_7, c_63_1, c_71_2, qi, qk, qe]) dX6_joint_160
      · refine lv_iconst (v := 1) hx hb dX6_joint_74 (by decide) ?_
        refine lv_goto (tgt := 93) hx hb dX6_joint_75 (by decide) ?_
        refine m_putt S hE hS hW tw_740 dX6_joint_93 (fun H locs hW hS => ?_)
        refine lv_aload_n hx hb dX6_joint_96 rfl (lv_at hl 1 rfl) ?_
        refine m_gett S hE hW tw_740 dX6_joint_97 ?_
        refine lv_if_ne (tgt := 152) hx hb dX6_joint_100 (by decide) (fun _ => ?_) (fun h9 => absurd h9 (by decide))
        refine lv_aload_n hx hb dX6_joint_152 rfl (lv_at hl 1 rfl) ?_
        refine m_gett S hE hW tw_740 dX6_joint_153 ?_
        refine lv_if_le (tgt := 161) hx hb dX6_joint_156 (by decide) (fun h9 => absurd h9 (by decide)) (fun _ => ?_)
        refine lv_iconst (v := 0) hx hb dX6_joint_159 (by decide) ?_
        exact m_ret S hr hlocks hS hW (by simp [RR, sp_joint, tgok, jst, bad, isB, isP, isJ, c_7, c_63_1, c_71_2, qi]) dX6_joint_160
  · refine lv_aload_n hx hb dX6_joint_10 rfl (lv_at hl 0 rfl) ?_
    refine lv_iload hx hb dX6_joint_11 (lv_at hl 4 rfl) ?_
    refine lv_bipush (v := 10) hx hb dX6_joint_13 (by decide) ?_
    refine lv_sipush (v := 30000) hx hb dX6_joint_15 (by decide) ?_
    refine g_callV (As := [.int sz, .int 10, .int 30000]) (rest := []) S hE hS (c_X6_between l z w g1 g o (t) A B (sz) (10) (30000)) (cwV 3 hts (gU_V tw_858 tw_860 tp_15 tw_6 tw_861) rfl rfl rfl (by decide +kernel) ⟨Nat.le_of_ble_eq_true rfl, Nat.le_of_ble_eq_true rfl⟩) (by obtain ⟨gm9, hW9, -⟩ := hW; exact hE.recv hW9.md (q := (RX6, TX6, 36)) rfl) hW rfl hl.1 rfl (Nat.le_of_ble_eq_true rfl) dX6_joint_18 ⟨Nat.zero_le _, Nat.zero_le _⟩ ?_
    refine g_if_eq S (tgt := 54) dX6_joint_21 (by decide) (fun c_21_3 => ?_) (fun c_21_3 => ?_)
    · refine lv_iconst (v := 0) hx hb dX6_joint_54 (by decide) ?_
      refine lv_istore (lv' := [(6, .int 0), (0, .ref (wad w 9 (0))), (1, .int kd), (2, .int a), (3, .int b), (4, .int sz), (5, .int tg)]) hx hb dX6_joint_55 hl (by decide) rfl (fun ls hl => ?_)
      refine lv_aload_n hx hb dX6_joint_57 rfl (lv_at hl 1 rfl) ?_
      refine lv_aload_n hx hb dX6_joint_58 rfl (lv_at hl 1 rfl) ?_
      refine lv_iload_n hx hb dX6_joint_59 rfl (lv_at hl 3 rfl) ?_
      refine g_callV (As := [.int a]) (rest := [.ref (wad w 9 (0))]) S hE hS (c_X6_isPart l z w g1 g o (t) A B hO (a)) (cwV 1 hts (gU_V tw_938 tw_940 tp_28 tw_6 tw_941) rfl rfl rfl (by decide +kernel) ⟨Nat.le_of_ble_eq_true rfl, Nat.le_of_ble_eq_true rfl⟩) (by obtain ⟨gm9, hW9, -⟩ := hW; exact hE.recv hW9.md (q := (RX6, TX6, 36)) rfl) hW rfl hl.1 rfl (Nat.le_of_ble_eq_true rfl) dX6_joint_60 ⟨Nat.zero_le _, Nat.zero_le _⟩ ?_
      refine g_if_eq S (tgt := 74) dX6_joint_63 (by decide) (fun c_63_4 => ?_) (fun c_63_4 => ?_)
      · refine lv_iconst (v := 1) hx hb dX6_joint_74 (by decide) ?_
        refine lv_goto (tgt := 93) hx hb dX6_joint_75 (by decide) ?_
        refine m_putt S hE hS hW tw_740 dX6_joint_93 (fun H locs hW hS => ?_)
        refine lv_aload_n hx hb dX6_joint_96 rfl (lv_at hl 1 rfl) ?_
        refine m_gett S hE hW tw_740 dX6_joint_97 ?_
        refine lv_if_ne (tgt := 152) hx hb dX6_joint_100 (by decide) (fun _ => ?_) (fun h9 => absurd h9 (by decide))
        refine lv_aload_n hx hb dX6_joint_152 rfl (lv_at hl 1 rfl) ?_
        refine m_gett S hE hW tw_740 dX6_joint_153 ?_
        refine lv_if_le (tgt := 161) hx hb dX6_joint_156 (by decide) (fun h9 => absurd h9 (by decide)) (fun _ => ?_)
        refine lv_iconst (v := 0) hx hb dX6_joint_159 (by decide) ?_
        exact m_ret S hr hlocks hS hW (by simp [RR, sp_joint, tgok, jst, bad, isB, isP, isJ, c_7, c_21_3, c_63_4]) dX6_joint_160
      · obtain ⟨i, hi, rfl⟩ := wi_lt (n := np g) (by omega) c_63_4
        have qi : (nI i).toNatClampNeg = i := nI_clamp (by omega)
        have hpbi := hO.l17 hi
        refine lv_aload_n hx hb dX6_joint_66 rfl (lv_at hl 1 rfl) ?_
        refine lv_iload_n hx hb dX6_joint_67 rfl (lv_at hl 4 rfl) ?_
        refine g_callV (As := [.int b]) (rest := [.ref (wad w 9 (0))]) S hE hS (c_X6_isPart l z w g1 g o (t) A B hO (b)) (cwV 1 hts (gU_V tw_938 tw_940 tp_28 tw_6 tw_941) rfl rfl rfl (by decide +kernel) ⟨Nat.le_of_ble_eq_true rfl, Nat.le_of_ble_eq_true rfl⟩) (by obtain ⟨gm9, hW9, -⟩ := hW; exact hE.recv hW9.md (q := (RX6, TX6, 36)) rfl) hW rfl hl.1 rfl (Nat.le_of_ble_eq_true rfl) dX6_joint_68 ⟨Nat.zero_le _, Nat.zero_le _⟩ ?_
        refine g_if_ne S (tgt := 78) dX6_joint_71 (by decide) (fun c_71_5 => ?_) (fun c_71_5 => ?_)
        · obtain ⟨k, hk, rfl⟩ := wi_lt (n := np g) (by omega) c_71_5
          have qk : (nI k).toNatClampNeg = k := nI_clamp (by omega)
          have hpbk := hO.l17 hk
          have qe : (nI i = nI k) = (i = k) := propext (nI_eq (by omega) (by omega))
          refine lv_iload hx hb dX6_joint_78 (lv_at hl 0 rfl) ?_
          refine lv_if_eq (tgt := 88) hx hb dX6_joint_80 (by decide) (fun _ => ?_) (fun h9 => absurd h9 (by decide))
          refine lv_iconst (v := 2) hx hb dX6_joint_88 (by decide) ?_
          refine lv_goto (tgt := 93) hx hb dX6_joint_89 (by decide) ?_
          refine m_putt S hE hS hW tw_740 dX6_joint_93 (fun H locs hW hS => ?_)
          refine lv_aload_n hx hb dX6_joint_96 rfl (lv_at hl 1 rfl) ?_
          refine m_gett S hE hW tw_740 dX6_joint_97 ?_
          refine lv_if_ne (tgt := 152) hx hb dX6_joint_100 (by decide) (fun _ => ?_) (fun h9 => absurd h9 (by decide))
          refine lv_aload_n hx hb dX6_joint_152 rfl (lv_at hl 1 rfl) ?_
          refine m_gett S hE hW tw_740 dX6_joint_153 ?_
          refine lv_if_le (tgt := 161) hx hb dX6_joint_156 (by decide) (fun h9 => absurd h9 (by decide)) (fun _ => ?_)
          refine lv_iconst (v := 0) hx hb dX6_joint_159 (by decide) ?_
          exact m_ret S hr hlocks hS hW (by simp [RR, sp_joint, tgok, jst, bad, isB, isP, isJ, c_7, c_21_3, c_63_4, c_71_5, qi, qk, qe]) dX6_joint_160
        · refine lv_iconst (v := 1) hx hb dX6_joint_74 (by decide) ?_
          refine lv_goto (tgt := 93) hx hb dX6_joint_75 (by decide) ?_
          refine m_putt S hE hS hW tw_740 dX6_joint_93 (fun H locs hW hS => ?_)
          refine lv_aload_n hx hb dX6_joint_96 rfl (lv_at hl 1 rfl) ?_
          refine m_gett S hE hW tw_740 dX6_joint_97 ?_
          refine lv_if_ne (tgt := 152) hx hb dX6_joint_100 (by decide) (fun _ => ?_) (fun h9 => absurd h9 (by decide))
          refine lv_aload_n hx hb dX6_joint_152 rfl (lv_at hl 1 rfl) ?_
          refine m_gett S hE hW tw_740 dX6_joint_153 ?_
          refine lv_if_le (tgt := 161) hx hb dX6_joint_156 (by decide) (fun h9 => absurd h9 (by decide)) (fun _ => ?_)
          refine lv_iconst (v := 0) hx hb dX6_joint_159 (by decide) ?_
          exact m_ret S hr hlocks hS hW (by simp [RR, sp_joint, tgok, jst, bad, isB, isP, isJ, c_7, c_21_3, c_63_4, c_71_5, qi]) dX6_joint_160
    · refine lv_iload_n hx hb dX6_joint_24 rfl (lv_at hl 1 rfl) ?_
      refine lv_iconst (v := 2) hx hb dX6_joint_25 (by decide) ?_
      refine lv_icmp_ne (tgt := 45) hx hb dX6_joint_26 (by decide) (fun c_26_6 => ?_) (fun c_26_6 => ?_)
      · refine lv_iload hx hb dX6_joint_45 (lv_at hl 5 rfl) ?_
        refine lv_if_ne (tgt := 54) hx hb dX6_joint_47 (by decide) (fun c_47_7 => ?_) (fun c_47_7 => ?_)
        · refine lv_iconst (v := 0) hx hb dX6_joint_54 (by decide) ?_
          refine lv_istore (lv' := [(6, .int 0), (0, .ref (wad w 9 (0))), (1, .int kd), (2, .int a), (3, .int b), (4, .int sz), (5, .int tg)]) hx hb dX6_joint_55 hl (by decide) rfl (fun ls hl => ?_)
          refine lv_aload_n hx hb dX6_joint_57 rfl (lv_at hl 1 rfl) ?_
          refine lv_aload_n hx hb dX6_joint_58 rfl (lv_at hl 1 rfl) ?_
          refine lv_iload_n hx hb dX6_joint_59 rfl (lv_at hl 3 rfl) ?_
          refine g_callV (As := [.int a]) (rest := [.ref (wad w 9 (0))]) S hE hS (c_X6_isPart l z w g1 g o (t) A B hO (a)) (cwV 1 hts (gU_V tw_938 tw_940 tp_28 tw_6 tw_941) rfl rfl rfl (by decide +kernel) ⟨Nat.le_of_ble_eq_true rfl, Nat.le_of_ble_eq_true rfl⟩) (by obtain ⟨gm9, hW9, -⟩ := hW; exact hE.recv hW9.md (q := (RX6, TX6, 36)) rfl) hW rfl hl.1 rfl (Nat.le_of_ble_eq_true rfl) dX6_joint_60 ⟨Nat.zero_le _, Nat.zero_le _⟩ ?_
          refine g_if_eq S (tgt := 74) dX6_joint_63 (by decide) (fun c_63_8 => ?_) (fun c_63_8 => ?_)
          · refine lv_iconst (v := 1) hx hb dX6_joint_74 (by decide) ?_
            refine lv_goto (tgt := 93) hx hb dX6_joint_75 (by decide) ?_
            refine m_putt S hE hS hW tw_740 dX6_joint_93 (fun H locs hW hS => ?_)
            refine lv_aload_n hx hb dX6_joint_96 rfl (lv_at hl 1 rfl) ?_
            refine m_gett S hE hW tw_740 dX6_joint_97 ?_
            refine lv_if_ne (tgt := 152) hx hb dX6_joint_100 (by decide) (fun _ => ?_) (fun h9 => absurd h9 (by decide))
            refine lv_aload_n hx hb dX6_joint_152 rfl (lv_at hl 1 rfl) ?_
            refine m_gett S hE hW tw_740 dX6_joint_153 ?_
            refine lv_if_le (tgt := 161) hx hb dX6_joint_156 (by decide) (fun h9 => absurd h9 (by decide)) (fun _ => ?_)
            refine lv_iconst (v := 0) hx hb dX6_joint_159 (by decide) ?_
            exact m_ret S hr hlocks hS hW (by simp [RR, sp_joint, tgok, jst, bad, isB, isP, isJ, c_7, c_21_3, c_26_6, c_47_7, c_63_8]) dX6_joint_160
          · obtain ⟨i, hi, rfl⟩ := wi_lt (n := np g) (by omega) c_63_8
            have qi : (nI i).toNatClampNeg = i := nI_clamp (by omega)
            have hpbi := hO.l17 hi
            refine lv_aload_n hx hb dX6_joint_66 rfl (lv_at hl 1 rfl) ?_
            refine lv_iload_n hx hb dX6_joint_67 rfl (lv_at hl 4 rfl) ?_
            refine g_callV (As := [.int b]) (rest := [.ref (wad w 9 (0))]) S hE hS (c_X6_isPart l z w g1 g o (t) A B hO (b)) (cwV 1 hts (gU_V tw_938 tw_940 tp_28 tw_6 tw_941) rfl rfl rfl (by decide +kernel) ⟨Nat.le_of_ble_eq_true rfl, Nat.le_of_ble_eq_true rfl⟩) (by obtain ⟨gm9, hW9, -⟩ := hW; exact hE.recv hW9.md (q := (RX6, TX6, 36)) rfl) hW rfl hl.1 rfl (Nat.le_of_ble_eq_true rfl) dX6_joint_68 ⟨Nat.zero_le _, Nat.zero_le _⟩ ?_
            refine g_if_ne S (tgt := 78) dX6_joint_71 (by decide) (fun c_71_9 => ?_) (fun c_71_9 => ?_)
            · obtain ⟨k, hk, rfl⟩ := wi_lt (n := np g) (by omega) c_71_9
              have qk : (nI k).toNatClampNeg = k := nI_clamp (by omega)
              have hpbk := hO.l17 hk
              have qe : (nI i = nI k) = (i = k) := propext (nI_eq (by omega) (by omega))
              refine lv_iload hx hb dX6_joint_78 (lv_at hl 0 rfl) ?_
              refine lv_if_eq (tgt := 88) hx hb dX6_joint_80 (by decide) (fun _ => ?_) (fun h9 => absurd h9 (by decide))
              refine lv_iconst (v := 2) hx hb dX6_joint_88 (by decide) ?_
              refine lv_goto (tgt := 93) hx hb dX6_joint_89 (by decide) ?_
              refine m_putt S hE hS hW tw_740 dX6_joint_93 (fun H locs hW hS => ?_)
              refine lv_aload_n hx hb dX6_joint_96 rfl (lv_at hl 1 rfl) ?_
              refine m_gett S hE hW tw_740 dX6_joint_97 ?_
              refine lv_if_ne (tgt := 152) hx hb dX6_joint_100 (by decide) (fun _ => ?_) (fun h9 => absurd h9 (by decide))
              refine lv_aload_n hx hb dX6_joint_152 rfl (lv_at hl 1 rfl) ?_
              refine m_gett S hE hW tw_740 dX6_joint_153 ?_
              refine lv_if_le (tgt := 161) hx hb dX6_joint_156 (by decide) (fun h9 => absurd h9 (by decide)) (fun _ => ?_)
              refine lv_iconst (v := 0) hx hb dX6_joint_159 (by decide) ?_
              exact m_ret S hr hlocks hS hW (by simp [RR, sp_joint, tgok, jst, bad, isB, isP, isJ, c_7, c_21_3, c_26_6, c_47_7, c_63_8, c_71_9, qi, qk, qe]) dX6_joint_160
            · refine lv_iconst (v := 1) hx hb dX6_joint_74 (by decide) ?_
              refine lv_goto (tgt := 93) hx hb dX6_joint_75 (by decide) ?_
              refine m_putt S hE hS hW tw_740 dX6_joint_93 (fun H locs hW hS => ?_)
              refine lv_aload_n hx hb dX6_joint_96 rfl (lv_at hl 1 rfl) ?_
              refine m_gett S hE hW tw_740 dX6_joint_97 ?_
              refine lv_if_ne (tgt := 152) hx hb dX6_joint_100 (by decide) (fun _ => ?_) (fun h9 => absurd h9 (by decide))
              refine lv_aload_n hx hb dX6_joint_152 rfl (lv_at hl 1 rfl) ?_
              refine m_gett S hE hW tw_740 dX6_joint_153 ?_
              refine lv_if_le (tgt := 161) hx hb dX6_joint_156 (by decide) (fun h9 => absurd h9 (by decide)) (fun _ => ?_)
              refine lv_iconst (v := 0) hx hb dX6_joint_159 (by decide) ?_
              exact m_ret S hr hlocks hS hW (by simp [RR, sp_joint, tgok, jst, bad, isB, isP, isJ, c_7, c_21_3, c_26_6, c_47_7, c_63_8, c_71_9, qi]) dX6_joint_160
        · subst c_47_7
          refine lv_iconst (v := 1) hx hb dX6_joint_50 (by decide) ?_
          refine lv_goto (tgt := 55) hx hb dX6_joint_51 (by decide) ?_
          refine lv_istore (lv' := [(6, .int 1), (0, .ref (wad w 9 (0))), (1, .int kd), (2, .int a), (3, .int b), (4, .int sz), (5, .int 0)]) hx hb dX6_joint_55 hl (by decide) rfl (fun ls hl => ?_)
          refine lv_aload_n hx hb dX6_joint_57 rfl (lv_at hl 1 rfl) ?_
          refine lv_aload_n hx hb dX6_joint_58 rfl (lv_at hl 1 rfl) ?_
          refine lv_iload_n hx hb dX6_joint_59 rfl (lv_at hl 3 rfl) ?_
          refine g_callV (As := [.int a]) (rest := [.ref (wad w 9 (0))]) S hE hS (c_X6_isPart l z w g1 g o (t) A B hO (a)) (cwV 1 hts (gU_V tw_938 tw_940 tp_28 tw_6 tw_941) rfl rfl rfl (by decide +kernel) ⟨Nat.le_of_ble_eq_true rfl, Nat.le_of_ble_eq_true rfl⟩) (by obtain ⟨gm9, hW9, -⟩ := hW; exact hE.recv hW9.md (q := (RX6, TX6, 36)) rfl) hW rfl hl.1 rfl (Nat.le_of_ble_eq_true rfl) dX6_joint_60 ⟨Nat.zero_le _, Nat.zero_le _⟩ ?_
          refine g_if_eq S (tgt := 74) dX6_joint_63 (by decide) (fun c_63_10 => ?_) (fun c_63_10 => ?_)
          · refine lv_iconst (v := 1) hx hb dX6_joint_74 (by decide) ?_
            refine lv_goto (tgt := 93) hx hb dX6_joint_75 (by decide) ?_
            refine m_putt S hE hS hW tw_740 dX6_joint_93 (fun H locs hW hS => ?_)
            refine lv_aload_n hx hb dX6_joint_96 rfl (lv_at hl 1 rfl) ?_
            refine m_gett S hE hW tw_740 dX6_joint_97 ?_
            refine lv_if_ne (tgt := 152) hx hb dX6_joint_100 (by decide) (fun _ => ?_) (fun h9 => absurd h9 (by decide))
            refine lv_aload_n hx hb dX6_joint_152 rfl (lv_at hl 1 rfl) ?_
            refine m_gett S hE hW tw_740 dX6_joint_153 ?_
            refine lv_if_le (tgt := 161) hx hb dX6_joint_156 (by decide) (fun h9 => absurd h9 (by decide)) (fun _ => ?_)
            refine lv_iconst (v := 0) hx hb dX6_joint_159 (by decide) ?_
            exact m_ret S hr hlocks hS hW (by simp [RR, sp_joint, tgok, jst, bad, isB, isP, isJ, c_7, c_21_3, c_26_6, c_63_10]) dX6_joint_160
          · obtain ⟨i, hi, rfl⟩ := wi_lt (n := np g) (by omega) c_63_10
            have qi : (nI i).toNatClampNeg = i := nI_clamp (by omega)
            have hpbi := hO.l17 hi
            refine lv_aload_n hx hb dX6_joint_66 rfl (lv_at hl 1 rfl) ?_
            refine lv_iload_n hx hb dX6_joint_67 rfl (lv_at hl 4 rfl) ?_
            refine g_callV (As := [.int b]) (rest := [.ref (wad w 9 (0))]) S hE hS (c_X6_isPart l z w g1 g o (t) A B hO (b)) (cwV 1 hts (gU_V tw_938 tw_940 tp_28 tw_6 tw_941) rfl rfl rfl (by decide +kernel) ⟨Nat.le_of_ble_eq_true rfl, Nat.le_of_ble_eq_true rfl⟩) (by obtain ⟨gm9, hW9, -⟩ := hW; exact hE.recv hW9.md (q := (RX6, TX6, 36)) rfl) hW rfl hl.1 rfl (Nat.le_of_ble_eq_true rfl) dX6_joint_68 ⟨Nat.zero_le _, Nat.zero_le _⟩ ?_
            refine g_if_ne S (tgt := 78) dX6_joint_71 (by decide) (fun c_71_11 => ?_) (fun c_71_11 => ?_)
            · obtain ⟨k, hk, rfl⟩ := wi_lt (n := np g) (by omega) c_71_11
              have qk : (nI k).toNatClampNeg = k := nI_clamp (by omega)
              have hpbk := hO.l17 hk
              have qe : (nI i = nI k) = (i = k) := propext (nI_eq (by omega) (by omega))
              refine lv_iload hx hb dX6_joint_78 (lv_at hl 0 rfl) ?_
              refine lv_if_eq (tgt := 88) hx hb dX6_joint_80 (by decide) (fun h9 => absurd h9 (by decide)) (fun _ => ?_)
              refine lv_iload_n hx hb dX6_joint_83 rfl (lv_at hl 3 rfl) ?_
              refine lv_iload_n hx hb dX6_joint_84 rfl (lv_at hl 4 rfl) ?_
              refine g_icmp_ne S (by omega) (by omega) (tgt := 92) dX6_joint_85 (by decide) (fun c_85_12 => ?_) (fun c_85_12 => ?_)
              · refine lv_iconst (v := 0) hx hb dX6_joint_92 (by decide) ?_
                refine m_putt S hE hS hW tw_740 dX6_joint_93 (fun H locs hW hS => ?_)
                refine lv_aload_n hx hb dX6_joint_96 rfl (lv_at hl 1 rfl) ?_
                refine m_gett S hE hW tw_740 dX6_joint_97 ?_
                refine lv_if_ne (tgt := 152) hx hb dX6_joint_100 (by decide) (fun h9 => absurd h9 (by decide)) (fun _ => ?_)
                refine lv_aload_n hx hb dX6_joint_103 rfl (lv_at hl 1 rfl) ?_
                refine lv_aload_n hx hb dX6_joint_104 rfl (lv_at hl 1 rfl) ?_
                refine m_geti S hE hW 24 (v := nI (nj g)) (by decide) rfl (by decide) tw_764 rfl hO.n24 dX6_joint_105 ?_
                refine lv_bipush (v := 30) hx hb dX6_joint_108 (by decide) ?_
                rw [show (30 : Int32) = nI 30 from rfl]
                refine g_icmp_eq S (by omega) (by omega) (tgt := 144) dX6_joint_110 (by decide) (fun c_110_13 => ?_) (fun c_110_13 => ?_)
                · refine lv_iconst (v := 3) hx hb dX6_joint_144 (by decide) ?_
                  refine lv_goto (tgt := 149) hx hb dX6_joint_145 (by decide) ?_
                  refine m_putt S hE hS hW tw_740 dX6_joint_149 (fun H locs hW hS => ?_)
                  refine lv_aload_n hx hb dX6_joint_152 rfl (lv_at hl 1 rfl) ?_
                  refine m_gett S hE hW tw_740 dX6_joint_153 ?_
                  refine lv_if_le (tgt := 161) hx hb dX6_joint_156 (by decide) (fun h9 => absurd h9 (by decide)) (fun _ => ?_)
                  refine lv_iconst (v := 0) hx hb dX6_joint_159 (by decide) ?_
                  exact m_ret S hr hlocks hS hW (by simp [RR, sp_joint, tgok, jst, bad, isB, isP, isJ, c_7, c_21_3, c_26_6, c_63_10, c_71_11, c_85_12, c_110_13, qi, qk, qe]) dX6_joint_160
                · refine lv_aload_n hx hb dX6_joint_113 rfl (lv_at hl 1 rfl) ?_
                  refine lv_iload_n hx hb dX6_joint_114 rfl (lv_at hl 2 rfl) ?_
                  refine lv_iload_n hx hb dX6_joint_115 rfl (lv_at hl 3 rfl) ?_
                  refine lv_iload hx hb dX6_joint_116 (lv_at hl 5 rfl) ?_
                  refine lv_iload hx hb dX6_joint_118 (lv_at hl 6 rfl) ?_
                  refine g_callV (As := [.int kd, .int (nI i), .int sz, .int 0]) (rest := [.ref (wad w 9 (0))]) S hE hS (c_X6_fits l z w g1 g o (0) A B hO (kd) (i) (by omega) (sz) (0)) (cwV 4 hts (gU_V tw_950 tw_952 tp_29 tw_6 tw_953) rfl rfl rfl (by decide +kernel) ⟨Nat.le_of_ble_eq_true rfl, Nat.le_of_ble_eq_true rfl⟩) (by obtain ⟨gm9, hW9, -⟩ := hW; exact hE.recv hW9.md (q := (RX6, TX6, 36)) rfl) hW rfl hl.1 rfl (Nat.le_of_ble_eq_true rfl) dX6_joint_120 ⟨Nat.zero_le _, Nat.zero_le _⟩ ?_
                  refine g_if_eq S (tgt := 144) dX6_joint_123 (by decide) (fun c_123_14 => ?_) (fun c_123_14 => ?_)
                  · refine lv_iconst (v := 3) hx hb dX6_joint_144 (by decide) ?_
                    refine lv_goto (tgt := 149) hx hb dX6_joint_145 (by decide) ?_
                    refine m_putt S hE hS hW tw_740 dX6_joint_149 (fun H locs hW hS => ?_)
                    refine lv_aload_n hx hb dX6_joint_152 rfl (lv_at hl 1 rfl) ?_
                    refine m_gett S hE hW tw_740 dX6_joint_153 ?_
                    refine lv_if_le (tgt := 161) hx hb dX6_joint_156 (by decide) (fun h9 => absurd h9 (by decide)) (fun _ => ?_)
                    refine lv_iconst (v := 0) hx hb dX6_joint_159 (by decide) ?_
                    exact m_ret S hr hlocks hS hW (by simp [RR, sp_joint, tgok, jst, bad, isB, isP, isJ, c_7, c_21_3, c_26_6, c_63_10, c_71_11, c_85_12, c_110_13, c_123_14, qi, qk, qe]) dX6_joint_160
                  · refine lv_aload_n hx hb dX6_joint_126 rfl (lv_at hl 1 rfl) ?_
                    refine m_geta S hE hW 3 (by decide) rfl tw_743 rfl dX6_joint_127 ?_
                    refine lv_iconst (v := 1) hx hb dX6_joint_130 (by decide) ?_
                    refine m_ald S hE hW (k := 3) (v := g 3 1) rfl (by unfold vp_in; decide) (by rw [show (1 : Int32).toNatClampNeg = 1 from (by decide)]) dX6_joint_131 ?_
                    refine lv_aload_n hx hb dX6_joint_132 rfl (lv_at hl 1 rfl) ?_
                    refine lv_aload_n hx hb dX6_joint_133 rfl (lv_at hl 1 rfl) ?_
                    refine lv_iload_n hx hb dX6_joint_134 rfl (lv_at hl 3 rfl) ?_
                    refine g_callV (As := [.int (nI i)]) (rest := [.ref (wad w 9 (0)), .int (g 3 1), .ref (wad w 9 (0))]) S hE hS (c_X6_speciesOf l z w g1 g o (0) A B hO (i) (by omega)) (cwV 1 hts (gU_V tw_878 tw_880 tp_19 tw_6 tw_881) rfl rfl rfl (by decide +kernel) ⟨Nat.le_of_ble_eq_true rfl, Nat.le_of_ble_eq_true rfl⟩) (by obtain ⟨gm9, hW9, -⟩ := hW; exact hE.recv hW9.md (q := (RX6, TX6, 36)) rfl) hW rfl hl.1 rfl (Nat.le_of_ble_eq_true rfl) dX6_joint_135 ⟨Nat.zero_le _, Nat.zero_le _⟩ ?_
                    refine g_callV (As := [.int (g 6 (pb g (i)))]) (rest := [.int (g 3 1), .ref (wad w 9 (0))]) S hE hS (c_X6_hardness l z w g1 g o (0) A B (g 6 (pb g (i)))) (cwV 1 hts (gU_V tw_922 tw_924 tp_27 tw_6 tw_925) rfl rfl rfl (by decide +kernel) ⟨Nat.le_of_ble_eq_true rfl, Nat.le_of_ble_eq_true rfl⟩) (by obtain ⟨gm9, hW9, -⟩ := hW; exact hE.recv hW9.md (q := (RX6, TX6, 36)) rfl) hW rfl hl.1 rfl (Nat.le_of_ble_eq_true rfl) dX6_joint_138 ⟨Nat.zero_le _, Nat.zero_le _⟩ ?_
                    refine lv_icmp_ge (tgt := 148) hx hb dX6_joint_141 (by decide) (fun c_141_15 => ?_) (fun c_141_15 => ?_)
                    · refine lv_iconst (v := 0) hx hb dX6_joint_148 (by decide) ?_
                      refine m_putt S hE hS hW tw_740 dX6_joint_149 (fun H locs hW hS => ?_)
                      refine lv_aload_n hx hb dX6_joint_152 rfl (lv_at hl 1 rfl) ?_
                      refine m_gett S hE hW tw_740 dX6_joint_153 ?_
                      refine lv_if_le (tgt := 161) hx hb dX6_joint_156 (by decide) (fun _ => ?_) (fun h9 => absurd h9 (by decide))
                      refine lv_aload_n hx hb dX6_joint_161 rfl (lv_at hl 1 rfl) ?_
                      refine m_geti S hE hW 24 (v := nI (nj g)) (by decide) rfl (by decide) tw_764 rfl hO.n24 dX6_joint_162 ?_
                      refine lv_istore (lv' := [(7, .int (nI (nj g))), (6, .int 1), (0, .ref (wad w 9 (0))), (1, .int kd), (2, .int (nI i)), (3, .int (nI k)), (4, .int sz), (5, .int 0)]) hx hb dX6_joint_165 hl (by decide) rfl (fun ls hl => ?_)
                      refine lv_aload_n hx hb dX6_joint_167 rfl (lv_at hl 2 rfl) ?_
                      refine m_geta S hE hW 3 (by decide) rfl tw_743 rfl dX6_joint_168 ?_
                      refine lv_iconst (v := 1) hx hb dX6_joint_171 (by decide) ?_
                      refine lv_dup2_11 hx hb dX6_joint_172 rfl rfl ?_
                      refine m_ald S hE hW (k := 3) (v := g 3 1) rfl (by unfold vp_in; decide) (by rw [show (1 : Int32).toNatClampNeg = 1 from (by decide)]) dX6_joint_173 ?_
                      refine lv_aload_n hx hb dX6_joint_174 rfl (lv_at hl 2 rfl) ?_
                      refine lv_aload_n hx hb dX6_joint_175 rfl (lv_at hl 2 rfl) ?_
                      refine lv_iload_n hx hb dX6_joint_176 rfl (lv_at hl 4 rfl) ?_
                      refine g_callV (As := [.int (nI i)]) (rest := [.ref (wad w 9 (0)), .int (g 3 1), .int 1, .ref (wad w 10 (3))]) S hE hS (c_X6_speciesOf l z w g1 g o (0) A B hO (i) (by omega)) (cwV 1 hts (gU_V tw_878 tw_880 tp_19 tw_6 tw_881) rfl rfl rfl (by decide +kernel) ⟨Nat.le_of_ble_eq_true rfl, Nat.le_of_ble_eq_true rfl⟩) (by obtain ⟨gm9, hW9, -⟩ := hW; exact hE.recv hW9.md (q := (RX6, TX6, 36)) rfl) hW rfl hl.1 rfl (Nat.le_of_ble_eq_true rfl) dX6_joint_177 ⟨Nat.zero_le _, Nat.zero_le _⟩ ?_
                      refine g_callV (As := [.int (g 6 (pb g (i)))]) (rest := [.int (g 3 1), .int 1, .ref (wad w 10 (3))]) S hE hS (c_X6_hardness l z w g1 g o (0) A B (g 6 (pb g (i)))) (cwV 1 hts (gU_V tw_922 tw_924 tp_27 tw_6 tw_925) rfl rfl rfl (by decide +kernel) ⟨Nat.le_of_ble_eq_true rfl, Nat.le_of_ble_eq_true rfl⟩) (by obtain ⟨gm9, hW9, -⟩ := hW; exact hE.recv hW9.md (q := (RX6, TX6, 36)) rfl) hW rfl hl.1 rfl (Nat.le_of_ble_eq_true rfl) dX6_joint_180 ⟨Nat.zero_le _, Nat.zero_le _⟩ ?_
                      refine lv_isub hx hb dX6_joint_183 ?_
                      refine m_ast S hE hS hW (k := 3) (j := 1) rfl (by unfold vp_in; decide) (by decide) dX6_joint_184 (fun H locs hW hS => ?_)
                      refine lv_aload_n hx hb dX6_joint_185 rfl (lv_at hl 2 rfl) ?_
                      refine m_geta S hE hW 25 (by decide) rfl tw_765 rfl dX6_joint_186 ?_
                      refine lv_iload hx hb dX6_joint_189 (lv_at hl 0 rfl) ?_
                      refine lv_iload_n hx hb dX6_joint_191 rfl (lv_at hl 3 rfl) ?_
                      refine m_ast S hE hS hW (k := 25) (j := nj g) rfl (vp_in_nI (show nj g < 30 from (by omega)) (by decide)) (nI_clamp (by omega)) dX6_joint_192 (fun H locs hW hS => ?_)
                      refine lv_aload_n hx hb dX6_joint_193 rfl (lv_at hl 2 rfl) ?_
                      refine m_geta S hE hW 26 (by decide) rfl tw_766 rfl dX6_joint_194 ?_
                      refine lv_iload hx hb dX6_joint_197 (lv_at hl 0 rfl) ?_
                      refine lv_iload_n hx hb dX6_joint_199 rfl (lv_at hl 4 rfl) ?_
                      refine m_ast S hE hS hW (k := 26) (j := nj g) rfl (vp_in_nI (show nj g < 30 from (by omega)) (by decide)) (nI_clamp (by omega)) dX6_joint_200 (fun H locs hW hS => ?_)
                      refine lv_aload_n hx hb dX6_joint_201 rfl (lv_at hl 2 rfl) ?_
                      refine m_geta S hE hW 27 (by decide) rfl tw_767 rfl dX6_joint_202 ?_
                      refine lv_iload hx hb dX6_joint_205 (lv_at hl 0 rfl) ?_
                      refine lv_iload_n hx hb dX6_joint_207 rfl (lv_at hl 5 rfl) ?_
                      refine m_ast S hE hS hW (k := 27) (j := nj g) rfl (vp_in_nI (show nj g < 30 from (by omega)) (by decide)) (nI_clamp (by omega)) dX6_joint_208 (fun H locs hW hS => ?_)
                      refine lv_aload_n hx hb dX6_joint_209 rfl (lv_at hl 2 rfl) ?_
                      refine m_geta S hE hW 28 (by decide) rfl tw_768 rfl dX6_joint_210 ?_
                      refine lv_iload hx hb dX6_joint_213 (lv_at hl 0 rfl) ?_
                      refine lv_iload hx hb dX6_joint_215 (lv_at hl 6 rfl) ?_
                      refine m_ast S hE hS hW (k := 28) (j := nj g) rfl (vp_in_nI (show nj g < 30 from (by omega)) (by decide)) (nI_clamp (by omega)) dX6_joint_217 (fun H locs hW hS => ?_)
                      refine lv_aload_n hx hb dX6_joint_218 rfl (lv_at hl 2 rfl) ?_
                      refine m_geta S hE hW 29 (by decide) rfl tw_769 rfl dX6_joint_219 ?_
                      refine lv_iload hx hb dX6_joint_222 (lv_at hl 0 rfl) ?_
                      refine lv_iload hx hb dX6_joint_224 (lv_at hl 7 rfl) ?_
                      refine m_ast S hE hS hW (k := 29) (j := nj g) rfl (vp_in_nI (show nj g < 30 from (by omega)) (by decide)) (nI_clamp (by omega)) dX6_joint_226 (fun H locs hW hS => ?_)
                      refine lv_aload_n hx hb dX6_joint_227 rfl (lv_at hl 2 rfl) ?_
                      refine lv_dup hx hb dX6_joint_228 rfl ?_
                      refine m_geti S hE hW 24 (v := nI (nj g)) (by decide) rfl (by decide) tw_764 rfl ((by simp [gup] : _ = g 24 0).trans hO.n24) dX6_joint_229 ?_
                      refine lv_iconst (v := 1) hx hb dX6_joint_232 (by decide) ?_
                      refine lv_iadd hx hb dX6_joint_233 ?_
                      rw [show (nI (nj g) : Int32) + 1 = nI ((nj g) + 1) from nI_add _ 1]
                      refine m_puti S hE hS hW 24 (by decide) rfl (by decide) tw_764 ⟨rfl, rfl, rfl⟩ dX6_joint_234 (fun H locs hW hS => ?_)
                      refine lv_iload hx hb dX6_joint_237 (lv_at hl 0 rfl) ?_
                      exact m_ret S hr hlocks hS hW (by simp [RR, sp_joint, tgok, jst, bad, isB, isP, isJ, c_7, c_21_3, c_26_6, c_63_10, c_71_11, c_85_12, c_110_13, c_123_14, c_141_15, qi, qk, qe]) dX6_joint_239
                    · refine lv_iconst (v := 3) hx hb dX6_joint_144 (by decide) ?_
                      refine lv_goto (tgt := 149) hx hb dX6_joint_145 (by decide) ?_
                      refine m_putt S hE hS hW tw_740 dX6_joint_149 (fun H locs hW hS => ?_)
                      refine lv_aload_n hx hb dX6_joint_152 rfl (lv_at hl 1 rfl) ?_
                      refine m_gett S hE hW tw_740 dX6_joint_153 ?_
                      refine lv_if_le (tgt := 161) hx hb dX6_joint_156 (by decide) (fun h9 => absurd h9 (by decide)) (fun _ => ?_)
                      refine lv_iconst (v := 0) hx hb dX6_joint_159 (by decide) ?_
                      exact m_ret S hr hlocks hS hW (by simp [RR, sp_joint, tgok, jst, bad, isB, isP, isJ, c_7, c_21_3, c_26_6, c_63_10, c_71_11, c_85_12, c_110_13, c_123_14, c_141_15, qi, qk, qe]) dX6_joint_160
              · refine lv_iconst (v := 2) hx hb dX6_joint_88 (by decide) ?_
                refine lv_goto (tgt := 93) hx hb dX6_joint_89 (by decide) ?_
                refine m_putt S hE hS hW tw_740 dX6_joint_93 (fun H locs hW hS => ?_)
                refine lv_aload_n hx hb dX6_joint_96 rfl (lv_at hl 1 rfl) ?_
                refine m_gett S hE hW tw_740 dX6_joint_97 ?_
                refine lv_if_ne (tgt := 152) hx hb dX6_joint_100 (by decide) (fun _ => ?_) (fun h9 => absurd h9 (by decide))
                refine lv_aload_n hx hb dX6_joint_152 rfl (lv_at hl 1 rfl) ?_
                refine m_gett S hE hW tw_740 dX6_joint_153 ?_
                refine lv_if_le (tgt := 161) hx hb dX6_joint_156 (by decide) (fun h9 => absurd h9 (by decide)) (fun _ => ?_)
                refine lv_iconst (v := 0) hx hb dX6_joint_159 (by decide) ?_
                exact m_ret S hr hlocks hS hW (by simp [RR, sp_joint, tgok, jst, bad, isB, isP, isJ, c_7, c_21_3, c_26_6, c_63_10, c_71_11, c_85_12, qi, qk, qe]) dX6_joint_160
            · refine lv_iconst (v := 1) hx hb dX6_joint_74 (by decide) ?_
              refine lv_goto (tgt := 93) hx hb dX6_joint_75 (by decide) ?_
              refine m_putt S hE hS hW tw_740 dX6_joint_93 (fun H locs hW hS => ?_)
              refine lv_aload_n hx hb dX6_joint_96 rfl (lv_at hl 1 rfl) ?_
              refine m_gett S hE hW tw_740 dX6_joint_97 ?_
              refine lv_if_ne (tgt := 152) hx hb dX6_joint_100 (by decide) (fun _ => ?_) (fun h9 => absurd h9 (by decide))
              refine lv_aload_n hx hb dX6_joint_152 rfl (lv_at hl 1 rfl) ?_
              refine m_gett S hE hW tw_740 dX6_joint_153 ?_
              refine lv_if_le (tgt := 161) hx hb dX6_joint_156 (by decide) (fun h9 => absurd h9 (by decide)) (fun _ => ?_)
              refine lv_iconst (v := 0) hx hb dX6_joint_159 (by decide) ?_
              exact m_ret S hr hlocks hS hW (by simp [RR, sp_joint, tgok, jst, bad, isB, isP, isJ, c_7, c_21_3, c_26_6, c_63_10, c_71_11, qi]) dX6_joint_160
      · subst c_26_6
        refine lv_aload_n hx hb dX6_joint_29 rfl (lv_at hl 0 rfl) ?_
        refine lv_iload hx hb dX6_joint_30 (lv_at hl 5 rfl) ?_
        refine lv_iconst (v := 1) hx hb dX6_joint_32 (by decide) ?_
        refine lv_sipush (v := 200) hx hb dX6_joint_33 (by decide) ?_
        refine g_callV (As := [.int tg, .int 1, .int 200]) (rest := []) S hE hS (c_X6_between l z w g1 g o (t) A B (tg) (1) (200)) (cwV 3 hts (gU_V tw_858 tw_860 tp_15 tw_6 tw_861) rfl rfl rfl (by decide +kernel) ⟨Nat.le_of_ble_eq_true rfl, Nat.le_of_ble_eq_true rfl⟩) (by obtain ⟨gm9, hW9, -⟩ := hW; exact hE.recv hW9.md (q := (RX6, TX6, 36)) rfl) hW rfl hl.1 rfl (Nat.le_of_ble_eq_true rfl) dX6_joint_36 ⟨Nat.zero_le _, Nat.zero_le _⟩ ?_
        refine g_if_eq S (tgt := 54) dX6_joint_39 (by decide) (fun c_39_16 => ?_) (fun c_39_16 => ?_)
        · refine lv_iconst (v := 0) hx hb dX6_joint_54 (by decide) ?_
          refine lv_istore (lv' := [(6, .int 0), (0, .ref (wad w 9 (0))), (1, .int 2), (2, .int a), (3, .int b), (4, .int sz), (5, .int tg)]) hx hb dX6_joint_55 hl (by decide) rfl (fun ls hl => ?_)
          refine lv_aload_n hx hb dX6_joint_57 rfl (lv_at hl 1 rfl) ?_
          refine lv_aload_n hx hb dX6_joint_58 rfl (lv_at hl 1 rfl) ?_
          refine lv_iload_n hx hb dX6_joint_59 rfl (lv_at hl 3 rfl) ?_
          refine g_callV (As := [.int a]) (rest := [.ref (wad w 9 (0))]) S hE hS (c_X6_isPart l z w g1 g o (t) A B hO (a)) (cwV 1 hts (gU_V tw_938 tw_940 tp_28 tw_6 tw_941) rfl rfl rfl (by decide +kernel) ⟨Nat.le_of_ble_eq_true rfl, Nat.le_of_ble_eq_true rfl⟩) (by obtain ⟨gm9, hW9, -⟩ := hW; exact hE.recv hW9.md (q := (RX6, TX6, 36)) rfl) hW rfl hl.1 rfl (Nat.le_of_ble_eq_true rfl) dX6_joint_60 ⟨Nat.zero_le _, Nat.zero_le _⟩ ?_
          refine g_if_eq S (tgt := 74) dX6_joint_63 (by decide) (fun c_63_17 => ?_) (fun c_63_17 => ?_)
          · refine lv_iconst (v := 1) hx hb dX6_joint_74 (by decide) ?_
            refine lv_goto (tgt := 93) hx hb dX6_joint_75 (by decide) ?_
            refine m_putt S hE hS hW tw_740 dX6_joint_93 (fun H locs hW hS => ?_)
            refine lv_aload_n hx hb dX6_joint_96 rfl (lv_at hl 1 rfl) ?_
            refine m_gett S hE hW tw_740 dX6_joint_97 ?_
            refine lv_if_ne (tgt := 152) hx hb dX6_joint_100 (by decide) (fun _ => ?_) (fun h9 => absurd h9 (by decide))
            refine lv_aload_n hx hb dX6_joint_152 rfl (lv_at hl 1 rfl) ?_
            refine m_gett S hE hW tw_740 dX6_joint_153 ?_
            refine lv_if_le (tgt := 161) hx hb dX6_joint_156 (by decide) (fun h9 => absurd h9 (by decide)) (fun _ => ?_)
            refine lv_iconst (v := 0) hx hb dX6_joint_159 (by decide) ?_
            exact m_ret S hr hlocks hS hW (by simp [RR, sp_joint, tgok, jst, bad, isB, isP, isJ, c_7, c_21_3, c_39_16, c_63_17]) dX6_joint_160
          · obtain ⟨i, hi, rfl⟩ := wi_lt (n := np g) (by omega) c_63_17
            have qi : (nI i).toNatClampNeg = i := nI_clamp (by omega)
            have hpbi := hO.l17 hi
            refine lv_aload_n hx hb dX6_joint_66 rfl (lv_at hl 1 rfl) ?_
            refine lv_iload_n hx hb dX6_joint_67 rfl (lv_at hl 4 rfl) ?_
            refine g_callV (As := [.int b]) (rest := [.ref (wad w 9 (0))]) S hE hS (c_X6_isPart l z w g1 g o (t) A B hO (b)) (cwV 1 hts (gU_V tw_938 tw_940 tp_28 tw_6 tw_941) rfl rfl rfl (by decide +kernel) ⟨Nat.le_of_ble_eq_true rfl, Nat.le_of_ble_eq_true rfl⟩) (by obtain ⟨gm9, hW9, -⟩ := hW; exact hE.recv hW9.md (q := (RX6, TX6, 36)) rfl) hW rfl hl.1 rfl (Nat.le_of_ble_eq_true rfl) dX6_joint_68 ⟨Nat.zero_le _, Nat.zero_le _⟩ ?_
            refine g_if_ne S (tgt := 78) dX6_joint_71 (by decide) (fun c_71_18 => ?_) (fun c_71_18 => ?_)
            · obtain ⟨k, hk, rfl⟩ := wi_lt (n := np g) (by omega) c_71_18
              have qk : (nI k).toNatClampNeg = k := nI_clamp (by omega)
              have hpbk := hO.l17 hk
              have qe : (nI i = nI k) = (i = k) := propext (nI_eq (by omega) (by omega))
              refine lv_iload hx hb dX6_joint_78 (lv_at hl 0 rfl) ?_
              refine lv_if_eq (tgt := 88) hx hb dX6_joint_80 (by decide) (fun _ => ?_) (fun h9 => absurd h9 (by decide))
              refine lv_iconst (v := 2) hx hb dX6_joint_88 (by decide) ?_
              refine lv_goto (tgt := 93) hx hb dX6_joint_89 (by decide) ?_
              refine m_putt S hE hS hW tw_740 dX6_joint_93 (fun H locs hW hS => ?_)
              refine lv_aload_n hx hb dX6_joint_96 rfl (lv_at hl 1 rfl) ?_
              refine m_gett S hE hW tw_740 dX6_joint_97 ?_
              refine lv_if_ne (tgt := 152) hx hb dX6_joint_100 (by decide) (fun _ => ?_) (fun h9 => absurd h9 (by decide))
              refine lv_aload_n hx hb dX6_joint_152 rfl (lv_at hl 1 rfl) ?_
              refine m_gett S hE hW tw_740 dX6_joint_153 ?_
              refine lv_if_le (tgt := 161) hx hb dX6_joint_156 (by decide) (fun h9 => absurd h9 (by decide)) (fun _ => ?_)
              refine lv_iconst (v := 0) hx hb dX6_joint_159 (by decide) ?_
              exact m_ret S hr hlocks hS hW (by simp [RR, sp_joint, tgok, jst, bad, isB, isP, isJ, c_7, c_21_3, c_39_16, c_63_17, c_71_18, qi, qk, qe]) dX6_joint_160
            · refine lv_iconst (v := 1) hx hb dX6_joint_74 (by decide) ?_
              refine lv_goto (tgt := 93) hx hb dX6_joint_75 (by decide) ?_
              refine m_putt S hE hS hW tw_740 dX6_joint_93 (fun H locs hW hS => ?_)
              refine lv_aload_n hx hb dX6_joint_96 rfl (lv_at hl 1 rfl) ?_
              refine m_gett S hE hW tw_740 dX6_joint_97 ?_
              refine lv_if_ne (tgt := 152) hx hb dX6_joint_100 (by decide) (fun _ => ?_) (fun h9 => absurd h9 (by decide))
              refine lv_aload_n hx hb dX6_joint_152 rfl (lv_at hl 1 rfl) ?_
              refine m_gett S hE hW tw_740 dX6_joint_153 ?_
              refine lv_if_le (tgt := 161) hx hb dX6_joint_156 (by decide) (fun h9 => absurd h9 (by decide)) (fun _ => ?_)
              refine lv_iconst (v := 0) hx hb dX6_joint_159 (by decide) ?_
              exact m_ret S hr hlocks hS hW (by simp [RR, sp_joint, tgok, jst, bad, isB, isP, isJ, c_7, c_21_3, c_39_16, c_63_17, c_71_18, qi]) dX6_joint_160
        · refine lv_goto (tgt := 50) hx hb dX6_joint_42 (by decide) ?_
          refine lv_iconst (v := 1) hx hb dX6_joint_50 (by decide) ?_
          refine lv_goto (tgt := 55) hx hb dX6_joint_51 (by decide) ?_
          refine lv_istore (lv' := [(6, .int 1), (0, .ref (wad w 9 (0))), (1, .int 2), (2, .int a), (3, .int b), (4, .int sz), (5, .int tg)]) hx hb dX6_joint_55 hl (by decide) rfl (fun ls hl => ?_)
          refine lv_aload_n hx hb dX6_joint_57 rfl (lv_at hl 1 rfl) ?_
          refine lv_aload_n hx hb dX6_joint_58 rfl (lv_at hl 1 rfl) ?_
          refine lv_iload_n hx hb dX6_joint_59 rfl (lv_at hl 3 rfl) ?_
          refine g_callV (As := [.int a]) (rest := [.ref (wad w 9 (0))]) S hE hS (c_X6_isPart l z w g1 g o (t) A B hO (a)) (cwV 1 hts (gU_V tw_938 tw_940 tp_28 tw_6 tw_941) rfl rfl rfl (by decide +kernel) ⟨Nat.le_of_ble_eq_true rfl, Nat.le_of_ble_eq_true rfl⟩) (by obtain ⟨gm9, hW9, -⟩ := hW; exact hE.recv hW9.md (q := (RX6, TX6, 36)) rfl) hW rfl hl.1 rfl (Nat.le_of_ble_eq_true rfl) dX6_joint_60 ⟨Nat.zero_le _, Nat.zero_le _⟩ ?_
          refine g_if_eq S (tgt := 74) dX6_joint_63 (by decide) (fun c_63_19 => ?_) (fun c_63_19 => ?_)
          · refine lv_iconst (v := 1) hx hb dX6_joint_74 (by decide) ?_
            refine lv_goto (tgt := 93) hx hb dX6_joint_75 (by decide) ?_
            refine m_putt S hE hS hW tw_740 dX6_joint_93 (fun H locs hW hS => ?_)
            refine lv_aload_n hx hb dX6_joint_96 rfl (lv_at hl 1 rfl) ?_
            refine m_gett S hE hW tw_740 dX6_joint_97 ?_
            refine lv_if_ne (tgt := 152) hx hb dX6_joint_100 (by decide) (fun _ => ?_) (fun h9 => absurd h9 (by decide))
            refine lv_aload_n hx hb dX6_joint_152 rfl (lv_at hl 1 rfl) ?_
            refine m_gett S hE hW tw_740 dX6_joint_153 ?_
            refine lv_if_le (tgt := 161) hx hb dX6_joint_156 (by decide) (fun h9 => absurd h9 (by decide)) (fun _ => ?_)
            refine lv_iconst (v := 0) hx hb dX6_joint_159 (by decide) ?_
            exact m_ret S hr hlocks hS hW (by simp [RR, sp_joint, tgok, jst, bad, isB, isP, isJ, c_7, c_21_3, c_39_16, c_63_19]) dX6_joint_160
          · obtain ⟨i, hi, rfl⟩ := wi_lt (n := np g) (by omega) c_63_19
            have qi : (nI i).toNatClampNeg = i := nI_clamp (by omega)
            have hpbi := hO.l17 hi
            refine lv_aload_n hx hb dX6_joint_66 rfl (lv_at hl 1 rfl) ?_
            refine lv_iload_n hx hb dX6_joint_67 rfl (lv_at hl 4 rfl) ?_
            refine g_callV (As := [.int b]) (rest := [.ref (wad w 9 (0))]) S hE hS (c_X6_isPart l z w g1 g o (t) A B hO (b)) (cwV 1 hts (gU_V tw_938 tw_940 tp_28 tw_6 tw_941) rfl rfl rfl (by decide +kernel) ⟨Nat.le_of_ble_eq_true rfl, Nat.le_of_ble_eq_true rfl⟩) (by obtain ⟨gm9, hW9, -⟩ := hW; exact hE.recv hW9.md (q := (RX6, TX6, 36)) rfl) hW rfl hl.1 rfl (Nat.le_of_ble_eq_true rfl) dX6_joint_68 ⟨Nat.zero_le _, Nat.zero_le _⟩ ?_
            refine g_if_ne S (tgt := 78) dX6_joint_71 (by decide) (fun c_71_20 => ?_) (fun c_71_20 => ?_)
            · obtain ⟨k, hk, rfl⟩ := wi_lt (n := np g) (by omega) c_71_20
              have qk : (nI k).toNatClampNeg = k := nI_clamp (by omega)
              have hpbk := hO.l17 hk
              have qe : (nI i = nI k) = (i = k) := propext (nI_eq (by omega) (by omega))
              refine lv_iload hx hb dX6_joint_78 (lv_at hl 0 rfl) ?_
              refine lv_if_eq (tgt := 88) hx hb dX6_joint_80 (by decide) (fun h9 => absurd h9 (by decide)) (fun _ => ?_)
              refine lv_iload_n hx hb dX6_joint_83 rfl (lv_at hl 3 rfl) ?_
              refine lv_iload_n hx hb dX6_joint_84 rfl (lv_at hl 4 rfl) ?_
              refine g_icmp_ne S (by omega) (by omega) (tgt := 92) dX6_joint_85 (by decide) (fun c_85_21 => ?_) (fun c_85_21 => ?_)
              · refine lv_iconst (v := 0) hx hb dX6_joint_92 (by decide) ?_
                refine m_putt S hE hS hW tw_740 dX6_joint_93 (fun H locs hW hS => ?_)
                refine lv_aload_n hx hb dX6_joint_96 rfl (lv_at hl 1 rfl) ?_
                refine m_gett S hE hW tw_740 dX6_joint_97 ?_
                refine lv_if_ne (tgt := 152) hx hb dX6_joint_100 (by decide) (fun h9 => absurd h9 (by decide)) (fun _ => ?_)
                refine lv_aload_n hx hb dX6_joint_103 rfl (lv_at hl 1 rfl) ?_
                refine lv_aload_n hx hb dX6_joint_104 rfl (lv_at hl 1 rfl) ?_
                refine m_geti S hE hW 24 (v := nI (nj g)) (by decide) rfl (by decide) tw_764 rfl hO.n24 dX6_joint_105 ?_
                refine lv_bipush (v := 30) hx hb dX6_joint_108 (by decide) ?_
                rw [show (30 : Int32) = nI 30 from rfl]
                refine g_icmp_eq S (by omega) (by omega) (tgt := 144) dX6_joint_110 (by decide) (fun c_110_22 => ?_) (fun c_110_22 => ?_)
                · refine lv_iconst (v := 3) hx hb dX6_joint_144 (by decide) ?_
                  refine lv_goto (tgt := 149) hx hb dX6_joint_145 (by decide) ?_
                  refine m_putt S hE hS hW tw_740 dX6_joint_149 (fun H locs hW hS => ?_)
                  refine lv_aload_n hx hb dX6_joint_152 rfl (lv_at hl 1 rfl) ?_
                  refine m_gett S hE hW tw_740 dX6_joint_153 ?_
                  refine lv_if_le (tgt := 161) hx hb dX6_joint_156 (by decide) (fun h9 => absurd h9 (by decide)) (fun _ => ?_)
                  refine lv_iconst (v := 0) hx hb dX6_joint_159 (by decide) ?_
                  exact m_ret S hr hlocks hS hW (by simp [RR, sp_joint, tgok, jst, bad, isB, isP, isJ, c_7, c_21_3, c_39_16, c_63_19, c_71_20, c_85_21, c_110_22, qi, qk, qe]) dX6_joint_160
                · refine lv_aload_n hx hb dX6_joint_113 rfl (lv_at hl 1 rfl) ?_
                  refine lv_iload_n hx hb dX6_joint_114 rfl (lv_at hl 2 rfl) ?_
                  refine lv_iload_n hx hb dX6_joint_115 rfl (lv_at hl 3 rfl) ?_
                  refine lv_iload hx hb dX6_joint_116 (lv_at hl 5 rfl) ?_
                  refine lv_iload hx hb dX6_joint_118 (lv_at hl 6 rfl) ?_
                  refine g_callV (As := [.int 2, .int (nI i), .int sz, .int tg]) (rest := [.ref (wad w 9 (0))]) S hE hS (c_X6_fits l z w g1 g o (0) A B hO (2) (i) (by omega) (sz) (tg)) (cwV 4 hts (gU_V tw_950 tw_952 tp_29 tw_6 tw_953) rfl rfl rfl (by decide +kernel) ⟨Nat.le_of_ble_eq_true rfl, Nat.le_of_ble_eq_true rfl⟩) (by obtain ⟨gm9, hW9, -⟩ := hW; exact hE.recv hW9.md (q := (RX6, TX6, 36)) rfl) hW rfl hl.1 rfl (Nat.le_of_ble_eq_true rfl) dX6_joint_120 ⟨Nat.zero_le _, Nat.zero_le _⟩ ?_
                  refine g_if_eq S (tgt := 144) dX6_joint_123 (by decide) (fun c_123_23 => ?_) (fun c_123_23 => ?_)
                  · refine lv_iconst (v := 3) hx hb dX6_joint_144 (by decide) ?_
                    refine lv_goto (tgt := 149) hx hb dX6_joint_145 (by decide) ?_
                    refine m_putt S hE hS hW tw_740 dX6_joint_149 (fun H locs hW hS => ?_)
                    refine lv_aload_n hx hb dX6_joint_152 rfl (lv_at hl 1 rfl) ?_
                    refine m_gett S hE hW tw_740 dX6_joint_153 ?_
                    refine lv_if_le (tgt := 161) hx hb dX6_joint_156 (by decide) (fun h9 => absurd h9 (by decide)) (fun _ => ?_)
                    refine lv_iconst (v := 0) hx hb dX6_joint_159 (by decide) ?_
                    exact m_ret S hr hlocks hS hW (by simp [RR, sp_joint, tgok, jst, bad, isB, isP, isJ, c_7, c_21_3, c_39_16, c_63_19, c_71_20, c_85_21, c_110_22, c_123_23, qi, qk, qe]) dX6_joint_160
                  · refine lv_aload_n hx hb dX6_joint_126 rfl (lv_at hl 1 rfl) ?_
                    refine m_geta S hE hW 3 (by decide) rfl tw_743 rfl dX6_joint_127 ?_
                    refine lv_iconst (v := 1) hx hb dX6_joint_130 (by decide) ?_
                    refine m_ald S hE hW (k := 3) (v := g 3 1) rfl (by unfold vp_in; decide) (by rw [show (1 : Int32).toNatClampNeg = 1 from (by decide)]) dX6_joint_131 ?_
                    refine lv_aload_n hx hb dX6_joint_132 rfl (lv_at hl 1 rfl) ?_
                    refine lv_aload_n hx hb dX6_joint_133 rfl (lv_at hl 1 rfl) ?_
                    refine lv_iload_n hx hb dX6_joint_134 rfl (lv_at hl 3 rfl) ?_
                    refine g_callV (As := [.int (nI i)]) (rest := [.ref (wad w 9 (0)), .int (g 3 1), .ref (wad w 9 (0))]) S hE hS (c_X6_speciesOf l z w g1 g o (0) A B hO (i) (by omega)) (cwV 1 hts (gU_V tw_878 tw_880 tp_19 tw_6 tw_881) rfl rfl rfl (by decide +kernel) ⟨Nat.le_of_ble_eq_true rfl, Nat.le_of_ble_eq_true rfl⟩) (by obtain ⟨gm9, hW9, -⟩ := hW; exact hE.recv hW9.md (q := (RX6, TX6, 36)) rfl) hW rfl hl.1 rfl (Nat.le_of_ble_eq_true rfl) dX6_joint_135 ⟨Nat.zero_le _, Nat.zero_le _⟩ ?_
                    refine g_callV (As := [.int (g 6 (pb g (i)))]) (rest := [.int (g 3 1), .ref (wad w 9 (0))]) S hE hS (c_X6_hardness l z w g1 g o (0) A B (g 6 (pb g (i)))) (cwV 1 hts (gU_V tw_922 tw_924 tp_27 tw_6 tw_925) rfl rfl rfl (by decide +kernel) ⟨Nat.le_of_ble_eq_true rfl, Nat.le_of_ble_eq_true rfl⟩) (by obtain ⟨gm9, hW9, -⟩ := hW; exact hE.recv hW9.md (q := (RX6, TX6, 36)) rfl) hW rfl hl.1 rfl (Nat.le_of_ble_eq_true rfl) dX6_joint_138 ⟨Nat.zero_le _, Nat.zero_le _⟩ ?_
                    refine lv_icmp_ge (tgt := 148) hx hb dX6_joint_141 (by decide) (fun c_141_24 => ?_) (fun c_141_24 => ?_)
                    · refine lv_iconst (v := 0) hx hb dX6_joint_148 (by decide) ?_
                      refine m_putt S hE hS hW tw_740 dX6_joint_149 (fun H locs hW hS => ?_)
                      refine lv_aload_n hx hb dX6_joint_152 rfl (lv_at hl 1 rfl) ?_
                      refine m_gett S hE hW tw_740 dX6_joint_153 ?_
                      refine lv_if_le (tgt := 161) hx hb dX6_joint_156 (by decide) (fun _ => ?_) (fun h9 => absurd h9 (by decide))
                      refine lv_aload_n hx hb dX6_joint_161 rfl (lv_at hl 1 rfl) ?_
                      refine m_geti S hE hW 24 (v := nI (nj g)) (by decide) rfl (by decide) tw_764 rfl hO.n24 dX6_joint_162 ?_
                      refine lv_istore (lv' := [(7, .int (nI (nj g))), (6, .int 1), (0, .ref (wad w 9 (0))), (1, .int 2), (2, .int (nI i)), (3, .int (nI k)), (4, .int sz), (5, .int tg)]) hx hb dX6_joint_165 hl (by decide) rfl (fun ls hl => ?_)
                      refine lv_aload_n hx hb dX6_joint_167 rfl (lv_at hl 2 rfl) ?_
                      refine m_geta S hE hW 3 (by decide) rfl tw_743 rfl dX6_joint_168 ?_
                      refine lv_iconst (v := 1) hx hb dX6_joint_171 (by decide) ?_
                      refine lv_dup2_11 hx hb dX6_joint_172 rfl rfl ?_
                      refine m_ald S hE hW (k := 3) (v := g 3 1) rfl (by unfold vp_in; decide) (by rw [show (1 : Int32).toNatClampNeg = 1 from (by decide)]) dX6_joint_173 ?_
                      refine lv_aload_n hx hb dX6_joint_174 rfl (lv_at hl 2 rfl) ?_
                      refine lv_aload_n hx hb dX6_joint_175 rfl (lv_at hl 2 rfl) ?_
                      refine lv_iload_n hx hb dX6_joint_176 rfl (lv_at hl 4 rfl) ?_
                      refine g_callV (As := [.int (nI i)]) (rest := [.ref (wad w 9 (0)), .int (g 3 1), .int 1, .ref (wad w 10 (3))]) S hE hS (c_X6_speciesOf l z w g1 g o (0) A B hO (i) (by omega)) (cwV 1 hts (gU_V tw_878 tw_880 tp_19 tw_6 tw_881) rfl rfl rfl (by decide +kernel) ⟨Nat.le_of_ble_eq_true rfl, Nat.le_of_ble_eq_true rfl⟩) (by obtain ⟨gm9, hW9, -⟩ := hW; exact hE.recv hW9.md (q := (RX6, TX6, 36)) rfl) hW rfl hl.1 rfl (Nat.le_of_ble_eq_true rfl) dX6_joint_177 ⟨Nat.zero_le _, Nat.zero_le _⟩ ?_
                      refine g_callV (As := [.int (g 6 (pb g (i)))]) (rest := [.int (g 3 1), .int 1, .ref (wad w 10 (3))]) S hE hS (c_X6_hardness l z w g1 g o (0) A B (g 6 (pb g (i)))) (cwV 1 hts (gU_V tw_922 tw_924 tp_27 tw_6 tw_925) rfl rfl rfl (by decide +kernel) ⟨Nat.le_of_ble_eq_true rfl, Nat.le_of_ble_eq_true rfl⟩) (by obtain ⟨gm9, hW9, -⟩ := hW; exact hE.recv hW9.md (q := (RX6, TX6, 36)) rfl) hW rfl hl.1 rfl (Nat.le_of_ble_eq_true rfl) dX6_joint_180 ⟨Nat.zero_le _, Nat.zero_le _⟩ ?_
                      refine lv_isub hx hb dX6_joint_183 ?_
                      refine m_ast S hE hS hW (k := 3) (j := 1) rfl (by unfold vp_in; decide) (by decide) dX6_joint_184 (fun H locs hW hS => ?_)
                      refine lv_aload_n hx hb dX6_joint_185 rfl (lv_at hl 2 rfl) ?_
                      refine m_geta S hE hW 25 (by decide) rfl tw_765 rfl dX6_joint_186 ?_
                      refine lv_iload hx hb dX6_joint_189 (lv_at hl 0 rfl) ?_
                      refine lv_iload_n hx hb dX6_joint_191 rfl (lv_at hl 3 rfl) ?_
                      refine m_ast S hE hS hW (k := 25) (j := nj g) rfl (vp_in_nI (show nj g < 30 from (by omega)) (by decide)) (nI_clamp (by omega)) dX6_joint_192 (fun H locs hW hS => ?_)
                      refine lv_aload_n hx hb dX6_joint_193 rfl (lv_at hl 2 rfl) ?_
                      refine m_geta S hE hW 26 (by decide) rfl tw_766 rfl dX6_joint_194 ?_
                      refine lv_iload hx hb dX6_joint_197 (lv_at hl 0 rfl) ?_
                      refine lv_iload_n hx hb dX6_joint_199 rfl (lv_at hl 4 rfl) ?_
                      refine m_ast S hE hS hW (k := 26) (j := nj g) rfl (vp_in_nI (show nj g < 30 from (by omega)) (by decide)) (nI_clamp (by omega)) dX6_joint_200 (fun H locs hW hS => ?_)
                      refine lv_aload_n hx hb dX6_joint_201 rfl (lv_at hl 2 rfl) ?_
                      refine m_geta S hE hW 27 (by decide) rfl tw_767 rfl dX6_joint_202 ?_
                      refine lv_iload hx hb dX6_joint_205 (lv_at hl 0 rfl) ?_
                      refine lv_iload_n hx hb dX6_joint_207 rfl (lv_at hl 5 rfl) ?_
                      refine m_ast S hE hS hW (k := 27) (j := nj g) rfl (vp_in_nI (show nj g < 30 from (by omega)) (by decide)) (nI_clamp (by omega)) dX6_joint_208 (fun H locs hW hS => ?_)
                      refine lv_aload_n hx hb dX6_joint_209 rfl (lv_at hl 2 rfl) ?_
                      refine m_geta S hE hW 28 (by decide) rfl tw_768 rfl dX6_joint_210 ?_
                      refine lv_iload hx hb dX6_joint_213 (lv_at hl 0 rfl) ?_
                      refine lv_iload hx hb dX6_joint_215 (lv_at hl 6 rfl) ?_
                      refine m_ast S hE hS hW (k := 28) (j := nj g) rfl (vp_in_nI (show nj g < 30 from (by omega)) (by decide)) (nI_clamp (by omega)) dX6_joint_217 (fun H locs hW hS => ?_)
                      refine lv_aload_n hx hb dX6_joint_218 rfl (lv_at hl 2 rfl) ?_
                      refine m_geta S hE hW 29 (by decide) rfl tw_769 rfl dX6_joint_219 ?_
                      refine lv_iload hx hb dX6_joint_222 (lv_at hl 0 rfl) ?_
                      refine lv_iload hx hb dX6_joint_224 (lv_at hl 7 rfl) ?_
                      refine m_ast S hE hS hW (k := 29) (j := nj g) rfl (vp_in_nI (show nj g < 30 from (by omega)) (by decide)) (nI_clamp (by omega)) dX6_joint_226 (fun H locs hW hS => ?_)
                      refine lv_aload_n hx hb dX6_joint_227 rfl (lv_at hl 2 rfl) ?_
                      refine lv_dup hx hb dX6_joint_228 rfl ?_
                      refine m_geti S hE hW 24 (v := nI (nj g)) (by decide) rfl (by decide) tw_764 rfl ((by simp [gup] : _ = g 24 0).trans hO.n24) dX6_joint_229 ?_
                      refine lv_iconst (v := 1) hx hb dX6_joint_232 (by decide) ?_
                      refine lv_iadd hx hb dX6_joint_233 ?_
                      rw [show (nI (nj g) : Int32) + 1 = nI ((nj g) + 1) from nI_add _ 1]
                      refine m_puti S hE hS hW 24 (by decide) rfl (by decide) tw_764 ⟨rfl, rfl, rfl⟩ dX6_joint_234 (fun H locs hW hS => ?_)
                      refine lv_iload hx hb dX6_joint_237 (lv_at hl 0 rfl) ?_
                      exact m_ret S hr hlocks hS hW (by simp [RR, sp_joint, tgok, jst, bad, isB, isP, isJ, c_7, c_21_3, c_39_16, c_63_19, c_71_20, c_85_21, c_110_22, c_123_23, c_141_24, qi, qk, qe]) dX6_joint_239
                    · refine lv_iconst (v := 3) hx hb dX6_joint_144 (by decide) ?_
                      refine lv_goto (tgt := 149) hx hb dX6_joint_145 (by decide) ?_
                      refine m_putt S hE hS hW tw_740 dX6_joint_149 (fun H locs hW hS => ?_)
                      refine lv_aload_n hx hb dX6_joint_152 rfl (lv_at hl 1 rfl) ?_
                      refine m_gett S hE hW tw_740 dX6_joint_153 ?_
                      refine lv_if_le (tgt := 161) hx hb dX6_joint_156 (by decide) (fun h9 => absurd h9 (by decide)) (fun _ => ?_)
                      refine lv_iconst (v := 0) hx hb dX6_joint_159 (by decide) ?_
                      exact m_ret S hr hlocks hS hW (by simp [RR, sp_joint, tgok, jst, bad, isB, isP, isJ, c_7, c_21_3, c_39_16, c_63_19, c_71_20, c_85_21, c_110_22, c_123_23, c_141_24, qi, qk, qe]) dX6_joint_160
              · refine lv_iconst (v := 2) hx hb dX6_joint_88 (by decide) ?_
                refine lv_goto (tgt := 93) hx hb dX6_joint_89 (by decide) ?_
                refine m_putt S hE hS hW tw_740 dX6_joint_93 (fun H locs hW hS => ?_)
                refine lv_aload_n hx hb dX6_joint_96 rfl (lv_at hl 1 rfl) ?_
                refine m_gett S hE hW tw_740 dX6_joint_97 ?_
                refine lv_if_ne (tgt := 152) hx hb dX6_joint_100 (by decide) (fun _ => ?_) (fun h9 => absurd h9 (by decide))
                refine lv_aload_n hx hb dX6_joint_152 rfl (lv_at hl 1 rfl) ?_
                refine m_gett S hE hW tw_740 dX6_joint_153 ?_
                refine lv_if_le (tgt := 161) hx hb dX6_joint_156 (by decide) (fun h9 => absurd h9 (by decide)) (fun _ => ?_)
                refine lv_iconst (v := 0) hx hb dX6_joint_159 (by decide) ?_
                exact m_ret S hr hlocks hS hW (by simp [RR, sp_joint, tgok, jst, bad, isB, isP, isJ, c_7, c_21_3, c_39_16, c_63_19, c_71_20, c_85_21, qi, qk, qe]) dX6_joint_160
            · refine lv_iconst (v := 1) hx hb dX6_joint_74 (by decide) ?_
              refine lv_goto (tgt := 93) hx hb dX6_joint_75 (by decide) ?_
              refine m_putt S hE hS hW tw_740 dX6_joint_93 (fun H locs hW hS => ?_)
              refine lv_aload_n hx hb dX6_joint_96 rfl (lv_at hl 1 rfl) ?_
              refine m_gett S hE hW tw_740 dX6_joint_97 ?_
              refine lv_if_ne (tgt := 152) hx hb dX6_joint_100 (by decide) (fun _ => ?_) (fun h9 => absurd h9 (by decide))
              refine lv_aload_n hx hb dX6_joint_152 rfl (lv_at hl 1 rfl) ?_
              refine m_gett S hE hW tw_740 dX6_joint_153 ?_
              refine lv_if_le (tgt := 161) hx hb dX6_joint_156 (by decide) (fun h9 => absurd h9 (by decide)) (fun _ => ?_)
              refine lv_iconst (v := 0) hx hb dX6_joint_159 (by decide) ?_
              exact m_ret S hr hlocks hS hW (by simp [RR, sp_joint, tgok, jst, bad, isB, isP, isJ, c_7, c_21_3, c_39_16, c_63_19, c_71_20, qi]) dX6_joint_160
set_option maxHeartbeats 4000000 in
set_option maxRecDepth 100000 in
/-- board(..) -/
theorem c_X6_board (l : Launch) (z : ZE) (w : WG) (g1 g : GS) (o : Nat → Int64) (t : Int32) (A B : Nat → Int32) (hO : OKg g) (sp fl pl wd le9 mo9 : Int32) : Met l yX6_board (.code yX6_board cX6_board 10 (some .int) :: wU) ({ frames := 2, cells := 0, slots := 0, locals := 44 }) (PE z [.ref (wad w 9 (0)), .int sp, .int fl, .int pl, .int wd, .int le9, .int mo9] (fun H => MW z w g1 o g t A B H)) (qM z w g1 o (fun r u => RR (sp_board g sp fl pl wd le9 mo9) r u.2.1 u.1)) 0 0 (zA z) := by
  refine Met.ofW (cc := cX6_board) (maxL := 10) (ret := (some .int)) (by decide) rfl ?_
  intro p e s m args below meth c s₁ BD hml hv
  obtain ⟨rfl, hE, hW⟩ := hv
  have hts : ∀ w ∈ wU, w.before _ s = true := fun w h => atoms_spec (ws := .code yX6_board cX6_board 10 (some .int) :: wU) BD.pre w (List.mem_cons_of_mem _ h)
  have S : CallFix p m c cX6_board 10 s ([.ref (wad w 9 (0)), .int sp, .int fl, .int pl, .int wd, .int le9, .int mo9] : List Value).toArray wU RX6 := ⟨BD.exec, BD.bytes, hml, findClass_of_methodNamed BD.named, hts⟩
  have hx := S.1
  have hb := S.2.1
  have hown := S.2.2.2.1
  have hr := BD.returns
  have hlocks := BD.notSynchronized
  have hS : va_S (zA z) s.heap s.heap [] := va_S.rf
  have hl := lv_entry ([.ref (wad w 9 (0)), .int sp, .int fl, .int pl, .int wd, .int le9, .int mo9]) (n := 10) (Nat.le_of_ble_eq_true rfl)
  rw [lg_entry_eq]
  generalize (lg_sl ([.ref (wad w 9 (0)), .int sp, .int fl, .int pl, .int wd, .int le9, .int mo9]) ++ List.replicate (10 - (lg_sl ([.ref (wad w 9 (0)), .int sp, .int fl, .int pl, .int wd, .int le9, .int mo9])).length) Slot.unset).toArray = ls at hl ⊢
  have hl : lv_has ls 10 [(0, .ref (wad w 9 (0))), (1, .int sp), (2, .int fl), (3, .int pl), (4, .int wd), (5, .int le9), (6, .int mo9)] := hl
  have h20 := hO.l5
  have h40 := hO.l16
  have h30 := hO.l24
  refine lv_aload_n hx hb dX6_board_0 rfl (lv_at hl 0 rfl) ?_
  refine lv_iload_n hx hb dX6_board_1 rfl (lv_at hl 1 rfl) ?_
  refine lv_iconst (v := 0) hx hb dX6_board_2 (by decide) ?_
  refine lv_iconst (v := 3) hx hb dX6_board_3 (by decide) ?_
  refine g_callV (As := [.int sp, .int 0, .int 3]) (rest := []) S hE hS (c_X6_between l z w g1 g o (t) A B (sp) (0) (3)) (cwV 3 hts (gU_V tw_858 tw_860 tp_15 tw_6 tw_861) rfl rfl rfl (by decide +kernel) ⟨Nat.le_of_ble_eq_true rfl, Nat.le_of_ble_eq_true rfl⟩) (by obtain ⟨gm9, hW9, -⟩ := hW; exact hE.recv hW9.md (q := (RX6, TX6, 36)) rfl) hW rfl hl.1 rfl (Nat.le_of_ble_eq_true rfl) dX6_board_4 ⟨Nat.zero_le _, Nat.zero_le _⟩ ?_
  refine g_if_eq S (tgt := 50) dX6_board_7 (by decide) (fun c_7 => ?_) (fun c_7 => ?_)
  · refine lv_iconst (v := 0) hx hb dX6_board_50 (by decide) ?_
    refine lv_istore (lv' := [(7, .int 0), (0, .ref (wad w 9 (0))), (1, .int sp), (2, .int fl), (3, .int pl), (4, .int wd), (5, .int le9), (6, .int mo9)]) hx hb dX6_board_51 hl (by decide) rfl (fun ls hl => ?_)
    refine lv_aload_n hx hb dX6_board_53 rfl (lv_at hl 1 rfl) ?_
    refine lv_iload hx hb dX6_board_54 (lv_at hl 0 rfl) ?_
    refine lv_if_eq (tgt := 82) hx hb dX6_board_56 (by decide) (fun _ => ?_) (fun h9 => absurd h9 (by decide))
    refine lv_iconst (v := 1) hx hb dX6_board_82 (by decide) ?_
    refine lv_goto (tgt := 100) hx hb dX6_board_83 (by decide) ?_
    refine m_putt S hE hS hW tw_740 dX6_board_100 (fun H locs hW hS => ?_)
    refine lv_iconst (v := nI 0) hx hb dX6_board_103 (by decide) ?_
    refine lv_istore (lv' := [(8, .int (nI 0)), (7, .int 0), (0, .ref (wad w 9 (0))), (1, .int sp), (2, .int fl), (3, .int pl), (4, .int wd), (5, .int le9), (6, .int mo9)]) hx hb dX6_board_104 hl (by decide) rfl (fun ls hl => ?_)
    refine lv_iload hx hb dX6_board_106 (lv_at hl 0 rfl) ?_
    refine lv_aload_n hx hb dX6_board_108 rfl (lv_at hl 2 rfl) ?_
    refine m_geti S hE hW 5 (v := nI (nb g)) (by decide) rfl (by decide) tw_745 rfl hO.n5 dX6_board_109 ?_
    refine g_icmp_ge S (by omega) (by omega) (tgt := 185) dX6_board_112 (by decide) (fun c_112_1 => ?_) (fun c_112_1 => ?_)
    · refine lv_aload_n hx hb dX6_board_185 rfl (lv_at hl 2 rfl) ?_
      refine m_gett S hE hW tw_740 dX6_board_186 ?_
      refine lv_if_le (tgt := 194) hx hb dX6_board_189 (by decide) (fun h9 => absurd h9 (by decide)) (fun _ => ?_)
      refine lv_iconst (v := 0) hx hb dX6_board_192 (by decide) ?_
      exact m_ret S hr hlocks hS hW (by simp [RR, sp_board, bst, bad, c_7, c_112_1]) dX6_board_193
    · refine lv_aload_n hx hb dX6_board_115 rfl (lv_at hl 2 rfl) ?_
      refine m_gett S hE hW tw_740 dX6_board_116 ?_
      refine lv_if_ne (tgt := 185) hx hb dX6_board_119 (by decide) (fun _ => ?_) (fun h9 => absurd h9 (by decide))
      refine lv_aload_n hx hb dX6_board_185 rfl (lv_at hl 2 rfl) ?_
      refine m_gett S hE hW tw_740 dX6_board_186 ?_
      refine lv_if_le (tgt := 194) hx hb dX6_board_189 (by decide) (fun h9 => absurd h9 (by decide)) (fun _ => ?_)
      refine lv_iconst (v := 0) hx hb dX6_board_192 (by decide) ?_
      exact m_ret S hr hlocks hS hW (by simp [RR, sp_board, bst, bad, c_7, c_112_1]) dX6_board_193
  · refine lv_aload_n hx hb dX6_board_10 rfl (lv_at hl 0 rfl) ?_
    refine lv_iload_n hx hb dX6_board_11 rfl (lv_at hl 2 rfl) ?_
    refine lv_iconst (v := 0) hx hb dX6_board_12 (by decide) ?_
    refine lv_bipush (v := 9) hx hb dX6_board_13 (by decide) ?_
    refine g_callV (As := [.int fl, .int 0, .int 9]) (rest := []) S hE hS (c_X6_between l z w g1 g o (t) A B (fl) (0) (9)) (cwV 3 hts (gU_V tw_858 tw_860 tp_15 tw_6 tw_861) rfl rfl rfl (by decide +kernel) ⟨Nat.le_of_ble_eq_true rfl, Nat.le_of_ble_eq_true rfl⟩) (by obtain ⟨gm9, hW9, -⟩ := hW; exact hE.recv hW9.md (q := (RX6, TX6, 36)) rfl) hW rfl hl.1 rfl (Nat.le_of_ble_eq_true rfl) dX6_board_15 ⟨Nat.zero_le _, Nat.zero_le _⟩ ?_
    refine g_if_eq S (tgt := 50) dX6_board_18 (by decide) (fun c_18_2 => ?_) (fun c_18_2 => ?_)
    · refine lv_iconst (v := 0) hx hb dX6_board_50 (by decide) ?_
      refine lv_istore (lv' := [(7, .int 0), (0, .ref (wad w 9 (0))), (1, .int sp), (2, .int fl), (3, .int pl), (4, .int wd), (5, .int le9), (6, .int mo9)]) hx hb dX6_board_51 hl (by decide) rfl (fun ls hl => ?_)
      refine lv_aload_n hx hb dX6_board_53 rfl (lv_at hl 1 rfl) ?_
      refine lv_iload hx hb dX6_board_54 (lv_at hl 0 rfl) ?_
      refine lv_if_eq (tgt := 82) hx hb dX6_board_56 (by decide) (fun _ => ?_) (fun h9 => absurd h9 (by decide))
      refine lv_iconst (v := 1) hx hb dX6_board_82 (by decide) ?_
      refine lv_goto (tgt := 100) hx hb dX6_board_83 (by decide) ?_
      refine m_putt S hE hS hW tw_740 dX6_board_100 (fun H locs hW hS => ?_)
      refine lv_iconst (v := nI 0) hx hb dX6_board_103 (by decide) ?_
      refine lv_istore (lv' := [(8, .int (nI 0)), (7, .int 0), (0, .ref (wad w 9 (0))), (1, .int sp), (2, .int fl), (3, .int pl), (4, .int wd), (5, .int le9), (6, .int mo9)]) hx hb dX6_board_104 hl (by decide) rfl (fun ls hl => ?_)
      refine lv_iload hx hb dX6_board_106 (lv_at hl 0 rfl) ?_
      refine lv_aload_n hx hb dX6_board_108 rfl (lv_at hl 2 rfl) ?_
      refine m_geti S hE hW 5 (v := nI (nb g)) (by decide) rfl (by decide) tw_745 rfl hO.n5 dX6_board_109 ?_
      refine g_icmp_ge S (by omega) (by omega) (tgt := 185) dX6_board_112 (by decide) (fun c_112_3 => ?_) (fun c_112_3 => ?_)
      · refine lv_aload_n hx hb dX6_board_185 rfl (lv_at hl 2 rfl) ?_
        refine m_gett S hE hW tw_740 dX6_board_186 ?_
        refine lv_if_le (tgt := 194) hx hb dX6_board_189 (by decide) (fun h9 => absurd h9 (by decide)) (fun _ => ?_)
        refine lv_iconst (v := 0) hx hb dX6_board_192 (by decide) ?_
        exact m_ret S hr hlocks hS hW (by simp [RR, sp_board, bst, bad, c_7, c_18_2, c_112_3]) dX6_board_193
      · refine lv_aload_n hx hb dX6_board_115 rfl (lv_at hl 2 rfl) ?_
        refine m_gett S hE hW tw_740 dX6_board_116 ?_
        refine lv_if_ne (tgt := 185) hx hb dX6_board_119 (by decide) (fun _ => ?_) (fun h9 => absurd h9 (by decide))
        refine lv_aload_n hx hb dX6_board_185 rfl (lv_at hl 2 rfl) ?_
        refine m_gett S hE hW tw_740 dX6_board_186 ?_
        refine lv_if_le (tgt := 194) hx hb dX6_board_189 (by decide) (fun h9 => absurd h9 (by decide)) (fun _ => ?_)
        refine lv_iconst (v := 0) hx hb dX6_board_192 (by decide) ?_
        exact m_ret S hr hlocks hS hW (by simp [RR, sp_board, bst, bad, c_7, c_18_2, c_112_3]) dX6_board_193
    · refine lv_aload_n hx hb dX6_board_21 rfl (lv_at hl 0 rfl) ?_
      refine lv_iload_n hx hb dX6_board_22 rfl (lv_at hl 3 rfl) ?_
      refine lv_iconst (v := 0) hx hb dX6_board_23 (by decide) ?_
      refine lv_bipush (v := 20) hx hb dX6_board_24 (by decide) ?_
      refine g_callV (As := [.int pl, .int 0, .int 20]) (rest := []) S hE hS (c_X6_between l z w g1 g o (t) A B (pl) (0) (20)) (cwV 3 hts (gU_V tw_858 tw_860 tp_15 tw_6 tw_861) rfl rfl rfl (by decide +kernel) ⟨Nat.le_of_ble_eq_true rfl, Nat.le_of_ble_eq_true rfl⟩) (by obtain ⟨gm9, hW9, -⟩ := hW; exact hE.recv hW9.md (q := (RX6, TX6, 36)) rfl) hW rfl hl.1 rfl (Nat.le_of_ble_eq_true rfl) dX6_board_26 ⟨Nat.zero_le _, Nat.zero_le _⟩ ?_
      refine g_if_eq S (tgt := 50) dX6_board_29 (by decide) (fun c_29_4 => ?_) (fun c_29_4 => ?_)
      · refine lv_iconst (v := 0) hx hb dX6_board_50 (by decide) ?_
        refine lv_istore (lv' := [(7, .int 0), (0, .ref (wad w 9 (0))), (1, .int sp), (2, .int fl), (3, .int pl), (4, .int wd), (5, .int le9), (6, .int mo9)]) hx hb dX6_board_51 hl (by decide) rfl (fun ls hl => ?_)
        refine lv_aload_n hx hb dX6_board_53 rfl (lv_at hl 1 rfl) ?_
        refine lv_iload hx hb dX6_board_54 (lv_at hl 0 rfl) ?_
        refine lv_if_eq (tgt := 82) hx hb dX6_board_56 (by decide) (fun _ => ?_) (fun h9 => absurd h9 (by decide))
        refine lv_iconst (v := 1) hx hb dX6_board_82 (by decide) ?_
        refine lv_goto (tgt := 100) hx hb dX6_board_83 (by decide) ?_
        refine m_putt S hE hS hW tw_740 dX6_board_100 (fun H locs hW hS => ?_)
        refine lv_iconst (v := nI 0) hx hb dX6_board_103 (by decide) ?_
        refine lv_istore (lv' := [(8, .int (nI 0)), (7, .int 0), (0, .ref (wad w 9 (0))), (1, .int sp), (2, .int fl), (3, .int pl), (4, .int wd), (5, .int le9), (6, .int mo9)]) hx hb dX6_board_104 hl (by decide) rfl (fun ls hl => ?_)
        refine lv_iload hx hb dX6_board_106 (lv_at hl 0 rfl) ?_
        refine lv_aload_n hx hb dX6_board_108 rfl (lv_at hl 2 rfl) ?_
        refine m_geti S hE hW 5 (v := nI (nb g)) (by decide) rfl (by decide) tw_745 rfl hO.n5 dX6_board_109 ?_
        refine g_icmp_ge S (by omega) (by omega) (tgt := 185) dX6_board_112 (by decide) (fun c_112_5 => ?_) (fun c_112_5 => ?_)
        · refine lv_aload_n hx hb dX6_board_185 rfl (lv_at hl 2 rfl) ?_
          refine m_gett S hE hW tw_740 dX6_board_186 ?_
          refine lv_if_le (tgt := 194) hx hb dX6_board_189 (by decide) (fun h9 => absurd h9 (by decide)) (fun _ => ?_)
          refine lv_iconst (v := 0) hx hb dX6_board_192 (by decide) ?_
          exact m_ret S hr hlocks hS hW (by simp [RR, sp_board, bst, bad, c_7, c_18_2, c_29_4, c_112_5]) dX6_board_193
        · refine lv_aload_n hx hb dX6_board_115 rfl (lv_at hl 2 rfl) ?_
          refine m_gett S hE hW tw_740 dX6_board_116 ?_
          refine lv_if_ne (tgt := 185) hx hb dX6_board_119 (by decide) (fun _ => ?_) (fun h9 => absurd h9 (by decide))
          refine lv_aload_n hx hb dX6_board_185 rfl (lv_at hl 2 rfl) ?_
          refine m_gett S hE hW tw_740 dX6_board_186 ?_
          refine lv_if_le (tgt := 194) hx hb dX6_board_189 (by decide) (fun h9 => absurd h9 (by decide)) (fun _ => ?_)
          refine lv_iconst (v := 0) hx hb dX6_board_192 (by decide) ?_
          exact m_ret S hr hlocks hS hW (by simp [RR, sp_board, bst, bad, c_7, c_18_2, c_29_4, c_112_5]) dX6_board_193
      · refine lv_aload_n hx hb dX6_board_32 rfl (lv_at hl 0 rfl) ?_
        refine lv_iload hx hb dX6_board_33 (lv_at hl 4 rfl) ?_
        refine lv_bipush (v := 100) hx hb dX6_board_35 (by decide) ?_
        refine lv_sipush (v := 6000) hx hb dX6_board_37 (by decide) ?_
        refine g_callV (As := [.int wd, .int 100, .int 6000]) (rest := []) S hE hS (c_X6_between l z w g1 g o (t) A B (wd) (100) (6000)) (cwV 3 hts (gU_V tw_858 tw_860 tp_15 tw_6 tw_861) rfl rfl rfl (by decide +kernel) ⟨Nat.le_of_ble_eq_true rfl, Nat.le_of_ble_eq_true rfl⟩) (by obtain ⟨gm9, hW9, -⟩ := hW; exact hE.recv hW9.md (q := (RX6, TX6, 36)) rfl) hW rfl hl.1 rfl (Nat.le_of_ble_eq_true rfl) dX6_board_40 ⟨Nat.zero_le _, Nat.zero_le _⟩ ?_
        refine g_if_eq S (tgt := 50) dX6_board_43 (by decide) (fun c_43_6 => ?_) (fun c_43_6 => ?_)
        · refine lv_iconst (v := 0) hx hb dX6_board_50 (by decide) ?_
          refine lv_istore (lv' := [(7, .int 0), (0, .ref (wad w 9 (0))), (1, .int sp), (2, .int fl), (3, .int pl), (4, .int wd), (5, .int le9), (6, .int mo9)]) hx hb dX6_board_51 hl (by decide) rfl (fun ls hl => ?_)
          refine lv_aload_n hx hb dX6_board_53 rfl (lv_at hl 1 rfl) ?_
          refine lv_iload hx hb dX6_board_54 (lv_at hl 0 rfl) ?_
          refine lv_if_eq (tgt := 82) hx hb dX6_board_56 (by decide) (fun _ => ?_) (fun h9 => absurd h9 (by decide))
          refine lv_iconst (v := 1) hx hb dX6_board_82 (by decide) ?_
          refine lv_goto (tgt := 100) hx hb dX6_board_83 (by decide) ?_
          refine m_putt S hE hS hW tw_740 dX6_board_100 (fun H locs hW hS => ?_)
          refine lv_iconst (v := nI 0) hx hb dX6_board_103 (by decide) ?_
          refine lv_istore (lv' := [(8, .int (nI 0)), (7, .int 0), (0, .ref (wad w 9 (0))), (1, .int sp), (2, .int fl), (3, .int pl), (4, .int wd), (5, .int le9), (6, .int mo9)]) hx hb dX6_board_104 hl (by decide) rfl (fun ls hl => ?_)
          refine lv_iload hx hb dX6_board_106 (lv_at hl 0 rfl) ?_
          refine lv_aload_n hx hb dX6_board_108 rfl (lv_at hl 2 rfl) ?_
          refine m_geti S hE hW 5 (v := nI (nb g)) (by decide) rfl (by decide) tw_745 rfl hO.n5 dX6_board_109 ?_
          refine g_icmp_ge S (by omega) (by omega) (tgt := 185) dX6_board_112 (by decide) (fun c_112_7 => ?_) (fun c_112_7 => ?_)
          · refine lv_aload_n hx hb dX6_board_185 rfl (lv_at hl 2 rfl) ?_
            refine m_gett S hE hW tw_740 dX6_board_186 ?_
            refine lv_if_le (tgt := 194) hx hb dX6_board_189 (by decide) (fun h9 => absurd h9 (by decide)) (fun _ => ?_)
            refine lv_iconst (v := 0) hx hb dX6_board_192 (by decide) ?_
            exact m_ret S hr hlocks hS hW (by simp [RR, sp_board, bst, bad, c_7, c_18_2, c_29_4, c_43_6, c_112_7]) dX6_board_193
          · refine lv_aload_n hx hb dX6_board_115 rfl (lv_at hl 2 rfl) ?_
            refine m_gett S hE hW tw_740 dX6_board_116 ?_
            refine lv_if_ne (tgt := 185) hx hb dX6_board_119 (by decide) (fun _ => ?_) (fun h9 => absurd h9 (by decide))
            refine lv_aload_n hx hb dX6_board_185 rfl (lv_at hl 2 rfl) ?_
            refine m_gett S hE hW tw_740 dX6_board_186 ?_
            refine lv_if_le (tgt := 194) hx hb dX6_board_189 (by decide) (fun h9 => absurd h9 (by decide)) (fun _ => ?_)
            refine lv_iconst (v := 0) hx hb dX6_board_192 (by decide) ?_
            exact m_ret S hr hlocks hS hW (by simp [RR, sp_board, bst, bad, c_7, c_18_2, c_29_4, c_43_6, c_112_7]) dX6_board_193
        · refine lv_iconst (v := 1) hx hb dX6_board_46 (by decide) ?_
          refine lv_goto (tgt := 51) hx hb dX6_board_47 (by decide) ?_
          refine lv_istore (lv' := [(7, .int 1), (0, .ref (wad w 9 (0))), (1, .int sp), (2, .int fl), (3, .int pl), (4, .int wd), (5, .int le9), (6, .int mo9)]) hx hb dX6_board_51 hl (by decide) rfl (fun ls hl => ?_)
          refine lv_aload_n hx hb dX6_board_53 rfl (lv_at hl 1 rfl) ?_
          refine lv_iload hx hb dX6_board_54 (lv_at hl 0 rfl) ?_
          refine lv_if_eq (tgt := 82) hx hb dX6_board_56 (by decide) (fun h9 => absurd h9 (by decide)) (fun _ => ?_)
          refine lv_aload_n hx hb dX6_board_59 rfl (lv_at hl 1 rfl) ?_
          refine lv_iload hx hb dX6_board_60 (lv_at hl 6 rfl) ?_
          refine lv_bipush (v := 100) hx hb dX6_board_62 (by decide) ?_
          refine lv_sipush (v := 30000) hx hb dX6_board_64 (by decide) ?_
          refine g_callV (As := [.int le9, .int 100, .int 30000]) (rest := [.ref (wad w 9 (0))]) S hE hS (c_X6_between l z w g1 g o (t) A B (le9) (100) (30000)) (cwV 3 hts (gU_V tw_858 tw_860 tp_15 tw_6 tw_861) rfl rfl rfl (by decide +kernel) ⟨Nat.le_of_ble_eq_true rfl, Nat.le_of_ble_eq_true rfl⟩) (by obtain ⟨gm9, hW9, -⟩ := hW; exact hE.recv hW9.md (q := (RX6, TX6, 36)) rfl) hW rfl hl.1 rfl (Nat.le_of_ble_eq_true rfl) dX6_board_67 ⟨Nat.zero_le _, Nat.zero_le _⟩ ?_
          refine g_if_eq S (tgt := 82) dX6_board_70 (by decide) (fun c_70_8 => ?_) (fun c_70_8 => ?_)
          · refine lv_iconst (v := 1) hx hb dX6_board_82 (by decide) ?_
            refine lv_goto (tgt := 100) hx hb dX6_board_83 (by decide) ?_
            refine m_putt S hE hS hW tw_740 dX6_board_100 (fun H locs hW hS => ?_)
            refine lv_iconst (v := nI 0) hx hb dX6_board_103 (by decide) ?_
            refine lv_istore (lv' := [(8, .int (nI 0)), (7, .int 1), (0, .ref (wad w 9 (0))), (1, .int sp), (2, .int fl), (3, .int pl), (4, .int wd), (5, .int le9), (6, .int mo9)]) hx hb dX6_board_104 hl (by decide) rfl (fun ls hl => ?_)
            refine lv_iload hx hb dX6_board_106 (lv_at hl 0 rfl) ?_
            refine lv_aload_n hx hb dX6_board_108 rfl (lv_at hl 2 rfl) ?_
            refine m_geti S hE hW 5 (v := nI (nb g)) (by decide) rfl (by decide) tw_745 rfl hO.n5 dX6_board_109 ?_
            refine g_icmp_ge S (by omega) (by omega) (tgt := 185) dX6_board_112 (by decide) (fun c_112_9 => ?_) (fun c_112_9 => ?_)
            · refine lv_aload_n hx hb dX6_board_185 rfl (lv_at hl 2 rfl) ?_
              refine m_gett S hE hW tw_740 dX6_board_186 ?_
              refine lv_if_le (tgt := 194) hx hb dX6_board_189 (by decide) (fun h9 => absurd h9 (by decide)) (fun _ => ?_)
              refine lv_iconst (v := 0) hx hb dX6_board_192 (by decide) ?_
              exact m_ret S hr hlocks hS hW (by simp [RR, sp_board, bst, bad, c_7, c_18_2, c_29_4, c_43_6, c_70_8, c_112_9]) dX6_board_193
            · refine lv_aload_n hx hb dX6_board_115 rfl (lv_at hl 2 rfl) ?_
              refine m_gett S hE hW tw_740 dX6_board_116 ?_
              refine lv_if_ne (tgt := 185) hx hb dX6_board_119 (by decide) (fun _ => ?_) (fun h9 => absurd h9 (by decide))
              refine lv_aload_n hx hb dX6_board_185 rfl (lv_at hl 2 rfl) ?_
              refine m_gett S hE hW tw_740 dX6_board_186 ?_
              refine lv_if_le (tgt := 194) hx hb dX6_board_189 (by decide) (fun h9 => absurd h9 (by decide)) (fun _ => ?_)
              refine lv_iconst (v := 0) hx hb dX6_board_192 (by decide) ?_
              exact m_ret S hr hlocks hS hW (by simp [RR, sp_board, bst, bad, c_7, c_18_2, c_29_4, c_43_6, c_70_8, c_112_9]) dX6_board_193
          · refine lv_aload_n hx hb dX6_board_73 rfl (lv_at hl 1 rfl) ?_
            refine lv_iload hx hb dX6_board_74 (lv_at hl 7 rfl) ?_
            refine g_callV (As := [.int mo9]) (rest := [.ref (wad w 9 (0))]) S hE hS (c_X6_isMoisture l z w g1 g o (t) A B (mo9)) (cwV 1 hts (gU_V tw_862 tw_864 tp_16 tw_6 tw_865) rfl rfl rfl (by decide +kernel) ⟨Nat.le_of_ble_eq_true rfl, Nat.le_of_ble_eq_true rfl⟩) (by obtain ⟨gm9, hW9, -⟩ := hW; exact hE.recv hW9.md (q := (RX6, TX6, 36)) rfl) hW rfl hl.1 rfl (Nat.le_of_ble_eq_true rfl) dX6_board_76 ⟨Nat.zero_le _, Nat.zero_le _⟩ ?_
            refine g_if_ne S (tgt := 86) dX6_board_79 (by decide) (fun c_79_10 => ?_) (fun c_79_10 => ?_)
            · refine lv_aload_n hx hb dX6_board_86 rfl (lv_at hl 1 rfl) ?_
              refine m_geti S hE hW 5 (v := nI (nb g)) (by decide) rfl (by decide) tw_745 rfl hO.n5 dX6_board_87 ?_
              refine lv_bipush (v := 20) hx hb dX6_board_90 (by decide) ?_
              rw [show (20 : Int32) = nI 20 from rfl]
              refine g_icmp_ne S (by omega) (by omega) (tgt := 99) dX6_board_92 (by decide) (fun c_92_11 => ?_) (fun c_92_11 => ?_)
              · refine lv_iconst (v := 0) hx hb dX6_board_99 (by decide) ?_
                refine m_putt S hE hS hW tw_740 dX6_board_100 (fun H locs hW hS => ?_)
                refine lv_iconst (v := nI 0) hx hb dX6_board_103 (by decide) ?_
                refine lv_istore (lv' := [(8, .int (nI 0)), (7, .int 1), (0, .ref (wad w 9 (0))), (1, .int sp), (2, .int fl), (3, .int pl), (4, .int wd), (5, .int le9), (6, .int mo9)]) hx hb dX6_board_104 hl (by decide) rfl (fun ls hl => ?_)
                have lp_106 : ∀ (k9 : Nat) (i : Nat) (x : Int32) (hi : i ≤ nb g) (he : (anyN i (clash g fl pl sp) = false ∧ x = 0) ∨ (anyN i (clash g fl pl sp) = true ∧ x = 2)), nb g - i < k9 → ∀ (H : Heap) (locs : List Loc), MW z w g1 o g (x) A B H → va_S (zA z) s.heap H locs → ∀ (ls : Array Slot), lv_has ls 10 [(0, .ref (wad w 9 (0))), (1, .int sp), (2, .int fl), (3, .int pl), (4, .int wd), (5, .int le9), (6, .int mo9), (7, .int 1), (8, .int (nI i))] → W p l e ({ frames := 2, cells := 0, slots := 0, locals := 44 } : Room) s m ([.ref (wad w 9 (0)), .int sp, .int fl, .int pl, .int wd, .int le9, .int mo9] : List Value).toArray below meth c H locs 0 0 (MQ below (qM z w g1 o (fun r u => RR (sp_board g sp fl pl wd le9 mo9) r u.2.1 u.1)) ([.ref (wad w 9 (0)), .int sp, .int fl, .int pl, .int wd, .int le9, .int mo9] : List Value).toArray s 0 0 (zA z)) (F0 m 106 ls []) := by
                  intro k9
                  induction k9 with
                  | zero => intro i x hi he h9; exact absurd h9 (Nat.not_lt_zero _)
                  | succ k9 ih_106 =>
                    intro i x hi he hk9 H locs hW hS ls hl
                    refine lv_iload hx hb dX6_board_106 (lv_at hl 8 rfl) ?_
                    refine lv_aload_n hx hb dX6_board_108 rfl (lv_at hl 0 rfl) ?_
                    refine m_geti S hE hW 5 (v := nI (nb g)) (by decide) rfl (by decide) tw_745 rfl hO.n5 dX6_board_109 ?_
                    refine g_icmp_ge S (by omega) (by omega) (tgt := 185) dX6_board_112 (by decide) (fun c_112_12 => ?_) (fun c_112_12 => ?_)
                    · rcases he with ⟨hn, rfl⟩ | ⟨hn, rfl⟩
                      · refine lv_aload_n hx hb dX6_board_185 rfl (lv_at hl 0 rfl) ?_
                        refine m_gett S hE hW tw_740 dX6_board_186 ?_
                        refine lv_if_le (tgt := 194) hx hb dX6_board_189 (by decide) (fun _ => ?_) (fun h9 => absurd h9 (by decide))
                        refine lv_aload_n hx hb dX6_board_194 rfl (lv_at hl 0 rfl) ?_
                        refine m_geti S hE hW 5 (v := nI (nb g)) (by decide) rfl (by decide) tw_745 rfl hO.n5 dX6_board_195 ?_
                        refine lv_istore (lv' := [(8, .int (nI (nb g))), (0, .ref (wad w 9 (0))), (1, .int sp), (2, .int fl), (3, .int pl), (4, .int wd), (5, .int le9), (6, .int mo9), (7, .int 1)]) hx hb dX6_board_198 hl (by decide) rfl (fun ls hl => ?_)
                        refine lv_aload_n hx hb dX6_board_200 rfl (lv_at hl 1 rfl) ?_
                        refine m_geta S hE hW 6 (by decide) rfl tw_746 rfl dX6_board_201 ?_
                        refine lv_iload hx hb dX6_board_204 (lv_at hl 0 rfl) ?_
                        refine lv_iload_n hx hb dX6_board_206 rfl (lv_at hl 2 rfl) ?_
                        refine m_ast S hE hS hW (k := 6) (j := nb g) rfl (vp_in_nI (show nb g < 20 from (by omega)) (by decide)) (nI_clamp (by omega)) dX6_board_207 (fun H locs hW hS => ?_)
                        refine lv_aload_n hx hb dX6_board_208 rfl (lv_at hl 1 rfl) ?_
                        refine m_geta S hE hW 7 (by decide) rfl tw_747 rfl dX6_board_209 ?_
                        refine lv_iload hx hb dX6_board_212 (lv_at hl 0 rfl) ?_
                        refine lv_iload_n hx hb dX6_board_214 rfl (lv_at hl 3 rfl) ?_
                        refine m_ast S hE hS hW (k := 7) (j := nb g) rfl (vp_in_nI (show nb g < 20 from (by omega)) (by decide)) (nI_clamp (by omega)) dX6_board_215 (fun H locs hW hS => ?_)
                        refine lv_aload_n hx hb dX6_board_216 rfl (lv_at hl 1 rfl) ?_
                        refine m_geta S hE hW 8 (by decide) rfl tw_748 rfl dX6_board_217 ?_
                        refine lv_iload hx hb dX6_board_220 (lv_at hl 0 rfl) ?_
                        refine lv_iload_n hx hb dX6_board_222 rfl (lv_at hl 4 rfl) ?_
                        refine m_ast S hE hS hW (k := 8) (j := nb g) rfl (vp_in_nI (show nb g < 20 from (by omega)) (by decide)) (nI_clamp (by omega)) dX6_board_223 (fun H locs hW hS => ?_)
                        refine lv_aload_n hx hb dX6_board_224 rfl (lv_at hl 1 rfl) ?_
                        refine m_geta S hE hW 9 (by decide) rfl tw_749 rfl dX6_board_225 ?_
                        refine lv_iload hx hb dX6_board_228 (lv_at hl 0 rfl) ?_
                        refine lv_iload hx hb dX6_board_230 (lv_at hl 5 rfl) ?_
                        refine m_ast S hE hS hW (k := 9) (j := nb g) rfl (vp_in_nI (show nb g < 20 from (by omega)) (by decide)) (nI_clamp (by omega)) dX6_board_232 (fun H locs hW hS => ?_)
                        refine lv_aload_n hx hb dX6_board_233 rfl (lv_at hl 1 rfl) ?_
                        refine m_geta S hE hW 10 (by decide) rfl tw_750 rfl dX6_board_234 ?_
                        refine lv_iload hx hb dX6_board_237 (lv_at hl 0 rfl) ?_
                        refine lv_iload hx hb dX6_board_239 (lv_at hl 6 rfl) ?_
                        refine m_ast S hE hS hW (k := 10) (j := nb g) rfl (vp_in_nI (show nb g < 20 from (by omega)) (by decide)) (nI_clamp (by omega)) dX6_board_241 (fun H locs hW hS => ?_)
                        refine lv_aload_n hx hb dX6_board_242 rfl (lv_at hl 1 rfl) ?_
                        refine m_geta S hE hW 11 (by decide) rfl tw_751 rfl dX6_board_243 ?_
                        refine lv_iload hx hb dX6_board_246 (lv_at hl 0 rfl) ?_
                        refine lv_iload hx hb dX6_board_248 (lv_at hl 7 rfl) ?_
                        refine m_ast S hE hS hW (k := 11) (j := nb g) rfl (vp_in_nI (show nb g < 20 from (by omega)) (by decide)) (nI_clamp (by omega)) dX6_board_250 (fun H locs hW hS => ?_)
                        refine lv_aload_n hx hb dX6_board_251 rfl (lv_at hl 1 rfl) ?_
                        refine m_geta S hE hW 12 (by decide) rfl tw_752 rfl dX6_board_252 ?_
                        refine lv_iload hx hb dX6_board_255 (lv_at hl 0 rfl) ?_
                        refine lv_iload hx hb dX6_board_257 (lv_at hl 7 rfl) ?_
                        refine m_ast S hE hS hW (k := 12) (j := nb g) rfl (vp_in_nI (show nb g < 20 from (by omega)) (by decide)) (nI_clamp (by omega)) dX6_board_259 (fun H locs hW hS => ?_)
                        refine lv_aload_n hx hb dX6_board_260 rfl (lv_at hl 1 rfl) ?_
                        refine lv_dup hx hb dX6_board_261 rfl ?_
                        refine m_geti S hE hW 5 (v := nI (nb g)) (by decide) rfl (by decide) tw_745 rfl ((by simp [gup] : _ = g 5 0).trans hO.n5) dX6_board_262 ?_
                        refine lv_iconst (v := 1) hx hb dX6_board_265 (by decide) ?_
                        refine lv_iadd hx hb dX6_board_266 ?_
                        rw [show (nI (nb g) : Int32) + 1 = nI ((nb g) + 1) from nI_add _ 1]
                        refine m_puti S hE hS hW 5 (by decide) rfl (by decide) tw_745 ⟨rfl, rfl, rfl⟩ dX6_board_267 (fun H locs hW hS => ?_)
                        refine lv_iload hx hb dX6_board_270 (lv_at hl 0 rfl) ?_
                        exact m_ret S hr hlocks hS hW (by have h8 : i = nb g := (by omega); subst h8; simp [RR, sp_board, bst, bad, c_7, c_18_2, c_29_4, c_43_6, c_70_8, c_79_10, c_92_11, c_112_12, hn]) dX6_board_272
                      · refine lv_aload_n hx hb dX6_board_185 rfl (lv_at hl 0 rfl) ?_
                        refine m_gett S hE hW tw_740 dX6_board_186 ?_
                        refine lv_if_le (tgt := 194) hx hb dX6_board_189 (by decide) (fun h9 => absurd h9 (by decide)) (fun _ => ?_)
                        refine lv_iconst (v := 0) hx hb dX6_board_192 (by decide) ?_
                        exact m_ret S hr hlocks hS hW (by have h8 := anyN_mono hn hi; simp [RR, sp_board, bst, bad, h8, c_7, c_18_2, c_29_4, c_43_6, c_70_8, c_79_10, c_92_11, c_112_12, hn]) dX6_board_193
                    · rcases he with ⟨hn, rfl⟩ | ⟨hn, rfl⟩
                      · refine lv_aload_n hx hb dX6_board_115 rfl (lv_at hl 0 rfl) ?_
                        refine m_gett S hE hW tw_740 dX6_board_116 ?_
                        refine lv_if_ne (tgt := 185) hx hb dX6_board_119 (by decide) (fun h9 => absurd h9 (by decide)) (fun _ => ?_)
                        refine lv_aload_n hx hb dX6_board_122 rfl (lv_at hl 0 rfl) ?_
                        refine m_geta S hE hW 7 (by decide) rfl tw_747 rfl dX6_board_123 ?_
                        refine lv_iload hx hb dX6_board_126 (lv_at hl 8 rfl) ?_
                        refine m_ald S hE hW (k := 7) (v := g 7 i) rfl (vp_in_nI (show i < 20 from (by omega)) (by decide)) (by rw [show (nI i : Int32).toNatClampNeg = i from (nI_clamp (by omega))]) dX6_board_128 ?_
                        refine lv_iload_n hx hb dX6_board_129 rfl (lv_at hl 2 rfl) ?_
                        refine lv_icmp_ne (tgt := 159) hx hb dX6_board_130 (by decide) (fun c_130_13 => ?_) (fun c_130_13 => ?_)
                        · refine lv_iconst (v := 0) hx hb dX6_board_159 (by decide) ?_
                          refine lv_istore (lv' := [(9, .int 0), (0, .ref (wad w 9 (0))), (1, .int sp), (2, .int fl), (3, .int pl), (4, .int wd), (5, .int le9), (6, .int mo9), (7, .int 1), (8, .int (nI i))]) hx hb dX6_board_160 hl (by decide) rfl (fun ls hl => ?_)
                          refine lv_aload_n hx hb dX6_board_162 rfl (lv_at hl 1 rfl) ?_
                          refine lv_iload hx hb dX6_board_163 (lv_at hl 0 rfl) ?_
                          refine lv_if_eq (tgt := 172) hx hb dX6_board_165 (by decide) (fun _ => ?_) (fun h9 => absurd h9 (by decide))
                          refine lv_aload_n hx hb dX6_board_172 rfl (lv_at hl 1 rfl) ?_
                          refine m_gett S hE hW tw_740 dX6_board_173 ?_
                          refine m_putt S hE hS hW tw_740 dX6_board_176 (fun H locs hW hS => ?_)
                          refine lv_iinc (v := nI (i + 1)) (lv' := [(8, .int (nI (i + 1))), (9, .int 0), (0, .ref (wad w 9 (0))), (1, .int sp), (2, .int fl), (3, .int pl), (4, .int wd), (5, .int le9), (6, .int mo9), (7, .int 1)]) hx hb dX6_board_179 hl (k := 9) rfl (nI_1 _) (by decide) rfl (fun ls hl => ?_)
                          refine lv_goto (tgt := 106) hx hb dX6_board_182 (by decide) ?_
                          exact ih_106 (i + 1) _ (by omega) (by simp [anyN, clash, c_7, c_18_2, c_29_4, c_43_6, c_70_8, c_79_10, c_92_11, c_112_12, hn, c_130_13]) (by omega) _ _ hW hS ls (lv_sub hl [2, 3, 4, 5, 6, 7, 8, 9, 0] rfl)
                        · refine lv_aload_n hx hb dX6_board_133 rfl (lv_at hl 0 rfl) ?_
                          refine m_geta S hE hW 8 (by decide) rfl tw_748 rfl dX6_board_134 ?_
                          refine lv_iload hx hb dX6_board_137 (lv_at hl 8 rfl) ?_
                          refine m_ald S hE hW (k := 8) (v := g 8 i) rfl (vp_in_nI (show i < 20 from (by omega)) (by decide)) (by rw [show (nI i : Int32).toNatClampNeg = i from (nI_clamp (by omega))]) dX6_board_139 ?_
                          refine lv_iload_n hx hb dX6_board_140 rfl (lv_at hl 3 rfl) ?_
                          refine lv_icmp_eq (tgt := 155) hx hb dX6_board_141 (by decide) (fun c_141_14 => ?_) (fun c_141_14 => ?_)
                          · refine lv_iconst (v := 1) hx hb dX6_board_155 (by decide) ?_
                            refine lv_goto (tgt := 160) hx hb dX6_board_156 (by decide) ?_
                            refine lv_istore (lv' := [(9, .int 1), (0, .ref (wad w 9 (0))), (1, .int sp), (2, .int fl), (3, .int pl), (4, .int wd), (5, .int le9), (6, .int mo9), (7, .int 1), (8, .int (nI i))]) hx hb dX6_board_160 hl (by decide) rfl (fun ls hl => ?_)
                            refine lv_aload_n hx hb dX6_board_162 rfl (lv_at hl 1 rfl) ?_
                            refine lv_iload hx hb dX6_board_163 (lv_at hl 0 rfl) ?_
                            refine lv_if_eq (tgt := 172) hx hb dX6_board_165 (by decide) (fun h9 => absurd h9 (by decide)) (fun _ => ?_)
                            refine lv_iconst (v := 2) hx hb dX6_board_168 (by decide) ?_
                            refine lv_goto (tgt := 176) hx hb dX6_board_169 (by decide) ?_
                            refine m_putt S hE hS hW tw_740 dX6_board_176 (fun H locs hW hS => ?_)
                            refine lv_iinc (v := nI (i + 1)) (lv' := [(8, .int (nI (i + 1))), (9, .int 1), (0, .ref (wad w 9 (0))), (1, .int sp), (2, .int fl), (3, .int pl), (4, .int wd), (5, .int le9), (6, .int mo9), (7, .int 1)]) hx hb dX6_board_179 hl (k := 9) rfl (nI_1 _) (by decide) rfl (fun ls hl => ?_)
                            refine lv_goto (tgt := 106) hx hb dX6_board_182 (by decide) ?_
                            exact ih_106 (i + 1) _ (by omega) (by simp [anyN, clash, c_7, c_18_2, c_29_4, c_43_6, c_70_8, c_79_10, c_92_11, c_112_12, hn, c_130_13, c_141_14]) (by omega) _ _ hW hS ls (lv_sub hl [2, 3, 4, 5, 6, 7, 8, 9, 0] rfl)
                          · refine lv_aload_n hx hb dX6_board_144 rfl (lv_at hl 0 rfl) ?_
                            refine m_geta S hE hW 6 (by decide) rfl tw_746 rfl dX6_board_145 ?_
                            refine lv_iload hx hb dX6_board_148 (lv_at hl 8 rfl) ?_
                            refine m_ald S hE hW (k := 6) (v := g 6 i) rfl (vp_in_nI (show i < 20 from (by omega)) (by decide)) (by rw [show (nI i : Int32).toNatClampNeg = i from (nI_clamp (by omega))]) dX6_board_150 ?_
                            refine lv_iload_n hx hb dX6_board_151 rfl (lv_at hl 1 rfl) ?_
                            refine lv_icmp_eq (tgt := 159) hx hb dX6_board_152 (by decide) (fun c_152_15 => ?_) (fun c_152_15 => ?_)
                            · refine lv_iconst (v := 0) hx hb dX6_board_159 (by decide) ?_
                              refine lv_istore (lv' := [(9, .int 0), (0, .ref (wad w 9 (0))), (1, .int sp), (2, .int fl), (3, .int pl), (4, .int wd), (5, .int le9), (6, .int mo9), (7, .int 1), (8, .int (nI i))]) hx hb dX6_board_160 hl (by decide) rfl (fun ls hl => ?_)
                              refine lv_aload_n hx hb dX6_board_162 rfl (lv_at hl 1 rfl) ?_
                              refine lv_iload hx hb dX6_board_163 (lv_at hl 0 rfl) ?_
                              refine lv_if_eq (tgt := 172) hx hb dX6_board_165 (by decide) (fun _ => ?_) (fun h9 => absurd h9 (by decide))
                              refine lv_aload_n hx hb dX6_board_172 rfl (lv_at hl 1 rfl) ?_
                              refine m_gett S hE hW tw_740 dX6_board_173 ?_
                              refine m_putt S hE hS hW tw_740 dX6_board_176 (fun H locs hW hS => ?_)
                              refine lv_iinc (v := nI (i + 1)) (lv' := [(8, .int (nI (i + 1))), (9, .int 0), (0, .ref (wad w 9 (0))), (1, .int sp), (2, .int fl), (3, .int pl), (4, .int wd), (5, .int le9), (6, .int mo9), (7, .int 1)]) hx hb dX6_board_179 hl (k := 9) rfl (nI_1 _) (by decide) rfl (fun ls hl => ?_)
                              refine lv_goto (tgt := 106) hx hb dX6_board_182 (by decide) ?_
                              exact ih_106 (i + 1) _ (by omega) (by simp [anyN, clash, c_7, c_18_2, c_29_4, c_43_6, c_70_8, c_79_10, c_92_11, c_112_12, hn, c_130_13, c_141_14, c_152_15]) (by omega) _ _ hW hS ls (lv_sub hl [2, 3, 4, 5, 6, 7, 8, 9, 0] rfl)
                            · refine lv_iconst (v := 1) hx hb dX6_board_155 (by decide) ?_
                              refine lv_goto (tgt := 160) hx hb dX6_board_156 (by decide) ?_
                              refine lv_istore (lv' := [(9, .int 1), (0, .ref (wad w 9 (0))), (1, .int sp), (2, .int fl), (3, .int pl), (4, .int wd), (5, .int le9), (6, .int mo9), (7, .int 1), (8, .int (nI i))]) hx hb dX6_board_160 hl (by decide) rfl (fun ls hl => ?_)
                              refine lv_aload_n hx hb dX6_board_162 rfl (lv_at hl 1 rfl) ?_
                              refine lv_iload hx hb dX6_board_163 (lv_at hl 0 rfl) ?_
                              refine lv_if_eq (tgt := 172) hx hb dX6_board_165 (by decide) (fun h9 => absurd h9 (by decide)) (fun _ => ?_)
                              refine lv_iconst (v := 2) hx hb dX6_board_168 (by decide) ?_
                              refine lv_goto (tgt := 176) hx hb dX6_board_169 (by decide) ?_
                              refine m_putt S hE hS hW tw_740 dX6_board_176 (fun H locs hW hS => ?_)
                              refine lv_iinc (v := nI (i + 1)) (lv' := [(8, .int (nI (i + 1))), (9, .int 1), (0, .ref (wad w 9 (0))), (1, .int sp), (2, .int fl), (3, .int pl), (4, .int wd), (5, .int le9), (6, .int mo9), (7, .int 1)]) hx hb dX6_board_179 hl (k := 9) rfl (nI_1 _) (by decide) rfl (fun ls hl => ?_)
                              refine lv_goto (tgt := 106) hx hb dX6_board_182 (by decide) ?_
                              exact ih_106 (i + 1) _ (by omega) (by simp [anyN, clash, c_7, c_18_2, c_29_4, c_43_6, c_70_8, c_79_10, c_92_11, c_112_12, hn, c_130_13, c_141_14, c_152_15]) (by omega) _ _ hW hS ls (lv_sub hl [2, 3, 4, 5, 6, 7, 8, 9, 0] rfl)
                      · refine lv_aload_n hx hb dX6_board_115 rfl (lv_at hl 0 rfl) ?_
                        refine m_gett S hE hW tw_740 dX6_board_116 ?_
                        refine lv_if_ne (tgt := 185) hx hb dX6_board_119 (by decide) (fun _ => ?_) (fun h9 => absurd h9 (by decide))
                        refine lv_aload_n hx hb dX6_board_185 rfl (lv_at hl 0 rfl) ?_
                        refine m_gett S hE hW tw_740 dX6_board_186 ?_
                        refine lv_if_le (tgt := 194) hx hb dX6_board_189 (by decide) (fun h9 => absurd h9 (by decide)) (fun _ => ?_)
                        refine lv_iconst (v := 0) hx hb dX6_board_192 (by decide) ?_
                        exact m_ret S hr hlocks hS hW (by have h8 := anyN_mono hn hi; simp [RR, sp_board, bst, bad, h8, c_7, c_18_2, c_29_4, c_43_6, c_70_8, c_79_10, c_92_11, c_112_12, hn]) dX6_board_193
                exact lp_106 ((nb g - 0) + 1) 0 0 (Nat.zero_le _) (Or.inl ⟨rfl, rfl⟩) (Nat.lt_succ_self _) _ _ hW hS ls (lv_sub hl [2, 3, 4, 5, 6, 7, 8, 1, 0] rfl)
              · refine lv_iconst (v := 2) hx hb dX6_board_95 (by decide) ?_
                refine lv_goto (tgt := 100) hx hb dX6_board_96 (by decide) ?_
                refine m_putt S hE hS hW tw_740 dX6_board_100 (fun H locs hW hS => ?_)
                refine lv_iconst (v := nI 0) hx hb dX6_board_103 (by decide) ?_
                refine lv_istore (lv' := [(8, .int (nI 0)), (7, .int 1), (0, .ref (wad w 9 (0))), (1, .int sp), (2, .int fl), (3, .int pl), (4, .int wd), (5, .int le9), (6, .int mo9)]) hx hb dX6_board_104 hl (by decide) rfl (fun ls hl => ?_)
                refine lv_iload hx hb dX6_board_106 (lv_at hl 0 rfl) ?_
                refine lv_aload_n hx hb dX6_board_108 rfl (lv_at hl 2 rfl) ?_
                refine m_geti S hE hW 5 (v := nI (nb g)) (by decide) rfl (by decide) tw_745 rfl hO.n5 dX6_board_109 ?_
                refine g_icmp_ge S (by omega) (by omega) (tgt := 185) dX6_board_112 (by decide) (fun c_112_16 => ?_) (fun c_112_16 => ?_)
                · refine lv_aload_n hx hb dX6_board_185 rfl (lv_at hl 2 rfl) ?_
                  refine m_gett S hE hW tw_740 dX6_board_186 ?_
                  refine lv_if_le (tgt := 194) hx hb dX6_board_189 (by decide) (fun h9 => absurd h9 (by decide)) (fun _ => ?_)
                  refine lv_iconst (v := 0) hx hb dX6_board_192 (by decide) ?_
                  exact m_ret S hr hlocks hS hW (by simp [RR, sp_board, bst, bad, c_7, c_18_2, c_29_4, c_43_6, c_70_8, c_79_10, c_92_11, c_112_16]) dX6_board_193
                · refine lv_aload_n hx hb dX6_board_115 rfl (lv_at hl 2 rfl) ?_
                  refine m_gett S hE hW tw_740 dX6_board_116 ?_
                  refine lv_if_ne (tgt := 185) hx hb dX6_board_119 (by decide) (fun _ => ?_) (fun h9 => absurd h9 (by decide))
                  refine lv_aload_n hx hb dX6_board_185 rfl (lv_at hl 2 rfl) ?_
                  refine m_gett S hE hW tw_740 dX6_board_186 ?_
                  refine lv_if_le (tgt := 194) hx hb dX6_board_189 (by decide) (fun h9 => absurd h9 (by decide)) (fun _ => ?_)
                  refine lv_iconst (v := 0) hx hb dX6_board_192 (by decide) ?_
                  exact m_ret S hr hlocks hS hW (by simp [RR, sp_board, bst, bad, c_7, c_18_2, c_29_4, c_43_6, c_70_8, c_79_10, c_92_11, c_112_16]) dX6_board_193
            · refine lv_iconst (v := 1) hx hb dX6_board_82 (by decide) ?_
              refine lv_goto (tgt := 100) hx hb dX6_board_83 (by decide) ?_
              refine m_putt S hE hS hW tw_740 dX6_board_100 (fun H locs hW hS => ?_)
              refine lv_iconst (v := nI 0) hx hb dX6_board_103 (by decide) ?_
              refine lv_istore (lv' := [(8, .int (nI 0)), (7, .int 1), (0, .ref (wad w 9 (0))), (1, .int sp), (2, .int fl), (3, .int pl), (4, .int wd), (5, .int le9), (6, .int mo9)]) hx hb dX6_board_104 hl (by decide) rfl (fun ls hl => ?_)
              refine lv_iload hx hb dX6_board_106 (lv_at hl 0 rfl) ?_
              refine lv_aload_n hx hb dX6_board_108 rfl (lv_at hl 2 rfl) ?_
              refine m_geti S hE hW 5 (v := nI (nb g)) (by decide) rfl (by decide) tw_745 rfl hO.n5 dX6_board_109 ?_
              refine g_icmp_ge S (by omega) (by omega) (tgt := 185) dX6_board_112 (by decide) (fun c_112_17 => ?_) (fun c_112_17 => ?_)
              · refine lv_aload_n hx hb dX6_board_185 rfl (lv_at hl 2 rfl) ?_
                refine m_gett S hE hW tw_740 dX6_board_186 ?_
                refine lv_if_le (tgt := 194) hx hb dX6_board_189 (by decide) (fun h9 => absurd h9 (by decide)) (fun _ => ?_)
                refine lv_iconst (v := 0) hx hb dX6_board_192 (by decide) ?_
                exact m_ret S hr hlocks hS hW (by simp [RR, sp_board, bst, bad, c_7, c_18_2, c_29_4, c_43_6, c_70_8, c_79_10, c_112_17]) dX6_board_193
              · refine lv_aload_n hx hb dX6_board_115 rfl (lv_at hl 2 rfl) ?_
                refine m_gett S hE hW tw_740 dX6_board_116 ?_
                refine lv_if_ne (tgt := 185) hx hb dX6_board_119 (by decide) (fun _ => ?_) (fun h9 => absurd h9 (by decide))
                refine lv_aload_n hx hb dX6_board_185 rfl (lv_at hl 2 rfl) ?_
                refine m_gett S hE hW tw_740 dX6_board_186 ?_
                refine lv_if_le (tgt := 194) hx hb dX6_board_189 (by decide) (fun h9 => absurd h9 (by decide)) (fun _ => ?_)
                refine lv_iconst (v := 0) hx hb dX6_board_192 (by decide) ?_
                exact m_ret S hr hlocks hS hW (by simp [RR, sp_board, bst, bad, c_7, c_18_2, c_29_4, c_43_6, c_70_8, c_79_10, c_112_17]) dX6_board_193
