/-! ===== the law's wrappers ===== -/
set_option maxHeartbeats 4000000 in
set_option maxRecDepth 100000 in
/-- the law's weather -/
theorem c_L_weather (l : Launch) (z : ZE) (hst : l.stackTraces = false) (w : WG) (g gm : GS) (o : Nat → Int64) (hO : OKg g) (a1 a2 : Int32) : Met l yL_weather (.codeWith yL_weather cL_weather 5 (some .int) [(0, 10, 13, 13), (0, 10, 17, 15)] :: wU) ({ frames := 7, cells := 1, slots := 6, locals := 113 }) (PE z [.ref (wad w 0 0), .int a1, .int a2, .ref (wad w 11 0)] (fun H => WW z w g gm o H)) (LQ z w gm o (sp_weather g a1 a2)) 1 6 (zA z) := by
  refine va_MetW (cc := cL_weather) (maxL := 5) (ret := some .int) (hh := [(0, 10, 13, 13), (0, 10, 17, 15)]) (by decide) rfl ?_
  intro p e s m args below meth c s₁ BD hml hv
  obtain ⟨rfl, hE, hW⟩ := hv
  have hts : ∀ w ∈ wU, w.before _ s = true := fun w h => atoms_spec (ws := .codeWith yL_weather cL_weather 5 (some .int) [(0, 10, 13, 13), (0, 10, 17, 15)] :: wU) BD.pre w (List.mem_cons_of_mem _ h)
  have hT : c.exceptionTable.toList = tableOf [(0, 10, 13, 13), (0, 10, 17, 15)] := vx_table (x := yL_weather) BD (atoms_spec (ws := .codeWith yL_weather cL_weather 5 (some .int) [(0, 10, 13, 13), (0, 10, 17, 15)] :: wU) BD.pre _ List.mem_cons_self)
  have S : CallFix p m c cL_weather 5 s ([.ref (wad w 0 0), .int a1, .int a2, .ref (wad w 11 0)] : List Value).toArray wU RL := ⟨BD.exec, BD.bytes, hml, findClass_of_methodNamed BD.named, hts⟩
  have hx := S.1
  have hb := S.2.1
  have hown := S.2.2.2.1
  have hr := BD.returns
  have hlocks := BD.notSynchronized
  have hS : va_S (zA z) s.heap s.heap [] := va_S.rf
  have hl := lv_entry ([.ref (wad w 0 0), .int a1, .int a2, .ref (wad w 11 0)]) (n := 5) (Nat.le_of_ble_eq_true rfl)
  rw [lg_entry_eq]
  generalize (lg_sl ([.ref (wad w 0 0), .int a1, .int a2, .ref (wad w 11 0)]) ++ List.replicate (5 - (lg_sl ([.ref (wad w 0 0), .int a1, .int a2, .ref (wad w 11 0)])).length) Slot.unset).toArray = ls at hl ⊢
  have hl : lv_has ls 5 [(0, .ref (wad w 0 0)), (1, .int a1), (2, .int a2), (3, .ref (wad w 11 0))] := hl
  refine lv_aload_n hx hb dL_weather_0 rfl (lv_at hl 3 rfl) ?_
  refine lv_iconst (v := 0) hx hb dL_weather_1 (by decide) ?_
  refine lv_aload_n hx hb dL_weather_2 rfl (lv_at hl 0 rfl) ?_
  refine lv_iload_n hx hb dL_weather_3 rfl (lv_at hl 1 rfl) ?_
  refine lv_iload_n hx hb dL_weather_4 rfl (lv_at hl 2 rfl) ?_
  refine x_wcall (As := [.int a1, .int a2]) (rest := [.int 0, .ref (wad w 11 0)]) (Ea := xI) (Eb := xA) (Ec := xI) S hE hS hW (c_X5_weather l z hst w g gm o hO a1 a2) (cwV 2 hts (gU_V tw_96 tw_97 tw_98 tw_1 tw_99) rfl rfl rfl (by decide +kernel) ⟨Nat.le_of_ble_eq_true rfl, Nat.le_of_ble_eq_true rfl⟩) rfl hl.1 rfl (Nat.le_of_ble_eq_true rfl) dL_weather_5 ⟨Nat.le_of_ble_eq_true rfl, Nat.le_of_ble_eq_true rfl⟩ (fun k ce q9 H locs hsp hk hW hS h1 h2 h3 => ?_) (fun r w9 g9 H locs hsp hs hW hS => ?_)
  · rcases hk with rfl | rfl | rfl
    · rw [show ex3 xI xA xI 1 = xI by decide +kernel] at h3
      refine vx_catch (own := RL) (name := xI) (E := xI) hown [] ⟨0, 10, 13, 13⟩ [⟨0, 10, 17, 15⟩] (hT.trans rfl) (fun u9 hz => by cases hz) rfl (by decide) (hts _ tw_94) (hE.nw (by decide +kernel)) h1 h2 h3 ?_
      refine lv_astore (lv' := [(4, .ref q9), (0, .ref (wad w 0 0)), (1, .int a1), (2, .int a2), (3, .ref (wad w 11 0))]) hx hb dL_weather_13 hl (by decide) rfl (fun ls hl => ?_)
      refine lv_iconst (v := 1) hx hb dL_weather_15 (by decide) ?_
      exact x_lret S hr hlocks hS hW (by rw [hsp]; rfl) wsm.rf (by rw [hsp]; rfl) (fun q => by rw [hsp] at q; exact absurd q (show ¬ (1 : Int32) = 0 by decide)) ⟨Nat.le_of_ble_eq_true rfl, Nat.le_of_ble_eq_true rfl⟩ dL_weather_16
    · rw [show ex3 xI xA xI 2 = xA by decide +kernel] at h3
      refine vx_catch (own := RL) (name := xA) (E := xA) hown [⟨0, 10, 13, 13⟩] ⟨0, 10, 17, 15⟩ [] (hT.trans rfl) (fun u9 hz => by simp only [List.mem_cons, List.not_mem_nil, or_false] at hz; rcases hz with rfl; exact Or.inr ⟨by decide, xI, hts _ tw_94, hE.nc (by decide +kernel)⟩) rfl (by decide) (hts _ tw_95) (hE.nw (by decide +kernel)) h1 h2 h3 ?_
      refine lv_astore (lv' := [(4, .ref q9), (0, .ref (wad w 0 0)), (1, .int a1), (2, .int a2), (3, .ref (wad w 11 0))]) hx hb dL_weather_17 hl (by decide) rfl (fun ls hl => ?_)
      refine lv_iconst (v := 2) hx hb dL_weather_19 (by decide) ?_
      exact x_lret S hr hlocks hS hW (by rw [hsp]; rfl) wsm.rf (by rw [hsp]; rfl) (fun q => by rw [hsp] at q; exact absurd q (show ¬ (2 : Int32) = 0 by decide)) ⟨Nat.le_of_ble_eq_true rfl, Nat.le_of_ble_eq_true rfl⟩ dL_weather_20
    · exact absurd hsp (nb_weather 3 (by decide) g a1 a2)
  · refine lv_i2l (v := r.toInt64) hx hb dL_weather_8 rfl ?_
    refine g_last S hE hS (hs.2.2 ▸ hW.out) (hs.2.2 ▸ hW.2.2.1 11 0 rfl) (i := 0) (by unfold vp_in; decide) dL_weather_9 (fun H locs he oq z9 hS => ?_)
    replace hW := hW.uout (hs.2.2.symm ▸ he) (hs.2.2.symm ▸ oq)
    refine lv_goto (tgt := 21) hx hb dL_weather_10 (by decide) ?_
    refine lv_iconst (v := 0) hx hb dL_weather_21 (by decide) ?_
    exact x_lret S hr hlocks hS hW (by rw [hsp]) hs (by rw [hsp]) (fun _ => by rw [hsp]; rfl) ⟨Nat.le_of_ble_eq_true rfl, Nat.le_of_ble_eq_true rfl⟩ dL_weather_22
set_option maxHeartbeats 4000000 in
set_option maxRecDepth 100000 in
/-- the law's pass -/
theorem c_L_pass (l : Launch) (z : ZE) (hst : l.stackTraces = false) (w : WG) (g gm : GS) (o : Nat → Int64) (hO : OKg g) (a1 : Int32) : Met l yL_pass (.codeWith yL_pass cL_pass 4 (some .int) [(0, 9, 12, 15), (0, 9, 15, 21)] :: wU) ({ frames := 7, cells := 1, slots := 6, locals := 130 }) (PE z [.ref (wad w 0 0), .int a1, .ref (wad w 11 0)] (fun H => WW z w g gm o H)) (LQ z w gm o (sp_pass g a1)) 1 6 (zA z) := by
  refine va_MetW (cc := cL_pass) (maxL := 4) (ret := some .int) (hh := [(0, 9, 12, 15), (0, 9, 15, 21)]) (by decide) rfl ?_
  intro p e s m args below meth c s₁ BD hml hv
  obtain ⟨rfl, hE, hW⟩ := hv
  have hts : ∀ w ∈ wU, w.before _ s = true := fun w h => atoms_spec (ws := .codeWith yL_pass cL_pass 4 (some .int) [(0, 9, 12, 15), (0, 9, 15, 21)] :: wU) BD.pre w (List.mem_cons_of_mem _ h)
  have hT : c.exceptionTable.toList = tableOf [(0, 9, 12, 15), (0, 9, 15, 21)] := vx_table (x := yL_pass) BD (atoms_spec (ws := .codeWith yL_pass cL_pass 4 (some .int) [(0, 9, 12, 15), (0, 9, 15, 21)] :: wU) BD.pre _ List.mem_cons_self)
  have S : CallFix p m c cL_pass 4 s ([.ref (wad w 0 0), .int a1, .ref (wad w 11 0)] : List Value).toArray wU RL := ⟨BD.exec, BD.bytes, hml, findClass_of_methodNamed BD.named, hts⟩
  have hx := S.1
  have hb := S.2.1
  have hown := S.2.2.2.1
  have hr := BD.returns
  have hlocks := BD.notSynchronized
  have hS : va_S (zA z) s.heap s.heap [] := va_S.rf
  have hl := lv_entry ([.ref (wad w 0 0), .int a1, .ref (wad w 11 0)]) (n := 4) (Nat.le_of_ble_eq_true rfl)
  rw [lg_entry_eq]
  generalize (lg_sl ([.ref (wad w 0 0), .int a1, .ref (wad w 11 0)]) ++ List.replicate (4 - (lg_sl ([.ref (wad w 0 0), .int a1, .ref (wad w 11 0)])).length) Slot.unset).toArray = ls at hl ⊢
  have hl : lv_has ls 4 [(0, .ref (wad w 0 0)), (1, .int a1), (2, .ref (wad w 11 0))] := hl
  refine lv_aload_n hx hb dL_pass_0 rfl (lv_at hl 2 rfl) ?_
  refine lv_iconst (v := 0) hx hb dL_pass_1 (by decide) ?_
  refine lv_aload_n hx hb dL_pass_2 rfl (lv_at hl 0 rfl) ?_
  refine lv_iload_n hx hb dL_pass_3 rfl (lv_at hl 1 rfl) ?_
  refine x_wcall (As := [.int a1]) (rest := [.int 0, .ref (wad w 11 0)]) (Ea := xA) (Eb := xS) (Ec := xI) S hE hS hW (c_X5_pass l z hst w g gm o hO a1) (cwV 1 hts (gU_V tw_191 tw_192 tw_193 tw_1 tw_194) rfl rfl rfl (by decide +kernel) ⟨Nat.le_of_ble_eq_true rfl, Nat.le_of_ble_eq_true rfl⟩) rfl hl.1 rfl (Nat.le_of_ble_eq_true rfl) dL_pass_4 ⟨Nat.le_of_ble_eq_true rfl, Nat.le_of_ble_eq_true rfl⟩ (fun k ce q9 H locs hsp hk hW hS h1 h2 h3 => ?_) (fun r w9 g9 H locs hsp hs hW hS => ?_)
  · rcases hk with rfl | rfl | rfl
    · rw [show ex3 xA xS xI 1 = xA by decide +kernel] at h3
      refine vx_catch (own := RL) (name := xA) (E := xA) hown [] ⟨0, 9, 12, 15⟩ [⟨0, 9, 15, 21⟩] (hT.trans rfl) (fun u9 hz => by cases hz) rfl (by decide) (hts _ tw_95) (hE.nw (by decide +kernel)) h1 h2 h3 ?_
      refine lv_astore_n (lv' := [(3, .ref q9), (0, .ref (wad w 0 0)), (1, .int a1), (2, .ref (wad w 11 0))]) hx hb dL_pass_12 rfl hl (by decide) rfl (fun ls hl => ?_)
      refine lv_iconst (v := 1) hx hb dL_pass_13 (by decide) ?_
      exact x_lret S hr hlocks hS hW (by rw [hsp]; rfl) wsm.rf (by rw [hsp]; rfl) (fun q => by rw [hsp] at q; exact absurd q (show ¬ (1 : Int32) = 0 by decide)) ⟨Nat.le_of_ble_eq_true rfl, Nat.le_of_ble_eq_true rfl⟩ dL_pass_14
    · rw [show ex3 xA xS xI 2 = xS by decide +kernel] at h3
      refine vx_catch (own := RL) (name := xS) (E := xS) hown [⟨0, 9, 12, 15⟩] ⟨0, 9, 15, 21⟩ [] (hT.trans rfl) (fun u9 hz => by simp only [List.mem_cons, List.not_mem_nil, or_false] at hz; rcases hz with rfl; exact Or.inr ⟨by decide, xA, hts _ tw_95, hE.nc (by decide +kernel)⟩) rfl (by decide) (hts _ tw_190) (hE.nw (by decide +kernel)) h1 h2 h3 ?_
      refine lv_astore_n (lv' := [(3, .ref q9), (0, .ref (wad w 0 0)), (1, .int a1), (2, .ref (wad w 11 0))]) hx hb dL_pass_15 rfl hl (by decide) rfl (fun ls hl => ?_)
      refine lv_iconst (v := 2) hx hb dL_pass_16 (by decide) ?_
      exact x_lret S hr hlocks hS hW (by rw [hsp]; rfl) wsm.rf (by rw [hsp]; rfl) (fun q => by rw [hsp] at q; exact absurd q (show ¬ (2 : Int32) = 0 by decide)) ⟨Nat.le_of_ble_eq_true rfl, Nat.le_of_ble_eq_true rfl⟩ dL_pass_17
    · exact absurd hsp (nb_pass 3 (by decide) g a1)
  · refine lv_i2l (v := r.toInt64) hx hb dL_pass_7 rfl ?_
    refine g_last S hE hS (hs.2.2 ▸ hW.out) (hs.2.2 ▸ hW.2.2.1 11 0 rfl) (i := 0) (by unfold vp_in; decide) dL_pass_8 (fun H locs he oq z9 hS => ?_)
    replace hW := hW.uout (hs.2.2.symm ▸ he) (hs.2.2.symm ▸ oq)
    refine lv_goto (tgt := 18) hx hb dL_pass_9 (by decide) ?_
    refine lv_iconst (v := 0) hx hb dL_pass_18 (by decide) ?_
    exact x_lret S hr hlocks hS hW (by rw [hsp]) hs (by rw [hsp]) (fun _ => by rw [hsp]; rfl) ⟨Nat.le_of_ble_eq_true rfl, Nat.le_of_ble_eq_true rfl⟩ dL_pass_19
set_option maxHeartbeats 4000000 in
set_option maxRecDepth 100000 in
/-- the law's board -/
theorem c_L_board (l : Launch) (z : ZE) (hst : l.stackTraces = false) (w : WG) (g gm : GS) (o : Nat → Int64) (hO : OKg g) (a1 a2 a3 a4 a5 a6 : Int32) : Met l yL_board (.codeWith yL_board cL_board 9 (some .int) [(0, 18, 21, 15), (0, 18, 25, 21)] :: wU) ({ frames := 8, cells := 4, slots := 117, locals := 218 }) (PE z [.ref (wad w 0 0), .int a1, .int a2, .int a3, .int a4, .int a5, .int a6, .ref (wad w 11 0)] (fun H => WW z w g gm o H)) (LQ z w gm o (sp_board g a1 a2 a3 a4 a5 a6)) 4 117 (zA z) := by
  refine va_MetW (cc := cL_board) (maxL := 9) (ret := some .int) (hh := [(0, 18, 21, 15), (0, 18, 25, 21)]) (by decide) rfl ?_
  intro p e s m args below meth c s₁ BD hml hv
  obtain ⟨rfl, hE, hW⟩ := hv
  have hts : ∀ w ∈ wU, w.before _ s = true := fun w h => atoms_spec (ws := .codeWith yL_board cL_board 9 (some .int) [(0, 18, 21, 15), (0, 18, 25, 21)] :: wU) BD.pre w (List.mem_cons_of_mem _ h)
  have hT : c.exceptionTable.toList = tableOf [(0, 18, 21, 15), (0, 18, 25, 21)] := vx_table (x := yL_board) BD (atoms_spec (ws := .codeWith yL_board cL_board 9 (some .int) [(0, 18, 21, 15), (0, 18, 25, 21)] :: wU) BD.pre _ List.mem_cons_self)
  have S : CallFix p m c cL_board 9 s ([.ref (wad w 0 0), .int a1, .int a2, .int a3, .int a4, .int a5, .int a6, .ref (wad w 11 0)] : List Value).toArray wU RL := ⟨BD.exec, BD.bytes, hml, findClass_of_methodNamed BD.named, hts⟩
  have hx := S.1
  have hb := S.2.1
  have hown := S.2.2.2.1
  have hr := BD.returns
  have hlocks := BD.notSynchronized
  have hS : va_S (zA z) s.heap s.heap [] := va_S.rf
  have hl := lv_entry ([.ref (wad w 0 0), .int a1, .int a2, .int a3, .int a4, .int a5, .int a6, .ref (wad w 11 0)]) (n := 9) (Nat.le_of_ble_eq_true rfl)
  rw [lg_entry_eq]
  generalize (lg_sl ([.ref (wad w 0 0), .int a1, .int a2, .int a3, .int a4, .int a5, .int a6, .ref (wad w 11 0)]) ++ List.replicate (9 - (lg_sl ([.ref (wad w 0 0), .int a1, .int a2, .int a3, .int a4, .int a5, .int a6, .ref (wad w 11 0)])).length) Slot.unset).toArray = ls at hl ⊢
  have hl : lv_has ls 9 [(0, .ref (wad w 0 0)), (1, .int a1), (2, .int a2), (3, .int a3), (4, .int a4), (5, .int a5), (6, .int a6), (7, .ref (wad w 11 0))] := hl
  refine lv_aload hx hb dL_board_0 (lv_at hl 7 rfl) ?_
  refine lv_iconst (v := 0) hx hb dL_board_2 (by decide) ?_
  refine lv_aload_n hx hb dL_board_3 rfl (lv_at hl 0 rfl) ?_
  refine lv_iload_n hx hb dL_board_4 rfl (lv_at hl 1 rfl) ?_
  refine lv_iload_n hx hb dL_board_5 rfl (lv_at hl 2 rfl) ?_
  refine lv_iload_n hx hb dL_board_6 rfl (lv_at hl 3 rfl) ?_
  refine lv_iload hx hb dL_board_7 (lv_at hl 4 rfl) ?_
  refine lv_iload hx hb dL_board_9 (lv_at hl 5 rfl) ?_
  refine lv_iload hx hb dL_board_11 (lv_at hl 6 rfl) ?_
  refine x_wcall (As := [.int a1, .int a2, .int a3, .int a4, .int a5, .int a6]) (rest := [.int 0, .ref (wad w 11 0)]) (Ea := xA) (Eb := xS) (Ec := xI) S hE hS hW (c_X5_board l z hst w g gm o hO a1 a2 a3 a4 a5 a6) (cwV 6 hts (gU_V tw_296 tw_297 tw_298 tw_1 tw_299) rfl rfl rfl (by decide +kernel) ⟨Nat.le_of_ble_eq_true rfl, Nat.le_of_ble_eq_true rfl⟩) rfl hl.1 rfl (Nat.le_of_ble_eq_true rfl) dL_board_13 ⟨Nat.le_of_ble_eq_true rfl, Nat.le_of_ble_eq_true rfl⟩ (fun k ce q9 H locs hsp hk hW hS h1 h2 h3 => ?_) (fun r w9 g9 H locs hsp hs hW hS => ?_)
  · rcases hk with rfl | rfl | rfl
    · rw [show ex3 xA xS xI 1 = xA by decide +kernel] at h3
      refine vx_catch (own := RL) (name := xA) (E := xA) hown [] ⟨0, 18, 21, 15⟩ [⟨0, 18, 25, 21⟩] (hT.trans rfl) (fun u9 hz => by cases hz) rfl (by decide) (hts _ tw_95) (hE.nw (by decide +kernel)) h1 h2 h3 ?_
      refine lv_astore (lv' := [(8, .ref q9), (0, .ref (wad w 0 0)), (1, .int a1), (2, .int a2), (3, .int a3), (4, .int a4), (5, .int a5), (6, .int a6), (7, .ref (wad w 11 0))]) hx hb dL_board_21 hl (by decide) rfl (fun ls hl => ?_)
      refine lv_iconst (v := 1) hx hb dL_board_23 (by decide) ?_
      exact x_lret S hr hlocks hS hW (by rw [hsp]; rfl) wsm.rf (by rw [hsp]; rfl) (fun q => by rw [hsp] at q; exact absurd q (show ¬ (1 : Int32) = 0 by decide)) ⟨Nat.le_of_ble_eq_true rfl, Nat.le_of_ble_eq_true rfl⟩ dL_board_24
    · rw [show ex3 xA xS xI 2 = xS by decide +kernel] at h3
      refine vx_catch (own := RL) (name := xS) (E := xS) hown [⟨0, 18, 21, 15⟩] ⟨0, 18, 25, 21⟩ [] (hT.trans rfl) (fun u9 hz => by simp only [List.mem_cons, List.not_mem_nil, or_false] at hz; rcases hz with rfl; exact Or.inr ⟨by decide, xA, hts _ tw_95, hE.nc (by decide +kernel)⟩) rfl (by decide) (hts _ tw_190) (hE.nw (by decide +kernel)) h1 h2 h3 ?_
      refine lv_astore (lv' := [(8, .ref q9), (0, .ref (wad w 0 0)), (1, .int a1), (2, .int a2), (3, .int a3), (4, .int a4), (5, .int a5), (6, .int a6), (7, .ref (wad w 11 0))]) hx hb dL_board_25 hl (by decide) rfl (fun ls hl => ?_)
      refine lv_iconst (v := 2) hx hb dL_board_27 (by decide) ?_
      exact x_lret S hr hlocks hS hW (by rw [hsp]; rfl) wsm.rf (by rw [hsp]; rfl) (fun q => by rw [hsp] at q; exact absurd q (show ¬ (2 : Int32) = 0 by decide)) ⟨Nat.le_of_ble_eq_true rfl, Nat.le_of_ble_eq_true rfl⟩ dL_board_28
    · exact absurd hsp (nb_board 3 (by decide) g a1 a2 a3 a4 a5 a6)
  · refine lv_i2l (v := r.toInt64) hx hb dL_board_16 rfl ?_
    refine g_last S hE hS (hs.2.2 ▸ hW.out) (hs.2.2 ▸ hW.2.2.1 11 0 rfl) (i := 0) (by unfold vp_in; decide) dL_board_17 (fun H locs he oq z9 hS => ?_)
    replace hW := hW.uout (hs.2.2.symm ▸ he) (hs.2.2.symm ▸ oq)
    refine lv_goto (tgt := 29) hx hb dL_board_18 (by decide) ?_
    refine lv_iconst (v := 0) hx hb dL_board_29 (by decide) ?_
    exact x_lret S hr hlocks hS hW (by rw [hsp]) hs (by rw [hsp]) (fun _ => by rw [hsp]; rfl) ⟨Nat.le_of_ble_eq_true rfl, Nat.le_of_ble_eq_true rfl⟩ dL_board_30
set_option maxHeartbeats 4000000 in
set_option maxRecDepth 100000 in
/-- the law's knot -/
theorem c_L_knot (l : Launch) (z : ZE) (hst : l.stackTraces = false) (w : WG) (g gm : GS) (o : Nat → Int64) (hO : OKg g) (a1 a2 a3 : Int32) : Met l yL_knot (.codeWith yL_knot cL_knot 6 (some .int) [(0, 12, 15, 13), (0, 12, 19, 15), (0, 12, 23, 21)] :: wU) ({ frames := 8, cells := 2, slots := 102, locals := 215 }) (PE z [.ref (wad w 0 0), .int a1, .int a2, .int a3, .ref (wad w 11 0)] (fun H => WW z w g gm o H)) (LQ z w gm o (sp_knot g a1 a2 a3)) 2 102 (zA z) := by
  refine va_MetW (cc := cL_knot) (maxL := 6) (ret := some .int) (hh := [(0, 12, 15, 13), (0, 12, 19, 15), (0, 12, 23, 21)]) (by decide) rfl ?_
  intro p e s m args below meth c s₁ BD hml hv
  obtain ⟨rfl, hE, hW⟩ := hv
  have hts : ∀ w ∈ wU, w.before _ s = true := fun w h => atoms_spec (ws := .codeWith yL_knot cL_knot 6 (some .int) [(0, 12, 15, 13), (0, 12, 19, 15), (0, 12, 23, 21)] :: wU) BD.pre w (List.mem_cons_of_mem _ h)
  have hT : c.exceptionTable.toList = tableOf [(0, 12, 15, 13), (0, 12, 19, 15), (0, 12, 23, 21)] := vx_table (x := yL_knot) BD (atoms_spec (ws := .codeWith yL_knot cL_knot 6 (some .int) [(0, 12, 15, 13), (0, 12, 19, 15), (0, 12, 23, 21)] :: wU) BD.pre _ List.mem_cons_self)
  have S : CallFix p m c cL_knot 6 s ([.ref (wad w 0 0), .int a1, .int a2, .int a3, .ref (wad w 11 0)] : List Value).toArray wU RL := ⟨BD.exec, BD.bytes, hml, findClass_of_methodNamed BD.named, hts⟩
  have hx := S.1
  have hb := S.2.1
  have hown := S.2.2.2.1
  have hr := BD.returns
  have hlocks := BD.notSynchronized
  have hS : va_S (zA z) s.heap s.heap [] := va_S.rf
  have hl := lv_entry ([.ref (wad w 0 0), .int a1, .int a2, .int a3, .ref (wad w 11 0)]) (n := 6) (Nat.le_of_ble_eq_true rfl)
  rw [lg_entry_eq]
  generalize (lg_sl ([.ref (wad w 0 0), .int a1, .int a2, .int a3, .ref (wad w 11 0)]) ++ List.replicate (6 - (lg_sl ([.ref (wad w 0 0), .int a1, .int a2, .int a3, .ref (wad w 11 0)])).length) Slot.unset).toArray = ls at hl ⊢
  have hl : lv_has ls 6 [(0, .ref (wad w 0 0)), (1, .int a1), (2, .int a2), (3, .int a3), (4, .ref (wad w 11 0))] := hl
  refine lv_aload hx hb dL_knot_0 (lv_at hl 4 rfl) ?_
  refine lv_iconst (v := 0) hx hb dL_knot_2 (by decide) ?_
  refine lv_aload_n hx hb dL_knot_3 rfl (lv_at hl 0 rfl) ?_
  refine lv_iload_n hx hb dL_knot_4 rfl (lv_at hl 1 rfl) ?_
  refine lv_iload_n hx hb dL_knot_5 rfl (lv_at hl 2 rfl) ?_
  refine lv_iload_n hx hb dL_knot_6 rfl (lv_at hl 3 rfl) ?_
  refine x_wcall (As := [.int a1, .int a2, .int a3]) (rest := [.int 0, .ref (wad w 11 0)]) (Ea := xI) (Eb := xA) (Ec := xS) S hE hS hW (c_X5_knot l z hst w g gm o hO a1 a2 a3) (cwV 3 hts (gU_V tw_431 tw_432 tw_433 tw_1 tw_434) rfl rfl rfl (by decide +kernel) ⟨Nat.le_of_ble_eq_true rfl, Nat.le_of_ble_eq_true rfl⟩) rfl hl.1 rfl (Nat.le_of_ble_eq_true rfl) dL_knot_7 ⟨Nat.le_of_ble_eq_true rfl, Nat.le_of_ble_eq_true rfl⟩ (fun k ce q9 H locs hsp hk hW hS h1 h2 h3 => ?_) (fun r w9 g9 H locs hsp hs hW hS => ?_)
  · rcases hk with rfl | rfl | rfl
    · rw [show ex3 xI xA xS 1 = xI by decide +kernel] at h3
      refine vx_catch (own := RL) (name := xI) (E := xI) hown [] ⟨0, 12, 15, 13⟩ [⟨0, 12, 19, 15⟩, ⟨0, 12, 23, 21⟩] (hT.trans rfl) (fun u9 hz => by cases hz) rfl (by decide) (hts _ tw_94) (hE.nw (by decide +kernel)) h1 h2 h3 ?_
      refine lv_astore (lv' := [(5, .ref q9), (0, .ref (wad w 0 0)), (1, .int a1), (2, .int a2), (3, .int a3), (4, .ref (wad w 11 0))]) hx hb dL_knot_15 hl (by decide) rfl (fun ls hl => ?_)
      refine lv_iconst (v := 1) hx hb dL_knot_17 (by decide) ?_
      exact x_lret S hr hlocks hS hW (by rw [hsp]; rfl) wsm.rf (by rw [hsp]; rfl) (fun q => by rw [hsp] at q; exact absurd q (show ¬ (1 : Int32) = 0 by decide)) ⟨Nat.le_of_ble_eq_true rfl, Nat.le_of_ble_eq_true rfl⟩ dL_knot_18
    · rw [show ex3 xI xA xS 2 = xA by decide +kernel] at h3
      refine vx_catch (own := RL) (name := xA) (E := xA) hown [⟨0, 12, 15, 13⟩] ⟨0, 12, 19, 15⟩ [⟨0, 12, 23, 21⟩] (hT.trans rfl) (fun u9 hz => by simp only [List.mem_cons, List.not_mem_nil, or_false] at hz; rcases hz with rfl; exact Or.inr ⟨by decide, xI, hts _ tw_94, hE.nc (by decide +kernel)⟩) rfl (by decide) (hts _ tw_95) (hE.nw (by decide +kernel)) h1 h2 h3 ?_
      refine lv_astore (lv' := [(5, .ref q9), (0, .ref (wad w 0 0)), (1, .int a1), (2, .int a2), (3, .int a3), (4, .ref (wad w 11 0))]) hx hb dL_knot_19 hl (by decide) rfl (fun ls hl => ?_)
      refine lv_iconst (v := 2) hx hb dL_knot_21 (by decide) ?_
      exact x_lret S hr hlocks hS hW (by rw [hsp]; rfl) wsm.rf (by rw [hsp]; rfl) (fun q => by rw [hsp] at q; exact absurd q (show ¬ (2 : Int32) = 0 by decide)) ⟨Nat.le_of_ble_eq_true rfl, Nat.le_of_ble_eq_true rfl⟩ dL_knot_22
    · rw [show ex3 xI xA xS 3 = xS by decide +kernel] at h3
      refine vx_catch (own := RL) (name := xS) (E := xS) hown [⟨0, 12, 15, 13⟩, ⟨0, 12, 19, 15⟩] ⟨0, 12, 23, 21⟩ [] (hT.trans rfl) (fun u9 hz => by simp only [List.mem_cons, List.not_mem_nil, or_false] at hz; rcases hz with rfl | rfl <;> first | exact Or.inr ⟨by decide, xI, hts _ tw_94, hE.nc (by decide +kernel)⟩ | exact Or.inr ⟨by decide, xA, hts _ tw_95, hE.nc (by decide +kernel)⟩) rfl (by decide) (hts _ tw_190) (hE.nw (by decide +kernel)) h1 h2 h3 ?_
      refine lv_astore (lv' := [(5, .ref q9), (0, .ref (wad w 0 0)), (1, .int a1), (2, .int a2), (3, .int a3), (4, .ref (wad w 11 0))]) hx hb dL_knot_23 hl (by decide) rfl (fun ls hl => ?_)
      refine lv_iconst (v := 3) hx hb dL_knot_25 (by decide) ?_
      exact x_lret S hr hlocks hS hW (by rw [hsp]; rfl) wsm.rf (by rw [hsp]; rfl) (fun q => by rw [hsp] at q; exact absurd q (show ¬ (3 : Int32) = 0 by decide)) ⟨Nat.le_of_ble_eq_true rfl, Nat.le_of_ble_eq_true rfl⟩ dL_knot_26
  · refine lv_i2l (v := r.toInt64) hx hb dL_knot_10 rfl ?_
    refine g_last S hE hS (hs.2.2 ▸ hW.out) (hs.2.2 ▸ hW.2.2.1 11 0 rfl) (i := 0) (by unfold vp_in; decide) dL_knot_11 (fun H locs he oq z9 hS => ?_)
    replace hW := hW.uout (hs.2.2.symm ▸ he) (hs.2.2.symm ▸ oq)
    refine lv_goto (tgt := 27) hx hb dL_knot_12 (by decide) ?_
    refine lv_iconst (v := 0) hx hb dL_knot_27 (by decide) ?_
    exact x_lret S hr hlocks hS hW (by rw [hsp]) hs (by rw [hsp]) (fun _ => by rw [hsp]; rfl) ⟨Nat.le_of_ble_eq_true rfl, Nat.le_of_ble_eq_true rfl⟩ dL_knot_28
set_option maxHeartbeats 4000000 in
set_option maxRecDepth 100000 in
/-- the law's cut -/
theorem c_L_cut (l : Launch) (z : ZE) (hst : l.stackTraces = false) (w : WG) (g gm : GS) (o : Nat → Int64) (hO : OKg g) (a1 a2 a3 a4 a5 : Int32) : Met l yL_cut (.codeWith yL_cut cL_cut 8 (some .int) [(0, 16, 19, 13), (0, 16, 23, 15), (0, 16, 27, 21)] :: wU) ({ frames := 8, cells := 4, slots := 211, locals := 219 }) (PE z [.ref (wad w 0 0), .int a1, .int a2, .int a3, .int a4, .int a5, .ref (wad w 11 0)] (fun H => WW z w g gm o H)) (LQ z w gm o (sp_cut g a1 a2 a3 a4 a5)) 4 211 (zA z) := by
  refine va_MetW (cc := cL_cut) (maxL := 8) (ret := some .int) (hh := [(0, 16, 19, 13), (0, 16, 23, 15), (0, 16, 27, 21)]) (by decide) rfl ?_
  intro p e s m args below meth c s₁ BD hml hv
  obtain ⟨rfl, hE, hW⟩ := hv
  have hts : ∀ w ∈ wU, w.before _ s = true := fun w h => atoms_spec (ws := .codeWith yL_cut cL_cut 8 (some .int) [(0, 16, 19, 13), (0, 16, 23, 15), (0, 16, 27, 21)] :: wU) BD.pre w (List.mem_cons_of_mem _ h)
  have hT : c.exceptionTable.toList = tableOf [(0, 16, 19, 13), (0, 16, 23, 15), (0, 16, 27, 21)] := vx_table (x := yL_cut) BD (atoms_spec (ws := .codeWith yL_cut cL_cut 8 (some .int) [(0, 16, 19, 13), (0, 16, 23, 15), (0, 16, 27, 21)] :: wU) BD.pre _ List.mem_cons_self)
  have S : CallFix p m c cL_cut 8 s ([.ref (wad w 0 0), .int a1, .int a2, .int a3, .int a4, .int a5, .ref (wad w 11 0)] : List Value).toArray wU RL := ⟨BD.exec, BD.bytes, hml, findClass_of_methodNamed BD.named, hts⟩
  have hx := S.1
  have hb := S.2.1
  have hown := S.2.2.2.1
  have hr := BD.returns
  have hlocks := BD.notSynchronized
  have hS : va_S (zA z) s.heap s.heap [] := va_S.rf
  have hl := lv_entry ([.ref (wad w 0 0), .int a1, .int a2, .int a3, .int a4, .int a5, .ref (wad w 11 0)]) (n := 8) (Nat.le_of_ble_eq_true rfl)
  rw [lg_entry_eq]
  generalize (lg_sl ([.ref (wad w 0 0), .int a1, .int a2, .int a3, .int a4, .int a5, .ref (wad w 11 0)]) ++ List.replicate (8 - (lg_sl ([.ref (wad w 0 0), .int a1, .int a2, .int a3, .int a4, .int a5, .ref (wad w 11 0)])).length) Slot.unset).toArray = ls at hl ⊢
  have hl : lv_has ls 8 [(0, .ref (wad w 0 0)), (1, .int a1), (2, .int a2), (3, .int a3), (4, .int a4), (5, .int a5), (6, .ref (wad w 11 0))] := hl
  refine lv_aload hx hb dL_cut_0 (lv_at hl 6 rfl) ?_
  refine lv_iconst (v := 0) hx hb dL_cut_2 (by decide) ?_
  refine lv_aload_n hx hb dL_cut_3 rfl (lv_at hl 0 rfl) ?_
  refine lv_iload_n hx hb dL_cut_4 rfl (lv_at hl 1 rfl) ?_
  refine lv_iload_n hx hb dL_cut_5 rfl (lv_at hl 2 rfl) ?_
  refine lv_iload_n hx hb dL_cut_6 rfl (lv_at hl 3 rfl) ?_
  refine lv_iload hx hb dL_cut_7 (lv_at hl 4 rfl) ?_
  refine lv_iload hx hb dL_cut_9 (lv_at hl 5 rfl) ?_
  refine x_wcall (As := [.int a1, .int a2, .int a3, .int a4, .int a5]) (rest := [.int 0, .ref (wad w 11 0)]) (Ea := xI) (Eb := xA) (Ec := xS) S hE hS hW (c_X5_cut l z hst w g gm o hO a1 a2 a3 a4 a5) (cwV 5 hts (gU_V tw_467 tw_468 tw_469 tw_1 tw_470) rfl rfl rfl (by decide +kernel) ⟨Nat.le_of_ble_eq_true rfl, Nat.le_of_ble_eq_true rfl⟩) rfl hl.1 rfl (Nat.le_of_ble_eq_true rfl) dL_cut_11 ⟨Nat.le_of_ble_eq_true rfl, Nat.le_of_ble_eq_true rfl⟩ (fun k ce q9 H locs hsp hk hW hS h1 h2 h3 => ?_) (fun r w9 g9 H locs hsp hs hW hS => ?_)
  · rcases hk with rfl | rfl | rfl
    · rw [show ex3 xI xA xS 1 = xI by decide +kernel] at h3
      refine vx_catch (own := RL) (name := xI) (E := xI) hown [] ⟨0, 16, 19, 13⟩ [⟨0, 16, 23, 15⟩, ⟨0, 16, 27, 21⟩] (hT.trans rfl) (fun u9 hz => by cases hz) rfl (by decide) (hts _ tw_94) (hE.nw (by decide +kernel)) h1 h2 h3 ?_
      refine lv_astore (lv' := [(7, .ref q9), (0, .ref (wad w 0 0)), (1, .int a1), (2, .int a2), (3, .int a3), (4, .int a4), (5, .int a5), (6, .ref (wad w 11 0))]) hx hb dL_cut_19 hl (by decide) rfl (fun ls hl => ?_)
      refine lv_iconst (v := 1) hx hb dL_cut_21 (by decide) ?_
      exact x_lret S hr hlocks hS hW (by rw [hsp]; rfl) wsm.rf (by rw [hsp]; rfl) (fun q => by rw [hsp] at q; exact absurd q (show ¬ (1 : Int32) = 0 by decide)) ⟨Nat.le_of_ble_eq_true rfl, Nat.le_of_ble_eq_true rfl⟩ dL_cut_22
    · rw [show ex3 xI xA xS 2 = xA by decide +kernel] at h3
      refine vx_catch (own := RL) (name := xA) (E := xA) hown [⟨0, 16, 19, 13⟩] ⟨0, 16, 23, 15⟩ [⟨0, 16, 27, 21⟩] (hT.trans rfl) (fun u9 hz => by simp only [List.mem_cons, List.not_mem_nil, or_false] at hz; rcases hz with rfl; exact Or.inr ⟨by decide, xI, hts _ tw_94, hE.nc (by decide +kernel)⟩) rfl (by decide) (hts _ tw_95) (hE.nw (by decide +kernel)) h1 h2 h3 ?_
      refine lv_astore (lv' := [(7, .ref q9), (0, .ref (wad w 0 0)), (1, .int a1), (2, .int a2), (3, .int a3), (4, .int a4), (5, .int a5), (6, .ref (wad w 11 0))]) hx hb dL_cut_23 hl (by decide) rfl (fun ls hl => ?_)
      refine lv_iconst (v := 2) hx hb dL_cut_25 (by decide) ?_
      exact x_lret S hr hlocks hS hW (by rw [hsp]; rfl) wsm.rf (by rw [hsp]; rfl) (fun q => by rw [hsp] at q; exact absurd q (show ¬ (2 : Int32) = 0 by decide)) ⟨Nat.le_of_ble_eq_true rfl, Nat.le_of_ble_eq_true rfl⟩ dL_cut_26
    · rw [show ex3 xI xA xS 3 = xS by decide +kernel] at h3
      refine vx_catch (own := RL) (name := xS) (E := xS) hown [⟨0, 16, 19, 13⟩, ⟨0, 16, 23, 15⟩] ⟨0, 16, 27, 21⟩ [] (hT.trans rfl) (fun u9 hz => by simp only [List.mem_cons, List.not_mem_nil, or_false] at hz; rcases hz with rfl | rfl <;> first | exact Or.inr ⟨by decide, xI, hts _ tw_94, hE.nc (by decide +kernel)⟩ | exact Or.inr ⟨by decide, xA, hts _ tw_95, hE.nc (by decide +kernel)⟩) rfl (by decide) (hts _ tw_190) (hE.nw (by decide +kernel)) h1 h2 h3 ?_
      refine lv_astore (lv' := [(7, .ref q9), (0, .ref (wad w 0 0)), (1, .int a1), (2, .int a2), (3, .int a3), (4, .int a4), (5, .int a5), (6, .ref (wad w 11 0))]) hx hb dL_cut_27 hl (by decide) rfl (fun ls hl => ?_)
      refine lv_iconst (v := 3) hx hb dL_cut_29 (by decide) ?_
      exact x_lret S hr hlocks hS hW (by rw [hsp]; rfl) wsm.rf (by rw [hsp]; rfl) (fun q => by rw [hsp] at q; exact absurd q (show ¬ (3 : Int32) = 0 by decide)) ⟨Nat.le_of_ble_eq_true rfl, Nat.le_of_ble_eq_true rfl⟩ dL_cut_30
  · refine lv_i2l (v := r.toInt64) hx hb dL_cut_14 rfl ?_
    refine g_last S hE hS (hs.2.2 ▸ hW.out) (hs.2.2 ▸ hW.2.2.1 11 0 rfl) (i := 0) (by unfold vp_in; decide) dL_cut_15 (fun H locs he oq z9 hS => ?_)
    replace hW := hW.uout (hs.2.2.symm ▸ he) (hs.2.2.symm ▸ oq)
    refine lv_goto (tgt := 31) hx hb dL_cut_16 (by decide) ?_
    refine lv_iconst (v := 0) hx hb dL_cut_31 (by decide) ?_
    exact x_lret S hr hlocks hS hW (by rw [hsp]) hs (by rw [hsp]) (fun _ => by rw [hsp]; rfl) ⟨Nat.le_of_ble_eq_true rfl, Nat.le_of_ble_eq_true rfl⟩ dL_cut_32
set_option maxHeartbeats 4000000 in
set_option maxRecDepth 100000 in
/-- the law's sharpen -/
theorem c_L_sharpen (l : Launch) (z : ZE) (hst : l.stackTraces = false) (w : WG) (g gm : GS) (o : Nat → Int64) (hO : OKg g) (a1 : Int32) : Met l yL_sharpen (.codeWith yL_sharpen cL_sharpen 4 (some .int) [(0, 9, 12, 13)] :: wU) ({ frames := 7, cells := 1, slots := 6, locals := 112 }) (PE z [.ref (wad w 0 0), .int a1, .ref (wad w 11 0)] (fun H => WW z w g gm o H)) (LQ z w gm o (sp_sharpen g a1)) 1 6 (zA z) := by
  refine va_MetW (cc := cL_sharpen) (maxL := 4) (ret := some .int) (hh := [(0, 9, 12, 13)]) (by decide) rfl ?_
  intro p e s m args below meth c s₁ BD hml hv
  obtain ⟨rfl, hE, hW⟩ := hv
  have hts : ∀ w ∈ wU, w.before _ s = true := fun w h => atoms_spec (ws := .codeWith yL_sharpen cL_sharpen 4 (some .int) [(0, 9, 12, 13)] :: wU) BD.pre w (List.mem_cons_of_mem _ h)
  have hT : c.exceptionTable.toList = tableOf [(0, 9, 12, 13)] := vx_table (x := yL_sharpen) BD (atoms_spec (ws := .codeWith yL_sharpen cL_sharpen 4 (some .int) [(0, 9, 12, 13)] :: wU) BD.pre _ List.mem_cons_self)
  have S : CallFix p m c cL_sharpen 4 s ([.ref (wad w 0 0), .int a1, .ref (wad w 11 0)] : List Value).toArray wU RL := ⟨BD.exec, BD.bytes, hml, findClass_of_methodNamed BD.named, hts⟩
  have hx := S.1
  have hb := S.2.1
  have hown := S.2.2.2.1
  have hr := BD.returns
  have hlocks := BD.notSynchronized
  have hS : va_S (zA z) s.heap s.heap [] := va_S.rf
  have hl := lv_entry ([.ref (wad w 0 0), .int a1, .ref (wad w 11 0)]) (n := 4) (Nat.le_of_ble_eq_true rfl)
  rw [lg_entry_eq]
  generalize (lg_sl ([.ref (wad w 0 0), .int a1, .ref (wad w 11 0)]) ++ List.replicate (4 - (lg_sl ([.ref (wad w 0 0), .int a1, .ref (wad w 11 0)])).length) Slot.unset).toArray = ls at hl ⊢
  have hl : lv_has ls 4 [(0, .ref (wad w 0 0)), (1, .int a1), (2, .ref (wad w 11 0))] := hl
  refine lv_aload_n hx hb dL_sharpen_0 rfl (lv_at hl 2 rfl) ?_
  refine lv_iconst (v := 0) hx hb dL_sharpen_1 (by decide) ?_
  refine lv_aload_n hx hb dL_sharpen_2 rfl (lv_at hl 0 rfl) ?_
  refine lv_iload_n hx hb dL_sharpen_3 rfl (lv_at hl 1 rfl) ?_
  refine x_wcall (As := [.int a1]) (rest := [.int 0, .ref (wad w 11 0)]) (Ea := xI) (Eb := xI) (Ec := xI) S hE hS hW (c_X5_sharpen l z hst w g gm o hO a1) (cwV 1 hts (gU_V tw_521 tw_522 tw_523 tw_1 tw_524) rfl rfl rfl (by decide +kernel) ⟨Nat.le_of_ble_eq_true rfl, Nat.le_of_ble_eq_true rfl⟩) rfl hl.1 rfl (Nat.le_of_ble_eq_true rfl) dL_sharpen_4 ⟨Nat.le_of_ble_eq_true rfl, Nat.le_of_ble_eq_true rfl⟩ (fun k ce q9 H locs hsp hk hW hS h1 h2 h3 => ?_) (fun r w9 g9 H locs hsp hs hW hS => ?_)
  · rcases hk with rfl | rfl | rfl
    · rw [show ex3 xI xI xI 1 = xI by decide +kernel] at h3
      refine vx_catch (own := RL) (name := xI) (E := xI) hown [] ⟨0, 9, 12, 13⟩ [] (hT.trans rfl) (fun u9 hz => by cases hz) rfl (by decide) (hts _ tw_94) (hE.nw (by decide +kernel)) h1 h2 h3 ?_
      refine lv_astore_n (lv' := [(3, .ref q9), (0, .ref (wad w 0 0)), (1, .int a1), (2, .ref (wad w 11 0))]) hx hb dL_sharpen_12 rfl hl (by decide) rfl (fun ls hl => ?_)
      refine lv_iconst (v := 1) hx hb dL_sharpen_13 (by decide) ?_
      exact x_lret S hr hlocks hS hW (by rw [hsp]; rfl) wsm.rf (by rw [hsp]; rfl) (fun q => by rw [hsp] at q; exact absurd q (show ¬ (1 : Int32) = 0 by decide)) ⟨Nat.le_of_ble_eq_true rfl, Nat.le_of_ble_eq_true rfl⟩ dL_sharpen_14
    · exact absurd hsp (nb_sharpen 2 (by decide) g a1)
    · exact absurd hsp (nb_sharpen 3 (by decide) g a1)
  · refine lv_i2l (v := r.toInt64) hx hb dL_sharpen_7 rfl ?_
    refine g_last S hE hS (hs.2.2 ▸ hW.out) (hs.2.2 ▸ hW.2.2.1 11 0 rfl) (i := 0) (by unfold vp_in; decide) dL_sharpen_8 (fun H locs he oq z9 hS => ?_)
    replace hW := hW.uout (hs.2.2.symm ▸ he) (hs.2.2.symm ▸ oq)
    refine lv_goto (tgt := 15) hx hb dL_sharpen_9 (by decide) ?_
    refine lv_iconst (v := 0) hx hb dL_sharpen_15 (by decide) ?_
    exact x_lret S hr hlocks hS hW (by rw [hsp]) hs (by rw [hsp]) (fun _ => by rw [hsp]; rfl) ⟨Nat.le_of_ble_eq_true rfl, Nat.le_of_ble_eq_true rfl⟩ dL_sharpen_16
set_option maxHeartbeats 4000000 in
set_option maxRecDepth 100000 in
/-- the law's clearFrom -/
theorem c_L_clearFrom (l : Launch) (z : ZE) (hst : l.stackTraces = false) (w : WG) (g gm : GS) (o : Nat → Int64) (hO : OKg g) (a1 a2 : Int32) : Met l yL_clearFrom (.codeWith yL_clearFrom cL_clearFrom 5 (some .int) [(0, 10, 13, 13), (0, 10, 17, 15)] :: wU) ({ frames := 8, cells := 1, slots := 6, locals := 181 }) (PE z [.ref (wad w 0 0), .int a1, .int a2, .ref (wad w 11 0)] (fun H => WW z w g gm o H)) (LQ z w gm o (sp_clearFrom g a1 a2)) 1 6 (zA z) := by
  refine va_MetW (cc := cL_clearFrom) (maxL := 5) (ret := some .int) (hh := [(0, 10, 13, 13), (0, 10, 17, 15)]) (by decide) rfl ?_
  intro p e s m args below meth c s₁ BD hml hv
  obtain ⟨rfl, hE, hW⟩ := hv
  have hts : ∀ w ∈ wU, w.before _ s = true := fun w h => atoms_spec (ws := .codeWith yL_clearFrom cL_clearFrom 5 (some .int) [(0, 10, 13, 13), (0, 10, 17, 15)] :: wU) BD.pre w (List.mem_cons_of_mem _ h)
  have hT : c.exceptionTable.toList = tableOf [(0, 10, 13, 13), (0, 10, 17, 15)] := vx_table (x := yL_clearFrom) BD (atoms_spec (ws := .codeWith yL_clearFrom cL_clearFrom 5 (some .int) [(0, 10, 13, 13), (0, 10, 17, 15)] :: wU) BD.pre _ List.mem_cons_self)
  have S : CallFix p m c cL_clearFrom 5 s ([.ref (wad w 0 0), .int a1, .int a2, .ref (wad w 11 0)] : List Value).toArray wU RL := ⟨BD.exec, BD.bytes, hml, findClass_of_methodNamed BD.named, hts⟩
  have hx := S.1
  have hb := S.2.1
  have hown := S.2.2.2.1
  have hr := BD.returns
  have hlocks := BD.notSynchronized
  have hS : va_S (zA z) s.heap s.heap [] := va_S.rf
  have hl := lv_entry ([.ref (wad w 0 0), .int a1, .int a2, .ref (wad w 11 0)]) (n := 5) (Nat.le_of_ble_eq_true rfl)
  rw [lg_entry_eq]
  generalize (lg_sl ([.ref (wad w 0 0), .int a1, .int a2, .ref (wad w 11 0)]) ++ List.replicate (5 - (lg_sl ([.ref (wad w 0 0), .int a1, .int a2, .ref (wad w 11 0)])).length) Slot.unset).toArray = ls at hl ⊢
  have hl : lv_has ls 5 [(0, .ref (wad w 0 0)), (1, .int a1), (2, .int a2), (3, .ref (wad w 11 0))] := hl
  refine lv_aload_n hx hb dL_clearFrom_0 rfl (lv_at hl 3 rfl) ?_
  refine lv_iconst (v := 0) hx hb dL_clearFrom_1 (by decide) ?_
  refine lv_aload_n hx hb dL_clearFrom_2 rfl (lv_at hl 0 rfl) ?_
  refine lv_iload_n hx hb dL_clearFrom_3 rfl (lv_at hl 1 rfl) ?_
  refine lv_iload_n hx hb dL_clearFrom_4 rfl (lv_at hl 2 rfl) ?_
  refine x_wcall (As := [.int a1, .int a2]) (rest := [.int 0, .ref (wad w 11 0)]) (Ea := xI) (Eb := xA) (Ec := xI) S hE hS hW (c_X5_clearFrom l z hst w g gm o hO a1 a2) (cwV 2 hts (gU_V tw_529 tw_530 tw_531 tw_1 tw_532) rfl rfl rfl (by decide +kernel) ⟨Nat.le_of_ble_eq_true rfl, Nat.le_of_ble_eq_true rfl⟩) rfl hl.1 rfl (Nat.le_of_ble_eq_true rfl) dL_clearFrom_5 ⟨Nat.le_of_ble_eq_true rfl, Nat.le_of_ble_eq_true rfl⟩ (fun k ce q9 H locs hsp hk hW hS h1 h2 h3 => ?_) (fun r w9 g9 H locs hsp hs hW hS => ?_)
  · rcases hk with rfl | rfl | rfl
    · rw [show ex3 xI xA xI 1 = xI by decide +kernel] at h3
      refine vx_catch (own := RL) (name := xI) (E := xI) hown [] ⟨0, 10, 13, 13⟩ [⟨0, 10, 17, 15⟩] (hT.trans rfl) (fun u9 hz => by cases hz) rfl (by decide) (hts _ tw_94) (hE.nw (by decide +kernel)) h1 h2 h3 ?_
      refine lv_astore (lv' := [(4, .ref q9), (0, .ref (wad w 0 0)), (1, .int a1), (2, .int a2), (3, .ref (wad w 11 0))]) hx hb dL_clearFrom_13 hl (by decide) rfl (fun ls hl => ?_)
      refine lv_iconst (v := 1) hx hb dL_clearFrom_15 (by decide) ?_
      exact x_lret S hr hlocks hS hW (by rw [hsp]; rfl) wsm.rf (by rw [hsp]; rfl) (fun q => by rw [hsp] at q; exact absurd q (show ¬ (1 : Int32) = 0 by decide)) ⟨Nat.le_of_ble_eq_true rfl, Nat.le_of_ble_eq_true rfl⟩ dL_clearFrom_16
    · rw [show ex3 xI xA xI 2 = xA by decide +kernel] at h3
      refine vx_catch (own := RL) (name := xA) (E := xA) hown [⟨0, 10, 13, 13⟩] ⟨0, 10, 17, 15⟩ [] (hT.trans rfl) (fun u9 hz => by simp only [List.mem_cons, List.not_mem_nil, or_false] at hz; rcases hz with rfl; exact Or.inr ⟨by decide, xI, hts _ tw_94, hE.nc (by decide +kernel)⟩) rfl (by decide) (hts _ tw_95) (hE.nw (by decide +kernel)) h1 h2 h3 ?_
      refine lv_astore (lv' := [(4, .ref q9), (0, .ref (wad w 0 0)), (1, .int a1), (2, .int a2), (3, .ref (wad w 11 0))]) hx hb dL_clearFrom_17 hl (by decide) rfl (fun ls hl => ?_)
      refine lv_iconst (v := 2) hx hb dL_clearFrom_19 (by decide) ?_
      exact x_lret S hr hlocks hS hW (by rw [hsp]; rfl) wsm.rf (by rw [hsp]; rfl) (fun q => by rw [hsp] at q; exact absurd q (show ¬ (2 : Int32) = 0 by decide)) ⟨Nat.le_of_ble_eq_true rfl, Nat.le_of_ble_eq_true rfl⟩ dL_clearFrom_20
    · exact absurd hsp (nb_clearFrom 3 (by decide) g a1 a2)
  · refine lv_i2l (v := r.toInt64) hx hb dL_clearFrom_8 rfl ?_
    refine g_last S hE hS (hs.2.2 ▸ hW.out) (hs.2.2 ▸ hW.2.2.1 11 0 rfl) (i := 0) (by unfold vp_in; decide) dL_clearFrom_9 (fun H locs he oq z9 hS => ?_)
    replace hW := hW.uout (hs.2.2.symm ▸ he) (hs.2.2.symm ▸ oq)
    refine lv_goto (tgt := 21) hx hb dL_clearFrom_10 (by decide) ?_
    refine lv_iconst (v := 0) hx hb dL_clearFrom_21 (by decide) ?_
    exact x_lret S hr hlocks hS hW (by rw [hsp]) hs (by rw [hsp]) (fun _ => by rw [hsp]; rfl) ⟨Nat.le_of_ble_eq_true rfl, Nat.le_of_ble_eq_true rfl⟩ dL_clearFrom_22
set_option maxHeartbeats 4000000 in
set_option maxRecDepth 100000 in
/-- the law's coat -/
theorem c_L_coat (l : Launch) (z : ZE) (hst : l.stackTraces = false) (w : WG) (g gm : GS) (o : Nat → Int64) (hO : OKg g) (a1 : Int32) : Met l yL_coat (.codeWith yL_coat cL_coat 4 (some .int) [(0, 9, 12, 13), (0, 9, 15, 21)] :: wU) ({ frames := 7, cells := 1, slots := 6, locals := 112 }) (PE z [.ref (wad w 0 0), .int a1, .ref (wad w 11 0)] (fun H => WW z w g gm o H)) (LQ z w gm o (sp_coat g a1)) 1 6 (zA z) := by
  refine va_MetW (cc := cL_coat) (maxL := 4) (ret := some .int) (hh := [(0, 9, 12, 13), (0, 9, 15, 21)]) (by decide) rfl ?_
  intro p e s m args below meth c s₁ BD hml hv
  obtain ⟨rfl, hE, hW⟩ := hv
  have hts : ∀ w ∈ wU, w.before _ s = true := fun w h => atoms_spec (ws := .codeWith yL_coat cL_coat 4 (some .int) [(0, 9, 12, 13), (0, 9, 15, 21)] :: wU) BD.pre w (List.mem_cons_of_mem _ h)
  have hT : c.exceptionTable.toList = tableOf [(0, 9, 12, 13), (0, 9, 15, 21)] := vx_table (x := yL_coat) BD (atoms_spec (ws := .codeWith yL_coat cL_coat 4 (some .int) [(0, 9, 12, 13), (0, 9, 15, 21)] :: wU) BD.pre _ List.mem_cons_self)
  have S : CallFix p m c cL_coat 4 s ([.ref (wad w 0 0), .int a1, .ref (wad w 11 0)] : List Value).toArray wU RL := ⟨BD.exec, BD.bytes, hml, findClass_of_methodNamed BD.named, hts⟩
  have hx := S.1
  have hb := S.2.1
  have hown := S.2.2.2.1
  have hr := BD.returns
  have hlocks := BD.notSynchronized
  have hS : va_S (zA z) s.heap s.heap [] := va_S.rf
  have hl := lv_entry ([.ref (wad w 0 0), .int a1, .ref (wad w 11 0)]) (n := 4) (Nat.le_of_ble_eq_true rfl)
  rw [lg_entry_eq]
  generalize (lg_sl ([.ref (wad w 0 0), .int a1, .ref (wad w 11 0)]) ++ List.replicate (4 - (lg_sl ([.ref (wad w 0 0), .int a1, .ref (wad w 11 0)])).length) Slot.unset).toArray = ls at hl ⊢
  have hl : lv_has ls 4 [(0, .ref (wad w 0 0)), (1, .int a1), (2, .ref (wad w 11 0))] := hl
  refine lv_aload_n hx hb dL_coat_0 rfl (lv_at hl 2 rfl) ?_
  refine lv_iconst (v := 0) hx hb dL_coat_1 (by decide) ?_
  refine lv_aload_n hx hb dL_coat_2 rfl (lv_at hl 0 rfl) ?_
  refine lv_iload_n hx hb dL_coat_3 rfl (lv_at hl 1 rfl) ?_
  refine x_wcall (As := [.int a1]) (rest := [.int 0, .ref (wad w 11 0)]) (Ea := xI) (Eb := xS) (Ec := xI) S hE hS hW (c_X5_coat l z hst w g gm o hO a1) (cwV 1 hts (gU_V tw_545 tw_546 tw_547 tw_1 tw_548) rfl rfl rfl (by decide +kernel) ⟨Nat.le_of_ble_eq_true rfl, Nat.le_of_ble_eq_true rfl⟩) rfl hl.1 rfl (Nat.le_of_ble_eq_true rfl) dL_coat_4 ⟨Nat.le_of_ble_eq_true rfl, Nat.le_of_ble_eq_true rfl⟩ (fun k ce q9 H locs hsp hk hW hS h1 h2 h3 => ?_) (fun r w9 g9 H locs hsp hs hW hS => ?_)
  · rcases hk with rfl | rfl | rfl
    · rw [show ex3 xI xS xI 1 = xI by decide +kernel] at h3
      refine vx_catch (own := RL) (name := xI) (E := xI) hown [] ⟨0, 9, 12, 13⟩ [⟨0, 9, 15, 21⟩] (hT.trans rfl) (fun u9 hz => by cases hz) rfl (by decide) (hts _ tw_94) (hE.nw (by decide +kernel)) h1 h2 h3 ?_
      refine lv_astore_n (lv' := [(3, .ref q9), (0, .ref (wad w 0 0)), (1, .int a1), (2, .ref (wad w 11 0))]) hx hb dL_coat_12 rfl hl (by decide) rfl (fun ls hl => ?_)
      refine lv_iconst (v := 1) hx hb dL_coat_13 (by decide) ?_
      exact x_lret S hr hlocks hS hW (by rw [hsp]; rfl) wsm.rf (by rw [hsp]; rfl) (fun q => by rw [hsp] at q; exact absurd q (show ¬ (1 : Int32) = 0 by decide)) ⟨Nat.le_of_ble_eq_true rfl, Nat.le_of_ble_eq_true rfl⟩ dL_coat_14
    · rw [show ex3 xI xS xI 2 = xS by decide +kernel] at h3
      refine vx_catch (own := RL) (name := xS) (E := xS) hown [⟨0, 9, 12, 13⟩] ⟨0, 9, 15, 21⟩ [] (hT.trans rfl) (fun u9 hz => by simp only [List.mem_cons, List.not_mem_nil, or_false] at hz; rcases hz with rfl; exact Or.inr ⟨by decide, xI, hts _ tw_94, hE.nc (by decide +kernel)⟩) rfl (by decide) (hts _ tw_190) (hE.nw (by decide +kernel)) h1 h2 h3 ?_
      refine lv_astore_n (lv' := [(3, .ref q9), (0, .ref (wad w 0 0)), (1, .int a1), (2, .ref (wad w 11 0))]) hx hb dL_coat_15 rfl hl (by decide) rfl (fun ls hl => ?_)
      refine lv_iconst (v := 2) hx hb dL_coat_16 (by decide) ?_
      exact x_lret S hr hlocks hS hW (by rw [hsp]; rfl) wsm.rf (by rw [hsp]; rfl) (fun q => by rw [hsp] at q; exact absurd q (show ¬ (2 : Int32) = 0 by decide)) ⟨Nat.le_of_ble_eq_true rfl, Nat.le_of_ble_eq_true rfl⟩ dL_coat_17
    · exact absurd hsp (nb_coat 3 (by decide) g a1)
  · refine lv_i2l (v := r.toInt64) hx hb dL_coat_7 rfl ?_
    refine g_last S hE hS (hs.2.2 ▸ hW.out) (hs.2.2 ▸ hW.2.2.1 11 0 rfl) (i := 0) (by unfold vp_in; decide) dL_coat_8 (fun H locs he oq z9 hS => ?_)
    replace hW := hW.uout (hs.2.2.symm ▸ he) (hs.2.2.symm ▸ oq)
    refine lv_goto (tgt := 18) hx hb dL_coat_9 (by decide) ?_
    refine lv_iconst (v := 0) hx hb dL_coat_18 (by decide) ?_
    exact x_lret S hr hlocks hS hW (by rw [hsp]) hs (by rw [hsp]) (fun _ => by rw [hsp]; rfl) ⟨Nat.le_of_ble_eq_true rfl, Nat.le_of_ble_eq_true rfl⟩ dL_coat_19
set_option maxHeartbeats 4000000 in
set_option maxRecDepth 100000 in
/-- the law's match -/
theorem c_L_match (l : Launch) (z : ZE) (hst : l.stackTraces = false) (w : WG) (g gm : GS) (o : Nat → Int64) (hO : OKg g) (a1 a2 : Int32) : Met l yL_match (.codeWith yL_match cL_match 5 (some .int) [(0, 10, 13, 13), (0, 10, 17, 15)] :: wU) ({ frames := 7, cells := 1, slots := 6, locals := 114 }) (PE z [.ref (wad w 0 0), .int a1, .int a2, .ref (wad w 11 0)] (fun H => WW z w g gm o H)) (LQ z w gm o (sp_match g a1 a2)) 1 6 (zA z) := by
  refine va_MetW (cc := cL_match) (maxL := 5) (ret := some .int) (hh := [(0, 10, 13, 13), (0, 10, 17, 15)]) (by decide) rfl ?_
  intro p e s m args below meth c s₁ BD hml hv
  obtain ⟨rfl, hE, hW⟩ := hv
  have hts : ∀ w ∈ wU, w.before _ s = true := fun w h => atoms_spec (ws := .codeWith yL_match cL_match 5 (some .int) [(0, 10, 13, 13), (0, 10, 17, 15)] :: wU) BD.pre w (List.mem_cons_of_mem _ h)
  have hT : c.exceptionTable.toList = tableOf [(0, 10, 13, 13), (0, 10, 17, 15)] := vx_table (x := yL_match) BD (atoms_spec (ws := .codeWith yL_match cL_match 5 (some .int) [(0, 10, 13, 13), (0, 10, 17, 15)] :: wU) BD.pre _ List.mem_cons_self)
  have S : CallFix p m c cL_match 5 s ([.ref (wad w 0 0), .int a1, .int a2, .ref (wad w 11 0)] : List Value).toArray wU RL := ⟨BD.exec, BD.bytes, hml, findClass_of_methodNamed BD.named, hts⟩
  have hx := S.1
  have hb := S.2.1
  have hown := S.2.2.2.1
  have hr := BD.returns
  have hlocks := BD.notSynchronized
  have hS : va_S (zA z) s.heap s.heap [] := va_S.rf
  have hl := lv_entry ([.ref (wad w 0 0), .int a1, .int a2, .ref (wad w 11 0)]) (n := 5) (Nat.le_of_ble_eq_true rfl)
  rw [lg_entry_eq]
  generalize (lg_sl ([.ref (wad w 0 0), .int a1, .int a2, .ref (wad w 11 0)]) ++ List.replicate (5 - (lg_sl ([.ref (wad w 0 0), .int a1, .int a2, .ref (wad w 11 0)])).length) Slot.unset).toArray = ls at hl ⊢
  have hl : lv_has ls 5 [(0, .ref (wad w 0 0)), (1, .int a1), (2, .int a2), (3, .ref (wad w 11 0))] := hl
  refine lv_aload_n hx hb dL_match_0 rfl (lv_at hl 3 rfl) ?_
  refine lv_iconst (v := 0) hx hb dL_match_1 (by decide) ?_
  refine lv_aload_n hx hb dL_match_2 rfl (lv_at hl 0 rfl) ?_
  refine lv_iload_n hx hb dL_match_3 rfl (lv_at hl 1 rfl) ?_
  refine lv_iload_n hx hb dL_match_4 rfl (lv_at hl 2 rfl) ?_
  refine x_wcall (As := [.int a1, .int a2]) (rest := [.int 0, .ref (wad w 11 0)]) (Ea := xI) (Eb := xA) (Ec := xI) S hE hS hW (c_X5_match l z hst w g gm o hO a1 a2) (cwV 2 hts (gU_V tw_558 tw_559 tw_560 tw_1 tw_561) rfl rfl rfl (by decide +kernel) ⟨Nat.le_of_ble_eq_true rfl, Nat.le_of_ble_eq_true rfl⟩) rfl hl.1 rfl (Nat.le_of_ble_eq_true rfl) dL_match_5 ⟨Nat.le_of_ble_eq_true rfl, Nat.le_of_ble_eq_true rfl⟩ (fun k ce q9 H locs hsp hk hW hS h1 h2 h3 => ?_) (fun r w9 g9 H locs hsp hs hW hS => ?_)
  · rcases hk with rfl | rfl | rfl
    · rw [show ex3 xI xA xI 1 = xI by decide +kernel] at h3
      refine vx_catch (own := RL) (name := xI) (E := xI) hown [] ⟨0, 10, 13, 13⟩ [⟨0, 10, 17, 15⟩] (hT.trans rfl) (fun u9 hz => by cases hz) rfl (by decide) (hts _ tw_94) (hE.nw (by decide +kernel)) h1 h2 h3 ?_
      refine lv_astore (lv' := [(4, .ref q9), (0, .ref (wad w 0 0)), (1, .int a1), (2, .int a2), (3, .ref (wad w 11 0))]) hx hb dL_match_13 hl (by decide) rfl (fun ls hl => ?_)
      refine lv_iconst (v := 1) hx hb dL_match_15 (by decide) ?_
      exact x_lret S hr hlocks hS hW (by rw [hsp]; rfl) wsm.rf (by rw [hsp]; rfl) (fun q => by rw [hsp] at q; exact absurd q (show ¬ (1 : Int32) = 0 by decide)) ⟨Nat.le_of_ble_eq_true rfl, Nat.le_of_ble_eq_true rfl⟩ dL_match_16
    · rw [show ex3 xI xA xI 2 = xA by decide +kernel] at h3
      refine vx_catch (own := RL) (name := xA) (E := xA) hown [⟨0, 10, 13, 13⟩] ⟨0, 10, 17, 15⟩ [] (hT.trans rfl) (fun u9 hz => by simp only [List.mem_cons, List.not_mem_nil, or_false] at hz; rcases hz with rfl; exact Or.inr ⟨by decide, xI, hts _ tw_94, hE.nc (by decide +kernel)⟩) rfl (by decide) (hts _ tw_95) (hE.nw (by decide +kernel)) h1 h2 h3 ?_
      refine lv_astore (lv' := [(4, .ref q9), (0, .ref (wad w 0 0)), (1, .int a1), (2, .int a2), (3, .ref (wad w 11 0))]) hx hb dL_match_17 hl (by decide) rfl (fun ls hl => ?_)
      refine lv_iconst (v := 2) hx hb dL_match_19 (by decide) ?_
      exact x_lret S hr hlocks hS hW (by rw [hsp]; rfl) wsm.rf (by rw [hsp]; rfl) (fun q => by rw [hsp] at q; exact absurd q (show ¬ (2 : Int32) = 0 by decide)) ⟨Nat.le_of_ble_eq_true rfl, Nat.le_of_ble_eq_true rfl⟩ dL_match_20
    · exact absurd hsp (nb_match 3 (by decide) g a1 a2)
  · refine lv_i2l (v := r.toInt64) hx hb dL_match_8 rfl ?_
    refine g_last S hE hS (hs.2.2 ▸ hW.out) (hs.2.2 ▸ hW.2.2.1 11 0 rfl) (i := 0) (by unfold vp_in; decide) dL_match_9 (fun H locs he oq z9 hS => ?_)
    replace hW := hW.uout (hs.2.2.symm ▸ he) (hs.2.2.symm ▸ oq)
    refine lv_goto (tgt := 21) hx hb dL_match_10 (by decide) ?_
    refine lv_iconst (v := 0) hx hb dL_match_21 (by decide) ?_
    exact x_lret S hr hlocks hS hW (by rw [hsp]) hs (by rw [hsp]) (fun _ => by rw [hsp]; rfl) ⟨Nat.le_of_ble_eq_true rfl, Nat.le_of_ble_eq_true rfl⟩ dL_match_22
set_option maxHeartbeats 4000000 in
set_option maxRecDepth 100000 in
/-- the law's joint -/
theorem c_L_joint (l : Launch) (z : ZE) (hst : l.stackTraces = false) (w : WG) (g gm : GS) (o : Nat → Int64) (hO : OKg g) (a1 a2 a3 a4 a5 : Int32) : Met l yL_joint (.codeWith yL_joint cL_joint 8 (some .int) [(0, 16, 19, 13), (0, 16, 23, 15), (0, 16, 27, 21)] :: wU) ({ frames := 8, cells := 2, slots := 109, locals := 220 }) (PE z [.ref (wad w 0 0), .int a1, .int a2, .int a3, .int a4, .int a5, .ref (wad w 11 0)] (fun H => WW z w g gm o H)) (LQ z w gm o (sp_joint g a1 a2 a3 a4 a5)) 2 109 (zA z) := by
  refine va_MetW (cc := cL_joint) (maxL := 8) (ret := some .int) (hh := [(0, 16, 19, 13), (0, 16, 23, 15), (0, 16, 27, 21)]) (by decide) rfl ?_
  intro p e s m args below meth c s₁ BD hml hv
  obtain ⟨rfl, hE, hW⟩ := hv
  have hts : ∀ w ∈ wU, w.before _ s = true := fun w h => atoms_spec (ws := .codeWith yL_joint cL_joint 8 (some .int) [(0, 16, 19, 13), (0, 16, 23, 15), (0, 16, 27, 21)] :: wU) BD.pre w (List.mem_cons_of_mem _ h)
  have hT : c.exceptionTable.toList = tableOf [(0, 16, 19, 13), (0, 16, 23, 15), (0, 16, 27, 21)] := vx_table (x := yL_joint) BD (atoms_spec (ws := .codeWith yL_joint cL_joint 8 (some .int) [(0, 16, 19, 13), (0, 16, 23, 15), (0, 16, 27, 21)] :: wU) BD.pre _ List.mem_cons_self)
  have S : CallFix p m c cL_joint 8 s ([.ref (wad w 0 0), .int a1, .int a2, .int a3, .int a4, .int a5, .ref (wad w 11 0)] : List Value).toArray wU RL := ⟨BD.exec, BD.bytes, hml, findClass_of_methodNamed BD.named, hts⟩
  have hx := S.1
  have hb := S.2.1
  have hown := S.2.2.2.1
  have hr := BD.returns
  have hlocks := BD.notSynchronized
  have hS : va_S (zA z) s.heap s.heap [] := va_S.rf
  have hl := lv_entry ([.ref (wad w 0 0), .int a1, .int a2, .int a3, .int a4, .int a5, .ref (wad w 11 0)]) (n := 8) (Nat.le_of_ble_eq_true rfl)
  rw [lg_entry_eq]
  generalize (lg_sl ([.ref (wad w 0 0), .int a1, .int a2, .int a3, .int a4, .int a5, .ref (wad w 11 0)]) ++ List.replicate (8 - (lg_sl ([.ref (wad w 0 0), .int a1, .int a2, .int a3, .int a4, .int a5, .ref (wad w 11 0)])).length) Slot.unset).toArray = ls at hl ⊢
  have hl : lv_has ls 8 [(0, .ref (wad w 0 0)), (1, .int a1), (2, .int a2), (3, .int a3), (4, .int a4), (5, .int a5), (6, .ref (wad w 11 0))] := hl
  refine lv_aload hx hb dL_joint_0 (lv_at hl 6 rfl) ?_
  refine lv_iconst (v := 0) hx hb dL_joint_2 (by decide) ?_
  refine lv_aload_n hx hb dL_joint_3 rfl (lv_at hl 0 rfl) ?_
  refine lv_iload_n hx hb dL_joint_4 rfl (lv_at hl 1 rfl) ?_
  refine lv_iload_n hx hb dL_joint_5 rfl (lv_at hl 2 rfl) ?_
  refine lv_iload_n hx hb dL_joint_6 rfl (lv_at hl 3 rfl) ?_
  refine lv_iload hx hb dL_joint_7 (lv_at hl 4 rfl) ?_
  refine lv_iload hx hb dL_joint_9 (lv_at hl 5 rfl) ?_
  refine x_wcall (As := [.int a1, .int a2, .int a3, .int a4, .int a5]) (rest := [.int 0, .ref (wad w 11 0)]) (Ea := xI) (Eb := xA) (Ec := xS) S hE hS hW (c_X5_joint l z hst w g gm o hO a1 a2 a3 a4 a5) (cwV 5 hts (gU_V tw_567 tw_568 tw_569 tw_1 tw_570) rfl rfl rfl (by decide +kernel) ⟨Nat.le_of_ble_eq_true rfl, Nat.le_of_ble_eq_true rfl⟩) rfl hl.1 rfl (Nat.le_of_ble_eq_true rfl) dL_joint_11 ⟨Nat.le_of_ble_eq_true rfl, Nat.le_of_ble_eq_true rfl⟩ (fun k ce q9 H locs hsp hk hW hS h1 h2 h3 => ?_) (fun r w9 g9 H locs hsp hs hW hS => ?_)
  · rcases hk with rfl | rfl | rfl
    · rw [show ex3 xI xA xS 1 = xI by decide +kernel] at h3
      refine vx_catch (own := RL) (name := xI) (E := xI) hown [] ⟨0, 16, 19, 13⟩ [⟨0, 16, 23, 15⟩, ⟨0, 16, 27, 21⟩] (hT.trans rfl) (fun u9 hz => by cases hz) rfl (by decide) (hts _ tw_94) (hE.nw (by decide +kernel)) h1 h2 h3 ?_
      refine lv_astore (lv' := [(7, .ref q9), (0, .ref (wad w 0 0)), (1, .int a1), (2, .int a2), (3, .int a3), (4, .int a4), (5, .int a5), (6, .ref (wad w 11 0))]) hx hb dL_joint_19 hl (by decide) rfl (fun ls hl => ?_)
      refine lv_iconst (v := 1) hx hb dL_joint_21 (by decide) ?_
      exact x_lret S hr hlocks hS hW (by rw [hsp]; rfl) wsm.rf (by rw [hsp]; rfl) (fun q => by rw [hsp] at q; exact absurd q (show ¬ (1 : Int32) = 0 by decide)) ⟨Nat.le_of_ble_eq_true rfl, Nat.le_of_ble_eq_true rfl⟩ dL_joint_22
    · rw [show ex3 xI xA xS 2 = xA by decide +kernel] at h3
      refine vx_catch (own := RL) (name := xA) (E := xA) hown [⟨0, 16, 19, 13⟩] ⟨0, 16, 23, 15⟩ [⟨0, 16, 27, 21⟩] (hT.trans rfl) (fun u9 hz => by simp only [List.mem_cons, List.not_mem_nil, or_false] at hz; rcases hz with rfl; exact Or.inr ⟨by decide, xI, hts _ tw_94, hE.nc (by decide +kernel)⟩) rfl (by decide) (hts _ tw_95) (hE.nw (by decide +kernel)) h1 h2 h3 ?_
      refine lv_astore (lv' := [(7, .ref q9), (0, .ref (wad w 0 0)), (1, .int a1), (2, .int a2), (3, .int a3), (4, .int a4), (5, .int a5), (6, .ref (wad w 11 0))]) hx hb dL_joint_23 hl (by decide) rfl (fun ls hl => ?_)
      refine lv_iconst (v := 2) hx hb dL_joint_25 (by decide) ?_
      exact x_lret S hr hlocks hS hW (by rw [hsp]; rfl) wsm.rf (by rw [hsp]; rfl) (fun q => by rw [hsp] at q; exact absurd q (show ¬ (2 : Int32) = 0 by decide)) ⟨Nat.le_of_ble_eq_true rfl, Nat.le_of_ble_eq_true rfl⟩ dL_joint_26
    · rw [show ex3 xI xA xS 3 = xS by decide +kernel] at h3
      refine vx_catch (own := RL) (name := xS) (E := xS) hown [⟨0, 16, 19, 13⟩, ⟨0, 16, 23, 15⟩] ⟨0, 16, 27, 21⟩ [] (hT.trans rfl) (fun u9 hz => by simp only [List.mem_cons, List.not_mem_nil, or_false] at hz; rcases hz with rfl | rfl <;> first | exact Or.inr ⟨by decide, xI, hts _ tw_94, hE.nc (by decide +kernel)⟩ | exact Or.inr ⟨by decide, xA, hts _ tw_95, hE.nc (by decide +kernel)⟩) rfl (by decide) (hts _ tw_190) (hE.nw (by decide +kernel)) h1 h2 h3 ?_
      refine lv_astore (lv' := [(7, .ref q9), (0, .ref (wad w 0 0)), (1, .int a1), (2, .int a2), (3, .int a3), (4, .int a4), (5, .int a5), (6, .ref (wad w 11 0))]) hx hb dL_joint_27 hl (by decide) rfl (fun ls hl => ?_)
      refine lv_iconst (v := 3) hx hb dL_joint_29 (by decide) ?_
      exact x_lret S hr hlocks hS hW (by rw [hsp]; rfl) wsm.rf (by rw [hsp]; rfl) (fun q => by rw [hsp] at q; exact absurd q (show ¬ (3 : Int32) = 0 by decide)) ⟨Nat.le_of_ble_eq_true rfl, Nat.le_of_ble_eq_true rfl⟩ dL_joint_30
  · refine lv_i2l (v := r.toInt64) hx hb dL_joint_14 rfl ?_
    refine g_last S hE hS (hs.2.2 ▸ hW.out) (hs.2.2 ▸ hW.2.2.1 11 0 rfl) (i := 0) (by unfold vp_in; decide) dL_joint_15 (fun H locs he oq z9 hS => ?_)
    replace hW := hW.uout (hs.2.2.symm ▸ he) (hs.2.2.symm ▸ oq)
    refine lv_goto (tgt := 31) hx hb dL_joint_16 (by decide) ?_
    refine lv_iconst (v := 0) hx hb dL_joint_31 (by decide) ?_
    exact x_lret S hr hlocks hS hW (by rw [hsp]) hs (by rw [hsp]) (fun _ => by rw [hsp]; rfl) ⟨Nat.le_of_ble_eq_true rfl, Nat.le_of_ble_eq_true rfl⟩ dL_joint_32
set_option maxHeartbeats 4000000 in
set_option maxRecDepth 100000 in
/-- the law's need -/
theorem c_L_need (l : Launch) (z : ZE) (hst : l.stackTraces = false) (w : WG) (g gm : GS) (o : Nat → Int64) (hO : OKg g) (a1 a2 : Int32) : Met l yL_need (.codeWith yL_need cL_need 5 (some .int) [(0, 10, 13, 13), (0, 10, 17, 15), (0, 10, 21, 21)] :: wU) ({ frames := 7, cells := 1, slots := 6, locals := 113 }) (PE z [.ref (wad w 0 0), .int a1, .int a2, .ref (wad w 11 0)] (fun H => WW z w g gm o H)) (LQ z w gm o (sp_need g a1 a2)) 1 6 (zA z) := by
  refine va_MetW (cc := cL_need) (maxL := 5) (ret := some .int) (hh := [(0, 10, 13, 13), (0, 10, 17, 15), (0, 10, 21, 21)]) (by decide) rfl ?_
  intro p e s m args below meth c s₁ BD hml hv
  obtain ⟨rfl, hE, hW⟩ := hv
  have hts : ∀ w ∈ wU, w.before _ s = true := fun w h => atoms_spec (ws := .codeWith yL_need cL_need 5 (some .int) [(0, 10, 13, 13), (0, 10, 17, 15), (0, 10, 21, 21)] :: wU) BD.pre w (List.mem_cons_of_mem _ h)
  have hT : c.exceptionTable.toList = tableOf [(0, 10, 13, 13), (0, 10, 17, 15), (0, 10, 21, 21)] := vx_table (x := yL_need) BD (atoms_spec (ws := .codeWith yL_need cL_need 5 (some .int) [(0, 10, 13, 13), (0, 10, 17, 15), (0, 10, 21, 21)] :: wU) BD.pre _ List.mem_cons_self)
  have S : CallFix p m c cL_need 5 s ([.ref (wad w 0 0), .int a1, .int a2, .ref (wad w 11 0)] : List Value).toArray wU RL := ⟨BD.exec, BD.bytes, hml, findClass_of_methodNamed BD.named, hts⟩
  have hx := S.1
  have hb := S.2.1
  have hown := S.2.2.2.1
  have hr := BD.returns
  have hlocks := BD.notSynchronized
  have hS : va_S (zA z) s.heap s.heap [] := va_S.rf
  have hl := lv_entry ([.ref (wad w 0 0), .int a1, .int a2, .ref (wad w 11 0)]) (n := 5) (Nat.le_of_ble_eq_true rfl)
  rw [lg_entry_eq]
  generalize (lg_sl ([.ref (wad w 0 0), .int a1, .int a2, .ref (wad w 11 0)]) ++ List.replicate (5 - (lg_sl ([.ref (wad w 0 0), .int a1, .int a2, .ref (wad w 11 0)])).length) Slot.unset).toArray = ls at hl ⊢
  have hl : lv_has ls 5 [(0, .ref (wad w 0 0)), (1, .int a1), (2, .int a2), (3, .ref (wad w 11 0))] := hl
  refine lv_aload_n hx hb dL_need_0 rfl (lv_at hl 3 rfl) ?_
  refine lv_iconst (v := 0) hx hb dL_need_1 (by decide) ?_
  refine lv_aload_n hx hb dL_need_2 rfl (lv_at hl 0 rfl) ?_
  refine lv_iload_n hx hb dL_need_3 rfl (lv_at hl 1 rfl) ?_
  refine lv_iload_n hx hb dL_need_4 rfl (lv_at hl 2 rfl) ?_
  refine x_wcall (As := [.int a1, .int a2]) (rest := [.int 0, .ref (wad w 11 0)]) (Ea := xI) (Eb := xA) (Ec := xS) S hE hS hW (c_X5_need l z hst w g gm o hO a1 a2) (cwV 2 hts (gU_V tw_628 tw_629 tw_630 tw_1 tw_631) rfl rfl rfl (by decide +kernel) ⟨Nat.le_of_ble_eq_true rfl, Nat.le_of_ble_eq_true rfl⟩) rfl hl.1 rfl (Nat.le_of_ble_eq_true rfl) dL_need_5 ⟨Nat.le_of_ble_eq_true rfl, Nat.le_of_ble_eq_true rfl⟩ (fun k ce q9 H locs hsp hk hW hS h1 h2 h3 => ?_) (fun r w9 g9 H locs hsp hs hW hS => ?_)
  · rcases hk with rfl | rfl | rfl
    · rw [show ex3 xI xA xS 1 = xI by decide +kernel] at h3
      refine vx_catch (own := RL) (name := xI) (E := xI) hown [] ⟨0, 10, 13, 13⟩ [⟨0, 10, 17, 15⟩, ⟨0, 10, 21, 21⟩] (hT.trans rfl) (fun u9 hz => by cases hz) rfl (by decide) (hts _ tw_94) (hE.nw (by decide +kernel)) h1 h2 h3 ?_
      refine lv_astore (lv' := [(4, .ref q9), (0, .ref (wad w 0 0)), (1, .int a1), (2, .int a2), (3, .ref (wad w 11 0))]) hx hb dL_need_13 hl (by decide) rfl (fun ls hl => ?_)
      refine lv_iconst (v := 1) hx hb dL_need_15 (by decide) ?_
      exact x_lret S hr hlocks hS hW (by rw [hsp]; rfl) wsm.rf (by rw [hsp]; rfl) (fun q => by rw [hsp] at q; exact absurd q (show ¬ (1 : Int32) = 0 by decide)) ⟨Nat.le_of_ble_eq_true rfl, Nat.le_of_ble_eq_true rfl⟩ dL_need_16
    · rw [show ex3 xI xA xS 2 = xA by decide +kernel] at h3
      refine vx_catch (own := RL) (name := xA) (E := xA) hown [⟨0, 10, 13, 13⟩] ⟨0, 10, 17, 15⟩ [⟨0, 10, 21, 21⟩] (hT.trans rfl) (fun u9 hz => by simp only [List.mem_cons, List.not_mem_nil, or_false] at hz; rcases hz with rfl; exact Or.inr ⟨by decide, xI, hts _ tw_94, hE.nc (by decide +kernel)⟩) rfl (by decide) (hts _ tw_95) (hE.nw (by decide +kernel)) h1 h2 h3 ?_
      refine lv_astore (lv' := [(4, .ref q9), (0, .ref (wad w 0 0)), (1, .int a1), (2, .int a2), (3, .ref (wad w 11 0))]) hx hb dL_need_17 hl (by decide) rfl (fun ls hl => ?_)
      refine lv_iconst (v := 2) hx hb dL_need_19 (by decide) ?_
      exact x_lret S hr hlocks hS hW (by rw [hsp]; rfl) wsm.rf (by rw [hsp]; rfl) (fun q => by rw [hsp] at q; exact absurd q (show ¬ (2 : Int32) = 0 by decide)) ⟨Nat.le_of_ble_eq_true rfl, Nat.le_of_ble_eq_true rfl⟩ dL_need_20
    · rw [show ex3 xI xA xS 3 = xS by decide +kernel] at h3
      refine vx_catch (own := RL) (name := xS) (E := xS) hown [⟨0, 10, 13, 13⟩, ⟨0, 10, 17, 15⟩] ⟨0, 10, 21, 21⟩ [] (hT.trans rfl) (fun u9 hz => by simp only [List.mem_cons, List.not_mem_nil, or_false] at hz; rcases hz with rfl | rfl <;> first | exact Or.inr ⟨by decide, xI, hts _ tw_94, hE.nc (by decide +kernel)⟩ | exact Or.inr ⟨by decide, xA, hts _ tw_95, hE.nc (by decide +kernel)⟩) rfl (by decide) (hts _ tw_190) (hE.nw (by decide +kernel)) h1 h2 h3 ?_
      refine lv_astore (lv' := [(4, .ref q9), (0, .ref (wad w 0 0)), (1, .int a1), (2, .int a2), (3, .ref (wad w 11 0))]) hx hb dL_need_21 hl (by decide) rfl (fun ls hl => ?_)
      refine lv_iconst (v := 3) hx hb dL_need_23 (by decide) ?_
      exact x_lret S hr hlocks hS hW (by rw [hsp]; rfl) wsm.rf (by rw [hsp]; rfl) (fun q => by rw [hsp] at q; exact absurd q (show ¬ (3 : Int32) = 0 by decide)) ⟨Nat.le_of_ble_eq_true rfl, Nat.le_of_ble_eq_true rfl⟩ dL_need_24
  · refine lv_i2l (v := r.toInt64) hx hb dL_need_8 rfl ?_
    refine g_last S hE hS (hs.2.2 ▸ hW.out) (hs.2.2 ▸ hW.2.2.1 11 0 rfl) (i := 0) (by unfold vp_in; decide) dL_need_9 (fun H locs he oq z9 hS => ?_)
    replace hW := hW.uout (hs.2.2.symm ▸ he) (hs.2.2.symm ▸ oq)
    refine lv_goto (tgt := 25) hx hb dL_need_10 (by decide) ?_
    refine lv_iconst (v := 0) hx hb dL_need_25 (by decide) ?_
    exact x_lret S hr hlocks hS hW (by rw [hsp]) hs (by rw [hsp]) (fun _ => by rw [hsp]; rfl) ⟨Nat.le_of_ble_eq_true rfl, Nat.le_of_ble_eq_true rfl⟩ dL_need_26
set_option maxHeartbeats 4000000 in
set_option maxRecDepth 100000 in
/-- the law's clamps -/
theorem c_L_clamps (l : Launch) (z : ZE) (hst : l.stackTraces = false) (w : WG) (g gm : GS) (o : Nat → Int64) (hO : OKg g) (a1 : Int32) : Met l yL_clamps (.codeWith yL_clamps cL_clamps 4 (some .int) [(0, 9, 12, 15)] :: wU) ({ frames := 7, cells := 1, slots := 6, locals := 112 }) (PE z [.ref (wad w 0 0), .int a1, .ref (wad w 11 0)] (fun H => WW z w g gm o H)) (LQ z w gm o (sp_clamps g a1)) 1 6 (zA z) := by
  refine va_MetW (cc := cL_clamps) (maxL := 4) (ret := some .int) (hh := [(0, 9, 12, 15)]) (by decide) rfl ?_
  intro p e s m args below meth c s₁ BD hml hv
  obtain ⟨rfl, hE, hW⟩ := hv
  have hts : ∀ w ∈ wU, w.before _ s = true := fun w h => atoms_spec (ws := .codeWith yL_clamps cL_clamps 4 (some .int) [(0, 9, 12, 15)] :: wU) BD.pre w (List.mem_cons_of_mem _ h)
  have hT : c.exceptionTable.toList = tableOf [(0, 9, 12, 15)] := vx_table (x := yL_clamps) BD (atoms_spec (ws := .codeWith yL_clamps cL_clamps 4 (some .int) [(0, 9, 12, 15)] :: wU) BD.pre _ List.mem_cons_self)
  have S : CallFix p m c cL_clamps 4 s ([.ref (wad w 0 0), .int a1, .ref (wad w 11 0)] : List Value).toArray wU RL := ⟨BD.exec, BD.bytes, hml, findClass_of_methodNamed BD.named, hts⟩
  have hx := S.1
  have hb := S.2.1
  have hown := S.2.2.2.1
  have hr := BD.returns
  have hlocks := BD.notSynchronized
  have hS : va_S (zA z) s.heap s.heap [] := va_S.rf
  have hl := lv_entry ([.ref (wad w 0 0), .int a1, .ref (wad w 11 0)]) (n := 4) (Nat.le_of_ble_eq_true rfl)
  rw [lg_entry_eq]
  generalize (lg_sl ([.ref (wad w 0 0), .int a1, .ref (wad w 11 0)]) ++ List.replicate (4 - (lg_sl ([.ref (wad w 0 0), .int a1, .ref (wad w 11 0)])).length) Slot.unset).toArray = ls at hl ⊢
  have hl : lv_has ls 4 [(0, .ref (wad w 0 0)), (1, .int a1), (2, .ref (wad w 11 0))] := hl
  refine lv_aload_n hx hb dL_clamps_0 rfl (lv_at hl 2 rfl) ?_
  refine lv_iconst (v := 0) hx hb dL_clamps_1 (by decide) ?_
  refine lv_aload_n hx hb dL_clamps_2 rfl (lv_at hl 0 rfl) ?_
  refine lv_iload_n hx hb dL_clamps_3 rfl (lv_at hl 1 rfl) ?_
  refine x_wcall (As := [.int a1]) (rest := [.int 0, .ref (wad w 11 0)]) (Ea := xA) (Eb := xI) (Ec := xI) S hE hS hW (c_X5_clamps l z hst w g gm o hO a1) (cwV 1 hts (gU_V tw_642 tw_643 tw_644 tw_1 tw_645) rfl rfl rfl (by decide +kernel) ⟨Nat.le_of_ble_eq_true rfl, Nat.le_of_ble_eq_true rfl⟩) rfl hl.1 rfl (Nat.le_of_ble_eq_true rfl) dL_clamps_4 ⟨Nat.le_of_ble_eq_true rfl, Nat.le_of_ble_eq_true rfl⟩ (fun k ce q9 H locs hsp hk hW hS h1 h2 h3 => ?_) (fun r w9 g9 H locs hsp hs hW hS => ?_)
  · rcases hk with rfl | rfl | rfl
    · rw [show ex3 xA xI xI 1 = xA by decide +kernel] at h3
      refine vx_catch (own := RL) (name := xA) (E := xA) hown [] ⟨0, 9, 12, 15⟩ [] (hT.trans rfl) (fun u9 hz => by cases hz) rfl (by decide) (hts _ tw_95) (hE.nw (by decide +kernel)) h1 h2 h3 ?_
      refine lv_astore_n (lv' := [(3, .ref q9), (0, .ref (wad w 0 0)), (1, .int a1), (2, .ref (wad w 11 0))]) hx hb dL_clamps_12 rfl hl (by decide) rfl (fun ls hl => ?_)
      refine lv_iconst (v := 1) hx hb dL_clamps_13 (by decide) ?_
      exact x_lret S hr hlocks hS hW (by rw [hsp]; rfl) wsm.rf (by rw [hsp]; rfl) (fun q => by rw [hsp] at q; exact absurd q (show ¬ (1 : Int32) = 0 by decide)) ⟨Nat.le_of_ble_eq_true rfl, Nat.le_of_ble_eq_true rfl⟩ dL_clamps_14
    · exact absurd hsp (nb_clamps 2 (by decide) g a1)
    · exact absurd hsp (nb_clamps 3 (by decide) g a1)
  · refine lv_i2l (v := r.toInt64) hx hb dL_clamps_7 rfl ?_
    refine g_last S hE hS (hs.2.2 ▸ hW.out) (hs.2.2 ▸ hW.2.2.1 11 0 rfl) (i := 0) (by unfold vp_in; decide) dL_clamps_8 (fun H locs he oq z9 hS => ?_)
    replace hW := hW.uout (hs.2.2.symm ▸ he) (hs.2.2.symm ▸ oq)
    refine lv_goto (tgt := 15) hx hb dL_clamps_9 (by decide) ?_
    refine lv_iconst (v := 0) hx hb dL_clamps_15 (by decide) ?_
    exact x_lret S hr hlocks hS hW (by rw [hsp]) hs (by rw [hsp]) (fun _ => by rw [hsp]; rfl) ⟨Nat.le_of_ble_eq_true rfl, Nat.le_of_ble_eq_true rfl⟩ dL_clamps_16
set_option maxHeartbeats 4000000 in
set_option maxRecDepth 100000 in
/-- the law's glue -/
theorem c_L_glue (l : Launch) (z : ZE) (hst : l.stackTraces = false) (w : WG) (g gm : GS) (o : Nat → Int64) (hO : OKg g) (a1 : Int32) : Met l yL_glue (.codeWith yL_glue cL_glue 4 (some .int) [(0, 9, 12, 15), (0, 9, 15, 21)] :: wU) ({ frames := 7, cells := 1, slots := 6, locals := 113 }) (PE z [.ref (wad w 0 0), .int a1, .ref (wad w 11 0)] (fun H => WW z w g gm o H)) (LQ z w gm o (sp_glue g a1)) 1 6 (zA z) := by
  refine va_MetW (cc := cL_glue) (maxL := 4) (ret := some .int) (hh := [(0, 9, 12, 15), (0, 9, 15, 21)]) (by decide) rfl ?_
  intro p e s m args below meth c s₁ BD hml hv
  obtain ⟨rfl, hE, hW⟩ := hv
  have hts : ∀ w ∈ wU, w.before _ s = true := fun w h => atoms_spec (ws := .codeWith yL_glue cL_glue 4 (some .int) [(0, 9, 12, 15), (0, 9, 15, 21)] :: wU) BD.pre w (List.mem_cons_of_mem _ h)
  have hT : c.exceptionTable.toList = tableOf [(0, 9, 12, 15), (0, 9, 15, 21)] := vx_table (x := yL_glue) BD (atoms_spec (ws := .codeWith yL_glue cL_glue 4 (some .int) [(0, 9, 12, 15), (0, 9, 15, 21)] :: wU) BD.pre _ List.mem_cons_self)
  have S : CallFix p m c cL_glue 4 s ([.ref (wad w 0 0), .int a1, .ref (wad w 11 0)] : List Value).toArray wU RL := ⟨BD.exec, BD.bytes, hml, findClass_of_methodNamed BD.named, hts⟩
  have hx := S.1
  have hb := S.2.1
  have hown := S.2.2.2.1
  have hr := BD.returns
  have hlocks := BD.notSynchronized
  have hS : va_S (zA z) s.heap s.heap [] := va_S.rf
  have hl := lv_entry ([.ref (wad w 0 0), .int a1, .ref (wad w 11 0)]) (n := 4) (Nat.le_of_ble_eq_true rfl)
  rw [lg_entry_eq]
  generalize (lg_sl ([.ref (wad w 0 0), .int a1, .ref (wad w 11 0)]) ++ List.replicate (4 - (lg_sl ([.ref (wad w 0 0), .int a1, .ref (wad w 11 0)])).length) Slot.unset).toArray = ls at hl ⊢
  have hl : lv_has ls 4 [(0, .ref (wad w 0 0)), (1, .int a1), (2, .ref (wad w 11 0))] := hl
  refine lv_aload_n hx hb dL_glue_0 rfl (lv_at hl 2 rfl) ?_
  refine lv_iconst (v := 0) hx hb dL_glue_1 (by decide) ?_
  refine lv_aload_n hx hb dL_glue_2 rfl (lv_at hl 0 rfl) ?_
  refine lv_iload_n hx hb dL_glue_3 rfl (lv_at hl 1 rfl) ?_
  refine x_wcall (As := [.int a1]) (rest := [.int 0, .ref (wad w 11 0)]) (Ea := xA) (Eb := xS) (Ec := xI) S hE hS hW (c_X5_glue l z hst w g gm o hO a1) (cwV 1 hts (gU_V tw_650 tw_651 tw_652 tw_1 tw_653) rfl rfl rfl (by decide +kernel) ⟨Nat.le_of_ble_eq_true rfl, Nat.le_of_ble_eq_true rfl⟩) rfl hl.1 rfl (Nat.le_of_ble_eq_true rfl) dL_glue_4 ⟨Nat.le_of_ble_eq_true rfl, Nat.le_of_ble_eq_true rfl⟩ (fun k ce q9 H locs hsp hk hW hS h1 h2 h3 => ?_) (fun r w9 g9 H locs hsp hs hW hS => ?_)
  · rcases hk with rfl | rfl | rfl
    · rw [show ex3 xA xS xI 1 = xA by decide +kernel] at h3
      refine vx_catch (own := RL) (name := xA) (E := xA) hown [] ⟨0, 9, 12, 15⟩ [⟨0, 9, 15, 21⟩] (hT.trans rfl) (fun u9 hz => by cases hz) rfl (by decide) (hts _ tw_95) (hE.nw (by decide +kernel)) h1 h2 h3 ?_
      refine lv_astore_n (lv' := [(3, .ref q9), (0, .ref (wad w 0 0)), (1, .int a1), (2, .ref (wad w 11 0))]) hx hb dL_glue_12 rfl hl (by decide) rfl (fun ls hl => ?_)
      refine lv_iconst (v := 1) hx hb dL_glue_13 (by decide) ?_
      exact x_lret S hr hlocks hS hW (by rw [hsp]; rfl) wsm.rf (by rw [hsp]; rfl) (fun q => by rw [hsp] at q; exact absurd q (show ¬ (1 : Int32) = 0 by decide)) ⟨Nat.le_of_ble_eq_true rfl, Nat.le_of_ble_eq_true rfl⟩ dL_glue_14
    · rw [show ex3 xA xS xI 2 = xS by decide +kernel] at h3
      refine vx_catch (own := RL) (name := xS) (E := xS) hown [⟨0, 9, 12, 15⟩] ⟨0, 9, 15, 21⟩ [] (hT.trans rfl) (fun u9 hz => by simp only [List.mem_cons, List.not_mem_nil, or_false] at hz; rcases hz with rfl; exact Or.inr ⟨by decide, xA, hts _ tw_95, hE.nc (by decide +kernel)⟩) rfl (by decide) (hts _ tw_190) (hE.nw (by decide +kernel)) h1 h2 h3 ?_
      refine lv_astore_n (lv' := [(3, .ref q9), (0, .ref (wad w 0 0)), (1, .int a1), (2, .ref (wad w 11 0))]) hx hb dL_glue_15 rfl hl (by decide) rfl (fun ls hl => ?_)
      refine lv_iconst (v := 2) hx hb dL_glue_16 (by decide) ?_
      exact x_lret S hr hlocks hS hW (by rw [hsp]; rfl) wsm.rf (by rw [hsp]; rfl) (fun q => by rw [hsp] at q; exact absurd q (show ¬ (2 : Int32) = 0 by decide)) ⟨Nat.le_of_ble_eq_true rfl, Nat.le_of_ble_eq_true rfl⟩ dL_glue_17
    · exact absurd hsp (nb_glue 3 (by decide) g a1)
  · refine lv_i2l (v := r.toInt64) hx hb dL_glue_7 rfl ?_
    refine g_last S hE hS (hs.2.2 ▸ hW.out) (hs.2.2 ▸ hW.2.2.1 11 0 rfl) (i := 0) (by unfold vp_in; decide) dL_glue_8 (fun H locs he oq z9 hS => ?_)
    replace hW := hW.uout (hs.2.2.symm ▸ he) (hs.2.2.symm ▸ oq)
    refine lv_goto (tgt := 18) hx hb dL_glue_9 (by decide) ?_
    refine lv_iconst (v := 0) hx hb dL_glue_18 (by decide) ?_
    exact x_lret S hr hlocks hS hW (by rw [hsp]) hs (by rw [hsp]) (fun _ => by rw [hsp]; rfl) ⟨Nat.le_of_ble_eq_true rfl, Nat.le_of_ble_eq_true rfl⟩ dL_glue_19
set_option maxHeartbeats 4000000 in
set_option maxRecDepth 100000 in
/-- the law's repair -/
theorem c_L_repair (l : Launch) (z : ZE) (hst : l.stackTraces = false) (w : WG) (g gm : GS) (o : Nat → Int64) (hO : OKg g) (a1 : Int32) : Met l yL_repair (.codeWith yL_repair cL_repair 4 (some .int) [(0, 9, 12, 13), (0, 9, 15, 21)] :: wU) ({ frames := 7, cells := 1, slots := 6, locals := 112 }) (PE z [.ref (wad w 0 0), .int a1, .ref (wad w 11 0)] (fun H => WW z w g gm o H)) (LQ z w gm o (sp_repair g a1)) 1 6 (zA z) := by
  refine va_MetW (cc := cL_repair) (maxL := 4) (ret := some .int) (hh := [(0, 9, 12, 13), (0, 9, 15, 21)]) (by decide) rfl ?_
  intro p e s m args below meth c s₁ BD hml hv
  obtain ⟨rfl, hE, hW⟩ := hv
  have hts : ∀ w ∈ wU, w.before _ s = true := fun w h => atoms_spec (ws := .codeWith yL_repair cL_repair 4 (some .int) [(0, 9, 12, 13), (0, 9, 15, 21)] :: wU) BD.pre w (List.mem_cons_of_mem _ h)
  have hT : c.exceptionTable.toList = tableOf [(0, 9, 12, 13), (0, 9, 15, 21)] := vx_table (x := yL_repair) BD (atoms_spec (ws := .codeWith yL_repair cL_repair 4 (some .int) [(0, 9, 12, 13), (0, 9, 15, 21)] :: wU) BD.pre _ List.mem_cons_self)
  have S : CallFix p m c cL_repair 4 s ([.ref (wad w 0 0), .int a1, .ref (wad w 11 0)] : List Value).toArray wU RL := ⟨BD.exec, BD.bytes, hml, findClass_of_methodNamed BD.named, hts⟩
  have hx := S.1
  have hb := S.2.1
  have hown := S.2.2.2.1
  have hr := BD.returns
  have hlocks := BD.notSynchronized
  have hS : va_S (zA z) s.heap s.heap [] := va_S.rf
  have hl := lv_entry ([.ref (wad w 0 0), .int a1, .ref (wad w 11 0)]) (n := 4) (Nat.le_of_ble_eq_true rfl)
  rw [lg_entry_eq]
  generalize (lg_sl ([.ref (wad w 0 0), .int a1, .ref (wad w 11 0)]) ++ List.replicate (4 - (lg_sl ([.ref (wad w 0 0), .int a1, .ref (wad w 11 0)])).length) Slot.unset).toArray = ls at hl ⊢
  have hl : lv_has ls 4 [(0, .ref (wad w 0 0)), (1, .int a1), (2, .ref (wad w 11 0))] := hl
  refine lv_aload_n hx hb dL_repair_0 rfl (lv_at hl 2 rfl) ?_
  refine lv_iconst (v := 0) hx hb dL_repair_1 (by decide) ?_
  refine lv_aload_n hx hb dL_repair_2 rfl (lv_at hl 0 rfl) ?_
  refine lv_iload_n hx hb dL_repair_3 rfl (lv_at hl 1 rfl) ?_
  refine x_wcall (As := [.int a1]) (rest := [.int 0, .ref (wad w 11 0)]) (Ea := xI) (Eb := xS) (Ec := xI) S hE hS hW (c_X5_repair l z hst w g gm o hO a1) (cwV 1 hts (gU_V tw_679 tw_680 tw_681 tw_1 tw_682) rfl rfl rfl (by decide +kernel) ⟨Nat.le_of_ble_eq_true rfl, Nat.le_of_ble_eq_true rfl⟩) rfl hl.1 rfl (Nat.le_of_ble_eq_true rfl) dL_repair_4 ⟨Nat.le_of_ble_eq_true rfl, Nat.le_of_ble_eq_true rfl⟩ (fun k ce q9 H locs hsp hk hW hS h1 h2 h3 => ?_) (fun r w9 g9 H locs hsp hs hW hS => ?_)
  · rcases hk with rfl | rfl | rfl
    · rw [show ex3 xI xS xI 1 = xI by decide +kernel] at h3
      refine vx_catch (own := RL) (name := xI) (E := xI) hown [] ⟨0, 9, 12, 13⟩ [⟨0, 9, 15, 21⟩] (hT.trans rfl) (fun u9 hz => by cases hz) rfl (by decide) (hts _ tw_94) (hE.nw (by decide +kernel)) h1 h2 h3 ?_
      refine lv_astore_n (lv' := [(3, .ref q9), (0, .ref (wad w 0 0)), (1, .int a1), (2, .ref (wad w 11 0))]) hx hb dL_repair_12 rfl hl (by decide) rfl (fun ls hl => ?_)
      refine lv_iconst (v := 1) hx hb dL_repair_13 (by decide) ?_
      exact x_lret S hr hlocks hS hW (by rw [hsp]; rfl) wsm.rf (by rw [hsp]; rfl) (fun q => by rw [hsp] at q; exact absurd q (show ¬ (1 : Int32) = 0 by decide)) ⟨Nat.le_of_ble_eq_true rfl, Nat.le_of_ble_eq_true rfl⟩ dL_repair_14
    · rw [show ex3 xI xS xI 2 = xS by decide +kernel] at h3
      refine vx_catch (own := RL) (name := xS) (E := xS) hown [⟨0, 9, 12, 13⟩] ⟨0, 9, 15, 21⟩ [] (hT.trans rfl) (fun u9 hz => by simp only [List.mem_cons, List.not_mem_nil, or_false] at hz; rcases hz with rfl; exact Or.inr ⟨by decide, xI, hts _ tw_94, hE.nc (by decide +kernel)⟩) rfl (by decide) (hts _ tw_190) (hE.nw (by decide +kernel)) h1 h2 h3 ?_
      refine lv_astore_n (lv' := [(3, .ref q9), (0, .ref (wad w 0 0)), (1, .int a1), (2, .ref (wad w 11 0))]) hx hb dL_repair_15 rfl hl (by decide) rfl (fun ls hl => ?_)
      refine lv_iconst (v := 2) hx hb dL_repair_16 (by decide) ?_
      exact x_lret S hr hlocks hS hW (by rw [hsp]; rfl) wsm.rf (by rw [hsp]; rfl) (fun q => by rw [hsp] at q; exact absurd q (show ¬ (2 : Int32) = 0 by decide)) ⟨Nat.le_of_ble_eq_true rfl, Nat.le_of_ble_eq_true rfl⟩ dL_repair_17
    · exact absurd hsp (nb_repair 3 (by decide) g a1)
  · refine lv_i2l (v := r.toInt64) hx hb dL_repair_7 rfl ?_
    refine g_last S hE hS (hs.2.2 ▸ hW.out) (hs.2.2 ▸ hW.2.2.1 11 0 rfl) (i := 0) (by unfold vp_in; decide) dL_repair_8 (fun H locs he oq z9 hS => ?_)
    replace hW := hW.uout (hs.2.2.symm ▸ he) (hs.2.2.symm ▸ oq)
    refine lv_goto (tgt := 18) hx hb dL_repair_9 (by decide) ?_
    refine lv_iconst (v := 0) hx hb dL_repair_18 (by decide) ?_
    exact x_lret S hr hlocks hS hW (by rw [hsp]) hs (by rw [hsp]) (fun _ => by rw [hsp]; rfl) ⟨Nat.le_of_ble_eq_true rfl, Nat.le_of_ble_eq_true rfl⟩ dL_repair_19
set_option maxHeartbeats 4000000 in
set_option maxRecDepth 100000 in
/-- the law's through -/
theorem c_L_through (l : Launch) (z : ZE) (hst : l.stackTraces = false) (w : WG) (g gm : GS) (o : Nat → Int64) (hO : OKg g) (a1 : Int32) : Met l yL_through (.codeWith yL_through cL_through 4 (some .int) [(0, 9, 12, 15)] :: wU) ({ frames := 7, cells := 1, slots := 6, locals := 132 }) (PE z [.ref (wad w 0 0), .int a1, .ref (wad w 11 0)] (fun H => WW z w g gm o H)) (LQ z w gm o (sp_through g a1)) 1 6 (zA z) := by
  refine va_MetW (cc := cL_through) (maxL := 4) (ret := some .int) (hh := [(0, 9, 12, 15)]) (by decide) rfl ?_
  intro p e s m args below meth c s₁ BD hml hv
  obtain ⟨rfl, hE, hW⟩ := hv
  have hts : ∀ w ∈ wU, w.before _ s = true := fun w h => atoms_spec (ws := .codeWith yL_through cL_through 4 (some .int) [(0, 9, 12, 15)] :: wU) BD.pre w (List.mem_cons_of_mem _ h)
  have hT : c.exceptionTable.toList = tableOf [(0, 9, 12, 15)] := vx_table (x := yL_through) BD (atoms_spec (ws := .codeWith yL_through cL_through 4 (some .int) [(0, 9, 12, 15)] :: wU) BD.pre _ List.mem_cons_self)
  have S : CallFix p m c cL_through 4 s ([.ref (wad w 0 0), .int a1, .ref (wad w 11 0)] : List Value).toArray wU RL := ⟨BD.exec, BD.bytes, hml, findClass_of_methodNamed BD.named, hts⟩
  have hx := S.1
  have hb := S.2.1
  have hown := S.2.2.2.1
  have hr := BD.returns
  have hlocks := BD.notSynchronized
  have hS : va_S (zA z) s.heap s.heap [] := va_S.rf
  have hl := lv_entry ([.ref (wad w 0 0), .int a1, .ref (wad w 11 0)]) (n := 4) (Nat.le_of_ble_eq_true rfl)
  rw [lg_entry_eq]
  generalize (lg_sl ([.ref (wad w 0 0), .int a1, .ref (wad w 11 0)]) ++ List.replicate (4 - (lg_sl ([.ref (wad w 0 0), .int a1, .ref (wad w 11 0)])).length) Slot.unset).toArray = ls at hl ⊢
  have hl : lv_has ls 4 [(0, .ref (wad w 0 0)), (1, .int a1), (2, .ref (wad w 11 0))] := hl
  refine lv_aload_n hx hb dL_through_0 rfl (lv_at hl 2 rfl) ?_
  refine lv_iconst (v := 0) hx hb dL_through_1 (by decide) ?_
  refine lv_aload_n hx hb dL_through_2 rfl (lv_at hl 0 rfl) ?_
  refine lv_iload_n hx hb dL_through_3 rfl (lv_at hl 1 rfl) ?_
  refine x_wcall (As := [.int a1]) (rest := [.int 0, .ref (wad w 11 0)]) (Ea := xA) (Eb := xI) (Ec := xI) S hE hS hW (c_X5_through l z hst w g gm o hO a1) (cwV 1 hts (gU_V tw_687 tw_688 tw_689 tw_1 tw_690) rfl rfl rfl (by decide +kernel) ⟨Nat.le_of_ble_eq_true rfl, Nat.le_of_ble_eq_true rfl⟩) rfl hl.1 rfl (Nat.le_of_ble_eq_true rfl) dL_through_4 ⟨Nat.le_of_ble_eq_true rfl, Nat.le_of_ble_eq_true rfl⟩ (fun k ce q9 H locs hsp hk hW hS h1 h2 h3 => ?_) (fun r w9 g9 H locs hsp hs hW hS => ?_)
  · rcases hk with rfl | rfl | rfl
    · rw [show ex3 xA xI xI 1 = xA by decide +kernel] at h3
      refine vx_catch (own := RL) (name := xA) (E := xA) hown [] ⟨0, 9, 12, 15⟩ [] (hT.trans rfl) (fun u9 hz => by cases hz) rfl (by decide) (hts _ tw_95) (hE.nw (by decide +kernel)) h1 h2 h3 ?_
      refine lv_astore_n (lv' := [(3, .ref q9), (0, .ref (wad w 0 0)), (1, .int a1), (2, .ref (wad w 11 0))]) hx hb dL_through_12 rfl hl (by decide) rfl (fun ls hl => ?_)
      refine lv_iconst (v := 1) hx hb dL_through_13 (by decide) ?_
      exact x_lret S hr hlocks hS hW (by rw [hsp]; rfl) wsm.rf (by rw [hsp]; rfl) (fun q => by rw [hsp] at q; exact absurd q (show ¬ (1 : Int32) = 0 by decide)) ⟨Nat.le_of_ble_eq_true rfl, Nat.le_of_ble_eq_true rfl⟩ dL_through_14
    · exact absurd hsp (nb_through 2 (by decide) g a1)
    · exact absurd hsp (nb_through 3 (by decide) g a1)
  · refine lv_i2l (v := r.toInt64) hx hb dL_through_7 rfl ?_
    refine g_last S hE hS (hs.2.2 ▸ hW.out) (hs.2.2 ▸ hW.2.2.1 11 0 rfl) (i := 0) (by unfold vp_in; decide) dL_through_8 (fun H locs he oq z9 hS => ?_)
    replace hW := hW.uout (hs.2.2.symm ▸ he) (hs.2.2.symm ▸ oq)
    refine lv_goto (tgt := 15) hx hb dL_through_9 (by decide) ?_
    refine lv_iconst (v := 0) hx hb dL_through_15 (by decide) ?_
    exact x_lret S hr hlocks hS hW (by rw [hsp]) hs (by rw [hsp]) (fun _ => by rw [hsp]; rfl) ⟨Nat.le_of_ble_eq_true rfl, Nat.le_of_ble_eq_true rfl⟩ dL_through_16
set_option maxHeartbeats 4000000 in
set_option maxRecDepth 100000 in
/-- the law's breaksIn -/
theorem c_L_breaksIn (l : Launch) (z : ZE) (hst : l.stackTraces = false) (w : WG) (g gm : GS) (o : Nat → Int64) (hO : OKg g) (a1 a2 : Int32) : Met l yL_breaksIn (.codeWith yL_breaksIn cL_breaksIn 5 (some .int) [(0, 10, 13, 13), (0, 10, 17, 15), (0, 10, 21, 21)] :: wU) ({ frames := 7, cells := 1, slots := 6, locals := 131 }) (PE z [.ref (wad w 0 0), .int a1, .int a2, .ref (wad w 11 0)] (fun H => WW z w g gm o H)) (LQ z w gm o (sp_breaksIn g a1 a2)) 1 6 (zA z) := by
  refine va_MetW (cc := cL_breaksIn) (maxL := 5) (ret := some .int) (hh := [(0, 10, 13, 13), (0, 10, 17, 15), (0, 10, 21, 21)]) (by decide) rfl ?_
  intro p e s m args below meth c s₁ BD hml hv
  obtain ⟨rfl, hE, hW⟩ := hv
  have hts : ∀ w ∈ wU, w.before _ s = true := fun w h => atoms_spec (ws := .codeWith yL_breaksIn cL_breaksIn 5 (some .int) [(0, 10, 13, 13), (0, 10, 17, 15), (0, 10, 21, 21)] :: wU) BD.pre w (List.mem_cons_of_mem _ h)
  have hT : c.exceptionTable.toList = tableOf [(0, 10, 13, 13), (0, 10, 17, 15), (0, 10, 21, 21)] := vx_table (x := yL_breaksIn) BD (atoms_spec (ws := .codeWith yL_breaksIn cL_breaksIn 5 (some .int) [(0, 10, 13, 13), (0, 10, 17, 15), (0, 10, 21, 21)] :: wU) BD.pre _ List.mem_cons_self)
  have S : CallFix p m c cL_breaksIn 5 s ([.ref (wad w 0 0), .int a1, .int a2, .ref (wad w 11 0)] : List Value).toArray wU RL := ⟨BD.exec, BD.bytes, hml, findClass_of_methodNamed BD.named, hts⟩
  have hx := S.1
  have hb := S.2.1
  have hown := S.2.2.2.1
  have hr := BD.returns
  have hlocks := BD.notSynchronized
  have hS : va_S (zA z) s.heap s.heap [] := va_S.rf
  have hl := lv_entry ([.ref (wad w 0 0), .int a1, .int a2, .ref (wad w 11 0)]) (n := 5) (Nat.le_of_ble_eq_true rfl)
  rw [lg_entry_eq]
  generalize (lg_sl ([.ref (wad w 0 0), .int a1, .int a2, .ref (wad w 11 0)]) ++ List.replicate (5 - (lg_sl ([.ref (wad w 0 0), .int a1, .int a2, .ref (wad w 11 0)])).length) Slot.unset).toArray = ls at hl ⊢
  have hl : lv_has ls 5 [(0, .ref (wad w 0 0)), (1, .int a1), (2, .int a2), (3, .ref (wad w 11 0))] := hl
  refine lv_aload_n hx hb dL_breaksIn_0 rfl (lv_at hl 3 rfl) ?_
  refine lv_iconst (v := 0) hx hb dL_breaksIn_1 (by decide) ?_
  refine lv_aload_n hx hb dL_breaksIn_2 rfl (lv_at hl 0 rfl) ?_
  refine lv_iload_n hx hb dL_breaksIn_3 rfl (lv_at hl 1 rfl) ?_
  refine lv_iload_n hx hb dL_breaksIn_4 rfl (lv_at hl 2 rfl) ?_
  refine x_wcall (As := [.int a1, .int a2]) (rest := [.int 0, .ref (wad w 11 0)]) (Ea := xI) (Eb := xA) (Ec := xS) S hE hS hW (c_X5_breaksIn l z hst w g gm o hO a1 a2) (cwV 2 hts (gU_V tw_702 tw_703 tw_704 tw_1 tw_705) rfl rfl rfl (by decide +kernel) ⟨Nat.le_of_ble_eq_true rfl, Nat.le_of_ble_eq_true rfl⟩) rfl hl.1 rfl (Nat.le_of_ble_eq_true rfl) dL_breaksIn_5 ⟨Nat.le_of_ble_eq_true rfl, Nat.le_of_ble_eq_true rfl⟩ (fun k ce q9 H locs hsp hk hW hS h1 h2 h3 => ?_) (fun r w9 g9 H locs hsp hs hW hS => ?_)
  · rcases hk with rfl | rfl | rfl
    · rw [show ex3 xI xA xS 1 = xI by decide +kernel] at h3
      refine vx_catch (own := RL) (name := xI) (E := xI) hown [] ⟨0, 10, 13, 13⟩ [⟨0, 10, 17, 15⟩, ⟨0, 10, 21, 21⟩] (hT.trans rfl) (fun u9 hz => by cases hz) rfl (by decide) (hts _ tw_94) (hE.nw (by decide +kernel)) h1 h2 h3 ?_
      refine lv_astore (lv' := [(4, .ref q9), (0, .ref (wad w 0 0)), (1, .int a1), (2, .int a2), (3, .ref (wad w 11 0))]) hx hb dL_breaksIn_13 hl (by decide) rfl (fun ls hl => ?_)
      refine lv_iconst (v := 1) hx hb dL_breaksIn_15 (by decide) ?_
      exact x_lret S hr hlocks hS hW (by rw [hsp]; rfl) wsm.rf (by rw [hsp]; rfl) (fun q => by rw [hsp] at q; exact absurd q (show ¬ (1 : Int32) = 0 by decide)) ⟨Nat.le_of_ble_eq_true rfl, Nat.le_of_ble_eq_true rfl⟩ dL_breaksIn_16
    · rw [show ex3 xI xA xS 2 = xA by decide +kernel] at h3
      refine vx_catch (own := RL) (name := xA) (E := xA) hown [⟨0, 10, 13, 13⟩] ⟨0, 10, 17, 15⟩ [⟨0, 10, 21, 21⟩] (hT.trans rfl) (fun u9 hz => by simp only [List.mem_cons, List.not_mem_nil, or_false] at hz; rcases hz with rfl; exact Or.inr ⟨by decide, xI, hts _ tw_94, hE.nc (by decide +kernel)⟩) rfl (by decide) (hts _ tw_95) (hE.nw (by decide +kernel)) h1 h2 h3 ?_
      refine lv_astore (lv' := [(4, .ref q9), (0, .ref (wad w 0 0)), (1, .int a1), (2, .int a2), (3, .ref (wad w 11 0))]) hx hb dL_breaksIn_17 hl (by decide) rfl (fun ls hl => ?_)
      refine lv_iconst (v := 2) hx hb dL_breaksIn_19 (by decide) ?_
      exact x_lret S hr hlocks hS hW (by rw [hsp]; rfl) wsm.rf (by rw [hsp]; rfl) (fun q => by rw [hsp] at q; exact absurd q (show ¬ (2 : Int32) = 0 by decide)) ⟨Nat.le_of_ble_eq_true rfl, Nat.le_of_ble_eq_true rfl⟩ dL_breaksIn_20
    · rw [show ex3 xI xA xS 3 = xS by decide +kernel] at h3
      refine vx_catch (own := RL) (name := xS) (E := xS) hown [⟨0, 10, 13, 13⟩, ⟨0, 10, 17, 15⟩] ⟨0, 10, 21, 21⟩ [] (hT.trans rfl) (fun u9 hz => by simp only [List.mem_cons, List.not_mem_nil, or_false] at hz; rcases hz with rfl | rfl <;> first | exact Or.inr ⟨by decide, xI, hts _ tw_94, hE.nc (by decide +kernel)⟩ | exact Or.inr ⟨by decide, xA, hts _ tw_95, hE.nc (by decide +kernel)⟩) rfl (by decide) (hts _ tw_190) (hE.nw (by decide +kernel)) h1 h2 h3 ?_
      refine lv_astore (lv' := [(4, .ref q9), (0, .ref (wad w 0 0)), (1, .int a1), (2, .int a2), (3, .ref (wad w 11 0))]) hx hb dL_breaksIn_21 hl (by decide) rfl (fun ls hl => ?_)
      refine lv_iconst (v := 3) hx hb dL_breaksIn_23 (by decide) ?_
      exact x_lret S hr hlocks hS hW (by rw [hsp]; rfl) wsm.rf (by rw [hsp]; rfl) (fun q => by rw [hsp] at q; exact absurd q (show ¬ (3 : Int32) = 0 by decide)) ⟨Nat.le_of_ble_eq_true rfl, Nat.le_of_ble_eq_true rfl⟩ dL_breaksIn_24
  · refine lv_i2l (v := r.toInt64) hx hb dL_breaksIn_8 rfl ?_
    refine g_last S hE hS (hs.2.2 ▸ hW.out) (hs.2.2 ▸ hW.2.2.1 11 0 rfl) (i := 0) (by unfold vp_in; decide) dL_breaksIn_9 (fun H locs he oq z9 hS => ?_)
    replace hW := hW.uout (hs.2.2.symm ▸ he) (hs.2.2.symm ▸ oq)
    refine lv_goto (tgt := 25) hx hb dL_breaksIn_10 (by decide) ?_
    refine lv_iconst (v := 0) hx hb dL_breaksIn_25 (by decide) ?_
    exact x_lret S hr hlocks hS hW (by rw [hsp]) hs (by rw [hsp]) (fun _ => by rw [hsp]; rfl) ⟨Nat.le_of_ble_eq_true rfl, Nat.le_of_ble_eq_true rfl⟩ dL_breaksIn_26
set_option maxHeartbeats 4000000 in
set_option maxRecDepth 100000 in
/-- the law's ofBoard -/
theorem c_L_ofBoard (l : Launch) (z : ZE) (hst : l.stackTraces = false) (w : WG) (g gm : GS) (o : Nat → Int64) (hO : OKg g) (a1 a2 : Int32) : Met l yL_ofBoard (.codeWith yL_ofBoard cL_ofBoard 5 (some .int) [(0, 10, 13, 13), (0, 10, 17, 15)] :: wU) ({ frames := 7, cells := 1, slots := 6, locals := 113 }) (PE z [.ref (wad w 0 0), .int a1, .int a2, .ref (wad w 11 0)] (fun H => WW z w g gm o H)) (LQ z w gm o (sp_ofBoard g a1 a2)) 1 6 (zA z) := by
  refine va_MetW (cc := cL_ofBoard) (maxL := 5) (ret := some .int) (hh := [(0, 10, 13, 13), (0, 10, 17, 15)]) (by decide) rfl ?_
  intro p e s m args below meth c s₁ BD hml hv
  obtain ⟨rfl, hE, hW⟩ := hv
  have hts : ∀ w ∈ wU, w.before _ s = true := fun w h => atoms_spec (ws := .codeWith yL_ofBoard cL_ofBoard 5 (some .int) [(0, 10, 13, 13), (0, 10, 17, 15)] :: wU) BD.pre w (List.mem_cons_of_mem _ h)
  have hT : c.exceptionTable.toList = tableOf [(0, 10, 13, 13), (0, 10, 17, 15)] := vx_table (x := yL_ofBoard) BD (atoms_spec (ws := .codeWith yL_ofBoard cL_ofBoard 5 (some .int) [(0, 10, 13, 13), (0, 10, 17, 15)] :: wU) BD.pre _ List.mem_cons_self)
  have S : CallFix p m c cL_ofBoard 5 s ([.ref (wad w 0 0), .int a1, .int a2, .ref (wad w 11 0)] : List Value).toArray wU RL := ⟨BD.exec, BD.bytes, hml, findClass_of_methodNamed BD.named, hts⟩
  have hx := S.1
  have hb := S.2.1
  have hown := S.2.2.2.1
  have hr := BD.returns
  have hlocks := BD.notSynchronized
  have hS : va_S (zA z) s.heap s.heap [] := va_S.rf
  have hl := lv_entry ([.ref (wad w 0 0), .int a1, .int a2, .ref (wad w 11 0)]) (n := 5) (Nat.le_of_ble_eq_true rfl)
  rw [lg_entry_eq]
  generalize (lg_sl ([.ref (wad w 0 0), .int a1, .int a2, .ref (wad w 11 0)]) ++ List.replicate (5 - (lg_sl ([.ref (wad w 0 0), .int a1, .int a2, .ref (wad w 11 0)])).length) Slot.unset).toArray = ls at hl ⊢
  have hl : lv_has ls 5 [(0, .ref (wad w 0 0)), (1, .int a1), (2, .int a2), (3, .ref (wad w 11 0))] := hl
  refine lv_aload_n hx hb dL_ofBoard_0 rfl (lv_at hl 3 rfl) ?_
  refine lv_iconst (v := 0) hx hb dL_ofBoard_1 (by decide) ?_
  refine lv_aload_n hx hb dL_ofBoard_2 rfl (lv_at hl 0 rfl) ?_
  refine lv_iload_n hx hb dL_ofBoard_3 rfl (lv_at hl 1 rfl) ?_
  refine lv_iload_n hx hb dL_ofBoard_4 rfl (lv_at hl 2 rfl) ?_
  refine x_wcall (As := [.int a1, .int a2]) (rest := [.int 0, .ref (wad w 11 0)]) (Ea := xI) (Eb := xA) (Ec := xI) S hE hS hW (c_X5_ofBoard l z hst w g gm o hO a1 a2) (cwV 2 hts (gU_V tw_710 tw_711 tw_712 tw_1 tw_713) rfl rfl rfl (by decide +kernel) ⟨Nat.le_of_ble_eq_true rfl, Nat.le_of_ble_eq_true rfl⟩) rfl hl.1 rfl (Nat.le_of_ble_eq_true rfl) dL_ofBoard_5 ⟨Nat.le_of_ble_eq_true rfl, Nat.le_of_ble_eq_true rfl⟩ (fun k ce q9 H locs hsp hk hW hS h1 h2 h3 => ?_) (fun r w9 g9 H locs hsp hs hW hS => ?_)
  · rcases hk with rfl | rfl | rfl
    · rw [show ex3 xI xA xI 1 = xI by decide +kernel] at h3
      refine vx_catch (own := RL) (name := xI) (E := xI) hown [] ⟨0, 10, 13, 13⟩ [⟨0, 10, 17, 15⟩] (hT.trans rfl) (fun u9 hz => by cases hz) rfl (by decide) (hts _ tw_94) (hE.nw (by decide +kernel)) h1 h2 h3 ?_
      refine lv_astore (lv' := [(4, .ref q9), (0, .ref (wad w 0 0)), (1, .int a1), (2, .int a2), (3, .ref (wad w 11 0))]) hx hb dL_ofBoard_13 hl (by decide) rfl (fun ls hl => ?_)
      refine lv_iconst (v := 1) hx hb dL_ofBoard_15 (by decide) ?_
      exact x_lret S hr hlocks hS hW (by rw [hsp]; rfl) wsm.rf (by rw [hsp]; rfl) (fun q => by rw [hsp] at q; exact absurd q (show ¬ (1 : Int32) = 0 by decide)) ⟨Nat.le_of_ble_eq_true rfl, Nat.le_of_ble_eq_true rfl⟩ dL_ofBoard_16
    · rw [show ex3 xI xA xI 2 = xA by decide +kernel] at h3
      refine vx_catch (own := RL) (name := xA) (E := xA) hown [⟨0, 10, 13, 13⟩] ⟨0, 10, 17, 15⟩ [] (hT.trans rfl) (fun u9 hz => by simp only [List.mem_cons, List.not_mem_nil, or_false] at hz; rcases hz with rfl; exact Or.inr ⟨by decide, xI, hts _ tw_94, hE.nc (by decide +kernel)⟩) rfl (by decide) (hts _ tw_95) (hE.nw (by decide +kernel)) h1 h2 h3 ?_
      refine lv_astore (lv' := [(4, .ref q9), (0, .ref (wad w 0 0)), (1, .int a1), (2, .int a2), (3, .ref (wad w 11 0))]) hx hb dL_ofBoard_17 hl (by decide) rfl (fun ls hl => ?_)
      refine lv_iconst (v := 2) hx hb dL_ofBoard_19 (by decide) ?_
      exact x_lret S hr hlocks hS hW (by rw [hsp]; rfl) wsm.rf (by rw [hsp]; rfl) (fun q => by rw [hsp] at q; exact absurd q (show ¬ (2 : Int32) = 0 by decide)) ⟨Nat.le_of_ble_eq_true rfl, Nat.le_of_ble_eq_true rfl⟩ dL_ofBoard_20
    · exact absurd hsp (nb_ofBoard 3 (by decide) g a1 a2)
  · refine lv_i2l (v := r.toInt64) hx hb dL_ofBoard_8 rfl ?_
    refine g_last S hE hS (hs.2.2 ▸ hW.out) (hs.2.2 ▸ hW.2.2.1 11 0 rfl) (i := 0) (by unfold vp_in; decide) dL_ofBoard_9 (fun H locs he oq z9 hS => ?_)
    replace hW := hW.uout (hs.2.2.symm ▸ he) (hs.2.2.symm ▸ oq)
    refine lv_goto (tgt := 21) hx hb dL_ofBoard_10 (by decide) ?_
    refine lv_iconst (v := 0) hx hb dL_ofBoard_21 (by decide) ?_
    exact x_lret S hr hlocks hS hW (by rw [hsp]) hs (by rw [hsp]) (fun _ => by rw [hsp]; rfl) ⟨Nat.le_of_ble_eq_true rfl, Nat.le_of_ble_eq_true rfl⟩ dL_ofBoard_22
set_option maxHeartbeats 4000000 in
set_option maxRecDepth 100000 in
/-- the law's ofPart -/
theorem c_L_ofPart (l : Launch) (z : ZE) (hst : l.stackTraces = false) (w : WG) (g gm : GS) (o : Nat → Int64) (hO : OKg g) (a1 a2 : Int32) : Met l yL_ofPart (.codeWith yL_ofPart cL_ofPart 5 (some .int) [(0, 10, 13, 13), (0, 10, 17, 15)] :: wU) ({ frames := 7, cells := 1, slots := 6, locals := 113 }) (PE z [.ref (wad w 0 0), .int a1, .int a2, .ref (wad w 11 0)] (fun H => WW z w g gm o H)) (LQ z w gm o (sp_ofPart g a1 a2)) 1 6 (zA z) := by
  refine va_MetW (cc := cL_ofPart) (maxL := 5) (ret := some .int) (hh := [(0, 10, 13, 13), (0, 10, 17, 15)]) (by decide) rfl ?_
  intro p e s m args below meth c s₁ BD hml hv
  obtain ⟨rfl, hE, hW⟩ := hv
  have hts : ∀ w ∈ wU, w.before _ s = true := fun w h => atoms_spec (ws := .codeWith yL_ofPart cL_ofPart 5 (some .int) [(0, 10, 13, 13), (0, 10, 17, 15)] :: wU) BD.pre w (List.mem_cons_of_mem _ h)
  have hT : c.exceptionTable.toList = tableOf [(0, 10, 13, 13), (0, 10, 17, 15)] := vx_table (x := yL_ofPart) BD (atoms_spec (ws := .codeWith yL_ofPart cL_ofPart 5 (some .int) [(0, 10, 13, 13), (0, 10, 17, 15)] :: wU) BD.pre _ List.mem_cons_self)
  have S : CallFix p m c cL_ofPart 5 s ([.ref (wad w 0 0), .int a1, .int a2, .ref (wad w 11 0)] : List Value).toArray wU RL := ⟨BD.exec, BD.bytes, hml, findClass_of_methodNamed BD.named, hts⟩
  have hx := S.1
  have hb := S.2.1
  have hown := S.2.2.2.1
  have hr := BD.returns
  have hlocks := BD.notSynchronized
  have hS : va_S (zA z) s.heap s.heap [] := va_S.rf
  have hl := lv_entry ([.ref (wad w 0 0), .int a1, .int a2, .ref (wad w 11 0)]) (n := 5) (Nat.le_of_ble_eq_true rfl)
  rw [lg_entry_eq]
  generalize (lg_sl ([.ref (wad w 0 0), .int a1, .int a2, .ref (wad w 11 0)]) ++ List.replicate (5 - (lg_sl ([.ref (wad w 0 0), .int a1, .int a2, .ref (wad w 11 0)])).length) Slot.unset).toArray = ls at hl ⊢
  have hl : lv_has ls 5 [(0, .ref (wad w 0 0)), (1, .int a1), (2, .int a2), (3, .ref (wad w 11 0))] := hl
  refine lv_aload_n hx hb dL_ofPart_0 rfl (lv_at hl 3 rfl) ?_
  refine lv_iconst (v := 0) hx hb dL_ofPart_1 (by decide) ?_
  refine lv_aload_n hx hb dL_ofPart_2 rfl (lv_at hl 0 rfl) ?_
  refine lv_iload_n hx hb dL_ofPart_3 rfl (lv_at hl 1 rfl) ?_
  refine lv_iload_n hx hb dL_ofPart_4 rfl (lv_at hl 2 rfl) ?_
  refine x_wcall (As := [.int a1, .int a2]) (rest := [.int 0, .ref (wad w 11 0)]) (Ea := xI) (Eb := xA) (Ec := xI) S hE hS hW (c_X5_ofPart l z hst w g gm o hO a1 a2) (cwV 2 hts (gU_V tw_718 tw_719 tw_720 tw_1 tw_721) rfl rfl rfl (by decide +kernel) ⟨Nat.le_of_ble_eq_true rfl, Nat.le_of_ble_eq_true rfl⟩) rfl hl.1 rfl (Nat.le_of_ble_eq_true rfl) dL_ofPart_5 ⟨Nat.le_of_ble_eq_true rfl, Nat.le_of_ble_eq_true rfl⟩ (fun k ce q9 H locs hsp hk hW hS h1 h2 h3 => ?_) (fun r w9 g9 H locs hsp hs hW hS => ?_)
  · rcases hk with rfl | rfl | rfl
    · rw [show ex3 xI xA xI 1 = xI by decide +kernel] at h3
      refine vx_catch (own := RL) (name := xI) (E := xI) hown [] ⟨0, 10, 13, 13⟩ [⟨0, 10, 17, 15⟩] (hT.trans rfl) (fun u9 hz => by cases hz) rfl (by decide) (hts _ tw_94) (hE.nw (by decide +kernel)) h1 h2 h3 ?_
      refine lv_astore (lv' := [(4, .ref q9), (0, .ref (wad w 0 0)), (1, .int a1), (2, .int a2), (3, .ref (wad w 11 0))]) hx hb dL_ofPart_13 hl (by decide) rfl (fun ls hl => ?_)
      refine lv_iconst (v := 1) hx hb dL_ofPart_15 (by decide) ?_
      exact x_lret S hr hlocks hS hW (by rw [hsp]; rfl) wsm.rf (by rw [hsp]; rfl) (fun q => by rw [hsp] at q; exact absurd q (show ¬ (1 : Int32) = 0 by decide)) ⟨Nat.le_of_ble_eq_true rfl, Nat.le_of_ble_eq_true rfl⟩ dL_ofPart_16
    · rw [show ex3 xI xA xI 2 = xA by decide +kernel] at h3
      refine vx_catch (own := RL) (name := xA) (E := xA) hown [⟨0, 10, 13, 13⟩] ⟨0, 10, 17, 15⟩ [] (hT.trans rfl) (fun u9 hz => by simp only [List.mem_cons, List.not_mem_nil, or_false] at hz; rcases hz with rfl; exact Or.inr ⟨by decide, xI, hts _ tw_94, hE.nc (by decide +kernel)⟩) rfl (by decide) (hts _ tw_95) (hE.nw (by decide +kernel)) h1 h2 h3 ?_
      refine lv_astore (lv' := [(4, .ref q9), (0, .ref (wad w 0 0)), (1, .int a1), (2, .int a2), (3, .ref (wad w 11 0))]) hx hb dL_ofPart_17 hl (by decide) rfl (fun ls hl => ?_)
      refine lv_iconst (v := 2) hx hb dL_ofPart_19 (by decide) ?_
      exact x_lret S hr hlocks hS hW (by rw [hsp]; rfl) wsm.rf (by rw [hsp]; rfl) (fun q => by rw [hsp] at q; exact absurd q (show ¬ (2 : Int32) = 0 by decide)) ⟨Nat.le_of_ble_eq_true rfl, Nat.le_of_ble_eq_true rfl⟩ dL_ofPart_20
    · exact absurd hsp (nb_ofPart 3 (by decide) g a1 a2)
  · refine lv_i2l (v := r.toInt64) hx hb dL_ofPart_8 rfl ?_
    refine g_last S hE hS (hs.2.2 ▸ hW.out) (hs.2.2 ▸ hW.2.2.1 11 0 rfl) (i := 0) (by unfold vp_in; decide) dL_ofPart_9 (fun H locs he oq z9 hS => ?_)
    replace hW := hW.uout (hs.2.2.symm ▸ he) (hs.2.2.symm ▸ oq)
    refine lv_goto (tgt := 21) hx hb dL_ofPart_10 (by decide) ?_
    refine lv_iconst (v := 0) hx hb dL_ofPart_21 (by decide) ?_
    exact x_lret S hr hlocks hS hW (by rw [hsp]) hs (by rw [hsp]) (fun _ => by rw [hsp]; rfl) ⟨Nat.le_of_ble_eq_true rfl, Nat.le_of_ble_eq_true rfl⟩ dL_ofPart_22
set_option maxHeartbeats 4000000 in
set_option maxRecDepth 100000 in
/-- the law's ofJoint -/
theorem c_L_ofJoint (l : Launch) (z : ZE) (hst : l.stackTraces = false) (w : WG) (g gm : GS) (o : Nat → Int64) (hO : OKg g) (a1 a2 : Int32) : Met l yL_ofJoint (.codeWith yL_ofJoint cL_ofJoint 5 (some .int) [(0, 10, 13, 13), (0, 10, 17, 15)] :: wU) ({ frames := 7, cells := 1, slots := 6, locals := 126 }) (PE z [.ref (wad w 0 0), .int a1, .int a2, .ref (wad w 11 0)] (fun H => WW z w g gm o H)) (LQ z w gm o (sp_ofJoint g a1 a2)) 1 6 (zA z) := by
  refine va_MetW (cc := cL_ofJoint) (maxL := 5) (ret := some .int) (hh := [(0, 10, 13, 13), (0, 10, 17, 15)]) (by decide) rfl ?_
  intro p e s m args below meth c s₁ BD hml hv
  obtain ⟨rfl, hE, hW⟩ := hv
  have hts : ∀ w ∈ wU, w.before _ s = true := fun w h => atoms_spec (ws := .codeWith yL_ofJoint cL_ofJoint 5 (some .int) [(0, 10, 13, 13), (0, 10, 17, 15)] :: wU) BD.pre w (List.mem_cons_of_mem _ h)
  have hT : c.exceptionTable.toList = tableOf [(0, 10, 13, 13), (0, 10, 17, 15)] := vx_table (x := yL_ofJoint) BD (atoms_spec (ws := .codeWith yL_ofJoint cL_ofJoint 5 (some .int) [(0, 10, 13, 13), (0, 10, 17, 15)] :: wU) BD.pre _ List.mem_cons_self)
  have S : CallFix p m c cL_ofJoint 5 s ([.ref (wad w 0 0), .int a1, .int a2, .ref (wad w 11 0)] : List Value).toArray wU RL := ⟨BD.exec, BD.bytes, hml, findClass_of_methodNamed BD.named, hts⟩
  have hx := S.1
  have hb := S.2.1
  have hown := S.2.2.2.1
  have hr := BD.returns
  have hlocks := BD.notSynchronized
  have hS : va_S (zA z) s.heap s.heap [] := va_S.rf
  have hl := lv_entry ([.ref (wad w 0 0), .int a1, .int a2, .ref (wad w 11 0)]) (n := 5) (Nat.le_of_ble_eq_true rfl)
  rw [lg_entry_eq]
  generalize (lg_sl ([.ref (wad w 0 0), .int a1, .int a2, .ref (wad w 11 0)]) ++ List.replicate (5 - (lg_sl ([.ref (wad w 0 0), .int a1, .int a2, .ref (wad w 11 0)])).length) Slot.unset).toArray = ls at hl ⊢
  have hl : lv_has ls 5 [(0, .ref (wad w 0 0)), (1, .int a1), (2, .int a2), (3, .ref (wad w 11 0))] := hl
  refine lv_aload_n hx hb dL_ofJoint_0 rfl (lv_at hl 3 rfl) ?_
  refine lv_iconst (v := 0) hx hb dL_ofJoint_1 (by decide) ?_
  refine lv_aload_n hx hb dL_ofJoint_2 rfl (lv_at hl 0 rfl) ?_
  refine lv_iload_n hx hb dL_ofJoint_3 rfl (lv_at hl 1 rfl) ?_
  refine lv_iload_n hx hb dL_ofJoint_4 rfl (lv_at hl 2 rfl) ?_
  refine x_wcall (As := [.int a1, .int a2]) (rest := [.int 0, .ref (wad w 11 0)]) (Ea := xI) (Eb := xA) (Ec := xI) S hE hS hW (c_X5_ofJoint l z hst w g gm o hO a1 a2) (cwV 2 hts (gU_V tw_725 tw_726 tw_727 tw_1 tw_728) rfl rfl rfl (by decide +kernel) ⟨Nat.le_of_ble_eq_true rfl, Nat.le_of_ble_eq_true rfl⟩) rfl hl.1 rfl (Nat.le_of_ble_eq_true rfl) dL_ofJoint_5 ⟨Nat.le_of_ble_eq_true rfl, Nat.le_of_ble_eq_true rfl⟩ (fun k ce q9 H locs hsp hk hW hS h1 h2 h3 => ?_) (fun r w9 g9 H locs hsp hs hW hS => ?_)
  · rcases hk with rfl | rfl | rfl
    · rw [show ex3 xI xA xI 1 = xI by decide +kernel] at h3
      refine vx_catch (own := RL) (name := xI) (E := xI) hown [] ⟨0, 10, 13, 13⟩ [⟨0, 10, 17, 15⟩] (hT.trans rfl) (fun u9 hz => by cases hz) rfl (by decide) (hts _ tw_94) (hE.nw (by decide +kernel)) h1 h2 h3 ?_
      refine lv_astore (lv' := [(4, .ref q9), (0, .ref (wad w 0 0)), (1, .int a1), (2, .int a2), (3, .ref (wad w 11 0))]) hx hb dL_ofJoint_13 hl (by decide) rfl (fun ls hl => ?_)
      refine lv_iconst (v := 1) hx hb dL_ofJoint_15 (by decide) ?_
      exact x_lret S hr hlocks hS hW (by rw [hsp]; rfl) wsm.rf (by rw [hsp]; rfl) (fun q => by rw [hsp] at q; exact absurd q (show ¬ (1 : Int32) = 0 by decide)) ⟨Nat.le_of_ble_eq_true rfl, Nat.le_of_ble_eq_true rfl⟩ dL_ofJoint_16
    · rw [show ex3 xI xA xI 2 = xA by decide +kernel] at h3
      refine vx_catch (own := RL) (name := xA) (E := xA) hown [⟨0, 10, 13, 13⟩] ⟨0, 10, 17, 15⟩ [] (hT.trans rfl) (fun u9 hz => by simp only [List.mem_cons, List.not_mem_nil, or_false] at hz; rcases hz with rfl; exact Or.inr ⟨by decide, xI, hts _ tw_94, hE.nc (by decide +kernel)⟩) rfl (by decide) (hts _ tw_95) (hE.nw (by decide +kernel)) h1 h2 h3 ?_
      refine lv_astore (lv' := [(4, .ref q9), (0, .ref (wad w 0 0)), (1, .int a1), (2, .int a2), (3, .ref (wad w 11 0))]) hx hb dL_ofJoint_17 hl (by decide) rfl (fun ls hl => ?_)
      refine lv_iconst (v := 2) hx hb dL_ofJoint_19 (by decide) ?_
      exact x_lret S hr hlocks hS hW (by rw [hsp]; rfl) wsm.rf (by rw [hsp]; rfl) (fun q => by rw [hsp] at q; exact absurd q (show ¬ (2 : Int32) = 0 by decide)) ⟨Nat.le_of_ble_eq_true rfl, Nat.le_of_ble_eq_true rfl⟩ dL_ofJoint_20
    · exact absurd hsp (nb_ofJoint 3 (by decide) g a1 a2)
  · refine lv_i2l (v := r.toInt64) hx hb dL_ofJoint_8 rfl ?_
    refine g_last S hE hS (hs.2.2 ▸ hW.out) (hs.2.2 ▸ hW.2.2.1 11 0 rfl) (i := 0) (by unfold vp_in; decide) dL_ofJoint_9 (fun H locs he oq z9 hS => ?_)
    replace hW := hW.uout (hs.2.2.symm ▸ he) (hs.2.2.symm ▸ oq)
    refine lv_goto (tgt := 21) hx hb dL_ofJoint_10 (by decide) ?_
    refine lv_iconst (v := 0) hx hb dL_ofJoint_21 (by decide) ?_
    exact x_lret S hr hlocks hS hW (by rw [hsp]) hs (by rw [hsp]) (fun _ => by rw [hsp]; rfl) ⟨Nat.le_of_ble_eq_true rfl, Nat.le_of_ble_eq_true rfl⟩ dL_ofJoint_22
