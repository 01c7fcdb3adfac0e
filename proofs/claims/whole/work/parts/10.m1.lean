set_option maxHeartbeats 4000000 in
set_option maxRecDepth 100000 in
/-- between(v, a, b) -/
theorem c_X6_between (l : Launch) (z : ZE) (w : WG) (g1 g : GS) (o : Nat → Int64) (t : Int32) (A B : Nat → Int32) (v a b : Int32) : Met l yX6_between (.code yX6_between cX6_between 4 (some .boolean) :: wU) ({ frames := 0, cells := 0, slots := 0, locals := 0 }) (PE z [.ref (wad w 9 (0)), .int v, .int a, .int b] (fun H => MW z w g1 o g t A B H)) (rqi (bI (wi v a b))) 0 0 zF := by
  refine Met.ofW (cc := cX6_between) (maxL := 4) (ret := (some .boolean)) (by decide) rfl ?_
  intro p e s m args below meth c s₁ BD hml hv
  obtain ⟨rfl, hE, hW⟩ := hv
  have hts : ∀ w ∈ wU, w.before _ s = true := fun w h => atoms_spec (ws := .code yX6_between cX6_between 4 (some .boolean) :: wU) BD.pre w (List.mem_cons_of_mem _ h)
  have S : CallFix p m c cX6_between 4 s ([.ref (wad w 9 (0)), .int v, .int a, .int b] : List Value).toArray wU RX6 := ⟨BD.exec, BD.bytes, hml, findClass_of_methodNamed BD.named, hts⟩
  have hx := S.1
  have hb := S.2.1
  have hown := S.2.2.2.1
  have hr := BD.returns
  have hlocks := BD.notSynchronized
  have hS : va_S (zA z) s.heap s.heap [] := va_S.rf
  have hl := lv_entry ([.ref (wad w 9 (0)), .int v, .int a, .int b]) (n := 4) (Nat.le_of_ble_eq_true rfl)
  rw [lg_entry_eq]
  generalize (lg_sl ([.ref (wad w 9 (0)), .int v, .int a, .int b]) ++ List.replicate (4 - (lg_sl ([.ref (wad w 9 (0)), .int v, .int a, .int b])).length) Slot.unset).toArray = ls at hl ⊢
  have hl : lv_has ls 4 [(0, .ref (wad w 9 (0))), (1, .int v), (2, .int a), (3, .int b)] := hl
  refine lv_iload_n hx hb dX6_between_0 rfl (lv_at hl 1 rfl) ?_
  refine lv_iload_n hx hb dX6_between_1 rfl (lv_at hl 2 rfl) ?_
  refine lv_icmp_lt (tgt := 14) hx hb dX6_between_2 (by decide) (fun c_2 => ?_) (fun c_2 => ?_)
  · refine lv_iconst (v := 0) hx hb dX6_between_14 (by decide) ?_
    exact g_zret S hr hlocks (by simp [wi, bI, c_2]) ⟨_, rfl⟩ dX6_between_15
  · refine lv_iload_n hx hb dX6_between_5 rfl (lv_at hl 1 rfl) ?_
    refine lv_iload_n hx hb dX6_between_6 rfl (lv_at hl 3 rfl) ?_
    refine lv_icmp_gt (tgt := 14) hx hb dX6_between_7 (by decide) (fun c_7_1 => ?_) (fun c_7_1 => ?_)
    · refine lv_iconst (v := 0) hx hb dX6_between_14 (by decide) ?_
      exact g_zret S hr hlocks (by simp [wi, bI, c_2, c_7_1]) ⟨_, rfl⟩ dX6_between_15
    · refine lv_iconst (v := 1) hx hb dX6_between_10 (by decide) ?_
      refine lv_goto (tgt := 15) hx hb dX6_between_11 (by decide) ?_
      exact g_zret S hr hlocks (by simp [wi, bI, c_2, c_7_1]) ⟨_, rfl⟩ dX6_between_15
set_option maxHeartbeats 4000000 in
set_option maxRecDepth 100000 in
/-- isBoard(v) -/
theorem c_X6_isBoard (l : Launch) (z : ZE) (w : WG) (g1 g : GS) (o : Nat → Int64) (t : Int32) (A B : Nat → Int32) (hO : OKg g) (v : Int32) : Met l yX6_isBoard (.code yX6_isBoard cX6_isBoard 2 (some .boolean) :: wU) ({ frames := 1, cells := 0, slots := 0, locals := 23 }) (PE z [.ref (wad w 9 (0)), .int v] (fun H => MW z w g1 o g t A B H)) (rqi (bI (wi v 0 (nI (nb g) - 1)))) 0 0 zF := by
  refine Met.ofW (cc := cX6_isBoard) (maxL := 2) (ret := (some .boolean)) (by decide) rfl ?_
  intro p e s m args below meth c s₁ BD hml hv
  obtain ⟨rfl, hE, hW⟩ := hv
  have hts : ∀ w ∈ wU, w.before _ s = true := fun w h => atoms_spec (ws := .code yX6_isBoard cX6_isBoard 2 (some .boolean) :: wU) BD.pre w (List.mem_cons_of_mem _ h)
  have S : CallFix p m c cX6_isBoard 2 s ([.ref (wad w 9 (0)), .int v] : List Value).toArray wU RX6 := ⟨BD.exec, BD.bytes, hml, findClass_of_methodNamed BD.named, hts⟩
  have hx := S.1
  have hb := S.2.1
  have hown := S.2.2.2.1
  have hr := BD.returns
  have hlocks := BD.notSynchronized
  have hS : va_S (zA z) s.heap s.heap [] := va_S.rf
  have hl := lv_entry ([.ref (wad w 9 (0)), .int v]) (n := 2) (Nat.le_of_ble_eq_true rfl)
  rw [lg_entry_eq]
  generalize (lg_sl ([.ref (wad w 9 (0)), .int v]) ++ List.replicate (2 - (lg_sl ([.ref (wad w 9 (0)), .int v])).length) Slot.unset).toArray = ls at hl ⊢
  have hl : lv_has ls 2 [(0, .ref (wad w 9 (0))), (1, .int v)] := hl
  have h20 := hO.l5
  have h40 := hO.l16
  have h30 := hO.l24
  refine lv_aload_n hx hb dX6_isBoard_0 rfl (lv_at hl 0 rfl) ?_
  refine lv_iload_n hx hb dX6_isBoard_1 rfl (lv_at hl 1 rfl) ?_
  refine lv_iconst (v := 0) hx hb dX6_isBoard_2 (by decide) ?_
  refine lv_aload_n hx hb dX6_isBoard_3 rfl (lv_at hl 0 rfl) ?_
  refine m_geti S hE hW 5 (v := nI (nb g)) (by decide) rfl (by decide) tw_745 rfl hO.n5 dX6_isBoard_4 ?_
  refine lv_iconst (v := 1) hx hb dX6_isBoard_7 (by decide) ?_
  refine lv_isub hx hb dX6_isBoard_8 ?_
  refine g_callV (As := [.int v, .int 0, .int ((nI (nb g)) - 1)]) (rest := []) S hE hS (c_X6_between l z w g1 g o (t) A B (v) (0) ((nI (nb g)) - 1)) (cwV 3 hts (gU_V tw_858 tw_860 tp_15 tw_6 tw_861) rfl rfl rfl (by decide +kernel) ⟨Nat.le_of_ble_eq_true rfl, Nat.le_of_ble_eq_true rfl⟩) (by obtain ⟨gm9, hW9, -⟩ := hW; exact hE.recv hW9.md (q := (RX6, TX6, 36)) rfl) hW rfl hl.1 rfl (Nat.le_of_ble_eq_true rfl) dX6_isBoard_9 ⟨Nat.zero_le _, Nat.zero_le _⟩ ?_
  exact g_zret S hr hlocks rfl ⟨_, rfl⟩ dX6_isBoard_12
set_option maxHeartbeats 4000000 in
set_option maxRecDepth 100000 in
/-- isPart(v) -/
theorem c_X6_isPart (l : Launch) (z : ZE) (w : WG) (g1 g : GS) (o : Nat → Int64) (t : Int32) (A B : Nat → Int32) (hO : OKg g) (v : Int32) : Met l yX6_isPart (.code yX6_isPart cX6_isPart 2 (some .boolean) :: wU) ({ frames := 1, cells := 0, slots := 0, locals := 23 }) (PE z [.ref (wad w 9 (0)), .int v] (fun H => MW z w g1 o g t A B H)) (rqi (bI (wi v 0 (nI (np g) - 1)))) 0 0 zF := by
  refine Met.ofW (cc := cX6_isPart) (maxL := 2) (ret := (some .boolean)) (by decide) rfl ?_
  intro p e s m args below meth c s₁ BD hml hv
  obtain ⟨rfl, hE, hW⟩ := hv
  have hts : ∀ w ∈ wU, w.before _ s = true := fun w h => atoms_spec (ws := .code yX6_isPart cX6_isPart 2 (some .boolean) :: wU) BD.pre w (List.mem_cons_of_mem _ h)
  have S : CallFix p m c cX6_isPart 2 s ([.ref (wad w 9 (0)), .int v] : List Value).toArray wU RX6 := ⟨BD.exec, BD.bytes, hml, findClass_of_methodNamed BD.named, hts⟩
  have hx := S.1
  have hb := S.2.1
  have hown := S.2.2.2.1
  have hr := BD.returns
  have hlocks := BD.notSynchronized
  have hS : va_S (zA z) s.heap s.heap [] := va_S.rf
  have hl := lv_entry ([.ref (wad w 9 (0)), .int v]) (n := 2) (Nat.le_of_ble_eq_true rfl)
  rw [lg_entry_eq]
  generalize (lg_sl ([.ref (wad w 9 (0)), .int v]) ++ List.replicate (2 - (lg_sl ([.ref (wad w 9 (0)), .int v])).length) Slot.unset).toArray = ls at hl ⊢
  have hl : lv_has ls 2 [(0, .ref (wad w 9 (0))), (1, .int v)] := hl
  have h20 := hO.l5
  have h40 := hO.l16
  have h30 := hO.l24
  refine lv_aload_n hx hb dX6_isPart_0 rfl (lv_at hl 0 rfl) ?_
  refine lv_iload_n hx hb dX6_isPart_1 rfl (lv_at hl 1 rfl) ?_
  refine lv_iconst (v := 0) hx hb dX6_isPart_2 (by decide) ?_
  refine lv_aload_n hx hb dX6_isPart_3 rfl (lv_at hl 0 rfl) ?_
  refine m_geti S hE hW 16 (v := nI (np g)) (by decide) rfl (by decide) tw_756 rfl hO.n16 dX6_isPart_4 ?_
  refine lv_iconst (v := 1) hx hb dX6_isPart_7 (by decide) ?_
  refine lv_isub hx hb dX6_isPart_8 ?_
  refine g_callV (As := [.int v, .int 0, .int ((nI (np g)) - 1)]) (rest := []) S hE hS (c_X6_between l z w g1 g o (t) A B (v) (0) ((nI (np g)) - 1)) (cwV 3 hts (gU_V tw_858 tw_860 tp_15 tw_6 tw_861) rfl rfl rfl (by decide +kernel) ⟨Nat.le_of_ble_eq_true rfl, Nat.le_of_ble_eq_true rfl⟩) (by obtain ⟨gm9, hW9, -⟩ := hW; exact hE.recv hW9.md (q := (RX6, TX6, 36)) rfl) hW rfl hl.1 rfl (Nat.le_of_ble_eq_true rfl) dX6_isPart_9 ⟨Nat.zero_le _, Nat.zero_le _⟩ ?_
  exact g_zret S hr hlocks rfl ⟨_, rfl⟩ dX6_isPart_12
set_option maxHeartbeats 4000000 in
set_option maxRecDepth 100000 in
/-- isJoint(v) -/
theorem c_X6_isJoint (l : Launch) (z : ZE) (w : WG) (g1 g : GS) (o : Nat → Int64) (t : Int32) (A B : Nat → Int32) (hO : OKg g) (v : Int32) : Met l yX6_isJoint (.code yX6_isJoint cX6_isJoint 2 (some .boolean) :: wU) ({ frames := 1, cells := 0, slots := 0, locals := 23 }) (PE z [.ref (wad w 9 (0)), .int v] (fun H => MW z w g1 o g t A B H)) (rqi (bI (wi v 0 (nI (nj g) - 1)))) 0 0 zF := by
  refine Met.ofW (cc := cX6_isJoint) (maxL := 2) (ret := (some .boolean)) (by decide) rfl ?_
  intro p e s m args below meth c s₁ BD hml hv
  obtain ⟨rfl, hE, hW⟩ := hv
  have hts : ∀ w ∈ wU, w.before _ s = true := fun w h => atoms_spec (ws := .code yX6_isJoint cX6_isJoint 2 (some .boolean) :: wU) BD.pre w (List.mem_cons_of_mem _ h)
  have S : CallFix p m c cX6_isJoint 2 s ([.ref (wad w 9 (0)), .int v] : List Value).toArray wU RX6 := ⟨BD.exec, BD.bytes, hml, findClass_of_methodNamed BD.named, hts⟩
  have hx := S.1
  have hb := S.2.1
  have hown := S.2.2.2.1
  have hr := BD.returns
  have hlocks := BD.notSynchronized
  have hS : va_S (zA z) s.heap s.heap [] := va_S.rf
  have hl := lv_entry ([.ref (wad w 9 (0)), .int v]) (n := 2) (Nat.le_of_ble_eq_true rfl)
  rw [lg_entry_eq]
  generalize (lg_sl ([.ref (wad w 9 (0)), .int v]) ++ List.replicate (2 - (lg_sl ([.ref (wad w 9 (0)), .int v])).length) Slot.unset).toArray = ls at hl ⊢
  have hl : lv_has ls 2 [(0, .ref (wad w 9 (0))), (1, .int v)] := hl
  have h20 := hO.l5
  have h40 := hO.l16
  have h30 := hO.l24
  refine lv_aload_n hx hb dX6_isJoint_0 rfl (lv_at hl 0 rfl) ?_
  refine lv_iload_n hx hb dX6_isJoint_1 rfl (lv_at hl 1 rfl) ?_
  refine lv_iconst (v := 0) hx hb dX6_isJoint_2 (by decide) ?_
  refine lv_aload_n hx hb dX6_isJoint_3 rfl (lv_at hl 0 rfl) ?_
  refine m_geti S hE hW 24 (v := nI (nj g)) (by decide) rfl (by decide) tw_764 rfl hO.n24 dX6_isJoint_4 ?_
  refine lv_iconst (v := 1) hx hb dX6_isJoint_7 (by decide) ?_
  refine lv_isub hx hb dX6_isJoint_8 ?_
  refine g_callV (As := [.int v, .int 0, .int ((nI (nj g)) - 1)]) (rest := []) S hE hS (c_X6_between l z w g1 g o (t) A B (v) (0) ((nI (nj g)) - 1)) (cwV 3 hts (gU_V tw_858 tw_860 tp_15 tw_6 tw_861) rfl rfl rfl (by decide +kernel) ⟨Nat.le_of_ble_eq_true rfl, Nat.le_of_ble_eq_true rfl⟩) (by obtain ⟨gm9, hW9, -⟩ := hW; exact hE.recv hW9.md (q := (RX6, TX6, 36)) rfl) hW rfl hl.1 rfl (Nat.le_of_ble_eq_true rfl) dX6_isJoint_9 ⟨Nat.zero_le _, Nat.zero_le _⟩ ?_
  exact g_zret S hr hlocks rfl ⟨_, rfl⟩ dX6_isJoint_12
set_option maxHeartbeats 4000000 in
set_option maxRecDepth 100000 in
/-- isMoisture(v) -/
theorem c_X6_isMoisture (l : Launch) (z : ZE) (w : WG) (g1 g : GS) (o : Nat → Int64) (t : Int32) (A B : Nat → Int32) (v : Int32) : Met l yX6_isMoisture (.code yX6_isMoisture cX6_isMoisture 2 (some .boolean) :: wU) ({ frames := 1, cells := 0, slots := 0, locals := 23 }) (PE z [.ref (wad w 9 (0)), .int v] (fun H => MW z w g1 o g t A B H)) (rqi (bI (wi v 40 300))) 0 0 zF := by
  refine Met.ofW (cc := cX6_isMoisture) (maxL := 2) (ret := (some .boolean)) (by decide) rfl ?_
  intro p e s m args below meth c s₁ BD hml hv
  obtain ⟨rfl, hE, hW⟩ := hv
  have hts : ∀ w ∈ wU, w.before _ s = true := fun w h => atoms_spec (ws := .code yX6_isMoisture cX6_isMoisture 2 (some .boolean) :: wU) BD.pre w (List.mem_cons_of_mem _ h)
  have S : CallFix p m c cX6_isMoisture 2 s ([.ref (wad w 9 (0)), .int v] : List Value).toArray wU RX6 := ⟨BD.exec, BD.bytes, hml, findClass_of_methodNamed BD.named, hts⟩
  have hx := S.1
  have hb := S.2.1
  have hown := S.2.2.2.1
  have hr := BD.returns
  have hlocks := BD.notSynchronized
  have hS : va_S (zA z) s.heap s.heap [] := va_S.rf
  have hl := lv_entry ([.ref (wad w 9 (0)), .int v]) (n := 2) (Nat.le_of_ble_eq_true rfl)
  rw [lg_entry_eq]
  generalize (lg_sl ([.ref (wad w 9 (0)), .int v]) ++ List.replicate (2 - (lg_sl ([.ref (wad w 9 (0)), .int v])).length) Slot.unset).toArray = ls at hl ⊢
  have hl : lv_has ls 2 [(0, .ref (wad w 9 (0))), (1, .int v)] := hl
  refine lv_aload_n hx hb dX6_isMoisture_0 rfl (lv_at hl 0 rfl) ?_
  refine lv_iload_n hx hb dX6_isMoisture_1 rfl (lv_at hl 1 rfl) ?_
  refine lv_bipush (v := 40) hx hb dX6_isMoisture_2 (by decide) ?_
  refine lv_sipush (v := 300) hx hb dX6_isMoisture_4 (by decide) ?_
  refine g_callV (As := [.int v, .int 40, .int 300]) (rest := []) S hE hS (c_X6_between l z w g1 g o (t) A B (v) (40) (300)) (cwV 3 hts (gU_V tw_858 tw_860 tp_15 tw_6 tw_861) rfl rfl rfl (by decide +kernel) ⟨Nat.le_of_ble_eq_true rfl, Nat.le_of_ble_eq_true rfl⟩) (by obtain ⟨gm9, hW9, -⟩ := hW; exact hE.recv hW9.md (q := (RX6, TX6, 36)) rfl) hW rfl hl.1 rfl (Nat.le_of_ble_eq_true rfl) dX6_isMoisture_7 ⟨Nat.zero_le _, Nat.zero_le _⟩ ?_
  exact g_zret S hr hlocks rfl ⟨_, rfl⟩ dX6_isMoisture_10
set_option maxHeartbeats 4000000 in
set_option maxRecDepth 100000 in
/-- moves(kind) -/
theorem c_X6_moves (l : Launch) (z : ZE) (w : WG) (g1 g : GS) (o : Nat → Int64) (t : Int32) (A B : Nat → Int32) (v : Int32) : Met l yX6_moves (.code yX6_moves cX6_moves 2 (some .int) :: wU) ({ frames := 0, cells := 0, slots := 0, locals := 0 }) (PE z [.ref (wad w 9 (0)), .int v] (fun H => MW z w g1 o g t A B H)) (rqi (v + 2)) 0 0 zF := by
  refine Met.ofW (cc := cX6_moves) (maxL := 2) (ret := (some .int)) (by decide) rfl ?_
  intro p e s m args below meth c s₁ BD hml hv
  obtain ⟨rfl, hE, hW⟩ := hv
  have hts : ∀ w ∈ wU, w.before _ s = true := fun w h => atoms_spec (ws := .code yX6_moves cX6_moves 2 (some .int) :: wU) BD.pre w (List.mem_cons_of_mem _ h)
  have S : CallFix p m c cX6_moves 2 s ([.ref (wad w 9 (0)), .int v] : List Value).toArray wU RX6 := ⟨BD.exec, BD.bytes, hml, findClass_of_methodNamed BD.named, hts⟩
  have hx := S.1
  have hb := S.2.1
  have hown := S.2.2.2.1
  have hr := BD.returns
  have hlocks := BD.notSynchronized
  have hS : va_S (zA z) s.heap s.heap [] := va_S.rf
  have hl := lv_entry ([.ref (wad w 9 (0)), .int v]) (n := 2) (Nat.le_of_ble_eq_true rfl)
  rw [lg_entry_eq]
  generalize (lg_sl ([.ref (wad w 9 (0)), .int v]) ++ List.replicate (2 - (lg_sl ([.ref (wad w 9 (0)), .int v])).length) Slot.unset).toArray = ls at hl ⊢
  have hl : lv_has ls 2 [(0, .ref (wad w 9 (0))), (1, .int v)] := hl
  refine lv_iload_n hx hb dX6_moves_0 rfl (lv_at hl 1 rfl) ?_
  refine lv_iconst (v := 2) hx hb dX6_moves_1 (by decide) ?_
  refine lv_iadd hx hb dX6_moves_2 ?_
  exact g_iret S hr hlocks rfl dX6_moves_3
set_option maxHeartbeats 4000000 in
set_option maxRecDepth 100000 in
/-- hardness(kind) -/
theorem c_X6_hardness (l : Launch) (z : ZE) (w : WG) (g1 g : GS) (o : Nat → Int64) (t : Int32) (A B : Nat → Int32) (v : Int32) : Met l yX6_hardness (.code yX6_hardness cX6_hardness 2 (some .int) :: wU) ({ frames := 0, cells := 0, slots := 0, locals := 0 }) (PE z [.ref (wad w 9 (0)), .int v] (fun H => MW z w g1 o g t A B H)) (rqi (hd v)) 0 0 zF := by
  refine Met.ofW (cc := cX6_hardness) (maxL := 2) (ret := (some .int)) (by decide) rfl ?_
  intro p e s m args below meth c s₁ BD hml hv
  obtain ⟨rfl, hE, hW⟩ := hv
  have hts : ∀ w ∈ wU, w.before _ s = true := fun w h => atoms_spec (ws := .code yX6_hardness cX6_hardness 2 (some .int) :: wU) BD.pre w (List.mem_cons_of_mem _ h)
  have S : CallFix p m c cX6_hardness 2 s ([.ref (wad w 9 (0)), .int v] : List Value).toArray wU RX6 := ⟨BD.exec, BD.bytes, hml, findClass_of_methodNamed BD.named, hts⟩
  have hx := S.1
  have hb := S.2.1
  have hown := S.2.2.2.1
  have hr := BD.returns
  have hlocks := BD.notSynchronized
  have hS : va_S (zA z) s.heap s.heap [] := va_S.rf
  have hl := lv_entry ([.ref (wad w 9 (0)), .int v]) (n := 2) (Nat.le_of_ble_eq_true rfl)
  rw [lg_entry_eq]
  generalize (lg_sl ([.ref (wad w 9 (0)), .int v]) ++ List.replicate (2 - (lg_sl ([.ref (wad w 9 (0)), .int v])).length) Slot.unset).toArray = ls at hl ⊢
  have hl : lv_has ls 2 [(0, .ref (wad w 9 (0))), (1, .int v)] := hl
  refine lv_iload_n hx hb dX6_hardness_0 rfl (lv_at hl 1 rfl) ?_
  refine lv_if_ne (tgt := 8) hx hb dX6_hardness_1 (by decide) (fun c_1 => ?_) (fun c_1 => ?_)
  · refine lv_iload_n hx hb dX6_hardness_8 rfl (lv_at hl 1 rfl) ?_
    refine lv_iconst (v := 1) hx hb dX6_hardness_9 (by decide) ?_
    refine lv_icmp_ne (tgt := 17) hx hb dX6_hardness_10 (by decide) (fun c_10_1 => ?_) (fun c_10_1 => ?_)
    · refine lv_iload_n hx hb dX6_hardness_17 rfl (lv_at hl 1 rfl) ?_
      refine lv_iconst (v := 2) hx hb dX6_hardness_18 (by decide) ?_
      refine lv_icmp_ne (tgt := 27) hx hb dX6_hardness_19 (by decide) (fun c_19_2 => ?_) (fun c_19_2 => ?_)
      · refine lv_bipush (v := 9) hx hb dX6_hardness_27 (by decide) ?_
        exact g_iret S hr hlocks (by simp [hd, c_1, c_10_1, c_19_2]) dX6_hardness_29
      · refine lv_bipush (v := 7) hx hb dX6_hardness_22 (by decide) ?_
        refine lv_goto (tgt := 29) hx hb dX6_hardness_24 (by decide) ?_
        exact g_iret S hr hlocks (by simp [hd, c_1, c_10_1, c_19_2]) dX6_hardness_29
    · refine lv_iconst (v := 4) hx hb dX6_hardness_13 (by decide) ?_
      refine lv_goto (tgt := 29) hx hb dX6_hardness_14 (by decide) ?_
      exact g_iret S hr hlocks (by simp [hd, c_1, c_10_1]) dX6_hardness_29
  · refine lv_iconst (v := 2) hx hb dX6_hardness_4 (by decide) ?_
    refine lv_goto (tgt := 29) hx hb dX6_hardness_5 (by decide) ?_
    exact g_iret S hr hlocks (by simp [hd, c_1]) dX6_hardness_29
set_option maxHeartbeats 4000000 in
set_option maxRecDepth 100000 in
/-- moved(size, kind, moister) -/
theorem c_X6_moved (l : Launch) (z : ZE) (w : WG) (g1 g : GS) (o : Nat → Int64) (t : Int32) (A B : Nat → Int32) (size kind moister : Int32) : Met l yX6_moved (.code yX6_moved cX6_moved 4 (some .int) :: wU) ({ frames := 1, cells := 0, slots := 0, locals := 21 }) (PE z [.ref (wad w 9 (0)), .int size, .int kind, .int moister] (fun H => MW z w g1 o g t A B H)) (rqi (mvd size kind moister)) 0 0 zF := by
  refine Met.ofW (cc := cX6_moved) (maxL := 4) (ret := (some .int)) (by decide) rfl ?_
  intro p e s m args below meth c s₁ BD hml hv
  obtain ⟨rfl, hE, hW⟩ := hv
  have hts : ∀ w ∈ wU, w.before _ s = true := fun w h => atoms_spec (ws := .code yX6_moved cX6_moved 4 (some .int) :: wU) BD.pre w (List.mem_cons_of_mem _ h)
  have S : CallFix p m c cX6_moved 4 s ([.ref (wad w 9 (0)), .int size, .int kind, .int moister] : List Value).toArray wU RX6 := ⟨BD.exec, BD.bytes, hml, findClass_of_methodNamed BD.named, hts⟩
  have hx := S.1
  have hb := S.2.1
  have hown := S.2.2.2.1
  have hr := BD.returns
  have hlocks := BD.notSynchronized
  have hS : va_S (zA z) s.heap s.heap [] := va_S.rf
  have hl := lv_entry ([.ref (wad w 9 (0)), .int size, .int kind, .int moister]) (n := 4) (Nat.le_of_ble_eq_true rfl)
  rw [lg_entry_eq]
  generalize (lg_sl ([.ref (wad w 9 (0)), .int size, .int kind, .int moister]) ++ List.replicate (4 - (lg_sl ([.ref (wad w 9 (0)), .int size, .int kind, .int moister])).length) Slot.unset).toArray = ls at hl ⊢
  have hl : lv_has ls 4 [(0, .ref (wad w 9 (0))), (1, .int size), (2, .int kind), (3, .int moister)] := hl
  refine lv_iload_n hx hb dX6_moved_0 rfl (lv_at hl 1 rfl) ?_
  refine lv_aload_n hx hb dX6_moved_1 rfl (lv_at hl 0 rfl) ?_
  refine lv_iload_n hx hb dX6_moved_2 rfl (lv_at hl 2 rfl) ?_
  refine g_callV (As := [.int kind]) (rest := [.int size]) S hE hS (c_X6_moves l z w g1 g o (t) A B (kind)) (cwV 1 hts (gU_V tw_886 tw_888 tp_21 tw_6 tw_889) rfl rfl rfl (by decide +kernel) ⟨Nat.le_of_ble_eq_true rfl, Nat.le_of_ble_eq_true rfl⟩) (by obtain ⟨gm9, hW9, -⟩ := hW; exact hE.recv hW9.md (q := (RX6, TX6, 36)) rfl) hW rfl hl.1 rfl (Nat.le_of_ble_eq_true rfl) dX6_moved_3 ⟨Nat.zero_le _, Nat.zero_le _⟩ ?_
  refine lv_imul hx hb dX6_moved_6 ?_
  refine lv_iload_n hx hb dX6_moved_7 rfl (lv_at hl 3 rfl) ?_
  refine lv_imul hx hb dX6_moved_8 ?_
  refine lv_sipush (v := 10000) hx hb dX6_moved_9 (by decide) ?_
  refine lv_idiv hx hb dX6_moved_12 (by decide) ?_
  exact g_iret S hr hlocks rfl dX6_moved_13
set_option maxHeartbeats 4000000 in
set_option maxRecDepth 100000 in
/-- speciesOf(part) -/
theorem c_X6_speciesOf (l : Launch) (z : ZE) (w : WG) (g1 g : GS) (o : Nat → Int64) (t : Int32) (A B : Nat → Int32) (hO : OKg g) (i : Nat) (hi : i < np g) : Met l yX6_speciesOf (.code yX6_speciesOf cX6_speciesOf 2 (some .int) :: wU) ({ frames := 0, cells := 0, slots := 0, locals := 0 }) (PE z [.ref (wad w 9 (0)), .int (nI i)] (fun H => MW z w g1 o g t A B H)) (rqi (g 6 (pb g i))) 0 0 zF := by
  refine Met.ofW (cc := cX6_speciesOf) (maxL := 2) (ret := (some .int)) (by decide) rfl ?_
  intro p e s m args below meth c s₁ BD hml hv
  obtain ⟨rfl, hE, hW⟩ := hv
  have hts : ∀ w ∈ wU, w.before _ s = true := fun w h => atoms_spec (ws := .code yX6_speciesOf cX6_speciesOf 2 (some .int) :: wU) BD.pre w (List.mem_cons_of_mem _ h)
  have S : CallFix p m c cX6_speciesOf 2 s ([.ref (wad w 9 (0)), .int (nI i)] : List Value).toArray wU RX6 := ⟨BD.exec, BD.bytes, hml, findClass_of_methodNamed BD.named, hts⟩
  have hx := S.1
  have hb := S.2.1
  have hown := S.2.2.2.1
  have hr := BD.returns
  have hlocks := BD.notSynchronized
  have hS : va_S (zA z) s.heap s.heap [] := va_S.rf
  have hl := lv_entry ([.ref (wad w 9 (0)), .int (nI i)]) (n := 2) (Nat.le_of_ble_eq_true rfl)
  rw [lg_entry_eq]
  generalize (lg_sl ([.ref (wad w 9 (0)), .int (nI i)]) ++ List.replicate (2 - (lg_sl ([.ref (wad w 9 (0)), .int (nI i)])).length) Slot.unset).toArray = ls at hl ⊢
  have hl : lv_has ls 2 [(0, .ref (wad w 9 (0))), (1, .int (nI i))] := hl
  have h20 := hO.l5
  have h40 := hO.l16
  have hpb := hO.l17 hi
  refine lv_aload_n hx hb dX6_speciesOf_0 rfl (lv_at hl 0 rfl) ?_
  refine m_geta S hE hW 6 (by decide) rfl tw_746 rfl dX6_speciesOf_1 ?_
  refine lv_aload_n hx hb dX6_speciesOf_4 rfl (lv_at hl 0 rfl) ?_
  refine m_geta S hE hW 17 (by decide) rfl tw_757 rfl dX6_speciesOf_5 ?_
  refine lv_iload_n hx hb dX6_speciesOf_8 rfl (lv_at hl 1 rfl) ?_
  refine m_ald S hE hW (k := 17) (v := nI (pb g (i))) rfl (vp_in_nI (show i < 40 from (by omega)) (by decide)) (by rw [show (nI i : Int32).toNatClampNeg = i from (nI_clamp (by omega))]; exact (hO.n17 (i := i) (by omega))) dX6_speciesOf_9 ?_
  refine m_ald S hE hW (k := 6) (v := g 6 (pb g (i))) rfl (vp_in_nI (show pb g (i) < 20 from (by omega)) (by decide)) (by rw [show (nI (pb g (i)) : Int32).toNatClampNeg = pb g (i) from (nI_clamp (by omega))]) dX6_speciesOf_10 ?_
  exact g_iret S hr hlocks rfl dX6_speciesOf_11
set_option maxHeartbeats 4000000 in
set_option maxRecDepth 100000 in
/-- widthAt(part, wood) -/
theorem c_X6_widthAt (l : Launch) (z : ZE) (w : WG) (g1 g : GS) (o : Nat → Int64) (t : Int32) (A B : Nat → Int32) (hO : OKg g) (i : Nat) (hi : i < np g) (wd : Int32) : Met l yX6_widthAt (.code yX6_widthAt cX6_widthAt 3 (some .int) :: wU) ({ frames := 2, cells := 0, slots := 0, locals := 44 }) (PE z [.ref (wad w 9 (0)), .int (nI i), .int wd] (fun H => MW z w g1 o g t A B H)) (rqi (wAt g i wd)) 0 0 zF := by
  refine Met.ofW (cc := cX6_widthAt) (maxL := 3) (ret := (some .int)) (by decide) rfl ?_
  intro p e s m args below meth c s₁ BD hml hv
  obtain ⟨rfl, hE, hW⟩ := hv
  have hts : ∀ w ∈ wU, w.before _ s = true := fun w h => atoms_spec (ws := .code yX6_widthAt cX6_widthAt 3 (some .int) :: wU) BD.pre w (List.mem_cons_of_mem _ h)
  have S : CallFix p m c cX6_widthAt 3 s ([.ref (wad w 9 (0)), .int (nI i), .int wd] : List Value).toArray wU RX6 := ⟨BD.exec, BD.bytes, hml, findClass_of_methodNamed BD.named, hts⟩
  have hx := S.1
  have hb := S.2.1
  have hown := S.2.2.2.1
  have hr := BD.returns
  have hlocks := BD.notSynchronized
  have hS : va_S (zA z) s.heap s.heap [] := va_S.rf
  have hl := lv_entry ([.ref (wad w 9 (0)), .int (nI i), .int wd]) (n := 3) (Nat.le_of_ble_eq_true rfl)
  rw [lg_entry_eq]
  generalize (lg_sl ([.ref (wad w 9 (0)), .int (nI i), .int wd]) ++ List.replicate (3 - (lg_sl ([.ref (wad w 9 (0)), .int (nI i), .int wd])).length) Slot.unset).toArray = ls at hl ⊢
  have hl : lv_has ls 3 [(0, .ref (wad w 9 (0))), (1, .int (nI i)), (2, .int wd)] := hl
  have h20 := hO.l5
  have h40 := hO.l16
  refine lv_aload_n hx hb dX6_widthAt_0 rfl (lv_at hl 0 rfl) ?_
  refine m_geta S hE hW 20 (by decide) rfl tw_760 rfl dX6_widthAt_1 ?_
  refine lv_iload_n hx hb dX6_widthAt_4 rfl (lv_at hl 1 rfl) ?_
  refine m_ald S hE hW (k := 20) (v := g 20 i) rfl (vp_in_nI (show i < 40 from (by omega)) (by decide)) (by rw [show (nI i : Int32).toNatClampNeg = i from (nI_clamp (by omega))]) dX6_widthAt_5 ?_
  refine lv_aload_n hx hb dX6_widthAt_6 rfl (lv_at hl 0 rfl) ?_
  refine lv_aload_n hx hb dX6_widthAt_7 rfl (lv_at hl 0 rfl) ?_
  refine m_geta S hE hW 20 (by decide) rfl tw_760 rfl dX6_widthAt_8 ?_
  refine lv_iload_n hx hb dX6_widthAt_11 rfl (lv_at hl 1 rfl) ?_
  refine m_ald S hE hW (k := 20) (v := g 20 i) rfl (vp_in_nI (show i < 40 from (by omega)) (by decide)) (by rw [show (nI i : Int32).toNatClampNeg = i from (nI_clamp (by omega))]) dX6_widthAt_12 ?_
  refine lv_aload_n hx hb dX6_widthAt_13 rfl (lv_at hl 0 rfl) ?_
  refine lv_iload_n hx hb dX6_widthAt_14 rfl (lv_at hl 1 rfl) ?_
  refine g_callV (As := [.int (nI i)]) (rest := [.int (g 20 i), .ref (wad w 9 (0)), .int (g 20 i)]) S hE hS (c_X6_speciesOf l z w g1 g o (t) A B hO (i) (by omega)) (cwV 1 hts (gU_V tw_878 tw_880 tp_19 tw_6 tw_881) rfl rfl rfl (by decide +kernel) ⟨Nat.le_of_ble_eq_true rfl, Nat.le_of_ble_eq_true rfl⟩) (by obtain ⟨gm9, hW9, -⟩ := hW; exact hE.recv hW9.md (q := (RX6, TX6, 36)) rfl) hW rfl hl.1 rfl (Nat.le_of_ble_eq_true rfl) dX6_widthAt_15 ⟨Nat.zero_le _, Nat.zero_le _⟩ ?_
  refine lv_iload_n hx hb dX6_widthAt_18 rfl (lv_at hl 2 rfl) ?_
  refine lv_aload_n hx hb dX6_widthAt_19 rfl (lv_at hl 0 rfl) ?_
  refine m_geta S hE hW 21 (by decide) rfl tw_761 rfl dX6_widthAt_20 ?_
  refine lv_iload_n hx hb dX6_widthAt_23 rfl (lv_at hl 1 rfl) ?_
  refine m_ald S hE hW (k := 21) (v := g 21 i) rfl (vp_in_nI (show i < 40 from (by omega)) (by decide)) (by rw [show (nI i : Int32).toNatClampNeg = i from (nI_clamp (by omega))]) dX6_widthAt_24 ?_
  refine lv_isub hx hb dX6_widthAt_25 ?_
  refine g_callV (As := [.int (g 20 i), .int (g 6 (pb g (i))), .int (wd - (g 21 i))]) (rest := [.int (g 20 i)]) S hE hS (c_X6_moved l z w g1 g o (t) A B (g 20 i) (g 6 (pb g (i))) (wd - (g 21 i))) (cwV 3 hts (gU_V tw_882 tw_884 tp_20 tw_6 tw_885) rfl rfl rfl (by decide +kernel) ⟨Nat.le_of_ble_eq_true rfl, Nat.le_of_ble_eq_true rfl⟩) (by obtain ⟨gm9, hW9, -⟩ := hW; exact hE.recv hW9.md (q := (RX6, TX6, 36)) rfl) hW rfl hl.1 rfl (Nat.le_of_ble_eq_true rfl) dX6_widthAt_26 ⟨Nat.zero_le _, Nat.zero_le _⟩ ?_
  refine lv_iadd hx hb dX6_widthAt_29 ?_
  exact g_iret S hr hlocks rfl dX6_widthAt_30
set_option maxHeartbeats 4000000 in
set_option maxRecDepth 100000 in
/-- boardWidth(board) -/
theorem c_X6_boardWidth (l : Launch) (z : ZE) (w : WG) (g1 g : GS) (o : Nat → Int64) (t : Int32) (A B : Nat → Int32) (hO : OKg g) (i : Nat) (hi : i < nb g) : Met l yX6_boardWidth (.code yX6_boardWidth cX6_boardWidth 2 (some .int) :: wU) ({ frames := 2, cells := 0, slots := 0, locals := 44 }) (PE z [.ref (wad w 9 (0)), .int (nI i)] (fun H => MW z w g1 o g t A B H)) (rqi (bWd g i)) 0 0 zF := by
  refine Met.ofW (cc := cX6_boardWidth) (maxL := 2) (ret := (some .int)) (by decide) rfl ?_
  intro p e s m args below meth c s₁ BD hml hv
  obtain ⟨rfl, hE, hW⟩ := hv
  have hts : ∀ w ∈ wU, w.before _ s = true := fun w h => atoms_spec (ws := .code yX6_boardWidth cX6_boardWidth 2 (some .int) :: wU) BD.pre w (List.mem_cons_of_mem _ h)
  have S : CallFix p m c cX6_boardWidth 2 s ([.ref (wad w 9 (0)), .int (nI i)] : List Value).toArray wU RX6 := ⟨BD.exec, BD.bytes, hml, findClass_of_methodNamed BD.named, hts⟩
  have hx := S.1
  have hb := S.2.1
  have hown := S.2.2.2.1
  have hr := BD.returns
  have hlocks := BD.notSynchronized
  have hS : va_S (zA z) s.heap s.heap [] := va_S.rf
  have hl := lv_entry ([.ref (wad w 9 (0)), .int (nI i)]) (n := 2) (Nat.le_of_ble_eq_true rfl)
  rw [lg_entry_eq]
  generalize (lg_sl ([.ref (wad w 9 (0)), .int (nI i)]) ++ List.replicate (2 - (lg_sl ([.ref (wad w 9 (0)), .int (nI i)])).length) Slot.unset).toArray = ls at hl ⊢
  have hl : lv_has ls 2 [(0, .ref (wad w 9 (0))), (1, .int (nI i))] := hl
  have h20 := hO.l5
  have h40 := hO.l16
  refine lv_aload_n hx hb dX6_boardWidth_0 rfl (lv_at hl 0 rfl) ?_
  refine m_geta S hE hW 9 (by decide) rfl tw_749 rfl dX6_boardWidth_1 ?_
  refine lv_iload_n hx hb dX6_boardWidth_4 rfl (lv_at hl 1 rfl) ?_
  refine m_ald S hE hW (k := 9) (v := g 9 i) rfl (vp_in_nI (show i < 20 from (by omega)) (by decide)) (by rw [show (nI i : Int32).toNatClampNeg = i from (nI_clamp (by omega))]) dX6_boardWidth_5 ?_
  refine lv_aload_n hx hb dX6_boardWidth_6 rfl (lv_at hl 0 rfl) ?_
  refine lv_aload_n hx hb dX6_boardWidth_7 rfl (lv_at hl 0 rfl) ?_
  refine m_geta S hE hW 9 (by decide) rfl tw_749 rfl dX6_boardWidth_8 ?_
  refine lv_iload_n hx hb dX6_boardWidth_11 rfl (lv_at hl 1 rfl) ?_
  refine m_ald S hE hW (k := 9) (v := g 9 i) rfl (vp_in_nI (show i < 20 from (by omega)) (by decide)) (by rw [show (nI i : Int32).toNatClampNeg = i from (nI_clamp (by omega))]) dX6_boardWidth_12 ?_
  refine lv_aload_n hx hb dX6_boardWidth_13 rfl (lv_at hl 0 rfl) ?_
  refine m_geta S hE hW 6 (by decide) rfl tw_746 rfl dX6_boardWidth_14 ?_
  refine lv_iload_n hx hb dX6_boardWidth_17 rfl (lv_at hl 1 rfl) ?_
  refine m_ald S hE hW (k := 6) (v := g 6 i) rfl (vp_in_nI (show i < 20 from (by omega)) (by decide)) (by rw [show (nI i : Int32).toNatClampNeg = i from (nI_clamp (by omega))]) dX6_boardWidth_18 ?_
  refine lv_aload_n hx hb dX6_boardWidth_19 rfl (lv_at hl 0 rfl) ?_
  refine m_geta S hE hW 12 (by decide) rfl tw_752 rfl dX6_boardWidth_20 ?_
  refine lv_iload_n hx hb dX6_boardWidth_23 rfl (lv_at hl 1 rfl) ?_
  refine m_ald S hE hW (k := 12) (v := g 12 i) rfl (vp_in_nI (show i < 20 from (by omega)) (by decide)) (by rw [show (nI i : Int32).toNatClampNeg = i from (nI_clamp (by omega))]) dX6_boardWidth_24 ?_
  refine lv_aload_n hx hb dX6_boardWidth_25 rfl (lv_at hl 0 rfl) ?_
  refine m_geta S hE hW 11 (by decide) rfl tw_751 rfl dX6_boardWidth_26 ?_
  refine lv_iload_n hx hb dX6_boardWidth_29 rfl (lv_at hl 1 rfl) ?_
  refine m_ald S hE hW (k := 11) (v := g 11 i) rfl (vp_in_nI (show i < 20 from (by omega)) (by decide)) (by rw [show (nI i : Int32).toNatClampNeg = i from (nI_clamp (by omega))]) dX6_boardWidth_30 ?_
  refine lv_isub hx hb dX6_boardWidth_31 ?_
  refine g_callV (As := [.int (g 9 i), .int (g 6 i), .int ((g 12 i) - (g 11 i))]) (rest := [.int (g 9 i)]) S hE hS (c_X6_moved l z w g1 g o (t) A B (g 9 i) (g 6 i) ((g 12 i) - (g 11 i))) (cwV 3 hts (gU_V tw_882 tw_884 tp_20 tw_6 tw_885) rfl rfl rfl (by decide +kernel) ⟨Nat.le_of_ble_eq_true rfl, Nat.le_of_ble_eq_true rfl⟩) (by obtain ⟨gm9, hW9, -⟩ := hW; exact hE.recv hW9.md (q := (RX6, TX6, 36)) rfl) hW rfl hl.1 rfl (Nat.le_of_ble_eq_true rfl) dX6_boardWidth_32 ⟨Nat.zero_le _, Nat.zero_le _⟩ ?_
  refine lv_iadd hx hb dX6_boardWidth_35 ?_
  exact g_iret S hr hlocks rfl dX6_boardWidth_36
set_option maxHeartbeats 4000000 in
set_option maxRecDepth 100000 in
/-- behind(wood, month, coats) -/
theorem c_X6_behind (l : Launch) (z : ZE) (w : WG) (g1 g : GS) (o : Nat → Int64) (t : Int32) (A B : Nat → Int32) (wd : Int32) (n : Nat) (hn : n < 2000) (co : Int32) (hco : ¬ (4 + co : Int32) = 0) : Met l yX6_behind (.code yX6_behind cX6_behind 6 (some .int) :: wU) ({ frames := 0, cells := 0, slots := 0, locals := 0 }) (PE z [.ref (wad w 9 (0)), .int wd, .int (nI n), .int co] (fun H => MW z w g1 o g t A B H)) (rqi (beh (wea g n) wd co)) 0 0 zF := by
  refine Met.ofW (cc := cX6_behind) (maxL := 6) (ret := (some .int)) (by decide) rfl ?_
  intro p e s m args below meth c s₁ BD hml hv
  obtain ⟨rfl, hE, hW⟩ := hv
  have hts : ∀ w ∈ wU, w.before _ s = true := fun w h => atoms_spec (ws := .code yX6_behind cX6_behind 6 (some .int) :: wU) BD.pre w (List.mem_cons_of_mem _ h)
  have S : CallFix p m c cX6_behind 6 s ([.ref (wad w 9 (0)), .int wd, .int (nI n), .int co] : List Value).toArray wU RX6 := ⟨BD.exec, BD.bytes, hml, findClass_of_methodNamed BD.named, hts⟩
  have hx := S.1
  have hb := S.2.1
  have hown := S.2.2.2.1
  have hr := BD.returns
  have hlocks := BD.notSynchronized
  have hS : va_S (zA z) s.heap s.heap [] := va_S.rf
  have hl := lv_entry ([.ref (wad w 9 (0)), .int wd, .int (nI n), .int co]) (n := 6) (Nat.le_of_ble_eq_true rfl)
  rw [lg_entry_eq]
  generalize (lg_sl ([.ref (wad w 9 (0)), .int wd, .int (nI n), .int co]) ++ List.replicate (6 - (lg_sl ([.ref (wad w 9 (0)), .int wd, .int (nI n), .int co])).length) Slot.unset).toArray = ls at hl ⊢
  have hl : lv_has ls 6 [(0, .ref (wad w 9 (0))), (1, .int wd), (2, .int (nI n)), (3, .int co)] := hl
  refine lv_aload_n hx hb dX6_behind_0 rfl (lv_at hl 0 rfl) ?_
  refine m_geta S hE hW 2 (by decide) rfl tw_742 rfl dX6_behind_1 ?_
  refine lv_iload_n hx hb dX6_behind_4 rfl (lv_at hl 2 rfl) ?_
  refine lv_bipush (v := 12) hx hb dX6_behind_5 (by decide) ?_
  refine lv_irem hx hb dX6_behind_7 (by decide) ?_
  rw [show (nI n : Int32) - nI n / 12 * 12 = nI ((n) % 12) from pk_rem (d := 12) (by omega) (by decide) (by decide)]
  refine m_ald S hE hW (k := 2) (v := g 2 ((n) % 12)) rfl (vp_in_nI (show (n) % 12 < 12 from (by omega)) (by decide)) (by rw [show (nI ((n) % 12) : Int32).toNatClampNeg = (n) % 12 from (nI_clamp (by omega))]) dX6_behind_8 ?_
  refine lv_iload_n hx hb dX6_behind_9 rfl (lv_at hl 1 rfl) ?_
  refine lv_isub hx hb dX6_behind_10 ?_
  refine lv_istore (lv' := [(4, .int ((g 2 ((n) % 12)) - wd)), (0, .ref (wad w 9 (0))), (1, .int wd), (2, .int (nI n)), (3, .int co)]) hx hb dX6_behind_11 hl (by decide) rfl (fun ls hl => ?_)
  refine lv_iload hx hb dX6_behind_13 (lv_at hl 0 rfl) ?_
  refine lv_iconst (v := 4) hx hb dX6_behind_15 (by decide) ?_
  refine lv_iload_n hx hb dX6_behind_16 rfl (lv_at hl 4 rfl) ?_
  refine lv_iadd hx hb dX6_behind_17 ?_
  refine lv_idiv hx hb dX6_behind_18 hco ?_
  refine lv_istore (lv' := [(5, .int (((g 2 ((n) % 12)) - wd) / (4 + co))), (4, .int ((g 2 ((n) % 12)) - wd)), (0, .ref (wad w 9 (0))), (1, .int wd), (2, .int (nI n)), (3, .int co)]) hx hb dX6_behind_19 hl (by decide) rfl (fun ls hl => ?_)
  refine lv_iload hx hb dX6_behind_21 (lv_at hl 0 rfl) ?_
  refine lv_if_ne (tgt := 48) hx hb dX6_behind_23 (by decide) (fun c_23 => ?_) (fun c_23 => ?_)
  · refine lv_iload hx hb dX6_behind_48 (lv_at hl 0 rfl) ?_
    refine lv_istore (lv' := [(5, .int (((g 2 ((n) % 12)) - wd) / (4 + co))), (4, .int ((g 2 ((n) % 12)) - wd)), (0, .ref (wad w 9 (0))), (1, .int wd), (2, .int (nI n)), (3, .int co)]) hx hb dX6_behind_50 hl (by decide) rfl (fun ls hl => ?_)
    refine lv_iload_n hx hb dX6_behind_52 rfl (lv_at hl 3 rfl) ?_
    refine lv_iload hx hb dX6_behind_53 (lv_at hl 0 rfl) ?_
    refine lv_iadd hx hb dX6_behind_55 ?_
    exact g_iret S hr hlocks (by simp [beh, stp, wea, c_23]) dX6_behind_56
  · refine lv_iload hx hb dX6_behind_26 (lv_at hl 1 rfl) ?_
    refine lv_if_le (tgt := 35) hx hb dX6_behind_28 (by decide) (fun c_28_1 => ?_) (fun c_28_1 => ?_)
    · refine lv_iload hx hb dX6_behind_35 (lv_at hl 1 rfl) ?_
      refine lv_if_ge (tgt := 44) hx hb dX6_behind_37 (by decide) (fun c_37_2 => ?_) (fun c_37_2 => ?_)
      · refine lv_iconst (v := 0) hx hb dX6_behind_44 (by decide) ?_
        refine lv_goto (tgt := 50) hx hb dX6_behind_45 (by decide) ?_
        refine lv_istore (lv' := [(5, .int 0), (4, .int ((g 2 ((n) % 12)) - wd)), (0, .ref (wad w 9 (0))), (1, .int wd), (2, .int (nI n)), (3, .int co)]) hx hb dX6_behind_50 hl (by decide) rfl (fun ls hl => ?_)
        refine lv_iload_n hx hb dX6_behind_52 rfl (lv_at hl 3 rfl) ?_
        refine lv_iload hx hb dX6_behind_53 (lv_at hl 0 rfl) ?_
        refine lv_iadd hx hb dX6_behind_55 ?_
        exact g_iret S hr hlocks (by simp [beh, stp, wea, c_23, c_28_1, c_37_2]) dX6_behind_56
      · refine lv_iconst (v := (-1)) hx hb dX6_behind_40 (by decide) ?_
        refine lv_goto (tgt := 50) hx hb dX6_behind_41 (by decide) ?_
        refine lv_istore (lv' := [(5, .int ((-1))), (4, .int ((g 2 ((n) % 12)) - wd)), (0, .ref (wad w 9 (0))), (1, .int wd), (2, .int (nI n)), (3, .int co)]) hx hb dX6_behind_50 hl (by decide) rfl (fun ls hl => ?_)
        refine lv_iload_n hx hb dX6_behind_52 rfl (lv_at hl 3 rfl) ?_
        refine lv_iload hx hb dX6_behind_53 (lv_at hl 0 rfl) ?_
        refine lv_iadd hx hb dX6_behind_55 ?_
        exact g_iret S hr hlocks (by simp [beh, stp, wea, c_23, c_28_1, c_37_2]) dX6_behind_56
    · refine lv_iconst (v := 1) hx hb dX6_behind_31 (by decide) ?_
      refine lv_goto (tgt := 50) hx hb dX6_behind_32 (by decide) ?_
      refine lv_istore (lv' := [(5, .int 1), (4, .int ((g 2 ((n) % 12)) - wd)), (0, .ref (wad w 9 (0))), (1, .int wd), (2, .int (nI n)), (3, .int co)]) hx hb dX6_behind_50 hl (by decide) rfl (fun ls hl => ?_)
      refine lv_iload_n hx hb dX6_behind_52 rfl (lv_at hl 3 rfl) ?_
      refine lv_iload hx hb dX6_behind_53 (lv_at hl 0 rfl) ?_
      refine lv_iadd hx hb dX6_behind_55 ?_
      exact g_iret S hr hlocks (by simp [beh, stp, wea, c_23, c_28_1]) dX6_behind_56
set_option maxHeartbeats 4000000 in
set_option maxRecDepth 100000 in
/-- wouldBreak(joint, wood) -/
theorem c_X6_wouldBreak (l : Launch) (z : ZE) (w : WG) (g1 g : GS) (o : Nat → Int64) (t : Int32) (A B : Nat → Int32) (hO : OKg g) (j : Nat) (hj : j < nj g) (wd : Int32) : Met l yX6_wouldBreak (.code yX6_wouldBreak cX6_wouldBreak 5 (some .boolean) :: wU) ({ frames := 3, cells := 0, slots := 0, locals := 66 }) (PE z [.ref (wad w 9 (0)), .int (nI j), .int wd] (fun H => MW z w g1 o g t A B H)) (rqi (bI (wbr g j wd))) 0 0 zF := by
  refine Met.ofW (cc := cX6_wouldBreak) (maxL := 5) (ret := (some .boolean)) (by decide) rfl ?_
  intro p e s m args below meth c s₁ BD hml hv
  obtain ⟨rfl, hE, hW⟩ := hv
  have hts : ∀ w ∈ wU, w.before _ s = true := fun w h => atoms_spec (ws := .code yX6_wouldBreak cX6_wouldBreak 5 (some .boolean) :: wU) BD.pre w (List.mem_cons_of_mem _ h)
  have S : CallFix p m c cX6_wouldBreak 5 s ([.ref (wad w 9 (0)), .int (nI j), .int wd] : List Value).toArray wU RX6 := ⟨BD.exec, BD.bytes, hml, findClass_of_methodNamed BD.named, hts⟩
  have hx := S.1
  have hb := S.2.1
  have hown := S.2.2.2.1
  have hr := BD.returns
  have hlocks := BD.notSynchronized
  have hS : va_S (zA z) s.heap s.heap [] := va_S.rf
  have hl := lv_entry ([.ref (wad w 9 (0)), .int (nI j), .int wd]) (n := 5) (Nat.le_of_ble_eq_true rfl)
  rw [lg_entry_eq]
  generalize (lg_sl ([.ref (wad w 9 (0)), .int (nI j), .int wd]) ++ List.replicate (5 - (lg_sl ([.ref (wad w 9 (0)), .int (nI j), .int wd])).length) Slot.unset).toArray = ls at hl ⊢
  have hl : lv_has ls 5 [(0, .ref (wad w 9 (0))), (1, .int (nI j)), (2, .int wd)] := hl
  have h20 := hO.l5
  have h40 := hO.l16
  have h30 := hO.l24
  have hjp := hO.l26 hj
  refine lv_aload_n hx hb dX6_wouldBreak_0 rfl (lv_at hl 0 rfl) ?_
  refine m_geta S hE hW 26 (by decide) rfl tw_766 rfl dX6_wouldBreak_1 ?_
  refine lv_iload_n hx hb dX6_wouldBreak_4 rfl (lv_at hl 1 rfl) ?_
  refine m_ald S hE hW (k := 26) (v := nI (jp g (j))) rfl (vp_in_nI (show j < 30 from (by omega)) (by decide)) (by rw [show (nI j : Int32).toNatClampNeg = j from (nI_clamp (by omega))]; exact (hO.n26 (i := j) (by omega))) dX6_wouldBreak_5 ?_
  refine lv_istore_n (lv' := [(3, .int (nI (jp g (j)))), (0, .ref (wad w 9 (0))), (1, .int (nI j)), (2, .int wd)]) hx hb dX6_wouldBreak_6 rfl hl (by decide) rfl (fun ls hl => ?_)
  refine lv_aload_n hx hb dX6_wouldBreak_7 rfl (lv_at hl 1 rfl) ?_
  refine m_geta S hE hW 25 (by decide) rfl tw_765 rfl dX6_wouldBreak_8 ?_
  refine lv_iload_n hx hb dX6_wouldBreak_11 rfl (lv_at hl 2 rfl) ?_
  refine m_ald S hE hW (k := 25) (v := g 25 j) rfl (vp_in_nI (show j < 30 from (by omega)) (by decide)) (by rw [show (nI j : Int32).toNatClampNeg = j from (nI_clamp (by omega))]) dX6_wouldBreak_12 ?_
  refine lv_iconst (v := 1) hx hb dX6_wouldBreak_13 (by decide) ?_
  refine lv_icmp_ne (tgt := 61) hx hb dX6_wouldBreak_14 (by decide) (fun c_14 => ?_) (fun c_14 => ?_)
  · refine lv_aload_n hx hb dX6_wouldBreak_61 rfl (lv_at hl 1 rfl) ?_
    refine m_geta S hE hW 25 (by decide) rfl tw_765 rfl dX6_wouldBreak_62 ?_
    refine lv_iload_n hx hb dX6_wouldBreak_65 rfl (lv_at hl 2 rfl) ?_
    refine m_ald S hE hW (k := 25) (v := g 25 j) rfl (vp_in_nI (show j < 30 from (by omega)) (by decide)) (by rw [show (nI j : Int32).toNatClampNeg = j from (nI_clamp (by omega))]) dX6_wouldBreak_66 ?_
    refine lv_iconst (v := 2) hx hb dX6_wouldBreak_67 (by decide) ?_
    refine lv_icmp_ne (tgt := 99) hx hb dX6_wouldBreak_68 (by decide) (fun c_68_1 => ?_) (fun c_68_1 => ?_)
    · refine lv_iconst (v := 0) hx hb dX6_wouldBreak_99 (by decide) ?_
      exact g_zret S hr hlocks (by simp [wbr, bI, c_14, c_68_1]) ⟨_, rfl⟩ dX6_wouldBreak_100
    · refine lv_aload_n hx hb dX6_wouldBreak_71 rfl (lv_at hl 1 rfl) ?_
      refine lv_iload_n hx hb dX6_wouldBreak_72 rfl (lv_at hl 0 rfl) ?_
      refine lv_iload_n hx hb dX6_wouldBreak_73 rfl (lv_at hl 3 rfl) ?_
      refine g_callV (As := [.int (nI (jp g (j))), .int wd]) (rest := []) S hE hS (c_X6_widthAt l z w g1 g o (t) A B hO (jp g (j)) (by omega) (wd)) (cwV 2 hts (gU_V tw_890 tw_892 tp_22 tw_6 tw_893) rfl rfl rfl (by decide +kernel) ⟨Nat.le_of_ble_eq_true rfl, Nat.le_of_ble_eq_true rfl⟩) (by obtain ⟨gm9, hW9, -⟩ := hW; exact hE.recv hW9.md (q := (RX6, TX6, 36)) rfl) hW rfl hl.1 rfl (Nat.le_of_ble_eq_true rfl) dX6_wouldBreak_74 ⟨Nat.zero_le _, Nat.zero_le _⟩ ?_
      refine lv_aload_n hx hb dX6_wouldBreak_77 rfl (lv_at hl 1 rfl) ?_
      refine m_geta S hE hW 28 (by decide) rfl tw_768 rfl dX6_wouldBreak_78 ?_
      refine lv_iload_n hx hb dX6_wouldBreak_81 rfl (lv_at hl 2 rfl) ?_
      refine m_ald S hE hW (k := 28) (v := g 28 j) rfl (vp_in_nI (show j < 30 from (by omega)) (by decide)) (by rw [show (nI j : Int32).toNatClampNeg = j from (nI_clamp (by omega))]) dX6_wouldBreak_82 ?_
      refine lv_iconst (v := 2) hx hb dX6_wouldBreak_83 (by decide) ?_
      refine lv_aload_n hx hb dX6_wouldBreak_84 rfl (lv_at hl 1 rfl) ?_
      refine m_geta S hE hW 29 (by decide) rfl tw_769 rfl dX6_wouldBreak_85 ?_
      refine lv_iload_n hx hb dX6_wouldBreak_88 rfl (lv_at hl 2 rfl) ?_
      refine m_ald S hE hW (k := 29) (v := g 29 j) rfl (vp_in_nI (show j < 30 from (by omega)) (by decide)) (by rw [show (nI j : Int32).toNatClampNeg = j from (nI_clamp (by omega))]) dX6_wouldBreak_89 ?_
      refine lv_imul hx hb dX6_wouldBreak_90 ?_
      refine lv_isub hx hb dX6_wouldBreak_91 ?_
      refine lv_icmp_ge (tgt := 99) hx hb dX6_wouldBreak_92 (by decide) (fun c_92_2 => ?_) (fun c_92_2 => ?_)
      · refine lv_iconst (v := 0) hx hb dX6_wouldBreak_99 (by decide) ?_
        exact g_zret S hr hlocks (by simp [wbr, bI, c_14, c_68_1, c_92_2]) ⟨_, rfl⟩ dX6_wouldBreak_100
      · refine lv_iconst (v := 1) hx hb dX6_wouldBreak_95 (by decide) ?_
        refine lv_goto (tgt := 100) hx hb dX6_wouldBreak_96 (by decide) ?_
        exact g_zret S hr hlocks (by simp [wbr, bI, c_14, c_68_1, c_92_2]) ⟨_, rfl⟩ dX6_wouldBreak_100
  · refine lv_aload_n hx hb dX6_wouldBreak_17 rfl (lv_at hl 1 rfl) ?_
    refine lv_aload_n hx hb dX6_wouldBreak_18 rfl (lv_at hl 1 rfl) ?_
    refine m_geta S hE hW 28 (by decide) rfl tw_768 rfl dX6_wouldBreak_19 ?_
    refine lv_iload_n hx hb dX6_wouldBreak_22 rfl (lv_at hl 2 rfl) ?_
    refine m_ald S hE hW (k := 28) (v := g 28 j) rfl (vp_in_nI (show j < 30 from (by omega)) (by decide)) (by rw [show (nI j : Int32).toNatClampNeg = j from (nI_clamp (by omega))]) dX6_wouldBreak_23 ?_
    refine lv_aload_n hx hb dX6_wouldBreak_24 rfl (lv_at hl 1 rfl) ?_
    refine lv_iload_n hx hb dX6_wouldBreak_25 rfl (lv_at hl 0 rfl) ?_
    refine g_callV (As := [.int (nI (jp g (j)))]) (rest := [.int (g 28 j), .ref (wad w 9 (0))]) S hE hS (c_X6_speciesOf l z w g1 g o (t) A B hO (jp g (j)) (by omega)) (cwV 1 hts (gU_V tw_878 tw_880 tp_19 tw_6 tw_881) rfl rfl rfl (by decide +kernel) ⟨Nat.le_of_ble_eq_true rfl, Nat.le_of_ble_eq_true rfl⟩) (by obtain ⟨gm9, hW9, -⟩ := hW; exact hE.recv hW9.md (q := (RX6, TX6, 36)) rfl) hW rfl hl.1 rfl (Nat.le_of_ble_eq_true rfl) dX6_wouldBreak_26 ⟨Nat.zero_le _, Nat.zero_le _⟩ ?_
    refine lv_iload_n hx hb dX6_wouldBreak_29 rfl (lv_at hl 3 rfl) ?_
    refine lv_aload_n hx hb dX6_wouldBreak_30 rfl (lv_at hl 1 rfl) ?_
    refine m_geta S hE hW 33 (by decide) rfl tw_773 rfl dX6_wouldBreak_31 ?_
    refine lv_iload_n hx hb dX6_wouldBreak_34 rfl (lv_at hl 2 rfl) ?_
    refine m_ald S hE hW (k := 33) (v := g 33 j) rfl (vp_in_nI (show j < 30 from (by omega)) (by decide)) (by rw [show (nI j : Int32).toNatClampNeg = j from (nI_clamp (by omega))]) dX6_wouldBreak_35 ?_
    refine lv_isub hx hb dX6_wouldBreak_36 ?_
    refine g_callV (As := [.int (g 28 j), .int (g 6 (pb g (jp g (j)))), .int (wd - (g 33 j))]) (rest := []) S hE hS (c_X6_moved l z w g1 g o (t) A B (g 28 j) (g 6 (pb g (jp g (j)))) (wd - (g 33 j))) (cwV 3 hts (gU_V tw_882 tw_884 tp_20 tw_6 tw_885) rfl rfl rfl (by decide +kernel) ⟨Nat.le_of_ble_eq_true rfl, Nat.le_of_ble_eq_true rfl⟩) (by obtain ⟨gm9, hW9, -⟩ := hW; exact hE.recv hW9.md (q := (RX6, TX6, 36)) rfl) hW rfl hl.1 rfl (Nat.le_of_ble_eq_true rfl) dX6_wouldBreak_37 ⟨Nat.zero_le _, Nat.zero_le _⟩ ?_
    refine lv_topi (fun x_4 ex_4 => ?_)
    refine lv_istore (lv' := [(4, .int x_4), (3, .int (nI (jp g (j)))), (0, .ref (wad w 9 (0))), (1, .int (nI j)), (2, .int wd)]) hx hb dX6_wouldBreak_40 hl (by decide) rfl (fun ls hl => ?_)
    refine lv_iload hx hb dX6_wouldBreak_42 (lv_at hl 0 rfl) ?_
    refine lv_iconst (v := 5) hx hb dX6_wouldBreak_44 (by decide) ?_
    refine lv_icmp_gt (tgt := 55) hx hb dX6_wouldBreak_45 (by decide) (fun c_45_4 => ?_) (fun c_45_4 => ?_)
    · refine lv_iconst (v := 1) hx hb dX6_wouldBreak_55 (by decide) ?_
      refine lv_goto (tgt := 60) hx hb dX6_wouldBreak_56 (by decide) ?_
      exact g_zret S hr hlocks (by subst ex_4; simp [wbr, bI, c_14, c_45_4]) ⟨_, rfl⟩ dX6_wouldBreak_60
    · refine lv_iload hx hb dX6_wouldBreak_48 (lv_at hl 0 rfl) ?_
      refine lv_bipush (v := (-5)) hx hb dX6_wouldBreak_50 (by decide) ?_
      refine lv_icmp_ge (tgt := 59) hx hb dX6_wouldBreak_52 (by decide) (fun c_52_5 => ?_) (fun c_52_5 => ?_)
      · refine lv_iconst (v := 0) hx hb dX6_wouldBreak_59 (by decide) ?_
        exact g_zret S hr hlocks (by subst ex_4; simp [wbr, bI, c_14, c_45_4, c_52_5]) ⟨_, rfl⟩ dX6_wouldBreak_60
      · refine lv_iconst (v := 1) hx hb dX6_wouldBreak_55 (by decide) ?_
        refine lv_goto (tgt := 60) hx hb dX6_wouldBreak_56 (by decide) ?_
        exact g_zret S hr hlocks (by subst ex_4; simp [wbr, bI, c_14, c_45_4, c_52_5]) ⟨_, rfl⟩ dX6_wouldBreak_60
set_option maxHeartbeats 4000000 in
set_option maxRecDepth 100000 in
/-- isTaken(board, from, to) -/
theorem c_X6_isTaken (l : Launch) (z : ZE) (w : WG) (g1 g : GS) (o : Nat → Int64) (t : Int32) (A B : Nat → Int32) (hO : OKg g) (b : Nat) (hb9 : b < nb g) (f9 t9 : Int32) : Met l yX6_isTaken (.code yX6_isTaken cX6_isTaken 6 (some .boolean) :: wU) ({ frames := 0, cells := 0, slots := 0, locals := 0 }) (PE z [.ref (wad w 9 (0)), .int (nI b), .int f9, .int t9] (fun H => MW z w g1 o g t A B H)) (rqi (bI (anyN (np g) (tkn g b f9 t9)))) 0 0 zF := by
  refine Met.ofW (cc := cX6_isTaken) (maxL := 6) (ret := (some .boolean)) (by decide) rfl ?_
  intro p e s m args below meth c s₁ BD hml hv
  obtain ⟨rfl, hE, hW⟩ := hv
  have hts : ∀ w ∈ wU, w.before _ s = true := fun w h => atoms_spec (ws := .code yX6_isTaken cX6_isTaken 6 (some .boolean) :: wU) BD.pre w (List.mem_cons_of_mem _ h)
  have S : CallFix p m c cX6_isTaken 6 s ([.ref (wad w 9 (0)), .int (nI b), .int f9, .int t9] : List Value).toArray wU RX6 := ⟨BD.exec, BD.bytes, hml, findClass_of_methodNamed BD.named, hts⟩
  have hx := S.1
  have hb := S.2.1
  have hown := S.2.2.2.1
  have hr := BD.returns
  have hlocks := BD.notSynchronized
  have hS : va_S (zA z) s.heap s.heap [] := va_S.rf
  have hl := lv_entry ([.ref (wad w 9 (0)), .int (nI b), .int f9, .int t9]) (n := 6) (Nat.le_of_ble_eq_true rfl)
  rw [lg_entry_eq]
  generalize (lg_sl ([.ref (wad w 9 (0)), .int (nI b), .int f9, .int t9]) ++ List.replicate (6 - (lg_sl ([.ref (wad w 9 (0)), .int (nI b), .int f9, .int t9])).length) Slot.unset).toArray = ls at hl ⊢
  have hl : lv_has ls 6 [(0, .ref (wad w 9 (0))), (1, .int (nI b)), (2, .int f9), (3, .int t9)] := hl
  have h20 := hO.l5
  have h40 := hO.l16
  refine lv_iconst (v := 0) hx hb dX6_isTaken_0 (by decide) ?_
  refine lv_istore (lv' := [(4, .int 0), (0, .ref (wad w 9 (0))), (1, .int (nI b)), (2, .int f9), (3, .int t9)]) hx hb dX6_isTaken_1 hl (by decide) rfl (fun ls hl => ?_)
  refine lv_iconst (v := nI 0) hx hb dX6_isTaken_3 (by decide) ?_
  refine lv_istore (lv' := [(5, .int (nI 0)), (4, .int 0), (0, .ref (wad w 9 (0))), (1, .int (nI b)), (2, .int f9), (3, .int t9)]) hx hb dX6_isTaken_4 hl (by decide) rfl (fun ls hl => ?_)
  have lp_6 : ∀ (k9 : Nat) (i : Nat) (x : Int32) (hi : i ≤ np g) (he : x = bI (anyN i (tkn g b f9 t9))), np g - i < k9 → ∀ (ls : Array Slot), lv_has ls 6 [(0, .ref (wad w 9 (0))), (1, .int (nI b)), (2, .int f9), (3, .int t9), (4, .int x), (5, .int (nI i))] → W p l e ({ frames := 0, cells := 0, slots := 0, locals := 0 } : Room) s m ([.ref (wad w 9 (0)), .int (nI b), .int f9, .int t9] : List Value).toArray below meth c s.heap [] 0 0 (MQ below (rqi (bI (anyN (np g) (tkn g b f9 t9)))) ([.ref (wad w 9 (0)), .int (nI b), .int f9, .int t9] : List Value).toArray s 0 0 zF) (F0 m 6 ls []) := by
    intro k9
    induction k9 with
    | zero => intro i x hi he h9; exact absurd h9 (Nat.not_lt_zero _)
    | succ k9 ih_6 =>
      intro i x hi he hk9 ls hl
      subst he
      refine lv_iload hx hb dX6_isTaken_6 (lv_at hl 5 rfl) ?_
      refine lv_aload_n hx hb dX6_isTaken_8 rfl (lv_at hl 0 rfl) ?_
      refine m_geti S hE hW 16 (v := nI (np g)) (by decide) rfl (by decide) tw_756 rfl hO.n16 dX6_isTaken_9 ?_
      refine g_icmp_ge S (by omega) (by omega) (tgt := 80) dX6_isTaken_12 (by decide) (fun c_12 => ?_) (fun c_12 => ?_)
      · refine lv_iload hx hb dX6_isTaken_80 (lv_at hl 4 rfl) ?_
        exact g_zret S hr hlocks (by rw [show i = np g by omega]) ⟨_, rfl⟩ dX6_isTaken_82
      · refine lv_iload hx hb dX6_isTaken_15 (lv_at hl 4 rfl) ?_
        refine g_if_ne S (tgt := 67) dX6_isTaken_17 (by decide) (fun c_17_1 => ?_) (fun c_17_1 => ?_)
        · refine lv_iconst (v := 1) hx hb dX6_isTaken_67 (by decide) ?_
          refine lv_goto (tgt := 72) hx hb dX6_isTaken_68 (by decide) ?_
          refine lv_istore (lv' := [(4, .int 1), (0, .ref (wad w 9 (0))), (1, .int (nI b)), (2, .int f9), (3, .int t9), (5, .int (nI i))]) hx hb dX6_isTaken_72 hl (by decide) rfl (fun ls hl => ?_)
          refine lv_iinc (v := nI (i + 1)) (lv' := [(5, .int (nI (i + 1))), (4, .int 1), (0, .ref (wad w 9 (0))), (1, .int (nI b)), (2, .int f9), (3, .int t9)]) hx hb dX6_isTaken_74 hl (k := 5) rfl (nI_1 _) (by decide) rfl (fun ls hl => ?_)
          refine lv_goto (tgt := 6) hx hb dX6_isTaken_77 (by decide) ?_
          exact ih_6 (i + 1) _ (by omega) (by simp [anyN, tkn, bI, c_12, c_17_1]) (by omega) ls (lv_sub hl [2, 3, 4, 5, 1, 0] rfl)
        · refine lv_aload_n hx hb dX6_isTaken_20 rfl (lv_at hl 0 rfl) ?_
          refine m_geta S hE hW 17 (by decide) rfl tw_757 rfl dX6_isTaken_21 ?_
          refine lv_iload hx hb dX6_isTaken_24 (lv_at hl 5 rfl) ?_
          refine m_ald S hE hW (k := 17) (v := nI (pb g (i))) rfl (vp_in_nI (show i < 40 from (by omega)) (by decide)) (by rw [show (nI i : Int32).toNatClampNeg = i from (nI_clamp (by omega))]; exact (hO.n17 (i := i) (by omega))) dX6_isTaken_26 ?_
          refine lv_iload_n hx hb dX6_isTaken_27 rfl (lv_at hl 1 rfl) ?_
          have hpi := hO.l17 (i := i) (by omega)
          refine g_icmp_ne S (by omega) (by omega) (tgt := 71) dX6_isTaken_28 (by decide) (fun c_28_2 => ?_) (fun c_28_2 => ?_)
          · refine lv_iconst (v := 0) hx hb dX6_isTaken_71 (by decide) ?_
            refine lv_istore (lv' := [(4, .int 0), (0, .ref (wad w 9 (0))), (1, .int (nI b)), (2, .int f9), (3, .int t9), (5, .int (nI i))]) hx hb dX6_isTaken_72 hl (by decide) rfl (fun ls hl => ?_)
            refine lv_iinc (v := nI (i + 1)) (lv' := [(5, .int (nI (i + 1))), (4, .int 0), (0, .ref (wad w 9 (0))), (1, .int (nI b)), (2, .int f9), (3, .int t9)]) hx hb dX6_isTaken_74 hl (k := 5) rfl (nI_1 _) (by decide) rfl (fun ls hl => ?_)
            refine lv_goto (tgt := 6) hx hb dX6_isTaken_77 (by decide) ?_
            exact ih_6 (i + 1) _ (by omega) (by simp [anyN, tkn, bI, c_12, c_17_1, c_28_2]) (by omega) ls (lv_sub hl [2, 3, 4, 5, 1, 0] rfl)
          · refine lv_iload_n hx hb dX6_isTaken_31 rfl (lv_at hl 2 rfl) ?_
            refine lv_aload_n hx hb dX6_isTaken_32 rfl (lv_at hl 0 rfl) ?_
            refine m_geta S hE hW 18 (by decide) rfl tw_758 rfl dX6_isTaken_33 ?_
            refine lv_iload hx hb dX6_isTaken_36 (lv_at hl 5 rfl) ?_
            refine m_ald S hE hW (k := 18) (v := g 18 i) rfl (vp_in_nI (show i < 40 from (by omega)) (by decide)) (by rw [show (nI i : Int32).toNatClampNeg = i from (nI_clamp (by omega))]) dX6_isTaken_38 ?_
            refine lv_aload_n hx hb dX6_isTaken_39 rfl (lv_at hl 0 rfl) ?_
            refine m_geta S hE hW 19 (by decide) rfl tw_759 rfl dX6_isTaken_40 ?_
            refine lv_iload hx hb dX6_isTaken_43 (lv_at hl 5 rfl) ?_
            refine m_ald S hE hW (k := 19) (v := g 19 i) rfl (vp_in_nI (show i < 40 from (by omega)) (by decide)) (by rw [show (nI i : Int32).toNatClampNeg = i from (nI_clamp (by omega))]) dX6_isTaken_45 ?_
            refine lv_iadd hx hb dX6_isTaken_46 ?_
            refine lv_bipush (v := 30) hx hb dX6_isTaken_47 (by decide) ?_
            refine lv_iadd hx hb dX6_isTaken_49 ?_
            refine lv_icmp_ge (tgt := 71) hx hb dX6_isTaken_50 (by decide) (fun c_50_3 => ?_) (fun c_50_3 => ?_)
            · refine lv_iconst (v := 0) hx hb dX6_isTaken_71 (by decide) ?_
              refine lv_istore (lv' := [(4, .int 0), (0, .ref (wad w 9 (0))), (1, .int (nI b)), (2, .int f9), (3, .int t9), (5, .int (nI i))]) hx hb dX6_isTaken_72 hl (by decide) rfl (fun ls hl => ?_)
              refine lv_iinc (v := nI (i + 1)) (lv' := [(5, .int (nI (i + 1))), (4, .int 0), (0, .ref (wad w 9 (0))), (1, .int (nI b)), (2, .int f9), (3, .int t9)]) hx hb dX6_isTaken_74 hl (k := 5) rfl (nI_1 _) (by decide) rfl (fun ls hl => ?_)
              refine lv_goto (tgt := 6) hx hb dX6_isTaken_77 (by decide) ?_
              exact ih_6 (i + 1) _ (by omega) (by simp [anyN, tkn, bI, c_12, c_17_1, c_28_2, c_50_3]) (by omega) ls (lv_sub hl [2, 3, 4, 5, 1, 0] rfl)
            · refine lv_iload_n hx hb dX6_isTaken_53 rfl (lv_at hl 3 rfl) ?_
              refine lv_aload_n hx hb dX6_isTaken_54 rfl (lv_at hl 0 rfl) ?_
              refine m_geta S hE hW 18 (by decide) rfl tw_758 rfl dX6_isTaken_55 ?_
              refine lv_iload hx hb dX6_isTaken_58 (lv_at hl 5 rfl) ?_
              refine m_ald S hE hW (k := 18) (v := g 18 i) rfl (vp_in_nI (show i < 40 from (by omega)) (by decide)) (by rw [show (nI i : Int32).toNatClampNeg = i from (nI_clamp (by omega))]) dX6_isTaken_60 ?_
              refine lv_bipush (v := 30) hx hb dX6_isTaken_61 (by decide) ?_
              refine lv_isub hx hb dX6_isTaken_63 ?_
              refine lv_icmp_le (tgt := 71) hx hb dX6_isTaken_64 (by decide) (fun c_64_4 => ?_) (fun c_64_4 => ?_)
              · refine lv_iconst (v := 0) hx hb dX6_isTaken_71 (by decide) ?_
                refine lv_istore (lv' := [(4, .int 0), (0, .ref (wad w 9 (0))), (1, .int (nI b)), (2, .int f9), (3, .int t9), (5, .int (nI i))]) hx hb dX6_isTaken_72 hl (by decide) rfl (fun ls hl => ?_)
                refine lv_iinc (v := nI (i + 1)) (lv' := [(5, .int (nI (i + 1))), (4, .int 0), (0, .ref (wad w 9 (0))), (1, .int (nI b)), (2, .int f9), (3, .int t9)]) hx hb dX6_isTaken_74 hl (k := 5) rfl (nI_1 _) (by decide) rfl (fun ls hl => ?_)
                refine lv_goto (tgt := 6) hx hb dX6_isTaken_77 (by decide) ?_
                exact ih_6 (i + 1) _ (by omega) (by simp [anyN, tkn, bI, c_12, c_17_1, c_28_2, c_50_3, c_64_4]) (by omega) ls (lv_sub hl [2, 3, 4, 5, 1, 0] rfl)
              · refine lv_iconst (v := 1) hx hb dX6_isTaken_67 (by decide) ?_
                refine lv_goto (tgt := 72) hx hb dX6_isTaken_68 (by decide) ?_
                refine lv_istore (lv' := [(4, .int 1), (0, .ref (wad w 9 (0))), (1, .int (nI b)), (2, .int f9), (3, .int t9), (5, .int (nI i))]) hx hb dX6_isTaken_72 hl (by decide) rfl (fun ls hl => ?_)
                refine lv_iinc (v := nI (i + 1)) (lv' := [(5, .int (nI (i + 1))), (4, .int 1), (0, .ref (wad w 9 (0))), (1, .int (nI b)), (2, .int f9), (3, .int t9)]) hx hb dX6_isTaken_74 hl (k := 5) rfl (nI_1 _) (by decide) rfl (fun ls hl => ?_)
                refine lv_goto (tgt := 6) hx hb dX6_isTaken_77 (by decide) ?_
                exact ih_6 (i + 1) _ (by omega) (by simp [anyN, tkn, bI, c_12, c_17_1, c_28_2, c_50_3, c_64_4]) (by omega) ls (lv_sub hl [2, 3, 4, 5, 1, 0] rfl)
  exact lp_6 ((np g - 0) + 1) 0 0 (Nat.zero_le _) rfl (Nat.lt_succ_self _) ls (lv_sub hl [2, 3, 4, 5, 1, 0] rfl)
set_option maxHeartbeats 4000000 in
set_option maxRecDepth 100000 in
/-- hasKnot(board, from, to) -/
theorem c_X6_hasKnot (l : Launch) (z : ZE) (w : WG) (g1 g : GS) (o : Nat → Int64) (t : Int32) (A B : Nat → Int32) (hO : OKg g) (b : Nat) (hb9 : b < nb g) (f9 t9 : Int32) : Met l yX6_hasKnot (.code yX6_hasKnot cX6_hasKnot 6 (some .boolean) :: wU) ({ frames := 0, cells := 0, slots := 0, locals := 0 }) (PE z [.ref (wad w 9 (0)), .int (nI b), .int f9, .int t9] (fun H => MW z w g1 o g t A B H)) (rqi (bI (anyN (kn g b) (knt g b f9 t9)))) 0 0 zF := by
  refine Met.ofW (cc := cX6_hasKnot) (maxL := 6) (ret := (some .boolean)) (by decide) rfl ?_
  intro p e s m args below meth c s₁ BD hml hv
  obtain ⟨rfl, hE, hW⟩ := hv
  have hts : ∀ w ∈ wU, w.before _ s = true := fun w h => atoms_spec (ws := .code yX6_hasKnot cX6_hasKnot 6 (some .boolean) :: wU) BD.pre w (List.mem_cons_of_mem _ h)
  have S : CallFix p m c cX6_hasKnot 6 s ([.ref (wad w 9 (0)), .int (nI b), .int f9, .int t9] : List Value).toArray wU RX6 := ⟨BD.exec, BD.bytes, hml, findClass_of_methodNamed BD.named, hts⟩
  have hx := S.1
  have hb := S.2.1
  have hown := S.2.2.2.1
  have hr := BD.returns
  have hlocks := BD.notSynchronized
  have hS : va_S (zA z) s.heap s.heap [] := va_S.rf
  have hl := lv_entry ([.ref (wad w 9 (0)), .int (nI b), .int f9, .int t9]) (n := 6) (Nat.le_of_ble_eq_true rfl)
  rw [lg_entry_eq]
  generalize (lg_sl ([.ref (wad w 9 (0)), .int (nI b), .int f9, .int t9]) ++ List.replicate (6 - (lg_sl ([.ref (wad w 9 (0)), .int (nI b), .int f9, .int t9])).length) Slot.unset).toArray = ls at hl ⊢
  have hl : lv_has ls 6 [(0, .ref (wad w 9 (0))), (1, .int (nI b)), (2, .int f9), (3, .int t9)] := hl
  have h20 := hO.l5
  have hk4 := hO.l13 hb9
  refine lv_iconst (v := 0) hx hb dX6_hasKnot_0 (by decide) ?_
  refine lv_istore (lv' := [(4, .int 0), (0, .ref (wad w 9 (0))), (1, .int (nI b)), (2, .int f9), (3, .int t9)]) hx hb dX6_hasKnot_1 hl (by decide) rfl (fun ls hl => ?_)
  refine lv_iconst (v := nI 0) hx hb dX6_hasKnot_3 (by decide) ?_
  refine lv_istore (lv' := [(5, .int (nI 0)), (4, .int 0), (0, .ref (wad w 9 (0))), (1, .int (nI b)), (2, .int f9), (3, .int t9)]) hx hb dX6_hasKnot_4 hl (by decide) rfl (fun ls hl => ?_)
  have lp_6 : ∀ (k9 : Nat) (i : Nat) (x : Int32) (hi : i ≤ kn g b) (he : x = bI (anyN i (knt g b f9 t9))), kn g b - i < k9 → ∀ (ls : Array Slot), lv_has ls 6 [(0, .ref (wad w 9 (0))), (1, .int (nI b)), (2, .int f9), (3, .int t9), (4, .int x), (5, .int (nI i))] → W p l e ({ frames := 0, cells := 0, slots := 0, locals := 0 } : Room) s m ([.ref (wad w 9 (0)), .int (nI b), .int f9, .int t9] : List Value).toArray below meth c s.heap [] 0 0 (MQ below (rqi (bI (anyN (kn g b) (knt g b f9 t9)))) ([.ref (wad w 9 (0)), .int (nI b), .int f9, .int t9] : List Value).toArray s 0 0 zF) (F0 m 6 ls []) := by
    intro k9
    induction k9 with
    | zero => intro i x hi he h9; exact absurd h9 (Nat.not_lt_zero _)
    | succ k9 ih_6 =>
      intro i x hi he hk9 ls hl
      subst he
      refine lv_iload hx hb dX6_hasKnot_6 (lv_at hl 5 rfl) ?_
      refine lv_aload_n hx hb dX6_hasKnot_8 rfl (lv_at hl 0 rfl) ?_
      refine m_geta S hE hW 13 (by decide) rfl tw_753 rfl dX6_hasKnot_9 ?_
      refine lv_iload_n hx hb dX6_hasKnot_12 rfl (lv_at hl 1 rfl) ?_
      refine m_ald S hE hW (k := 13) (v := nI (kn g (b))) rfl (vp_in_nI (show b < 20 from (by omega)) (by decide)) (by rw [show (nI b : Int32).toNatClampNeg = b from (nI_clamp (by omega))]; exact (hO.n13 (i := b) (by omega))) dX6_hasKnot_13 ?_
      refine g_icmp_ge S (by omega) (by omega) (tgt := 65) dX6_hasKnot_14 (by decide) (fun c_14 => ?_) (fun c_14 => ?_)
      · refine lv_iload hx hb dX6_hasKnot_65 (lv_at hl 4 rfl) ?_
        exact g_zret S hr hlocks (by rw [show i = kn g b by omega]) ⟨_, rfl⟩ dX6_hasKnot_67
      · refine lv_iload hx hb dX6_hasKnot_17 (lv_at hl 4 rfl) ?_
        refine g_if_ne S (tgt := 52) dX6_hasKnot_19 (by decide) (fun c_19_1 => ?_) (fun c_19_1 => ?_)
        · refine lv_iconst (v := 1) hx hb dX6_hasKnot_52 (by decide) ?_
          refine lv_goto (tgt := 57) hx hb dX6_hasKnot_53 (by decide) ?_
          refine lv_istore (lv' := [(4, .int 1), (0, .ref (wad w 9 (0))), (1, .int (nI b)), (2, .int f9), (3, .int t9), (5, .int (nI i))]) hx hb dX6_hasKnot_57 hl (by decide) rfl (fun ls hl => ?_)
          refine lv_iinc (v := nI (i + 1)) (lv' := [(5, .int (nI (i + 1))), (4, .int 1), (0, .ref (wad w 9 (0))), (1, .int (nI b)), (2, .int f9), (3, .int t9)]) hx hb dX6_hasKnot_59 hl (k := 5) rfl (nI_1 _) (by decide) rfl (fun ls hl => ?_)
          refine lv_goto (tgt := 6) hx hb dX6_hasKnot_62 (by decide) ?_
          exact ih_6 (i + 1) _ (by omega) (by simp [anyN, knt, bI, c_14, c_19_1]) (by omega) ls (lv_sub hl [2, 3, 4, 5, 1, 0] rfl)
        · refine lv_iload_n hx hb dX6_hasKnot_22 rfl (lv_at hl 2 rfl) ?_
          refine lv_aload_n hx hb dX6_hasKnot_23 rfl (lv_at hl 0 rfl) ?_
          refine m_geta S hE hW 15 (by decide) rfl tw_755 rfl dX6_hasKnot_24 ?_
          refine lv_iconst (v := 4) hx hb dX6_hasKnot_27 (by decide) ?_
          refine lv_iload_n hx hb dX6_hasKnot_28 rfl (lv_at hl 1 rfl) ?_
          refine lv_imul hx hb dX6_hasKnot_29 ?_
          rw [show (4 : Int32) * nI b = nI (4 * (b)) from pk_mul 4 _]
          refine lv_iload hx hb dX6_hasKnot_30 (lv_at hl 5 rfl) ?_
          refine g_iadd S dX6_hasKnot_32 ?_
          refine m_ald S hE hW (k := 15) (v := g 15 ((4 * (b)) + i)) rfl (vp_in_nI (show (4 * (b)) + i < 80 from (by omega)) (by decide)) (by rw [show (nI ((4 * (b)) + i) : Int32).toNatClampNeg = (4 * (b)) + i from (nI_clamp (by omega))]) dX6_hasKnot_33 ?_
          refine lv_icmp_ge (tgt := 56) hx hb dX6_hasKnot_34 (by decide) (fun c_34_2 => ?_) (fun c_34_2 => ?_)
          · refine lv_iconst (v := 0) hx hb dX6_hasKnot_56 (by decide) ?_
            refine lv_istore (lv' := [(4, .int 0), (0, .ref (wad w 9 (0))), (1, .int (nI b)), (2, .int f9), (3, .int t9), (5, .int (nI i))]) hx hb dX6_hasKnot_57 hl (by decide) rfl (fun ls hl => ?_)
            refine lv_iinc (v := nI (i + 1)) (lv' := [(5, .int (nI (i + 1))), (4, .int 0), (0, .ref (wad w 9 (0))), (1, .int (nI b)), (2, .int f9), (3, .int t9)]) hx hb dX6_hasKnot_59 hl (k := 5) rfl (nI_1 _) (by decide) rfl (fun ls hl => ?_)
            refine lv_goto (tgt := 6) hx hb dX6_hasKnot_62 (by decide) ?_
            exact ih_6 (i + 1) _ (by omega) (by simp [anyN, knt, bI, c_14, c_19_1, c_34_2]) (by omega) ls (lv_sub hl [2, 3, 4, 5, 1, 0] rfl)
          · refine lv_iload_n hx hb dX6_hasKnot_37 rfl (lv_at hl 3 rfl) ?_
            refine lv_aload_n hx hb dX6_hasKnot_38 rfl (lv_at hl 0 rfl) ?_
            refine m_geta S hE hW 14 (by decide) rfl tw_754 rfl dX6_hasKnot_39 ?_
            refine lv_iconst (v := 4) hx hb dX6_hasKnot_42 (by decide) ?_
            refine lv_iload_n hx hb dX6_hasKnot_43 rfl (lv_at hl 1 rfl) ?_
            refine lv_imul hx hb dX6_hasKnot_44 ?_
            rw [show (4 : Int32) * nI b = nI (4 * (b)) from pk_mul 4 _]
            refine lv_iload hx hb dX6_hasKnot_45 (lv_at hl 5 rfl) ?_
            refine g_iadd S dX6_hasKnot_47 ?_
            refine m_ald S hE hW (k := 14) (v := g 14 ((4 * (b)) + i)) rfl (vp_in_nI (show (4 * (b)) + i < 80 from (by omega)) (by decide)) (by rw [show (nI ((4 * (b)) + i) : Int32).toNatClampNeg = (4 * (b)) + i from (nI_clamp (by omega))]) dX6_hasKnot_48 ?_
            refine lv_icmp_le (tgt := 56) hx hb dX6_hasKnot_49 (by decide) (fun c_49_3 => ?_) (fun c_49_3 => ?_)
            · refine lv_iconst (v := 0) hx hb dX6_hasKnot_56 (by decide) ?_
              refine lv_istore (lv' := [(4, .int 0), (0, .ref (wad w 9 (0))), (1, .int (nI b)), (2, .int f9), (3, .int t9), (5, .int (nI i))]) hx hb dX6_hasKnot_57 hl (by decide) rfl (fun ls hl => ?_)
              refine lv_iinc (v := nI (i + 1)) (lv' := [(5, .int (nI (i + 1))), (4, .int 0), (0, .ref (wad w 9 (0))), (1, .int (nI b)), (2, .int f9), (3, .int t9)]) hx hb dX6_hasKnot_59 hl (k := 5) rfl (nI_1 _) (by decide) rfl (fun ls hl => ?_)
              refine lv_goto (tgt := 6) hx hb dX6_hasKnot_62 (by decide) ?_
              exact ih_6 (i + 1) _ (by omega) (by simp [anyN, knt, bI, c_14, c_19_1, c_34_2, c_49_3]) (by omega) ls (lv_sub hl [2, 3, 4, 5, 1, 0] rfl)
            · refine lv_iconst (v := 1) hx hb dX6_hasKnot_52 (by decide) ?_
              refine lv_goto (tgt := 57) hx hb dX6_hasKnot_53 (by decide) ?_
              refine lv_istore (lv' := [(4, .int 1), (0, .ref (wad w 9 (0))), (1, .int (nI b)), (2, .int f9), (3, .int t9), (5, .int (nI i))]) hx hb dX6_hasKnot_57 hl (by decide) rfl (fun ls hl => ?_)
              refine lv_iinc (v := nI (i + 1)) (lv' := [(5, .int (nI (i + 1))), (4, .int 1), (0, .ref (wad w 9 (0))), (1, .int (nI b)), (2, .int f9), (3, .int t9)]) hx hb dX6_hasKnot_59 hl (k := 5) rfl (nI_1 _) (by decide) rfl (fun ls hl => ?_)
              refine lv_goto (tgt := 6) hx hb dX6_hasKnot_62 (by decide) ?_
              exact ih_6 (i + 1) _ (by omega) (by simp [anyN, knt, bI, c_14, c_19_1, c_34_2, c_49_3]) (by omega) ls (lv_sub hl [2, 3, 4, 5, 1, 0] rfl)
  exact lp_6 ((kn g b - 0) + 1) 0 0 (Nat.zero_le _) rfl (Nat.lt_succ_self _) ls (lv_sub hl [2, 3, 4, 5, 1, 0] rfl)
set_option maxHeartbeats 4000000 in
set_option maxRecDepth 100000 in
/-- fits(kind, part, size, tongue) -/
theorem c_X6_fits (l : Launch) (z : ZE) (w : WG) (g1 g : GS) (o : Nat → Int64) (t : Int32) (A B : Nat → Int32) (hO : OKg g) (kd : Int32) (i : Nat) (hi : i < np g) (sz tg : Int32) : Met l yX6_fits (.code yX6_fits cX6_fits 6 (some .boolean) :: wU) ({ frames := 3, cells := 0, slots := 0, locals := 66 }) (PE z [.ref (wad w 9 (0)), .int kd, .int (nI i), .int sz, .int tg] (fun H => MW z w g1 o g t A B H)) (rqi (bI (fit g kd i sz tg))) 0 0 zF := by
  refine Met.ofW (cc := cX6_fits) (maxL := 6) (ret := (some .boolean)) (by decide) rfl ?_
  intro p e s m args below meth c s₁ BD hml hv
  obtain ⟨rfl, hE, hW⟩ := hv
  have hts : ∀ w ∈ wU, w.before _ s = true := fun w h => atoms_spec (ws := .code yX6_fits cX6_fits 6 (some .boolean) :: wU) BD.pre w (List.mem_cons_of_mem _ h)
  have S : CallFix p m c cX6_fits 6 s ([.ref (wad w 9 (0)), .int kd, .int (nI i), .int sz, .int tg] : List Value).toArray wU RX6 := ⟨BD.exec, BD.bytes, hml, findClass_of_methodNamed BD.named, hts⟩
  have hx := S.1
  have hb := S.2.1
  have hown := S.2.2.2.1
  have hr := BD.returns
  have hlocks := BD.notSynchronized
  have hS : va_S (zA z) s.heap s.heap [] := va_S.rf
  have hl := lv_entry ([.ref (wad w 9 (0)), .int kd, .int (nI i), .int sz, .int tg]) (n := 6) (Nat.le_of_ble_eq_true rfl)
  rw [lg_entry_eq]
  generalize (lg_sl ([.ref (wad w 9 (0)), .int kd, .int (nI i), .int sz, .int tg]) ++ List.replicate (6 - (lg_sl ([.ref (wad w 9 (0)), .int kd, .int (nI i), .int sz, .int tg])).length) Slot.unset).toArray = ls at hl ⊢
  have hl : lv_has ls 6 [(0, .ref (wad w 9 (0))), (1, .int kd), (2, .int (nI i)), (3, .int sz), (4, .int tg)] := hl
  have h40 := hO.l16
  refine lv_aload_n hx hb dX6_fits_0 rfl (lv_at hl 0 rfl) ?_
  refine lv_iload_n hx hb dX6_fits_1 rfl (lv_at hl 2 rfl) ?_
  refine lv_aload_n hx hb dX6_fits_2 rfl (lv_at hl 0 rfl) ?_
  refine m_geta S hE hW 22 (by decide) rfl tw_762 rfl dX6_fits_3 ?_
  refine lv_iload_n hx hb dX6_fits_6 rfl (lv_at hl 2 rfl) ?_
  refine m_ald S hE hW (k := 22) (v := g 22 i) rfl (vp_in_nI (show i < 40 from (by omega)) (by decide)) (by rw [show (nI i : Int32).toNatClampNeg = i from (nI_clamp (by omega))]) dX6_fits_7 ?_
  refine g_callV (As := [.int (nI i), .int (g 22 i)]) (rest := []) S hE hS (c_X6_widthAt l z w g1 g o (t) A B hO (i) (by omega) (g 22 i)) (cwV 2 hts (gU_V tw_890 tw_892 tp_22 tw_6 tw_893) rfl rfl rfl (by decide +kernel) ⟨Nat.le_of_ble_eq_true rfl, Nat.le_of_ble_eq_true rfl⟩) (by obtain ⟨gm9, hW9, -⟩ := hW; exact hE.recv hW9.md (q := (RX6, TX6, 36)) rfl) hW rfl hl.1 rfl (Nat.le_of_ble_eq_true rfl) dX6_fits_8 ⟨Nat.zero_le _, Nat.zero_le _⟩ ?_
  refine lv_istore (lv' := [(5, .int (wAt g (i) (g 22 i))), (0, .ref (wad w 9 (0))), (1, .int kd), (2, .int (nI i)), (3, .int sz), (4, .int tg)]) hx hb dX6_fits_11 hl (by decide) rfl (fun ls hl => ?_)
  refine lv_iload_n hx hb dX6_fits_13 rfl (lv_at hl 2 rfl) ?_
  refine lv_if_ne (tgt := 35) hx hb dX6_fits_14 (by decide) (fun c_14 => ?_) (fun c_14 => ?_)
  · refine lv_iload_n hx hb dX6_fits_35 rfl (lv_at hl 2 rfl) ?_
    refine lv_iconst (v := 1) hx hb dX6_fits_36 (by decide) ?_
    refine lv_icmp_ne (tgt := 54) hx hb dX6_fits_37 (by decide) (fun c_37_1 => ?_) (fun c_37_1 => ?_)
    · refine lv_iload hx hb dX6_fits_54 (lv_at hl 0 rfl) ?_
      refine lv_iload_n hx hb dX6_fits_56 rfl (lv_at hl 4 rfl) ?_
      refine lv_icmp_gt (tgt := 75) hx hb dX6_fits_57 (by decide) (fun c_57_2 => ?_) (fun c_57_2 => ?_)
      · refine lv_iconst (v := 0) hx hb dX6_fits_75 (by decide) ?_
        exact g_zret S hr hlocks (by simp [fit, bI, c_14, c_37_1, c_57_2]) ⟨_, rfl⟩ dX6_fits_76
      · refine lv_iload hx hb dX6_fits_60 (lv_at hl 0 rfl) ?_
        refine lv_iload_n hx hb dX6_fits_62 rfl (lv_at hl 4 rfl) ?_
        refine lv_iconst (v := 2) hx hb dX6_fits_63 (by decide) ?_
        refine lv_iload hx hb dX6_fits_64 (lv_at hl 5 rfl) ?_
        refine lv_imul hx hb dX6_fits_66 ?_
        refine lv_isub hx hb dX6_fits_67 ?_
        refine lv_icmp_lt (tgt := 75) hx hb dX6_fits_68 (by decide) (fun c_68_3 => ?_) (fun c_68_3 => ?_)
        · refine lv_iconst (v := 0) hx hb dX6_fits_75 (by decide) ?_
          exact g_zret S hr hlocks (by simp [fit, bI, c_14, c_37_1, c_57_2, c_68_3]) ⟨_, rfl⟩ dX6_fits_76
        · refine lv_iconst (v := 1) hx hb dX6_fits_71 (by decide) ?_
          refine lv_goto (tgt := 76) hx hb dX6_fits_72 (by decide) ?_
          exact g_zret S hr hlocks (by simp [fit, bI, c_14, c_37_1, c_57_2, c_68_3]) ⟨_, rfl⟩ dX6_fits_76
    · refine lv_iload_n hx hb dX6_fits_40 rfl (lv_at hl 4 rfl) ?_
      refine lv_iload hx hb dX6_fits_41 (lv_at hl 0 rfl) ?_
      refine lv_icmp_gt (tgt := 50) hx hb dX6_fits_43 (by decide) (fun c_43_4 => ?_) (fun c_43_4 => ?_)
      · refine lv_iconst (v := 0) hx hb dX6_fits_50 (by decide) ?_
        refine lv_goto (tgt := 76) hx hb dX6_fits_51 (by decide) ?_
        exact g_zret S hr hlocks (by simp [fit, bI, c_14, c_37_1, c_43_4]) ⟨_, rfl⟩ dX6_fits_76
      · refine lv_iconst (v := 1) hx hb dX6_fits_46 (by decide) ?_
        refine lv_goto (tgt := 76) hx hb dX6_fits_47 (by decide) ?_
        exact g_zret S hr hlocks (by simp [fit, bI, c_14, c_37_1, c_43_4]) ⟨_, rfl⟩ dX6_fits_76
  · refine lv_iload_n hx hb dX6_fits_17 rfl (lv_at hl 4 rfl) ?_
    refine lv_aload_n hx hb dX6_fits_18 rfl (lv_at hl 1 rfl) ?_
    refine m_geta S hE hW 19 (by decide) rfl tw_759 rfl dX6_fits_19 ?_
    refine lv_iload_n hx hb dX6_fits_22 rfl (lv_at hl 3 rfl) ?_
    refine m_ald S hE hW (k := 19) (v := g 19 i) rfl (vp_in_nI (show i < 40 from (by omega)) (by decide)) (by rw [show (nI i : Int32).toNatClampNeg = i from (nI_clamp (by omega))]) dX6_fits_23 ?_
    refine lv_icmp_gt (tgt := 31) hx hb dX6_fits_24 (by decide) (fun c_24_5 => ?_) (fun c_24_5 => ?_)
    · refine lv_iconst (v := 0) hx hb dX6_fits_31 (by decide) ?_
      refine lv_goto (tgt := 76) hx hb dX6_fits_32 (by decide) ?_
      exact g_zret S hr hlocks (by simp [fit, bI, c_14, c_24_5]) ⟨_, rfl⟩ dX6_fits_76
    · refine lv_iconst (v := 1) hx hb dX6_fits_27 (by decide) ?_
      refine lv_goto (tgt := 76) hx hb dX6_fits_28 (by decide) ?_
      exact g_zret S hr hlocks (by simp [fit, bI, c_14, c_24_5]) ⟨_, rfl⟩ dX6_fits_76
set_option maxHeartbeats 4000000 in
set_option maxRecDepth 100000 in
/-- stateOf(joint) -/
theorem c_X6_stateOf (l : Launch) (z : ZE) (w : WG) (g1 g : GS) (o : Nat → Int64) (t : Int32) (A B : Nat → Int32) (hO : OKg g) (j : Nat) (hj : j < nj g) : Met l yX6_stateOf (.code yX6_stateOf cX6_stateOf 3 (some .int) :: wU) ({ frames := 3, cells := 0, slots := 0, locals := 66 }) (PE z [.ref (wad w 9 (0)), .int (nI j)] (fun H => MW z w g1 o g t A B H)) (rqi (sta g j)) 0 0 zF := by
  refine Met.ofW (cc := cX6_stateOf) (maxL := 3) (ret := (some .int)) (by decide) rfl ?_
  intro p e s m args below meth c s₁ BD hml hv
  obtain ⟨rfl, hE, hW⟩ := hv
  have hts : ∀ w ∈ wU, w.before _ s = true := fun w h => atoms_spec (ws := .code yX6_stateOf cX6_stateOf 3 (some .int) :: wU) BD.pre w (List.mem_cons_of_mem _ h)
  have S : CallFix p m c cX6_stateOf 3 s ([.ref (wad w 9 (0)), .int (nI j)] : List Value).toArray wU RX6 := ⟨BD.exec, BD.bytes, hml, findClass_of_methodNamed BD.named, hts⟩
  have hx := S.1
  have hb := S.2.1
  have hown := S.2.2.2.1
  have hr := BD.returns
  have hlocks := BD.notSynchronized
  have hS : va_S (zA z) s.heap s.heap [] := va_S.rf
  have hl := lv_entry ([.ref (wad w 9 (0)), .int (nI j)]) (n := 3) (Nat.le_of_ble_eq_true rfl)
  rw [lg_entry_eq]
  generalize (lg_sl ([.ref (wad w 9 (0)), .int (nI j)]) ++ List.replicate (3 - (lg_sl ([.ref (wad w 9 (0)), .int (nI j)])).length) Slot.unset).toArray = ls at hl ⊢
  have hl : lv_has ls 3 [(0, .ref (wad w 9 (0))), (1, .int (nI j))] := hl
  have h40 := hO.l16
  have h30 := hO.l24
  have hjp := hO.l26 hj
  refine lv_aload_n hx hb dX6_stateOf_0 rfl (lv_at hl 0 rfl) ?_
  refine m_geta S hE hW 31 (by decide) rfl tw_771 rfl dX6_stateOf_1 ?_
  refine lv_iload_n hx hb dX6_stateOf_4 rfl (lv_at hl 1 rfl) ?_
  refine m_zald S hE hW (k := 31) (v := g 31 j) rfl (vp_in_nI (show j < 30 from (by omega)) (by decide)) (by rw [show (nI j : Int32).toNatClampNeg = j from (nI_clamp (by omega))]) dX6_stateOf_5 ?_
  refine lv_if_ne (tgt := 11) hx hb dX6_stateOf_6 (by decide) (fun c_6 => ?_) (fun c_6 => ?_)
  · refine lv_aload_n hx hb dX6_stateOf_11 rfl (lv_at hl 0 rfl) ?_
    refine m_geta S hE hW 25 (by decide) rfl tw_765 rfl dX6_stateOf_12 ?_
    refine lv_iload_n hx hb dX6_stateOf_15 rfl (lv_at hl 1 rfl) ?_
    refine m_ald S hE hW (k := 25) (v := g 25 j) rfl (vp_in_nI (show j < 30 from (by omega)) (by decide)) (by rw [show (nI j : Int32).toNatClampNeg = j from (nI_clamp (by omega))]) dX6_stateOf_16 ?_
    refine lv_iconst (v := 2) hx hb dX6_stateOf_17 (by decide) ?_
    refine lv_icmp_ne (tgt := 55) hx hb dX6_stateOf_18 (by decide) (fun c_18_1 => ?_) (fun c_18_1 => ?_)
    · refine lv_iconst (v := 0) hx hb dX6_stateOf_55 (by decide) ?_
      refine lv_istore_n (lv' := [(2, .int 0), (0, .ref (wad w 9 (0))), (1, .int (nI j))]) hx hb dX6_stateOf_56 rfl hl (by decide) rfl (fun ls hl => ?_)
      refine lv_aload_n hx hb dX6_stateOf_57 rfl (lv_at hl 1 rfl) ?_
      refine m_geta S hE hW 32 (by decide) rfl tw_772 rfl dX6_stateOf_58 ?_
      refine lv_iload_n hx hb dX6_stateOf_61 rfl (lv_at hl 2 rfl) ?_
      refine m_zald S hE hW (k := 32) (v := g 32 j) rfl (vp_in_nI (show j < 30 from (by omega)) (by decide)) (by rw [show (nI j : Int32).toNatClampNeg = j from (nI_clamp (by omega))]) dX6_stateOf_62 ?_
      refine lv_if_eq (tgt := 70) hx hb dX6_stateOf_63 (by decide) (fun c_63_2 => ?_) (fun c_63_2 => ?_)
      · refine lv_iload_n hx hb dX6_stateOf_70 rfl (lv_at hl 0 rfl) ?_
        refine lv_if_eq (tgt := 78) hx hb dX6_stateOf_71 (by decide) (fun _ => ?_) (fun h9 => absurd h9 (by decide))
        refine lv_iconst (v := 1) hx hb dX6_stateOf_78 (by decide) ?_
        exact g_iret S hr hlocks (by simp [sta, c_6, c_18_1, c_63_2]) dX6_stateOf_79
      · refine lv_iconst (v := 3) hx hb dX6_stateOf_66 (by decide) ?_
        refine lv_goto (tgt := 79) hx hb dX6_stateOf_67 (by decide) ?_
        exact g_iret S hr hlocks (by simp [sta, c_6, c_18_1, c_63_2]) dX6_stateOf_79
    · refine lv_aload_n hx hb dX6_stateOf_21 rfl (lv_at hl 0 rfl) ?_
      refine lv_aload_n hx hb dX6_stateOf_22 rfl (lv_at hl 0 rfl) ?_
      refine m_geta S hE hW 26 (by decide) rfl tw_766 rfl dX6_stateOf_23 ?_
      refine lv_iload_n hx hb dX6_stateOf_26 rfl (lv_at hl 1 rfl) ?_
      refine m_ald S hE hW (k := 26) (v := nI (jp g (j))) rfl (vp_in_nI (show j < 30 from (by omega)) (by decide)) (by rw [show (nI j : Int32).toNatClampNeg = j from (nI_clamp (by omega))]; exact (hO.n26 (i := j) (by omega))) dX6_stateOf_27 ?_
      refine lv_aload_n hx hb dX6_stateOf_28 rfl (lv_at hl 0 rfl) ?_
      refine m_geta S hE hW 22 (by decide) rfl tw_762 rfl dX6_stateOf_29 ?_
      refine lv_aload_n hx hb dX6_stateOf_32 rfl (lv_at hl 0 rfl) ?_
      refine m_geta S hE hW 26 (by decide) rfl tw_766 rfl dX6_stateOf_33 ?_
      refine lv_iload_n hx hb dX6_stateOf_36 rfl (lv_at hl 1 rfl) ?_
      refine m_ald S hE hW (k := 26) (v := nI (jp g (j))) rfl (vp_in_nI (show j < 30 from (by omega)) (by decide)) (by rw [show (nI j : Int32).toNatClampNeg = j from (nI_clamp (by omega))]; exact (hO.n26 (i := j) (by omega))) dX6_stateOf_37 ?_
      refine m_ald S hE hW (k := 22) (v := g 22 (jp g (j))) rfl (vp_in_nI (show jp g (j) < 40 from (by omega)) (by decide)) (by rw [show (nI (jp g (j)) : Int32).toNatClampNeg = jp g (j) from (nI_clamp (by omega))]) dX6_stateOf_38 ?_
      refine g_callV (As := [.int (nI (jp g (j))), .int (g 22 (jp g (j)))]) (rest := []) S hE hS (c_X6_widthAt l z w g1 g o (t) A B hO (jp g (j)) (by omega) (g 22 (jp g (j)))) (cwV 2 hts (gU_V tw_890 tw_892 tp_22 tw_6 tw_893) rfl rfl rfl (by decide +kernel) ⟨Nat.le_of_ble_eq_true rfl, Nat.le_of_ble_eq_true rfl⟩) (by obtain ⟨gm9, hW9, -⟩ := hW; exact hE.recv hW9.md (q := (RX6, TX6, 36)) rfl) hW rfl hl.1 rfl (Nat.le_of_ble_eq_true rfl) dX6_stateOf_39 ⟨Nat.zero_le _, Nat.zero_le _⟩ ?_
      refine lv_aload_n hx hb dX6_stateOf_42 rfl (lv_at hl 0 rfl) ?_
      refine m_geta S hE hW 28 (by decide) rfl tw_768 rfl dX6_stateOf_43 ?_
      refine lv_iload_n hx hb dX6_stateOf_46 rfl (lv_at hl 1 rfl) ?_
      refine m_ald S hE hW (k := 28) (v := g 28 j) rfl (vp_in_nI (show j < 30 from (by omega)) (by decide)) (by rw [show (nI j : Int32).toNatClampNeg = j from (nI_clamp (by omega))]) dX6_stateOf_47 ?_
      refine lv_icmp_le (tgt := 55) hx hb dX6_stateOf_48 (by decide) (fun c_48_3 => ?_) (fun c_48_3 => ?_)
      · refine lv_iconst (v := 0) hx hb dX6_stateOf_55 (by decide) ?_
        refine lv_istore_n (lv' := [(2, .int 0), (0, .ref (wad w 9 (0))), (1, .int (nI j))]) hx hb dX6_stateOf_56 rfl hl (by decide) rfl (fun ls hl => ?_)
        refine lv_aload_n hx hb dX6_stateOf_57 rfl (lv_at hl 1 rfl) ?_
        refine m_geta S hE hW 32 (by decide) rfl tw_772 rfl dX6_stateOf_58 ?_
        refine lv_iload_n hx hb dX6_stateOf_61 rfl (lv_at hl 2 rfl) ?_
        refine m_zald S hE hW (k := 32) (v := g 32 j) rfl (vp_in_nI (show j < 30 from (by omega)) (by decide)) (by rw [show (nI j : Int32).toNatClampNeg = j from (nI_clamp (by omega))]) dX6_stateOf_62 ?_
        refine lv_if_eq (tgt := 70) hx hb dX6_stateOf_63 (by decide) (fun c_63_4 => ?_) (fun c_63_4 => ?_)
        · refine lv_iload_n hx hb dX6_stateOf_70 rfl (lv_at hl 0 rfl) ?_
          refine lv_if_eq (tgt := 78) hx hb dX6_stateOf_71 (by decide) (fun _ => ?_) (fun h9 => absurd h9 (by decide))
          refine lv_iconst (v := 1) hx hb dX6_stateOf_78 (by decide) ?_
          exact g_iret S hr hlocks (by simp [sta, c_6, c_18_1, c_48_3, c_63_4]) dX6_stateOf_79
        · refine lv_iconst (v := 3) hx hb dX6_stateOf_66 (by decide) ?_
          refine lv_goto (tgt := 79) hx hb dX6_stateOf_67 (by decide) ?_
          exact g_iret S hr hlocks (by simp [sta, c_6, c_18_1, c_48_3, c_63_4]) dX6_stateOf_79
      · refine lv_iconst (v := 1) hx hb dX6_stateOf_51 (by decide) ?_
        refine lv_goto (tgt := 56) hx hb dX6_stateOf_52 (by decide) ?_
        refine lv_istore_n (lv' := [(2, .int 1), (0, .ref (wad w 9 (0))), (1, .int (nI j))]) hx hb dX6_stateOf_56 rfl hl (by decide) rfl (fun ls hl => ?_)
        refine lv_aload_n hx hb dX6_stateOf_57 rfl (lv_at hl 1 rfl) ?_
        refine m_geta S hE hW 32 (by decide) rfl tw_772 rfl dX6_stateOf_58 ?_
        refine lv_iload_n hx hb dX6_stateOf_61 rfl (lv_at hl 2 rfl) ?_
        refine m_zald S hE hW (k := 32) (v := g 32 j) rfl (vp_in_nI (show j < 30 from (by omega)) (by decide)) (by rw [show (nI j : Int32).toNatClampNeg = j from (nI_clamp (by omega))]) dX6_stateOf_62 ?_
        refine lv_if_eq (tgt := 70) hx hb dX6_stateOf_63 (by decide) (fun c_63_5 => ?_) (fun c_63_5 => ?_)
        · refine lv_iload_n hx hb dX6_stateOf_70 rfl (lv_at hl 0 rfl) ?_
          refine lv_if_eq (tgt := 78) hx hb dX6_stateOf_71 (by decide) (fun h9 => absurd h9 (by decide)) (fun _ => ?_)
          refine lv_iconst (v := 2) hx hb dX6_stateOf_74 (by decide) ?_
          refine lv_goto (tgt := 79) hx hb dX6_stateOf_75 (by decide) ?_
          exact g_iret S hr hlocks (by simp [sta, c_6, c_18_1, c_48_3, c_63_5]) dX6_stateOf_79
        · refine lv_iconst (v := 3) hx hb dX6_stateOf_66 (by decide) ?_
          refine lv_goto (tgt := 79) hx hb dX6_stateOf_67 (by decide) ?_
          exact g_iret S hr hlocks (by simp [sta, c_6, c_18_1, c_48_3, c_63_5]) dX6_stateOf_79
  · refine lv_iconst (v := 0) hx hb dX6_stateOf_9 (by decide) ?_
    exact g_iret S hr hlocks (by simp [sta, c_6]) dX6_stateOf_10
set_option maxHeartbeats 4000000 in
set_option maxRecDepth 100000 in
/-- thrown() -/
theorem c_X6_thrown (l : Launch) (z : ZE) (w : WG) (g1 g : GS) (o : Nat → Int64) (t : Int32) (A B : Nat → Int32) : Met l yX6_thrown (.code yX6_thrown cX6_thrown 1 (some .int) :: wU) ({ frames := 0, cells := 0, slots := 0, locals := 0 }) (PE z [.ref (wad w 9 (0))] (fun H => MW z w g1 o g t A B H)) (rqi (t)) 0 0 zF := by
  refine Met.ofW (cc := cX6_thrown) (maxL := 1) (ret := (some .int)) (by decide) rfl ?_
  intro p e s m args below meth c s₁ BD hml hv
  obtain ⟨rfl, hE, hW⟩ := hv
  have hts : ∀ w ∈ wU, w.before _ s = true := fun w h => atoms_spec (ws := .code yX6_thrown cX6_thrown 1 (some .int) :: wU) BD.pre w (List.mem_cons_of_mem _ h)
  have S : CallFix p m c cX6_thrown 1 s ([.ref (wad w 9 (0))] : List Value).toArray wU RX6 := ⟨BD.exec, BD.bytes, hml, findClass_of_methodNamed BD.named, hts⟩
  have hx := S.1
  have hb := S.2.1
  have hown := S.2.2.2.1
  have hr := BD.returns
  have hlocks := BD.notSynchronized
  have hS : va_S (zA z) s.heap s.heap [] := va_S.rf
  have hl := lv_entry ([.ref (wad w 9 (0))]) (n := 1) (Nat.le_of_ble_eq_true rfl)
  rw [lg_entry_eq]
  generalize (lg_sl ([.ref (wad w 9 (0))]) ++ List.replicate (1 - (lg_sl ([.ref (wad w 9 (0))])).length) Slot.unset).toArray = ls at hl ⊢
  have hl : lv_has ls 1 [(0, .ref (wad w 9 (0)))] := hl
  refine lv_aload_n hx hb dX6_thrown_0 rfl (lv_at hl 0 rfl) ?_
  refine m_gett S hE hW tw_740 dX6_thrown_1 ?_
  exact g_iret S hr hlocks rfl dX6_thrown_4
