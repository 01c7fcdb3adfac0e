set_option maxHeartbeats 4000000 in
set_option maxRecDepth 100000 in
/-- Preconditions.checkIndex, in range -/
theorem c_J3_checkIndex_8e157 (l : Launch) (z : ZE) (a b : Nat) (hab : a < b) (hb9 : b < 2 ^ 30) : Met l yJ3_checkIndex_8e157 (.code yJ3_checkIndex_8e157 cJ3_checkIndex_8e157 3 (some .int) :: wU) ({ frames := 0, cells := 0, slots := 0, locals := 0 }) (PE z [.int (nI a), .int (nI b), .null] (fun _ => True)) (rqi (nI a)) 0 0 zF := by
  refine Met.ofW (cc := cJ3_checkIndex_8e157) (maxL := 3) (ret := (some .int)) (by decide) rfl ?_
  intro p e s m args below meth c s₁ BD hml hv
  obtain ⟨rfl, hE, hW⟩ := hv
  have hts : ∀ w ∈ wU, w.before _ s = true := fun w h => atoms_spec (ws := .code yJ3_checkIndex_8e157 cJ3_checkIndex_8e157 3 (some .int) :: wU) BD.pre w (List.mem_cons_of_mem _ h)
  have S : CallFix p m c cJ3_checkIndex_8e157 3 s ([.int (nI a), .int (nI b), .null] : List Value).toArray wU RJ3 := ⟨BD.exec, BD.bytes, hml, findClass_of_methodNamed BD.named, hts⟩
  have hx := S.1
  have hb := S.2.1
  have hown := S.2.2.2.1
  have hr := BD.returns
  have hlocks := BD.notSynchronized
  have hS : va_S (zA z) s.heap s.heap [] := va_S.rf
  have hl := lv_entry ([.int (nI a), .int (nI b), .null]) (n := 3) (Nat.le_of_ble_eq_true rfl)
  rw [lg_entry_eq]
  generalize (lg_sl ([.int (nI a), .int (nI b), .null]) ++ List.replicate (3 - (lg_sl ([.int (nI a), .int (nI b), .null])).length) Slot.unset).toArray = ls at hl ⊢
  have hl : lv_has ls 3 [(0, .int (nI a)), (1, .int (nI b)), (2, .null)] := hl
  refine lv_iload_n hx hb dJ3_checkIndex_8e157_0 rfl (lv_at hl 0 rfl) ?_
  refine lv_if_lt (tgt := 9) hx hb dJ3_checkIndex_8e157_1 (by decide) (fun h9 => absurd h9 (nI_pos (by omega))) (fun c_1 => ?_)
  refine lv_iload_n hx hb dJ3_checkIndex_8e157_4 rfl (lv_at hl 0 rfl) ?_
  refine lv_iload_n hx hb dJ3_checkIndex_8e157_5 rfl (lv_at hl 1 rfl) ?_
  refine g_icmp_lt S (by omega) (by omega) (tgt := 16) dJ3_checkIndex_8e157_6 (by decide) (fun c_6_1 => ?_) (fun h9 => absurd h9 (by omega))
  refine lv_iload_n hx hb dJ3_checkIndex_8e157_16 rfl (lv_at hl 0 rfl) ?_
  exact g_iret S hr hlocks rfl dJ3_checkIndex_8e157_17
set_option maxHeartbeats 4000000 in
set_option maxRecDepth 100000 in
/-- Objects.checkIndex, in range -/
theorem c_J15_checkIndex_7cf53 (l : Launch) (z : ZE) (a b : Nat) (hab : a < b) (hb9 : b < 2 ^ 30) : Met l yJ15_checkIndex_7cf53 (.code yJ15_checkIndex_7cf53 cJ15_checkIndex_7cf53 2 (some .int) :: wU) ({ frames := 1, cells := 0, slots := 0, locals := 22 }) (PE z [.int (nI a), .int (nI b)] (fun _ => True)) (rqi (nI a)) 0 0 zF := by
  refine Met.ofW (cc := cJ15_checkIndex_7cf53) (maxL := 2) (ret := (some .int)) (by decide) rfl ?_
  intro p e s m args below meth c s₁ BD hml hv
  obtain ⟨rfl, hE, hW⟩ := hv
  have hts : ∀ w ∈ wU, w.before _ s = true := fun w h => atoms_spec (ws := .code yJ15_checkIndex_7cf53 cJ15_checkIndex_7cf53 2 (some .int) :: wU) BD.pre w (List.mem_cons_of_mem _ h)
  have S : CallFix p m c cJ15_checkIndex_7cf53 2 s ([.int (nI a), .int (nI b)] : List Value).toArray wU RJ15 := ⟨BD.exec, BD.bytes, hml, findClass_of_methodNamed BD.named, hts⟩
  have hx := S.1
  have hb := S.2.1
  have hown := S.2.2.2.1
  have hr := BD.returns
  have hlocks := BD.notSynchronized
  have hS : va_S (zA z) s.heap s.heap [] := va_S.rf
  have hl := lv_entry ([.int (nI a), .int (nI b)]) (n := 2) (Nat.le_of_ble_eq_true rfl)
  rw [lg_entry_eq]
  generalize (lg_sl ([.int (nI a), .int (nI b)]) ++ List.replicate (2 - (lg_sl ([.int (nI a), .int (nI b)])).length) Slot.unset).toArray = ls at hl ⊢
  have hl : lv_has ls 2 [(0, .int (nI a)), (1, .int (nI b))] := hl
  refine lv_iload_n hx hb dJ15_checkIndex_7cf53_0 rfl (lv_at hl 0 rfl) ?_
  refine lv_iload_n hx hb dJ15_checkIndex_7cf53_1 rfl (lv_at hl 1 rfl) ?_
  refine lv_null hx hb dJ15_checkIndex_7cf53_2 ?_
  refine g_callS (As := [.int (nI a), .int (nI b), .null]) (rest := []) S hE hS (c_J3_checkIndex_8e157 l z (a) (b) (by omega) (by omega)) (va_cwS 3 hts (gU_vS tw_220 tw_221 tw_12 tw_222) rfl rfl rfl (by decide +kernel) ⟨Nat.le_of_ble_eq_true rfl, Nat.le_of_ble_eq_true rfl⟩) trivial rfl hl.1 rfl (Nat.le_of_ble_eq_true rfl) dJ15_checkIndex_7cf53_3 ⟨Nat.zero_le _, Nat.zero_le _⟩ ?_
  exact g_iret S hr hlocks rfl dJ15_checkIndex_7cf53_6
set_option maxHeartbeats 4000000 in
set_option maxRecDepth 100000 in
/-- ArrayList.size() -/
theorem c_Jx4a65c_size_8abf5 (l : Launch) (z : ZE) (w : WG) (g gm : GS) (o : Nat → Int64) (i : Nat) (hi : i < 3 + 2 * nb g) : Met l yJx4a65c_size_8abf5 (.code yJx4a65c_size_8abf5 cJx4a65c_size_8abf5 1 (some .int) :: wU) ({ frames := 0, cells := 0, slots := 0, locals := 0 }) (PE z [.ref (wad w 5 (i))] (fun H => WW z w g gm o H)) (rqi (nI (ll g i))) 0 0 zF := by
  refine Met.ofW (cc := cJx4a65c_size_8abf5) (maxL := 1) (ret := (some .int)) (by decide) rfl ?_
  intro p e s m args below meth c s₁ BD hml hv
  obtain ⟨rfl, hE, hW⟩ := hv
  have hts : ∀ w ∈ wU, w.before _ s = true := fun w h => atoms_spec (ws := .code yJx4a65c_size_8abf5 cJx4a65c_size_8abf5 1 (some .int) :: wU) BD.pre w (List.mem_cons_of_mem _ h)
  have S : CallFix p m c cJx4a65c_size_8abf5 1 s ([.ref (wad w 5 (i))] : List Value).toArray wU RJx4a65c := ⟨BD.exec, BD.bytes, hml, findClass_of_methodNamed BD.named, hts⟩
  have hx := S.1
  have hb := S.2.1
  have hown := S.2.2.2.1
  have hr := BD.returns
  have hlocks := BD.notSynchronized
  have hS : va_S (zA z) s.heap s.heap [] := va_S.rf
  have hl := lv_entry ([.ref (wad w 5 (i))]) (n := 1) (Nat.le_of_ble_eq_true rfl)
  rw [lg_entry_eq]
  generalize (lg_sl ([.ref (wad w 5 (i))]) ++ List.replicate (1 - (lg_sl ([.ref (wad w 5 (i))])).length) Slot.unset).toArray = ls at hl ⊢
  have hl : lv_has ls 1 [(0, .ref (wad w 5 (i)))] := hl
  refine lv_aload_n hx hb dJx4a65c_size_8abf5_0 rfl (lv_at hl 0 rfl) ?_
  refine g_get S hE (hW.lst (i := i) (by omega)) (C := RJx4a65c) (T := TJx4a65c) (N := 3) (v := .int (nI (ll g i))) rfl inUL 2 (by decide) tw_46 (Or.inl rfl) rfl dJx4a65c_size_8abf5_1 ?_
  exact g_iret S hr hlocks rfl dJx4a65c_size_8abf5_4
set_option maxHeartbeats 4000000 in
set_option maxRecDepth 100000 in
/-- ArrayList.elementData(j) -/
theorem c_Jx4a65c_elementData_915e3 (l : Launch) (z : ZE) (w : WG) (g gm : GS) (o : Nat → Int64) (i : Nat) (hi : i < 3 + 2 * nb g) (j : Nat) (hj : j < ll g i) : Met l yJx4a65c_elementData_915e3 (.code yJx4a65c_elementData_915e3 cJx4a65c_elementData_915e3 2 (some (.object "java/lang/Object")) :: wU) ({ frames := 0, cells := 0, slots := 0, locals := 0 }) (PE z [.ref (wad w 5 (i)), .int (nI j)] (fun H => WW z w g gm o H)) (rqq (some (wad w (lk i) (li g i j)))) 0 0 zF := by
  refine Met.ofW (cc := cJx4a65c_elementData_915e3) (maxL := 2) (ret := (some (.object "java/lang/Object"))) (by decide) rfl ?_
  intro p e s m args below meth c s₁ BD hml hv
  obtain ⟨rfl, hE, hW⟩ := hv
  have hts : ∀ w ∈ wU, w.before _ s = true := fun w h => atoms_spec (ws := .code yJx4a65c_elementData_915e3 cJx4a65c_elementData_915e3 2 (some (.object "java/lang/Object")) :: wU) BD.pre w (List.mem_cons_of_mem _ h)
  have S : CallFix p m c cJx4a65c_elementData_915e3 2 s ([.ref (wad w 5 (i)), .int (nI j)] : List Value).toArray wU RJx4a65c := ⟨BD.exec, BD.bytes, hml, findClass_of_methodNamed BD.named, hts⟩
  have hx := S.1
  have hb := S.2.1
  have hown := S.2.2.2.1
  have hr := BD.returns
  have hlocks := BD.notSynchronized
  have hS : va_S (zA z) s.heap s.heap [] := va_S.rf
  have hl := lv_entry ([.ref (wad w 5 (i)), .int (nI j)]) (n := 2) (Nat.le_of_ble_eq_true rfl)
  rw [lg_entry_eq]
  generalize (lg_sl ([.ref (wad w 5 (i)), .int (nI j)]) ++ List.replicate (2 - (lg_sl ([.ref (wad w 5 (i)), .int (nI j)])).length) Slot.unset).toArray = ls at hl ⊢
  have hl : lv_has ls 2 [(0, .ref (wad w 5 (i))), (1, .int (nI j))] := hl
  have hll := hW.ll hi
  refine lv_aload_n hx hb dJx4a65c_elementData_915e3_0 rfl (lv_at hl 0 rfl) ?_
  refine g_get S hE (hW.lst (i := i) (by omega)) (C := RJx4a65c) (T := TJx4a65c) (N := 3) (v := .ref (wad w 6 (i))) rfl inUL 1 (by decide) tw_45 (Or.inl rfl) (by simp [show ¬ ll g i = 0 by omega]) dJx4a65c_elementData_915e3_1 ?_
  refine lv_iload_n hx hb dJx4a65c_elementData_915e3_4 rfl (lv_at hl 1 rfl) ?_
  refine g_aald (y := wad w (lk i) (li g i j)) S hE (hW.arr (i := i) (by omega) (by omega)) (vp_in_nI (show j < wcp w i from by omega) (by omega)) (by rw [show (nI j : Int32).toNatClampNeg = j from nI_clamp (by omega)]; exact (hW.2.2.2 i (by omega)).2.2 _ (by omega)) dJx4a65c_elementData_915e3_5 ?_
  exact g_aret (r' := some (wad w (lk i) (li g i j))) S hr hlocks rfl dJx4a65c_elementData_915e3_6
set_option maxHeartbeats 4000000 in
set_option maxRecDepth 100000 in
/-- ArrayList.get(j) -/
theorem c_Jx4a65c_get_915e3 (l : Launch) (z : ZE) (w : WG) (g gm : GS) (o : Nat → Int64) (i : Nat) (hi : i < 3 + 2 * nb g) (j : Nat) (hj : j < ll g i) : Met l yJx4a65c_get_915e3 (.code yJx4a65c_get_915e3 cJx4a65c_get_915e3 2 (some (.object "java/lang/Object")) :: wU) ({ frames := 2, cells := 0, slots := 0, locals := 43 }) (PE z [.ref (wad w 5 (i)), .int (nI j)] (fun H => WW z w g gm o H)) (rqq (some (wad w (lk i) (li g i j)))) 0 0 zF := by
  refine Met.ofW (cc := cJx4a65c_get_915e3) (maxL := 2) (ret := (some (.object "java/lang/Object"))) (by decide) rfl ?_
  intro p e s m args below meth c s₁ BD hml hv
  obtain ⟨rfl, hE, hW⟩ := hv
  have hts : ∀ w ∈ wU, w.before _ s = true := fun w h => atoms_spec (ws := .code yJx4a65c_get_915e3 cJx4a65c_get_915e3 2 (some (.object "java/lang/Object")) :: wU) BD.pre w (List.mem_cons_of_mem _ h)
  have S : CallFix p m c cJx4a65c_get_915e3 2 s ([.ref (wad w 5 (i)), .int (nI j)] : List Value).toArray wU RJx4a65c := ⟨BD.exec, BD.bytes, hml, findClass_of_methodNamed BD.named, hts⟩
  have hx := S.1
  have hb := S.2.1
  have hown := S.2.2.2.1
  have hr := BD.returns
  have hlocks := BD.notSynchronized
  have hS : va_S (zA z) s.heap s.heap [] := va_S.rf
  have hl := lv_entry ([.ref (wad w 5 (i)), .int (nI j)]) (n := 2) (Nat.le_of_ble_eq_true rfl)
  rw [lg_entry_eq]
  generalize (lg_sl ([.ref (wad w 5 (i)), .int (nI j)]) ++ List.replicate (2 - (lg_sl ([.ref (wad w 5 (i)), .int (nI j)])).length) Slot.unset).toArray = ls at hl ⊢
  have hl : lv_has ls 2 [(0, .ref (wad w 5 (i))), (1, .int (nI j))] := hl
  have hll := hW.ll hi
  refine lv_iload_n hx hb dJx4a65c_get_915e3_0 rfl (lv_at hl 1 rfl) ?_
  refine lv_aload_n hx hb dJx4a65c_get_915e3_1 rfl (lv_at hl 0 rfl) ?_
  refine g_get S hE (hW.lst (i := i) (by omega)) (C := RJx4a65c) (T := TJx4a65c) (N := 3) (v := .int (nI (ll g i))) rfl inUL 2 (by decide) tw_46 (Or.inl rfl) rfl dJx4a65c_get_915e3_2 ?_
  refine g_callS (As := [.int (nI j), .int (nI (ll g i))]) (rest := []) S hE hS (c_J15_checkIndex_7cf53 l z (j) (ll g i) (by omega) (by omega)) (va_cwS 2 hts (gU_vS tw_217 tw_218 tw_11 tw_219) rfl rfl rfl (by decide +kernel) ⟨Nat.le_of_ble_eq_true rfl, Nat.le_of_ble_eq_true rfl⟩) trivial rfl hl.1 rfl (Nat.le_of_ble_eq_true rfl) dJx4a65c_get_915e3_5 ⟨Nat.zero_le _, Nat.zero_le _⟩ ?_
  refine lv_pop hx hb dJx4a65c_get_915e3_8 rfl ?_
  refine lv_aload_n hx hb dJx4a65c_get_915e3_9 rfl (lv_at hl 0 rfl) ?_
  refine lv_iload_n hx hb dJx4a65c_get_915e3_10 rfl (lv_at hl 1 rfl) ?_
  refine g_callVq (As := [.int (nI j)]) (rest := []) S hE hS (c_Jx4a65c_elementData_915e3 l z w g gm o (i) (by omega) (j) (by omega)) (cwV 1 hts (gU_V tw_223 tw_224 tw_225 tw_4 tw_226) rfl rfl rfl (by decide +kernel) ⟨Nat.le_of_ble_eq_true rfl, Nat.le_of_ble_eq_true rfl⟩) (hE.recv (hW.lst (i := i) (by omega)) (q := (RJx4a65c, TJx4a65c, 3)) rfl) hW rfl hl.1 rfl (Nat.le_of_ble_eq_true rfl) dJx4a65c_get_915e3_11 ⟨Nat.zero_le _, Nat.zero_le _⟩ ?_
  rw [show va_rf (some (wad w (lk i) (li g i j))) = .ref (wad w (lk i) (li g i j)) from rfl]
  exact g_aret (r' := some (wad w (lk i) (li g i j))) S hr hlocks rfl dJx4a65c_get_915e3_14
theorem c_sizeB (l : Launch) (z : ZE) (w : WG) (g gm : GS) (o : Nat → Int64) : Met l yJx4a65c_size_8abf5 (.code yJx4a65c_size_8abf5 cJx4a65c_size_8abf5 1 (some .int) :: wU) ({ frames := 0, cells := 0, slots := 0, locals := 0 }) (PE z [.ref (wad w 5 (0))] (fun H => WW z w g gm o H)) (rqi (nI (nb g))) 0 0 zF := c_Jx4a65c_size_8abf5 l z w g gm o 0 (by omega)
theorem c_getB (l : Launch) (z : ZE) (w : WG) (g gm : GS) (o : Nat → Int64) (j : Nat) (hj : j < nb g) : Met l yJx4a65c_get_915e3 (.code yJx4a65c_get_915e3 cJx4a65c_get_915e3 2 (some (.object "java/lang/Object")) :: wU) ({ frames := 2, cells := 0, slots := 0, locals := 43 }) (PE z [.ref (wad w 5 (0)), .int (nI j)] (fun H => WW z w g gm o H)) (rqq (some (wad w 2 (j)))) 0 0 zF := c_Jx4a65c_get_915e3 l z w g gm o 0 (by omega) j hj
theorem c_sizeP (l : Launch) (z : ZE) (w : WG) (g gm : GS) (o : Nat → Int64) : Met l yJx4a65c_size_8abf5 (.code yJx4a65c_size_8abf5 cJx4a65c_size_8abf5 1 (some .int) :: wU) ({ frames := 0, cells := 0, slots := 0, locals := 0 }) (PE z [.ref (wad w 5 (1))] (fun H => WW z w g gm o H)) (rqi (nI (np g))) 0 0 zF := c_Jx4a65c_size_8abf5 l z w g gm o 1 (by omega)
theorem c_getP (l : Launch) (z : ZE) (w : WG) (g gm : GS) (o : Nat → Int64) (j : Nat) (hj : j < np g) : Met l yJx4a65c_get_915e3 (.code yJx4a65c_get_915e3 cJx4a65c_get_915e3 2 (some (.object "java/lang/Object")) :: wU) ({ frames := 2, cells := 0, slots := 0, locals := 43 }) (PE z [.ref (wad w 5 (1)), .int (nI j)] (fun H => WW z w g gm o H)) (rqq (some (wad w 3 (j)))) 0 0 zF := c_Jx4a65c_get_915e3 l z w g gm o 1 (by omega) j hj
theorem c_sizeJ (l : Launch) (z : ZE) (w : WG) (g gm : GS) (o : Nat → Int64) : Met l yJx4a65c_size_8abf5 (.code yJx4a65c_size_8abf5 cJx4a65c_size_8abf5 1 (some .int) :: wU) ({ frames := 0, cells := 0, slots := 0, locals := 0 }) (PE z [.ref (wad w 5 (2))] (fun H => WW z w g gm o H)) (rqi (nI (nj g))) 0 0 zF := c_Jx4a65c_size_8abf5 l z w g gm o 2 (by omega)
theorem c_getJ (l : Launch) (z : ZE) (w : WG) (g gm : GS) (o : Nat → Int64) (j : Nat) (hj : j < nj g) : Met l yJx4a65c_get_915e3 (.code yJx4a65c_get_915e3 cJx4a65c_get_915e3 2 (some (.object "java/lang/Object")) :: wU) ({ frames := 2, cells := 0, slots := 0, locals := 43 }) (PE z [.ref (wad w 5 (2)), .int (nI j)] (fun H => WW z w g gm o H)) (rqq (some (wad w 4 (j)))) 0 0 zF := c_Jx4a65c_get_915e3 l z w g gm o 2 (by omega) j hj
set_option maxHeartbeats 4000000 in
set_option maxRecDepth 100000 in
/-- isWithin(v, a, b) -/
theorem c_X5_isWithin (l : Launch) (z : ZE) (v a b : Int32) : Met l yX5_isWithin (.code yX5_isWithin cX5_isWithin 3 (some .boolean) :: wU) ({ frames := 0, cells := 0, slots := 0, locals := 0 }) (PE z [.int v, .int a, .int b] (fun _ => True)) (rqi (bI (wi v a b))) 0 0 zF := by
  refine Met.ofW (cc := cX5_isWithin) (maxL := 3) (ret := (some .boolean)) (by decide) rfl ?_
  intro p e s m args below meth c s₁ BD hml hv
  obtain ⟨rfl, hE, hW⟩ := hv
  have hts : ∀ w ∈ wU, w.before _ s = true := fun w h => atoms_spec (ws := .code yX5_isWithin cX5_isWithin 3 (some .boolean) :: wU) BD.pre w (List.mem_cons_of_mem _ h)
  have S : CallFix p m c cX5_isWithin 3 s ([.int v, .int a, .int b] : List Value).toArray wU RX5 := ⟨BD.exec, BD.bytes, hml, findClass_of_methodNamed BD.named, hts⟩
  have hx := S.1
  have hb := S.2.1
  have hown := S.2.2.2.1
  have hr := BD.returns
  have hlocks := BD.notSynchronized
  have hS : va_S (zA z) s.heap s.heap [] := va_S.rf
  have hl := lv_entry ([.int v, .int a, .int b]) (n := 3) (Nat.le_of_ble_eq_true rfl)
  rw [lg_entry_eq]
  generalize (lg_sl ([.int v, .int a, .int b]) ++ List.replicate (3 - (lg_sl ([.int v, .int a, .int b])).length) Slot.unset).toArray = ls at hl ⊢
  have hl : lv_has ls 3 [(0, .int v), (1, .int a), (2, .int b)] := hl
  refine lv_iload_n hx hb dX5_isWithin_0 rfl (lv_at hl 0 rfl) ?_
  refine lv_iload_n hx hb dX5_isWithin_1 rfl (lv_at hl 1 rfl) ?_
  refine lv_icmp_lt (tgt := 14) hx hb dX5_isWithin_2 (by decide) (fun c_2 => ?_) (fun c_2 => ?_)
  · refine lv_iconst (v := 0) hx hb dX5_isWithin_14 (by decide) ?_
    exact g_zret S hr hlocks (by simp [wi, bI, c_2]) ⟨_, rfl⟩ dX5_isWithin_15
  · refine lv_iload_n hx hb dX5_isWithin_5 rfl (lv_at hl 0 rfl) ?_
    refine lv_iload_n hx hb dX5_isWithin_6 rfl (lv_at hl 2 rfl) ?_
    refine lv_icmp_gt (tgt := 14) hx hb dX5_isWithin_7 (by decide) (fun c_7_1 => ?_) (fun c_7_1 => ?_)
    · refine lv_iconst (v := 0) hx hb dX5_isWithin_14 (by decide) ?_
      exact g_zret S hr hlocks (by simp [wi, bI, c_2, c_7_1]) ⟨_, rfl⟩ dX5_isWithin_15
    · refine lv_iconst (v := 1) hx hb dX5_isWithin_10 (by decide) ?_
      refine lv_goto (tgt := 15) hx hb dX5_isWithin_11 (by decide) ?_
      exact g_zret S hr hlocks (by simp [wi, bI, c_2, c_7_1]) ⟨_, rfl⟩ dX5_isWithin_15
def hsB (set : Int32) (j : Nat) : Bool := !decide (set &&& ((1 : Int32) <<< (nI j &&& 31)) = 0)
set_option maxHeartbeats 4000000 in
set_option maxRecDepth 100000 in
/-- has(set, j) -/
theorem c_X5_has (l : Launch) (z : ZE) (v : Int32) (j : Nat) : Met l yX5_has (.code yX5_has cX5_has 2 (some .boolean) :: wU) ({ frames := 0, cells := 0, slots := 0, locals := 0 }) (PE z [.int v, .int (nI j)] (fun _ => True)) (rqi (bI (hsB v j))) 0 0 zF := by
  refine Met.ofW (cc := cX5_has) (maxL := 2) (ret := (some .boolean)) (by decide) rfl ?_
  intro p e s m args below meth c s₁ BD hml hv
  obtain ⟨rfl, hE, hW⟩ := hv
  have hts : ∀ w ∈ wU, w.before _ s = true := fun w h => atoms_spec (ws := .code yX5_has cX5_has 2 (some .boolean) :: wU) BD.pre w (List.mem_cons_of_mem _ h)
  have S : CallFix p m c cX5_has 2 s ([.int v, .int (nI j)] : List Value).toArray wU RX5 := ⟨BD.exec, BD.bytes, hml, findClass_of_methodNamed BD.named, hts⟩
  have hx := S.1
  have hb := S.2.1
  have hown := S.2.2.2.1
  have hr := BD.returns
  have hlocks := BD.notSynchronized
  have hS : va_S (zA z) s.heap s.heap [] := va_S.rf
  have hl := lv_entry ([.int v, .int (nI j)]) (n := 2) (Nat.le_of_ble_eq_true rfl)
  rw [lg_entry_eq]
  generalize (lg_sl ([.int v, .int (nI j)]) ++ List.replicate (2 - (lg_sl ([.int v, .int (nI j)])).length) Slot.unset).toArray = ls at hl ⊢
  have hl : lv_has ls 2 [(0, .int v), (1, .int (nI j))] := hl
  refine lv_iload_n hx hb dX5_has_0 rfl (lv_at hl 0 rfl) ?_
  refine lv_iconst (v := 1) hx hb dX5_has_1 (by decide) ?_
  refine lv_iload_n hx hb dX5_has_2 rfl (lv_at hl 1 rfl) ?_
  refine lv_ishl hx hb dX5_has_3 ?_
  refine lv_iand hx hb dX5_has_4 ?_
  refine lv_if_eq (tgt := 12) hx hb dX5_has_5 (by decide) (fun c_5 => ?_) (fun c_5 => ?_)
  · refine lv_iconst (v := 0) hx hb dX5_has_12 (by decide) ?_
    exact g_zret S hr hlocks (by simp [hsB, bI, c_5]) ⟨_, rfl⟩ dX5_has_13
  · refine lv_iconst (v := 1) hx hb dX5_has_8 (by decide) ?_
    refine lv_goto (tgt := 13) hx hb dX5_has_9 (by decide) ?_
    exact g_zret S hr hlocks (by simp [hsB, bI, c_5]) ⟨_, rfl⟩ dX5_has_13
set_option maxHeartbeats 4000000 in
set_option maxRecDepth 100000 in
/-- Integer.signum -/
theorem c_J6_signum_0f7a4 (l : Launch) (z : ZE) (v : Int32) : Met l yJ6_signum_0f7a4 (.code yJ6_signum_0f7a4 cJ6_signum_0f7a4 1 (some .int) :: wU) ({ frames := 0, cells := 0, slots := 0, locals := 0 }) (PE z [.int v] (fun _ => True)) (rqi (sgn v)) 0 0 zF := by
  refine Met.ofW (cc := cJ6_signum_0f7a4) (maxL := 1) (ret := (some .int)) (by decide) rfl ?_
  intro p e s m args below meth c s₁ BD hml hv
  obtain ⟨rfl, hE, hW⟩ := hv
  have hts : ∀ w ∈ wU, w.before _ s = true := fun w h => atoms_spec (ws := .code yJ6_signum_0f7a4 cJ6_signum_0f7a4 1 (some .int) :: wU) BD.pre w (List.mem_cons_of_mem _ h)
  have S : CallFix p m c cJ6_signum_0f7a4 1 s ([.int v] : List Value).toArray wU RJ6 := ⟨BD.exec, BD.bytes, hml, findClass_of_methodNamed BD.named, hts⟩
  have hx := S.1
  have hb := S.2.1
  have hown := S.2.2.2.1
  have hr := BD.returns
  have hlocks := BD.notSynchronized
  have hS : va_S (zA z) s.heap s.heap [] := va_S.rf
  have hl := lv_entry ([.int v]) (n := 1) (Nat.le_of_ble_eq_true rfl)
  rw [lg_entry_eq]
  generalize (lg_sl ([.int v]) ++ List.replicate (1 - (lg_sl ([.int v])).length) Slot.unset).toArray = ls at hl ⊢
  have hl : lv_has ls 1 [(0, .int v)] := hl
  refine lv_iload_n hx hb dJ6_signum_0f7a4_0 rfl (lv_at hl 0 rfl) ?_
  refine lv_bipush (v := 31) hx hb dJ6_signum_0f7a4_1 (by decide) ?_
  refine lv_ishr hx hb dJ6_signum_0f7a4_3 ?_
  refine lv_iload_n hx hb dJ6_signum_0f7a4_4 rfl (lv_at hl 0 rfl) ?_
  refine lv_ineg hx hb dJ6_signum_0f7a4_5 ?_
  refine lv_bipush (v := 31) hx hb dJ6_signum_0f7a4_6 (by decide) ?_
  refine lv_iushr (v := ((-(v)).toUInt32 >>> ((31 : Int32).toUInt32 &&& Int32.toUInt32 31)).toInt32) hx hb dJ6_signum_0f7a4_8 rfl ?_
  refine lv_ior hx hb dJ6_signum_0f7a4_9 ?_
  exact g_iret S hr hlocks (sgn_eq v) dJ6_signum_0f7a4_10
set_option maxHeartbeats 4000000 in
set_option maxRecDepth 100000 in
/-- Math.floorMod(n, 12) -/
theorem c_J9_floorMod_7cf53 (l : Launch) (z : ZE) (n : Nat) (hn : n < 2000) : Met l yJ9_floorMod_7cf53 (.code yJ9_floorMod_7cf53 cJ9_floorMod_7cf53 3 (some .int) :: wU) ({ frames := 0, cells := 0, slots := 0, locals := 0 }) (PE z [.int (nI n), .int (nI 12)] (fun _ => True)) (rqi (nI (n % 12))) 0 0 zF := by
  refine va_MetF (cc := cJ9_floorMod_7cf53) (maxL := 3) (ret := (some .int)) (by decide +kernel) rfl ?_
  intro p e s m args below meth c s₁ BD hml hv
  obtain ⟨rfl, hE, hW⟩ := hv
  have hts : ∀ w ∈ wU, w.before _ s = true := fun w h => atoms_spec (ws := .code yJ9_floorMod_7cf53 cJ9_floorMod_7cf53 3 (some .int) :: wU) BD.pre w (List.mem_cons_of_mem _ h)
  have S : CallFix p m c cJ9_floorMod_7cf53 3 s ([.int (nI n), .int (nI 12)] : List Value).toArray wU RJ9 := ⟨BD.exec, BD.bytes, hml, findClass_of_methodNamed BD.named, hts⟩
  have hx := S.1
  have hb := S.2.1
  have hown := S.2.2.2.1
  have hr := BD.returns
  have hlocks := BD.notSynchronized
  have hS : va_S (zA z) s.heap s.heap [] := va_S.rf
  have hl := lv_entry ([.int (nI n), .int (nI 12)]) (n := 3) (Nat.le_of_ble_eq_true rfl)
  rw [lg_entry_eq]
  generalize (lg_sl ([.int (nI n), .int (nI 12)]) ++ List.replicate (3 - (lg_sl ([.int (nI n), .int (nI 12)])).length) Slot.unset).toArray = ls at hl ⊢
  have hl : lv_has ls 3 [(0, .int (nI n)), (1, .int (nI 12))] := hl
  refine lv_iload_n hx hb dJ9_floorMod_7cf53_0 rfl (lv_at hl 0 rfl) ?_
  refine lv_iload_n hx hb dJ9_floorMod_7cf53_1 rfl (lv_at hl 1 rfl) ?_
  refine lv_irem hx hb dJ9_floorMod_7cf53_2 (by decide) ?_
  rw [show (nI n : Int32) - nI n / nI 12 * nI 12 = nI ((n) % 12) from pk_rem (d := 12) (by omega) (by decide) (by decide)]
  refine lv_istore_n (lv' := [(2, .int (nI ((n) % 12))), (0, .int (nI n)), (1, .int (nI 12))]) hx hb dJ9_floorMod_7cf53_3 rfl hl (by decide) rfl (fun ls hl => ?_)
  refine lv_iload_n hx hb dJ9_floorMod_7cf53_4 rfl (lv_at hl 1 rfl) ?_
  refine lv_iload_n hx hb dJ9_floorMod_7cf53_5 rfl (lv_at hl 2 rfl) ?_
  refine lv_ixor hx hb dJ9_floorMod_7cf53_6 ?_
  refine lv_if_ge (tgt := 18) hx hb dJ9_floorMod_7cf53_7 (by decide) (fun c_7 => ?_) (fun h9 => absurd (fm_nn n hn) h9)
  refine lv_iload_n hx hb dJ9_floorMod_7cf53_18 rfl (lv_at hl 0 rfl) ?_
  exact g_iret S hr hlocks rfl dJ9_floorMod_7cf53_19
set_option maxHeartbeats 4000000 in
set_option maxRecDepth 100000 in
/-- movingOf(species) -/
theorem c_X5_movingOf (l : Launch) (z : ZE) (k : Nat) (hk : k < 4) : Met l yX5_movingOf (.code yX5_movingOf cX5_movingOf 1 (some .int) :: wU) ({ frames := 0, cells := 0, slots := 0, locals := 0 }) (PE z [.int (nI k)] (fun _ => True)) (rqi (nI k + 2)) 0 0 zF := by
  refine Met.ofW (cc := cX5_movingOf) (maxL := 1) (ret := (some .int)) (by decide) rfl ?_
  intro p e s m args below meth c s₁ BD hml hv
  obtain ⟨rfl, hE, hW⟩ := hv
  have hts : ∀ w ∈ wU, w.before _ s = true := fun w h => atoms_spec (ws := .code yX5_movingOf cX5_movingOf 1 (some .int) :: wU) BD.pre w (List.mem_cons_of_mem _ h)
  have S : CallFix p m c cX5_movingOf 1 s ([.int (nI k)] : List Value).toArray wU RX5 := ⟨BD.exec, BD.bytes, hml, findClass_of_methodNamed BD.named, hts⟩
  have hx := S.1
  have hb := S.2.1
  have hown := S.2.2.2.1
  have hr := BD.returns
  have hlocks := BD.notSynchronized
  have hS : va_S (zA z) s.heap s.heap [] := va_S.rf
  have hl := lv_entry ([.int (nI k)]) (n := 1) (Nat.le_of_ble_eq_true rfl)
  rw [lg_entry_eq]
  generalize (lg_sl ([.int (nI k)]) ++ List.replicate (1 - (lg_sl ([.int (nI k)])).length) Slot.unset).toArray = ls at hl ⊢
  have hl : lv_has ls 1 [(0, .int (nI k))] := hl
  rcases (show k = 0 ∨ k = 1 ∨ k = 2 ∨ k = 3 by omega) with rfl | rfl | rfl | rfl
  · refine lv_iload_n hx hb dX5_movingOf_0 rfl (lv_at hl 0 rfl) ?_
    refine lv_tableIn (tgt := 28) hx hb dX5_movingOf_1 (by decide) (by decide) rfl (by decide) ?_
    refine lv_iconst (v := 2) hx hb dX5_movingOf_28 (by decide) ?_
    exact g_iret S hr hlocks (by decide) dX5_movingOf_29
  · refine lv_iload_n hx hb dX5_movingOf_0 rfl (lv_at hl 0 rfl) ?_
    refine lv_tableIn (tgt := 30) hx hb dX5_movingOf_1 (by decide) (by decide) rfl (by decide) ?_
    refine lv_iconst (v := 3) hx hb dX5_movingOf_30 (by decide) ?_
    exact g_iret S hr hlocks (by decide) dX5_movingOf_31
  · refine lv_iload_n hx hb dX5_movingOf_0 rfl (lv_at hl 0 rfl) ?_
    refine lv_tableIn (tgt := 32) hx hb dX5_movingOf_1 (by decide) (by decide) rfl (by decide) ?_
    refine lv_iconst (v := 4) hx hb dX5_movingOf_32 (by decide) ?_
    exact g_iret S hr hlocks (by decide) dX5_movingOf_33
  · refine lv_iload_n hx hb dX5_movingOf_0 rfl (lv_at hl 0 rfl) ?_
    refine lv_tableOut (tgt := 34) hx hb dX5_movingOf_1 (by decide) (by decide) ?_
    refine lv_iconst (v := 5) hx hb dX5_movingOf_34 (by decide) ?_
    exact g_iret S hr hlocks (by decide) dX5_movingOf_35
set_option maxHeartbeats 4000000 in
set_option maxRecDepth 100000 in
/-- hardnessOf(species) -/
theorem c_X5_hardnessOf (l : Launch) (z : ZE) (k : Nat) (hk : k < 4) : Met l yX5_hardnessOf (.code yX5_hardnessOf cX5_hardnessOf 1 (some .int) :: wU) ({ frames := 0, cells := 0, slots := 0, locals := 0 }) (PE z [.int (nI k)] (fun _ => True)) (rqi (hd (nI k))) 0 0 zF := by
  refine Met.ofW (cc := cX5_hardnessOf) (maxL := 1) (ret := (some .int)) (by decide) rfl ?_
  intro p e s m args below meth c s₁ BD hml hv
  obtain ⟨rfl, hE, hW⟩ := hv
  have hts : ∀ w ∈ wU, w.before _ s = true := fun w h => atoms_spec (ws := .code yX5_hardnessOf cX5_hardnessOf 1 (some .int) :: wU) BD.pre w (List.mem_cons_of_mem _ h)
  have S : CallFix p m c cX5_hardnessOf 1 s ([.int (nI k)] : List Value).toArray wU RX5 := ⟨BD.exec, BD.bytes, hml, findClass_of_methodNamed BD.named, hts⟩
  have hx := S.1
  have hb := S.2.1
  have hown := S.2.2.2.1
  have hr := BD.returns
  have hlocks := BD.notSynchronized
  have hS : va_S (zA z) s.heap s.heap [] := va_S.rf
  have hl := lv_entry ([.int (nI k)]) (n := 1) (Nat.le_of_ble_eq_true rfl)
  rw [lg_entry_eq]
  generalize (lg_sl ([.int (nI k)]) ++ List.replicate (1 - (lg_sl ([.int (nI k)])).length) Slot.unset).toArray = ls at hl ⊢
  have hl : lv_has ls 1 [(0, .int (nI k))] := hl
  rcases (show k = 0 ∨ k = 1 ∨ k = 2 ∨ k = 3 by omega) with rfl | rfl | rfl | rfl
  · refine lv_iload_n hx hb dX5_hardnessOf_0 rfl (lv_at hl 0 rfl) ?_
    refine lv_tableIn (tgt := 28) hx hb dX5_hardnessOf_1 (by decide) (by decide) rfl (by decide) ?_
    refine lv_iconst (v := 2) hx hb dX5_hardnessOf_28 (by decide) ?_
    exact g_iret S hr hlocks (by decide) dX5_hardnessOf_29
  · refine lv_iload_n hx hb dX5_hardnessOf_0 rfl (lv_at hl 0 rfl) ?_
    refine lv_tableIn (tgt := 30) hx hb dX5_hardnessOf_1 (by decide) (by decide) rfl (by decide) ?_
    refine lv_iconst (v := 4) hx hb dX5_hardnessOf_30 (by decide) ?_
    exact g_iret S hr hlocks (by decide) dX5_hardnessOf_31
  · refine lv_iload_n hx hb dX5_hardnessOf_0 rfl (lv_at hl 0 rfl) ?_
    refine lv_tableIn (tgt := 32) hx hb dX5_hardnessOf_1 (by decide) (by decide) rfl (by decide) ?_
    refine lv_bipush (v := 7) hx hb dX5_hardnessOf_32 (by decide) ?_
    exact g_iret S hr hlocks (by decide) dX5_hardnessOf_34
  · refine lv_iload_n hx hb dX5_hardnessOf_0 rfl (lv_at hl 0 rfl) ?_
    refine lv_tableOut (tgt := 35) hx hb dX5_hardnessOf_1 (by decide) (by decide) ?_
    refine lv_bipush (v := 9) hx hb dX5_hardnessOf_35 (by decide) ?_
    exact g_iret S hr hlocks (by decide) dX5_hardnessOf_37
set_option maxHeartbeats 4000000 in
set_option maxRecDepth 100000 in
/-- findBoard(i), one that there is -/
theorem c_findBoard_y (l : Launch) (z : ZE) (w : WG) (g gm : GS) (o : Nat → Int64) (hO : OKg g) (i : Nat) (hi : i < nb g) : Met l yX5_findBoard (.code yX5_findBoard cX5_findBoard 2 (some (.object "DovetailRow$Board")) :: wU) ({ frames := 3, cells := 0, slots := 0, locals := 64 }) (PE z [.ref (wad w 0 (0)), .int (nI i)] (fun H => WW z w g gm o H)) (rqq (some (wad w 2 (i)))) 0 0 zF := by
  refine Met.ofW (cc := cX5_findBoard) (maxL := 2) (ret := (some (.object "DovetailRow$Board"))) (by decide) rfl ?_
  intro p e s m args below meth c s₁ BD hml hv
  obtain ⟨rfl, hE, hW⟩ := hv
  have hts : ∀ w ∈ wU, w.before _ s = true := fun w h => atoms_spec (ws := .code yX5_findBoard cX5_findBoard 2 (some (.object "DovetailRow$Board")) :: wU) BD.pre w (List.mem_cons_of_mem _ h)
  have S : CallFix p m c cX5_findBoard 2 s ([.ref (wad w 0 (0)), .int (nI i)] : List Value).toArray wU RX5 := ⟨BD.exec, BD.bytes, hml, findClass_of_methodNamed BD.named, hts⟩
  have hx := S.1
  have hb := S.2.1
  have hown := S.2.2.2.1
  have hr := BD.returns
  have hlocks := BD.notSynchronized
  have hS : va_S (zA z) s.heap s.heap [] := va_S.rf
  have hl := lv_entry ([.ref (wad w 0 (0)), .int (nI i)]) (n := 2) (Nat.le_of_ble_eq_true rfl)
  rw [lg_entry_eq]
  generalize (lg_sl ([.ref (wad w 0 (0)), .int (nI i)]) ++ List.replicate (2 - (lg_sl ([.ref (wad w 0 (0)), .int (nI i)])).length) Slot.unset).toArray = ls at hl ⊢
  have hl : lv_has ls 2 [(0, .ref (wad w 0 (0))), (1, .int (nI i))] := hl
  have h20 := hO.l5
  have h40 := hO.l16
  have h30 := hO.l24
  refine lv_iload_n hx hb dX5_findBoard_0 rfl (lv_at hl 1 rfl) ?_
  refine lv_if_lt (tgt := 29) hx hb dX5_findBoard_1 (by decide) (fun h9 => absurd h9 (nI_pos (by omega))) (fun c_1 => ?_)
  refine lv_iload_n hx hb dX5_findBoard_4 rfl (lv_at hl 1 rfl) ?_
  refine lv_aload_n hx hb dX5_findBoard_5 rfl (lv_at hl 0 rfl) ?_
  refine g_get S hE hW.sh (C := RX5) (T := TX5) (N := 8) (v := .ref (wad w 5 (0))) rfl inU5 0 (by decide) tw_60 (Or.inl rfl) rfl dX5_findBoard_6 ?_
  refine g_callV (As := []) (rest := [.int (nI i)]) S hE hS (c_sizeB l z w g gm o) (cwV 0 hts (gU_V tw_209 tw_210 tw_211 tw_4 tw_212) rfl rfl rfl (by decide +kernel) ⟨Nat.le_of_ble_eq_true rfl, Nat.le_of_ble_eq_true rfl⟩) (hE.recv (hW.lst (i := 0) (by omega)) (q := (RJx4a65c, TJx4a65c, 3)) rfl) hW rfl hl.1 rfl (Nat.le_of_ble_eq_true rfl) dX5_findBoard_9 ⟨Nat.zero_le _, Nat.zero_le _⟩ ?_
  refine g_icmp_ge S (by omega) (by omega) (tgt := 29) dX5_findBoard_12 (by decide) (fun h9 => absurd h9 (by omega)) (fun c_12_1 => ?_)
  refine lv_aload_n hx hb dX5_findBoard_15 rfl (lv_at hl 0 rfl) ?_
  refine g_get S hE hW.sh (C := RX5) (T := TX5) (N := 8) (v := .ref (wad w 5 (0))) rfl inU5 0 (by decide) tw_60 (Or.inl rfl) rfl dX5_findBoard_16 ?_
  refine lv_iload_n hx hb dX5_findBoard_19 rfl (lv_at hl 1 rfl) ?_
  refine g_callVq (As := [.int (nI i)]) (rest := []) S hE hS (c_getB l z w g gm o (i) (by omega)) (cwV 1 hts (gU_V tw_213 tw_214 tw_215 tw_4 tw_216) rfl rfl rfl (by decide +kernel) ⟨Nat.le_of_ble_eq_true rfl, Nat.le_of_ble_eq_true rfl⟩) (hE.recv (hW.lst (i := 0) (by omega)) (q := (RJx4a65c, TJx4a65c, 3)) rfl) hW rfl hl.1 rfl (Nat.le_of_ble_eq_true rfl) dX5_findBoard_20 ⟨Nat.zero_le _, Nat.zero_le _⟩ ?_
  rw [show va_rf (some (wad w 2 (i))) = .ref (wad w 2 (i)) from rfl]
  refine g_cast S hE (hW.bd (i := i) (by omega)) (C := RX0) (T := TX0) (N := 11) rfl tw_227 dX5_findBoard_23 ?_
  refine lv_goto (tgt := 30) hx hb dX5_findBoard_26 (by decide) ?_
  exact g_aret (r' := some (wad w 2 (i))) S hr hlocks rfl dX5_findBoard_30
set_option maxHeartbeats 4000000 in
set_option maxRecDepth 100000 in
/-- findBoard(v), none -/
theorem c_findBoard_n (l : Launch) (z : ZE) (w : WG) (g gm : GS) (o : Nat → Int64) (hO : OKg g) (v : Int32) (hv9 : isB g v = false) : Met l yX5_findBoard (.code yX5_findBoard cX5_findBoard 2 (some (.object "DovetailRow$Board")) :: wU) ({ frames := 1, cells := 0, slots := 0, locals := 20 }) (PE z [.ref (wad w 0 (0)), .int v] (fun H => WW z w g gm o H)) (rqq (none)) 0 0 zF := by
  refine Met.ofW (cc := cX5_findBoard) (maxL := 2) (ret := (some (.object "DovetailRow$Board"))) (by decide) rfl ?_
  intro p e s m args below meth c s₁ BD hml hv
  obtain ⟨rfl, hE, hW⟩ := hv
  have hts : ∀ w ∈ wU, w.before _ s = true := fun w h => atoms_spec (ws := .code yX5_findBoard cX5_findBoard 2 (some (.object "DovetailRow$Board")) :: wU) BD.pre w (List.mem_cons_of_mem _ h)
  have S : CallFix p m c cX5_findBoard 2 s ([.ref (wad w 0 (0)), .int v] : List Value).toArray wU RX5 := ⟨BD.exec, BD.bytes, hml, findClass_of_methodNamed BD.named, hts⟩
  have hx := S.1
  have hb := S.2.1
  have hown := S.2.2.2.1
  have hr := BD.returns
  have hlocks := BD.notSynchronized
  have hS : va_S (zA z) s.heap s.heap [] := va_S.rf
  have hl := lv_entry ([.ref (wad w 0 (0)), .int v]) (n := 2) (Nat.le_of_ble_eq_true rfl)
  rw [lg_entry_eq]
  generalize (lg_sl ([.ref (wad w 0 (0)), .int v]) ++ List.replicate (2 - (lg_sl ([.ref (wad w 0 (0)), .int v])).length) Slot.unset).toArray = ls at hl ⊢
  have hl : lv_has ls 2 [(0, .ref (wad w 0 (0))), (1, .int v)] := hl
  have h20 := hO.l5
  have h40 := hO.l16
  have h30 := hO.l24
  refine lv_iload_n hx hb dX5_findBoard_0 rfl (lv_at hl 1 rfl) ?_
  refine lv_if_lt (tgt := 29) hx hb dX5_findBoard_1 (by decide) (fun c_1 => ?_) (fun c_1 => ?_)
  · refine lv_null hx hb dX5_findBoard_29 ?_
    exact g_aret (r' := none) S hr hlocks rfl dX5_findBoard_30
  · refine lv_iload_n hx hb dX5_findBoard_4 rfl (lv_at hl 1 rfl) ?_
    refine lv_aload_n hx hb dX5_findBoard_5 rfl (lv_at hl 0 rfl) ?_
    refine g_get S hE hW.sh (C := RX5) (T := TX5) (N := 8) (v := .ref (wad w 5 (0))) rfl inU5 0 (by decide) tw_60 (Or.inl rfl) rfl dX5_findBoard_6 ?_
    refine g_callV (As := []) (rest := [.int v]) S hE hS (c_sizeB l z w g gm o) (cwV 0 hts (gU_V tw_209 tw_210 tw_211 tw_4 tw_212) rfl rfl rfl (by decide +kernel) ⟨Nat.le_of_ble_eq_true rfl, Nat.le_of_ble_eq_true rfl⟩) (hE.recv (hW.lst (i := 0) (by omega)) (q := (RJx4a65c, TJx4a65c, 3)) rfl) hW rfl hl.1 rfl (Nat.le_of_ble_eq_true rfl) dX5_findBoard_9 ⟨Nat.zero_le _, Nat.zero_le _⟩ ?_
    refine lv_icmp_ge (tgt := 29) hx hb dX5_findBoard_12 (by decide) (fun c_12_1 => ?_) (fun c_12_1 => ?_)
    · refine lv_null hx hb dX5_findBoard_29 ?_
      exact g_aret (r' := none) S hr hlocks rfl dX5_findBoard_30
    · exact (wi_no (by omega) hv9 c_1 c_12_1).elim
set_option maxHeartbeats 4000000 in
set_option maxRecDepth 100000 in
/-- findPart(i), one that there is -/
theorem c_findPart_y (l : Launch) (z : ZE) (w : WG) (g gm : GS) (o : Nat → Int64) (hO : OKg g) (i : Nat) (hi : i < np g) : Met l yX5_findPart (.code yX5_findPart cX5_findPart 2 (some (.object "DovetailRow$Part")) :: wU) ({ frames := 3, cells := 0, slots := 0, locals := 64 }) (PE z [.ref (wad w 0 (0)), .int (nI i)] (fun H => WW z w g gm o H)) (rqq (some (wad w 3 (i)))) 0 0 zF := by
  refine Met.ofW (cc := cX5_findPart) (maxL := 2) (ret := (some (.object "DovetailRow$Part"))) (by decide) rfl ?_
  intro p e s m args below meth c s₁ BD hml hv
  obtain ⟨rfl, hE, hW⟩ := hv
  have hts : ∀ w ∈ wU, w.before _ s = true := fun w h => atoms_spec (ws := .code yX5_findPart cX5_findPart 2 (some (.object "DovetailRow$Part")) :: wU) BD.pre w (List.mem_cons_of_mem _ h)
  have S : CallFix p m c cX5_findPart 2 s ([.ref (wad w 0 (0)), .int (nI i)] : List Value).toArray wU RX5 := ⟨BD.exec, BD.bytes, hml, findClass_of_methodNamed BD.named, hts⟩
  have hx := S.1
  have hb := S.2.1
  have hown := S.2.2.2.1
  have hr := BD.returns
  have hlocks := BD.notSynchronized
  have hS : va_S (zA z) s.heap s.heap [] := va_S.rf
  have hl := lv_entry ([.ref (wad w 0 (0)), .int (nI i)]) (n := 2) (Nat.le_of_ble_eq_true rfl)
  rw [lg_entry_eq]
  generalize (lg_sl ([.ref (wad w 0 (0)), .int (nI i)]) ++ List.replicate (2 - (lg_sl ([.ref (wad w 0 (0)), .int (nI i)])).length) Slot.unset).toArray = ls at hl ⊢
  have hl : lv_has ls 2 [(0, .ref (wad w 0 (0))), (1, .int (nI i))] := hl
  have h20 := hO.l5
  have h40 := hO.l16
  have h30 := hO.l24
  refine lv_iload_n hx hb dX5_findPart_0 rfl (lv_at hl 1 rfl) ?_
  refine lv_if_lt (tgt := 29) hx hb dX5_findPart_1 (by decide) (fun h9 => absurd h9 (nI_pos (by omega))) (fun c_1 => ?_)
  refine lv_iload_n hx hb dX5_findPart_4 rfl (lv_at hl 1 rfl) ?_
  refine lv_aload_n hx hb dX5_findPart_5 rfl (lv_at hl 0 rfl) ?_
  refine g_get S hE hW.sh (C := RX5) (T := TX5) (N := 8) (v := .ref (wad w 5 (1))) rfl inU5 1 (by decide) tw_61 (Or.inl rfl) rfl dX5_findPart_6 ?_
  refine g_callV (As := []) (rest := [.int (nI i)]) S hE hS (c_sizeP l z w g gm o) (cwV 0 hts (gU_V tw_209 tw_210 tw_211 tw_4 tw_212) rfl rfl rfl (by decide +kernel) ⟨Nat.le_of_ble_eq_true rfl, Nat.le_of_ble_eq_true rfl⟩) (hE.recv (hW.lst (i := 1) (by omega)) (q := (RJx4a65c, TJx4a65c, 3)) rfl) hW rfl hl.1 rfl (Nat.le_of_ble_eq_true rfl) dX5_findPart_9 ⟨Nat.zero_le _, Nat.zero_le _⟩ ?_
  refine g_icmp_ge S (by omega) (by omega) (tgt := 29) dX5_findPart_12 (by decide) (fun h9 => absurd h9 (by omega)) (fun c_12_1 => ?_)
  refine lv_aload_n hx hb dX5_findPart_15 rfl (lv_at hl 0 rfl) ?_
  refine g_get S hE hW.sh (C := RX5) (T := TX5) (N := 8) (v := .ref (wad w 5 (1))) rfl inU5 1 (by decide) tw_61 (Or.inl rfl) rfl dX5_findPart_16 ?_
  refine lv_iload_n hx hb dX5_findPart_19 rfl (lv_at hl 1 rfl) ?_
  refine g_callVq (As := [.int (nI i)]) (rest := []) S hE hS (c_getP l z w g gm o (i) (by omega)) (cwV 1 hts (gU_V tw_213 tw_214 tw_215 tw_4 tw_216) rfl rfl rfl (by decide +kernel) ⟨Nat.le_of_ble_eq_true rfl, Nat.le_of_ble_eq_true rfl⟩) (hE.recv (hW.lst (i := 1) (by omega)) (q := (RJx4a65c, TJx4a65c, 3)) rfl) hW rfl hl.1 rfl (Nat.le_of_ble_eq_true rfl) dX5_findPart_20 ⟨Nat.zero_le _, Nat.zero_le _⟩ ?_
  rw [show va_rf (some (wad w 3 (i))) = .ref (wad w 3 (i)) from rfl]
  refine g_cast S hE (hW.pt (i := i) (by omega)) (C := RX2) (T := TX2) (N := 9) rfl tw_243 dX5_findPart_23 ?_
  refine lv_goto (tgt := 30) hx hb dX5_findPart_26 (by decide) ?_
  exact g_aret (r' := some (wad w 3 (i))) S hr hlocks rfl dX5_findPart_30
set_option maxHeartbeats 4000000 in
set_option maxRecDepth 100000 in
/-- findPart(v), none -/
theorem c_findPart_n (l : Launch) (z : ZE) (w : WG) (g gm : GS) (o : Nat → Int64) (hO : OKg g) (v : Int32) (hv9 : isP g v = false) : Met l yX5_findPart (.code yX5_findPart cX5_findPart 2 (some (.object "DovetailRow$Part")) :: wU) ({ frames := 1, cells := 0, slots := 0, locals := 20 }) (PE z [.ref (wad w 0 (0)), .int v] (fun H => WW z w g gm o H)) (rqq (none)) 0 0 zF := by
  refine Met.ofW (cc := cX5_findPart) (maxL := 2) (ret := (some (.object "DovetailRow$Part"))) (by decide) rfl ?_
  intro p e s m args below meth c s₁ BD hml hv
  obtain ⟨rfl, hE, hW⟩ := hv
  have hts : ∀ w ∈ wU, w.before _ s = true := fun w h => atoms_spec (ws := .code yX5_findPart cX5_findPart 2 (some (.object "DovetailRow$Part")) :: wU) BD.pre w (List.mem_cons_of_mem _ h)
  have S : CallFix p m c cX5_findPart 2 s ([.ref (wad w 0 (0)), .int v] : List Value).toArray wU RX5 := ⟨BD.exec, BD.bytes, hml, findClass_of_methodNamed BD.named, hts⟩
  have hx := S.1
  have hb := S.2.1
  have hown := S.2.2.2.1
  have hr := BD.returns
  have hlocks := BD.notSynchronized
  have hS : va_S (zA z) s.heap s.heap [] := va_S.rf
  have hl := lv_entry ([.ref (wad w 0 (0)), .int v]) (n := 2) (Nat.le_of_ble_eq_true rfl)
  rw [lg_entry_eq]
  generalize (lg_sl ([.ref (wad w 0 (0)), .int v]) ++ List.replicate (2 - (lg_sl ([.ref (wad w 0 (0)), .int v])).length) Slot.unset).toArray = ls at hl ⊢
  have hl : lv_has ls 2 [(0, .ref (wad w 0 (0))), (1, .int v)] := hl
  have h20 := hO.l5
  have h40 := hO.l16
  have h30 := hO.l24
  refine lv_iload_n hx hb dX5_findPart_0 rfl (lv_at hl 1 rfl) ?_
  refine lv_if_lt (tgt := 29) hx hb dX5_findPart_1 (by decide) (fun c_1 => ?_) (fun c_1 => ?_)
  · refine lv_null hx hb dX5_findPart_29 ?_
    exact g_aret (r' := none) S hr hlocks rfl dX5_findPart_30
  · refine lv_iload_n hx hb dX5_findPart_4 rfl (lv_at hl 1 rfl) ?_
    refine lv_aload_n hx hb dX5_findPart_5 rfl (lv_at hl 0 rfl) ?_
    refine g_get S hE hW.sh (C := RX5) (T := TX5) (N := 8) (v := .ref (wad w 5 (1))) rfl inU5 1 (by decide) tw_61 (Or.inl rfl) rfl dX5_findPart_6 ?_
    refine g_callV (As := []) (rest := [.int v]) S hE hS (c_sizeP l z w g gm o) (cwV 0 hts (gU_V tw_209 tw_210 tw_211 tw_4 tw_212) rfl rfl rfl (by decide +kernel) ⟨Nat.le_of_ble_eq_true rfl, Nat.le_of_ble_eq_true rfl⟩) (hE.recv (hW.lst (i := 1) (by omega)) (q := (RJx4a65c, TJx4a65c, 3)) rfl) hW rfl hl.1 rfl (Nat.le_of_ble_eq_true rfl) dX5_findPart_9 ⟨Nat.zero_le _, Nat.zero_le _⟩ ?_
    refine lv_icmp_ge (tgt := 29) hx hb dX5_findPart_12 (by decide) (fun c_12_1 => ?_) (fun c_12_1 => ?_)
    · refine lv_null hx hb dX5_findPart_29 ?_
      exact g_aret (r' := none) S hr hlocks rfl dX5_findPart_30
    · exact (wi_no (by omega) hv9 c_1 c_12_1).elim
set_option maxHeartbeats 4000000 in
set_option maxRecDepth 100000 in
/-- findJoint(i), one that there is -/
theorem c_findJoint_y (l : Launch) (z : ZE) (w : WG) (g gm : GS) (o : Nat → Int64) (hO : OKg g) (i : Nat) (hi : i < nj g) : Met l yX5_findJoint (.code yX5_findJoint cX5_findJoint 2 (some (.object "DovetailRow$Joint")) :: wU) ({ frames := 3, cells := 0, slots := 0, locals := 64 }) (PE z [.ref (wad w 0 (0)), .int (nI i)] (fun H => WW z w g gm o H)) (rqq (some (wad w 4 (i)))) 0 0 zF := by
  refine Met.ofW (cc := cX5_findJoint) (maxL := 2) (ret := (some (.object "DovetailRow$Joint"))) (by decide) rfl ?_
  intro p e s m args below meth c s₁ BD hml hv
  obtain ⟨rfl, hE, hW⟩ := hv
  have hts : ∀ w ∈ wU, w.before _ s = true := fun w h => atoms_spec (ws := .code yX5_findJoint cX5_findJoint 2 (some (.object "DovetailRow$Joint")) :: wU) BD.pre w (List.mem_cons_of_mem _ h)
  have S : CallFix p m c cX5_findJoint 2 s ([.ref (wad w 0 (0)), .int (nI i)] : List Value).toArray wU RX5 := ⟨BD.exec, BD.bytes, hml, findClass_of_methodNamed BD.named, hts⟩
  have hx := S.1
  have hb := S.2.1
  have hown := S.2.2.2.1
  have hr := BD.returns
  have hlocks := BD.notSynchronized
  have hS : va_S (zA z) s.heap s.heap [] := va_S.rf
  have hl := lv_entry ([.ref (wad w 0 (0)), .int (nI i)]) (n := 2) (Nat.le_of_ble_eq_true rfl)
  rw [lg_entry_eq]
  generalize (lg_sl ([.ref (wad w 0 (0)), .int (nI i)]) ++ List.replicate (2 - (lg_sl ([.ref (wad w 0 (0)), .int (nI i)])).length) Slot.unset).toArray = ls at hl ⊢
  have hl : lv_has ls 2 [(0, .ref (wad w 0 (0))), (1, .int (nI i))] := hl
  have h20 := hO.l5
  have h40 := hO.l16
  have h30 := hO.l24
  refine lv_iload_n hx hb dX5_findJoint_0 rfl (lv_at hl 1 rfl) ?_
  refine lv_if_lt (tgt := 29) hx hb dX5_findJoint_1 (by decide) (fun h9 => absurd h9 (nI_pos (by omega))) (fun c_1 => ?_)
  refine lv_iload_n hx hb dX5_findJoint_4 rfl (lv_at hl 1 rfl) ?_
  refine lv_aload_n hx hb dX5_findJoint_5 rfl (lv_at hl 0 rfl) ?_
  refine g_get S hE hW.sh (C := RX5) (T := TX5) (N := 8) (v := .ref (wad w 5 (2))) rfl inU5 2 (by decide) tw_62 (Or.inl rfl) rfl dX5_findJoint_6 ?_
  refine g_callV (As := []) (rest := [.int (nI i)]) S hE hS (c_sizeJ l z w g gm o) (cwV 0 hts (gU_V tw_209 tw_210 tw_211 tw_4 tw_212) rfl rfl rfl (by decide +kernel) ⟨Nat.le_of_ble_eq_true rfl, Nat.le_of_ble_eq_true rfl⟩) (hE.recv (hW.lst (i := 2) (by omega)) (q := (RJx4a65c, TJx4a65c, 3)) rfl) hW rfl hl.1 rfl (Nat.le_of_ble_eq_true rfl) dX5_findJoint_9 ⟨Nat.zero_le _, Nat.zero_le _⟩ ?_
  refine g_icmp_ge S (by omega) (by omega) (tgt := 29) dX5_findJoint_12 (by decide) (fun h9 => absurd h9 (by omega)) (fun c_12_1 => ?_)
  refine lv_aload_n hx hb dX5_findJoint_15 rfl (lv_at hl 0 rfl) ?_
  refine g_get S hE hW.sh (C := RX5) (T := TX5) (N := 8) (v := .ref (wad w 5 (2))) rfl inU5 2 (by decide) tw_62 (Or.inl rfl) rfl dX5_findJoint_16 ?_
  refine lv_iload_n hx hb dX5_findJoint_19 rfl (lv_at hl 1 rfl) ?_
  refine g_callVq (As := [.int (nI i)]) (rest := []) S hE hS (c_getJ l z w g gm o (i) (by omega)) (cwV 1 hts (gU_V tw_213 tw_214 tw_215 tw_4 tw_216) rfl rfl rfl (by decide +kernel) ⟨Nat.le_of_ble_eq_true rfl, Nat.le_of_ble_eq_true rfl⟩) (hE.recv (hW.lst (i := 2) (by omega)) (q := (RJx4a65c, TJx4a65c, 3)) rfl) hW rfl hl.1 rfl (Nat.le_of_ble_eq_true rfl) dX5_findJoint_20 ⟨Nat.zero_le _, Nat.zero_le _⟩ ?_
  rw [show va_rf (some (wad w 4 (i))) = .ref (wad w 4 (i)) from rfl]
  refine g_cast S hE (hW.jt (i := i) (by omega)) (C := RX1) (T := TX1) (N := 9) rfl tw_251 dX5_findJoint_23 ?_
  refine lv_goto (tgt := 30) hx hb dX5_findJoint_26 (by decide) ?_
  exact g_aret (r' := some (wad w 4 (i))) S hr hlocks rfl dX5_findJoint_30
set_option maxHeartbeats 4000000 in
set_option maxRecDepth 100000 in
/-- findJoint(v), none -/
theorem c_findJoint_n (l : Launch) (z : ZE) (w : WG) (g gm : GS) (o : Nat → Int64) (hO : OKg g) (v : Int32) (hv9 : isJ g v = false) : Met l yX5_findJoint (.code yX5_findJoint cX5_findJoint 2 (some (.object "DovetailRow$Joint")) :: wU) ({ frames := 1, cells := 0, slots := 0, locals := 20 }) (PE z [.ref (wad w 0 (0)), .int v] (fun H => WW z w g gm o H)) (rqq (none)) 0 0 zF := by
  refine Met.ofW (cc := cX5_findJoint) (maxL := 2) (ret := (some (.object "DovetailRow$Joint"))) (by decide) rfl ?_
  intro p e s m args below meth c s₁ BD hml hv
  obtain ⟨rfl, hE, hW⟩ := hv
  have hts : ∀ w ∈ wU, w.before _ s = true := fun w h => atoms_spec (ws := .code yX5_findJoint cX5_findJoint 2 (some (.object "DovetailRow$Joint")) :: wU) BD.pre w (List.mem_cons_of_mem _ h)
  have S : CallFix p m c cX5_findJoint 2 s ([.ref (wad w 0 (0)), .int v] : List Value).toArray wU RX5 := ⟨BD.exec, BD.bytes, hml, findClass_of_methodNamed BD.named, hts⟩
  have hx := S.1
  have hb := S.2.1
  have hown := S.2.2.2.1
  have hr := BD.returns
  have hlocks := BD.notSynchronized
  have hS : va_S (zA z) s.heap s.heap [] := va_S.rf
  have hl := lv_entry ([.ref (wad w 0 (0)), .int v]) (n := 2) (Nat.le_of_ble_eq_true rfl)
  rw [lg_entry_eq]
  generalize (lg_sl ([.ref (wad w 0 (0)), .int v]) ++ List.replicate (2 - (lg_sl ([.ref (wad w 0 (0)), .int v])).length) Slot.unset).toArray = ls at hl ⊢
  have hl : lv_has ls 2 [(0, .ref (wad w 0 (0))), (1, .int v)] := hl
  have h20 := hO.l5
  have h40 := hO.l16
  have h30 := hO.l24
  refine lv_iload_n hx hb dX5_findJoint_0 rfl (lv_at hl 1 rfl) ?_
  refine lv_if_lt (tgt := 29) hx hb dX5_findJoint_1 (by decide) (fun c_1 => ?_) (fun c_1 => ?_)
  · refine lv_null hx hb dX5_findJoint_29 ?_
    exact g_aret (r' := none) S hr hlocks rfl dX5_findJoint_30
  · refine lv_iload_n hx hb dX5_findJoint_4 rfl (lv_at hl 1 rfl) ?_
    refine lv_aload_n hx hb dX5_findJoint_5 rfl (lv_at hl 0 rfl) ?_
    refine g_get S hE hW.sh (C := RX5) (T := TX5) (N := 8) (v := .ref (wad w 5 (2))) rfl inU5 2 (by decide) tw_62 (Or.inl rfl) rfl dX5_findJoint_6 ?_
    refine g_callV (As := []) (rest := [.int v]) S hE hS (c_sizeJ l z w g gm o) (cwV 0 hts (gU_V tw_209 tw_210 tw_211 tw_4 tw_212) rfl rfl rfl (by decide +kernel) ⟨Nat.le_of_ble_eq_true rfl, Nat.le_of_ble_eq_true rfl⟩) (hE.recv (hW.lst (i := 2) (by omega)) (q := (RJx4a65c, TJx4a65c, 3)) rfl) hW rfl hl.1 rfl (Nat.le_of_ble_eq_true rfl) dX5_findJoint_9 ⟨Nat.zero_le _, Nat.zero_le _⟩ ?_
    refine lv_icmp_ge (tgt := 29) hx hb dX5_findJoint_12 (by decide) (fun c_12_1 => ?_) (fun c_12_1 => ?_)
    · refine lv_null hx hb dX5_findJoint_29 ?_
      exact g_aret (r' := none) S hr hlocks rfl dX5_findJoint_30
    · exact (wi_no (by omega) hv9 c_1 c_12_1).elim
set_option maxHeartbeats 4000000 in
set_option maxRecDepth 100000 in
/-- airIn(n) -/
theorem c_X5_airIn (l : Launch) (z : ZE) (w : WG) (g gm : GS) (o : Nat → Int64) (n : Nat) (hn : n < 2000) : Met l yX5_airIn (.code yX5_airIn cX5_airIn 2 (some .int) :: wU) ({ frames := 1, cells := 0, slots := 0, locals := 22 }) (PE z [.ref (wad w 0 (0)), .int (nI n)] (fun H => WW z w g gm o H)) (rqi (wea g n)) 0 0 zF := by
  refine Met.ofW (cc := cX5_airIn) (maxL := 2) (ret := (some .int)) (by decide) rfl ?_
  intro p e s m args below meth c s₁ BD hml hv
  obtain ⟨rfl, hE, hW⟩ := hv
  have hts : ∀ w ∈ wU, w.before _ s = true := fun w h => atoms_spec (ws := .code yX5_airIn cX5_airIn 2 (some .int) :: wU) BD.pre w (List.mem_cons_of_mem _ h)
  have S : CallFix p m c cX5_airIn 2 s ([.ref (wad w 0 (0)), .int (nI n)] : List Value).toArray wU RX5 := ⟨BD.exec, BD.bytes, hml, findClass_of_methodNamed BD.named, hts⟩
  have hx := S.1
  have hb := S.2.1
  have hown := S.2.2.2.1
  have hr := BD.returns
  have hlocks := BD.notSynchronized
  have hS : va_S (zA z) s.heap s.heap [] := va_S.rf
  have hl := lv_entry ([.ref (wad w 0 (0)), .int (nI n)]) (n := 2) (Nat.le_of_ble_eq_true rfl)
  rw [lg_entry_eq]
  generalize (lg_sl ([.ref (wad w 0 (0)), .int (nI n)]) ++ List.replicate (2 - (lg_sl ([.ref (wad w 0 (0)), .int (nI n)])).length) Slot.unset).toArray = ls at hl ⊢
  have hl : lv_has ls 2 [(0, .ref (wad w 0 (0))), (1, .int (nI n))] := hl
  refine lv_aload_n hx hb dX5_airIn_0 rfl (lv_at hl 0 rfl) ?_
  refine g_get S hE hW.sh (C := RX5) (T := TX5) (N := 8) (v := .ref (wad w 1 (0))) rfl inU5 3 (by decide) tw_63 (Or.inl rfl) rfl dX5_airIn_1 ?_
  refine lv_iload_n hx hb dX5_airIn_4 rfl (lv_at hl 1 rfl) ?_
  refine lv_bipush (v := nI 12) hx hb dX5_airIn_5 (by decide) ?_
  refine g_callS (As := [.int (nI n), .int (nI 12)]) (rest := [.ref (wad w 1 (0))]) S hE hS (c_J9_floorMod_7cf53 l z (n) (by omega)) (va_cwS 2 hts (gU_vS tw_202 tw_203 tw_16 tw_204) rfl rfl rfl (by decide +kernel) ⟨Nat.le_of_ble_eq_true rfl, Nat.le_of_ble_eq_true rfl⟩) trivial rfl hl.1 rfl (Nat.le_of_ble_eq_true rfl) dX5_airIn_7 ⟨Nat.zero_le _, Nat.zero_le _⟩ ?_
  refine g_iald S hE hW.air (vp_in_nI (show (n) % 12 < 12 from (by omega)) (by decide)) dX5_airIn_10 ?_
  rw [show (nI ((n) % 12) : Int32).toNatClampNeg = (n) % 12 from nI_clamp (by omega)]
  exact g_iret S hr hlocks rfl dX5_airIn_11
set_option maxHeartbeats 4000000 in
set_option maxRecDepth 100000 in
/-- movementOf(width, moister) of a board -/
theorem c_movB (l : Launch) (z : ZE) (w : WG) (g gm : GS) (o : Nat → Int64) (hO : OKg g) (i : Nat) (hi : i < nb g) (a b : Int32) : Met l yX4_movementOf (.code yX4_movementOf cX4_movementOf 3 (some .int) :: wU) ({ frames := 1, cells := 0, slots := 0, locals := 20 }) (PE z [.ref (wad w 2 (i)), .int a, .int b] (fun H => WW z w g gm o H)) (rqi (mvd a (g 6 i) b)) 0 0 zF := by
  refine Met.ofW (cc := cX4_movementOf) (maxL := 3) (ret := (some .int)) (by decide) rfl ?_
  intro p e s m args below meth c s₁ BD hml hv
  obtain ⟨rfl, hE, hW⟩ := hv
  have hts : ∀ w ∈ wU, w.before _ s = true := fun w h => atoms_spec (ws := .code yX4_movementOf cX4_movementOf 3 (some .int) :: wU) BD.pre w (List.mem_cons_of_mem _ h)
  have S : CallFix p m c cX4_movementOf 3 s ([.ref (wad w 2 (i)), .int a, .int b] : List Value).toArray wU RX4 := ⟨BD.exec, BD.bytes, hml, findClass_of_methodNamed BD.named, hts⟩
  have hx := S.1
  have hb := S.2.1
  have hown := S.2.2.2.1
  have hr := BD.returns
  have hlocks := BD.notSynchronized
  have hS : va_S (zA z) s.heap s.heap [] := va_S.rf
  have hl := lv_entry ([.ref (wad w 2 (i)), .int a, .int b]) (n := 3) (Nat.le_of_ble_eq_true rfl)
  rw [lg_entry_eq]
  generalize (lg_sl ([.ref (wad w 2 (i)), .int a, .int b]) ++ List.replicate (3 - (lg_sl ([.ref (wad w 2 (i)), .int a, .int b])).length) Slot.unset).toArray = ls at hl ⊢
  have hl : lv_has ls 3 [(0, .ref (wad w 2 (i))), (1, .int a), (2, .int b)] := hl
  have h20 := hO.l5
  have h40 := hO.l16
  obtain ⟨s9, hs9, es9⟩ := hO.sp (i := i) (by omega)
  refine lv_iload_n hx hb dX4_movementOf_0 rfl (lv_at hl 1 rfl) ?_
  refine lv_aload_n hx hb dX4_movementOf_1 rfl (lv_at hl 0 rfl) ?_
  refine g_get S hE (hW.bd (i := i) (by omega)) (C := RX0) (T := TX0) (N := 11) (v := .int (nI s9)) rfl inU0 0 (by decide) tw_314 (Or.inl rfl) (by rw [← es9]; rfl) dX4_movementOf_2 ?_
  refine g_callSN (As := [.int (nI s9)]) (rest := [.int a]) S hE hS (c_X5_movingOf l z (s9) (by omega)) ⟨va_cnB 1 hts (gU_c tw_268) rfl rfl rfl hE.2.2.2.2.2.2.2.1.1 (hts _ tw_1) (by decide +kernel) ⟨Nat.le_of_ble_eq_true rfl, Nat.le_of_ble_eq_true rfl⟩, hts _ tw_267, trivial⟩ trivial rfl hl.1 rfl (Nat.le_of_ble_eq_true rfl) dX4_movementOf_5 ⟨Nat.zero_le _, Nat.zero_le _⟩ ?_
  refine lv_imul hx hb dX4_movementOf_8 ?_
  refine lv_iload_n hx hb dX4_movementOf_9 rfl (lv_at hl 2 rfl) ?_
  refine lv_imul hx hb dX4_movementOf_10 ?_
  refine lv_sipush (v := 10000) hx hb dX4_movementOf_11 (by decide) ?_
  refine lv_idiv hx hb dX4_movementOf_14 (by decide) ?_
  exact g_iret S hr hlocks (by rw [mvd, es9]) dX4_movementOf_15
set_option maxHeartbeats 4000000 in
set_option maxRecDepth 100000 in
/-- widthAt(moisture) -/
theorem c_wAtB (l : Launch) (z : ZE) (w : WG) (g gm : GS) (o : Nat → Int64) (hO : OKg g) (i : Nat) (hi : i < nb g) (a : Int32) : Met l yX4_widthAt (.code yX4_widthAt cX4_widthAt 2 (some .int) :: wU) ({ frames := 2, cells := 0, slots := 0, locals := 42 }) (PE z [.ref (wad w 2 (i)), .int a] (fun H => WW z w g gm o H)) (rqi (g 9 i + mvd (g 9 i) (g 6 i) (a - g 11 i))) 0 0 zF := by
  refine Met.ofW (cc := cX4_widthAt) (maxL := 2) (ret := (some .int)) (by decide) rfl ?_
  intro p e s m args below meth c s₁ BD hml hv
  obtain ⟨rfl, hE, hW⟩ := hv
  have hts : ∀ w ∈ wU, w.before _ s = true := fun w h => atoms_spec (ws := .code yX4_widthAt cX4_widthAt 2 (some .int) :: wU) BD.pre w (List.mem_cons_of_mem _ h)
  have S : CallFix p m c cX4_widthAt 2 s ([.ref (wad w 2 (i)), .int a] : List Value).toArray wU RX4 := ⟨BD.exec, BD.bytes, hml, findClass_of_methodNamed BD.named, hts⟩
  have hx := S.1
  have hb := S.2.1
  have hown := S.2.2.2.1
  have hr := BD.returns
  have hlocks := BD.notSynchronized
  have hS : va_S (zA z) s.heap s.heap [] := va_S.rf
  have hl := lv_entry ([.ref (wad w 2 (i)), .int a]) (n := 2) (Nat.le_of_ble_eq_true rfl)
  rw [lg_entry_eq]
  generalize (lg_sl ([.ref (wad w 2 (i)), .int a]) ++ List.replicate (2 - (lg_sl ([.ref (wad w 2 (i)), .int a])).length) Slot.unset).toArray = ls at hl ⊢
  have hl : lv_has ls 2 [(0, .ref (wad w 2 (i))), (1, .int a)] := hl
  have h20 := hO.l5
  have h40 := hO.l16
  refine lv_aload_n hx hb dX4_widthAt_0 rfl (lv_at hl 0 rfl) ?_
  refine g_get S hE (hW.bd (i := i) (by omega)) (C := RX0) (T := TX0) (N := 11) (v := .int (g 9 i)) rfl inU0 1 (by decide) tw_318 (Or.inl rfl) rfl dX4_widthAt_1 ?_
  refine lv_aload_n hx hb dX4_widthAt_4 rfl (lv_at hl 0 rfl) ?_
  refine lv_aload_n hx hb dX4_widthAt_5 rfl (lv_at hl 0 rfl) ?_
  refine g_get S hE (hW.bd (i := i) (by omega)) (C := RX0) (T := TX0) (N := 11) (v := .int (g 9 i)) rfl inU0 1 (by decide) tw_318 (Or.inl rfl) rfl dX4_widthAt_6 ?_
  refine lv_iload_n hx hb dX4_widthAt_9 rfl (lv_at hl 1 rfl) ?_
  refine lv_aload_n hx hb dX4_widthAt_10 rfl (lv_at hl 0 rfl) ?_
  refine g_get S hE (hW.bd (i := i) (by omega)) (C := RX0) (T := TX0) (N := 11) (v := .int (g 11 i)) rfl inU0 2 (by decide) tw_319 (Or.inl rfl) rfl dX4_widthAt_11 ?_
  refine lv_isub hx hb dX4_widthAt_14 ?_
  refine g_callU (As := [.int (g 9 i), .int (a - (g 11 i))]) (rest := [.int (g 9 i)]) S hE hS (c_movB l z w g gm o hO i hi (g 9 i) (a - (g 11 i))) (va_cwU (y := yX4_movementOf) (x := ⟨"DovetailRow$Wood", "movementOf", "(II)I"⟩) (C := "DovetailRow$Board") (owner := "DovetailRow$Wood") 2 hts (gU_U tw_278 tw_657 tw_658 tw_264 tw_13 tw_265) rfl rfl rfl rfl (by decide +kernel) ⟨Nat.le_of_ble_eq_true rfl, Nat.le_of_ble_eq_true rfl⟩) (hE.recv (hW.bd (i := i) (by omega)) (q := (RX0, TX0, 11)) rfl) hW rfl hl.1 rfl (Nat.le_of_ble_eq_true rfl) dX4_widthAt_15 ⟨Nat.zero_le _, Nat.zero_le _⟩ ?_
  refine lv_iadd hx hb dX4_widthAt_18 ?_
  exact g_iret S hr hlocks rfl dX4_widthAt_19
set_option maxHeartbeats 4000000 in
set_option maxRecDepth 100000 in
/-- widthNow() -/
theorem c_wNowB (l : Launch) (z : ZE) (w : WG) (g gm : GS) (o : Nat → Int64) (hO : OKg g) (i : Nat) (hi : i < nb g) : Met l yX4_widthNow (.code yX4_widthNow cX4_widthNow 1 (some .int) :: wU) ({ frames := 3, cells := 0, slots := 0, locals := 63 }) (PE z [.ref (wad w 2 (i))] (fun H => WW z w g gm o H)) (rqi (bWd g i)) 0 0 zF := by
  refine Met.ofW (cc := cX4_widthNow) (maxL := 1) (ret := (some .int)) (by decide) rfl ?_
  intro p e s m args below meth c s₁ BD hml hv
  obtain ⟨rfl, hE, hW⟩ := hv
  have hts : ∀ w ∈ wU, w.before _ s = true := fun w h => atoms_spec (ws := .code yX4_widthNow cX4_widthNow 1 (some .int) :: wU) BD.pre w (List.mem_cons_of_mem _ h)
  have S : CallFix p m c cX4_widthNow 1 s ([.ref (wad w 2 (i))] : List Value).toArray wU RX4 := ⟨BD.exec, BD.bytes, hml, findClass_of_methodNamed BD.named, hts⟩
  have hx := S.1
  have hb := S.2.1
  have hown := S.2.2.2.1
  have hr := BD.returns
  have hlocks := BD.notSynchronized
  have hS : va_S (zA z) s.heap s.heap [] := va_S.rf
  have hl := lv_entry ([.ref (wad w 2 (i))]) (n := 1) (Nat.le_of_ble_eq_true rfl)
  rw [lg_entry_eq]
  generalize (lg_sl ([.ref (wad w 2 (i))]) ++ List.replicate (1 - (lg_sl ([.ref (wad w 2 (i))])).length) Slot.unset).toArray = ls at hl ⊢
  have hl : lv_has ls 1 [(0, .ref (wad w 2 (i)))] := hl
  have h20 := hO.l5
  have h40 := hO.l16
  refine lv_aload_n hx hb dX4_widthNow_0 rfl (lv_at hl 0 rfl) ?_
  refine lv_aload_n hx hb dX4_widthNow_1 rfl (lv_at hl 0 rfl) ?_
  refine g_get S hE (hW.bd (i := i) (by omega)) (C := RX0) (T := TX0) (N := 11) (v := .int (g 12 i)) rfl inU0 3 (by decide) tw_322 (Or.inl rfl) rfl dX4_widthNow_2 ?_
  refine g_callU (As := [.int (g 12 i)]) (rest := []) S hE hS (c_wAtB l z w g gm o hO i hi (g 12 i)) (va_cwU (y := yX4_widthAt) (x := ⟨"DovetailRow$Wood", "widthAt", "(I)I"⟩) (C := "DovetailRow$Board") (owner := "DovetailRow$Wood") 1 hts (gU_U tw_438 tw_660 tw_661 tw_276 tw_13 tw_277) rfl rfl rfl rfl (by decide +kernel) ⟨Nat.le_of_ble_eq_true rfl, Nat.le_of_ble_eq_true rfl⟩) (hE.recv (hW.bd (i := i) (by omega)) (q := (RX0, TX0, 11)) rfl) hW rfl hl.1 rfl (Nat.le_of_ble_eq_true rfl) dX4_widthNow_5 ⟨Nat.zero_le _, Nat.zero_le _⟩ ?_
  exact g_iret S hr hlocks rfl dX4_widthNow_8
set_option maxHeartbeats 4000000 in
set_option maxRecDepth 100000 in
/-- moistureAfter(before, air) -/
theorem c_mAfB (l : Launch) (z : ZE) (w : WG) (g gm : GS) (o : Nat → Int64) (hO : OKg g) (i : Nat) (hi : i < nb g) (a b : Int32) : Met l yX4_moistureAfter (.code yX4_moistureAfter cX4_moistureAfter 6 (some .int) :: wU) ({ frames := 1, cells := 0, slots := 0, locals := 20 }) (PE z [.ref (wad w 2 (i)), .int a, .int b] (fun H => WW z w g gm o H)) (rqi (beh b a (0))) 0 0 zF := by
  refine Met.ofW (cc := cX4_moistureAfter) (maxL := 6) (ret := (some .int)) (by decide) rfl ?_
  intro p e s m args below meth c s₁ BD hml hv
  obtain ⟨rfl, hE, hW⟩ := hv
  have hts : ∀ w ∈ wU, w.before _ s = true := fun w h => atoms_spec (ws := .code yX4_moistureAfter cX4_moistureAfter 6 (some .int) :: wU) BD.pre w (List.mem_cons_of_mem _ h)
  have S : CallFix p m c cX4_moistureAfter 6 s ([.ref (wad w 2 (i)), .int a, .int b] : List Value).toArray wU RX4 := ⟨BD.exec, BD.bytes, hml, findClass_of_methodNamed BD.named, hts⟩
  have hx := S.1
  have hb := S.2.1
  have hown := S.2.2.2.1
  have hr := BD.returns
  have hlocks := BD.notSynchronized
  have hS : va_S (zA z) s.heap s.heap [] := va_S.rf
  have hl := lv_entry ([.ref (wad w 2 (i)), .int a, .int b]) (n := 6) (Nat.le_of_ble_eq_true rfl)
  rw [lg_entry_eq]
  generalize (lg_sl ([.ref (wad w 2 (i)), .int a, .int b]) ++ List.replicate (6 - (lg_sl ([.ref (wad w 2 (i)), .int a, .int b])).length) Slot.unset).toArray = ls at hl ⊢
  have hl : lv_has ls 6 [(0, .ref (wad w 2 (i))), (1, .int a), (2, .int b)] := hl
  have h20 := hO.l5
  have h40 := hO.l16
  refine lv_iload_n hx hb dX4_moistureAfter_0 rfl (lv_at hl 2 rfl) ?_
  refine lv_iload_n hx hb dX4_moistureAfter_1 rfl (lv_at hl 1 rfl) ?_
  refine lv_isub hx hb dX4_moistureAfter_2 ?_
  refine lv_istore_n (lv' := [(3, .int (b - a)), (0, .ref (wad w 2 (i))), (1, .int a), (2, .int b)]) hx hb dX4_moistureAfter_3 rfl hl (by decide) rfl (fun ls hl => ?_)
  refine lv_iconst (v := 4) hx hb dX4_moistureAfter_4 (by decide) ?_
  refine lv_aload_n hx hb dX4_moistureAfter_5 rfl (lv_at hl 1 rfl) ?_
  refine g_get S hE (hW.bd (i := i) (by omega)) (C := RX0) (T := TX0) (N := 11) (v := .int 0) rfl inU0 4 (by decide) tw_327 (Or.inl rfl) rfl dX4_moistureAfter_6 ?_
  refine lv_iadd hx hb dX4_moistureAfter_9 ?_
  refine lv_istore (lv' := [(4, .int (4 + 0)), (3, .int (b - a)), (0, .ref (wad w 2 (i))), (1, .int a), (2, .int b)]) hx hb dX4_moistureAfter_10 hl (by decide) rfl (fun ls hl => ?_)
  refine lv_iload hx hb dX4_moistureAfter_12 (lv_at hl 0 rfl) ?_
  refine lv_if_le (tgt := 24) hx hb dX4_moistureAfter_14 (by decide) (fun h9 => absurd h9 (by decide)) (fun c_14 => ?_)
  refine lv_iload_n hx hb dX4_moistureAfter_17 rfl (lv_at hl 1 rfl) ?_
  refine lv_iload hx hb dX4_moistureAfter_18 (lv_at hl 0 rfl) ?_
  refine lv_idiv hx hb dX4_moistureAfter_20 (by decide) ?_
  refine lv_goto (tgt := 25) hx hb dX4_moistureAfter_21 (by decide) ?_
  refine lv_istore (lv' := [(5, .int ((b - a) / (4 + 0))), (4, .int (4 + 0)), (3, .int (b - a)), (0, .ref (wad w 2 (i))), (1, .int a), (2, .int b)]) hx hb dX4_moistureAfter_25 hl (by decide) rfl (fun ls hl => ?_)
  refine lv_iload_n hx hb dX4_moistureAfter_27 rfl (lv_at hl 4 rfl) ?_
  refine lv_iload hx hb dX4_moistureAfter_28 (lv_at hl 0 rfl) ?_
  refine lv_if_eq (tgt := 38) hx hb dX4_moistureAfter_30 (by decide) (fun c_30_1 => ?_) (fun c_30_1 => ?_)
  · refine lv_iload_n hx hb dX4_moistureAfter_38 rfl (lv_at hl 2 rfl) ?_
    refine g_callS (As := [.int (b - a)]) (rest := [.int a]) S hE hS (c_J6_signum_0f7a4 l z (b - a)) (va_cwS 1 hts (gU_vS tw_240 tw_241 tw_22 tw_242) rfl rfl rfl (by decide +kernel) ⟨Nat.le_of_ble_eq_true rfl, Nat.le_of_ble_eq_true rfl⟩) trivial rfl hl.1 rfl (Nat.le_of_ble_eq_true rfl) dX4_moistureAfter_39 ⟨Nat.zero_le _, Nat.zero_le _⟩ ?_
    refine lv_iadd hx hb dX4_moistureAfter_42 ?_
    exact g_iret S hr hlocks (by unfold beh stp; first | (rw [if_pos c_30_1]; rfl) | rw [if_neg c_30_1]) dX4_moistureAfter_43
  · refine lv_iload hx hb dX4_moistureAfter_33 (lv_at hl 0 rfl) ?_
    refine lv_goto (tgt := 42) hx hb dX4_moistureAfter_35 (by decide) ?_
    refine lv_iadd hx hb dX4_moistureAfter_42 ?_
    exact g_iret S hr hlocks (by unfold beh stp; first | (rw [if_pos c_30_1]; rfl) | rw [if_neg c_30_1]) dX4_moistureAfter_43
set_option maxHeartbeats 4000000 in
set_option maxRecDepth 100000 in
/-- movementOf(width, moister) of a part -/
theorem c_movP (l : Launch) (z : ZE) (w : WG) (g gm : GS) (o : Nat → Int64) (hO : OKg g) (i : Nat) (hi : i < np g) (a b : Int32) : Met l yX4_movementOf (.code yX4_movementOf cX4_movementOf 3 (some .int) :: wU) ({ frames := 1, cells := 0, slots := 0, locals := 20 }) (PE z [.ref (wad w 3 (i)), .int a, .int b] (fun H => WW z w g gm o H)) (rqi (mvd a (g 6 (pb g i)) b)) 0 0 zF := by
  refine Met.ofW (cc := cX4_movementOf) (maxL := 3) (ret := (some .int)) (by decide) rfl ?_
  intro p e s m args below meth c s₁ BD hml hv
  obtain ⟨rfl, hE, hW⟩ := hv
  have hts : ∀ w ∈ wU, w.before _ s = true := fun w h => atoms_spec (ws := .code yX4_movementOf cX4_movementOf 3 (some .int) :: wU) BD.pre w (List.mem_cons_of_mem _ h)
  have S : CallFix p m c cX4_movementOf 3 s ([.ref (wad w 3 (i)), .int a, .int b] : List Value).toArray wU RX4 := ⟨BD.exec, BD.bytes, hml, findClass_of_methodNamed BD.named, hts⟩
  have hx := S.1
  have hb := S.2.1
  have hown := S.2.2.2.1
  have hr := BD.returns
  have hlocks := BD.notSynchronized
  have hS : va_S (zA z) s.heap s.heap [] := va_S.rf
  have hl := lv_entry ([.ref (wad w 3 (i)), .int a, .int b]) (n := 3) (Nat.le_of_ble_eq_true rfl)
  rw [lg_entry_eq]
  generalize (lg_sl ([.ref (wad w 3 (i)), .int a, .int b]) ++ List.replicate (3 - (lg_sl ([.ref (wad w 3 (i)), .int a, .int b])).length) Slot.unset).toArray = ls at hl ⊢
  have hl : lv_has ls 3 [(0, .ref (wad w 3 (i))), (1, .int a), (2, .int b)] := hl
  have h20 := hO.l5
  have h40 := hO.l16
  have hpb := hO.l17 hi
  obtain ⟨s9, hs9, es9⟩ := hO.sp (i := pb g i) (by omega)
  refine lv_iload_n hx hb dX4_movementOf_0 rfl (lv_at hl 1 rfl) ?_
  refine lv_aload_n hx hb dX4_movementOf_1 rfl (lv_at hl 0 rfl) ?_
  refine g_get S hE (hW.pt (i := i) (by omega)) (C := RX2) (T := TX2) (N := 9) (v := .int (nI s9)) rfl inU2 0 (by decide) tw_314 (Or.inl rfl) (by rw [← es9]; rfl) dX4_movementOf_2 ?_
  refine g_callSN (As := [.int (nI s9)]) (rest := [.int a]) S hE hS (c_X5_movingOf l z (s9) (by omega)) ⟨va_cnB 1 hts (gU_c tw_268) rfl rfl rfl hE.2.2.2.2.2.2.2.1.1 (hts _ tw_1) (by decide +kernel) ⟨Nat.le_of_ble_eq_true rfl, Nat.le_of_ble_eq_true rfl⟩, hts _ tw_267, trivial⟩ trivial rfl hl.1 rfl (Nat.le_of_ble_eq_true rfl) dX4_movementOf_5 ⟨Nat.zero_le _, Nat.zero_le _⟩ ?_
  refine lv_imul hx hb dX4_movementOf_8 ?_
  refine lv_iload_n hx hb dX4_movementOf_9 rfl (lv_at hl 2 rfl) ?_
  refine lv_imul hx hb dX4_movementOf_10 ?_
  refine lv_sipush (v := 10000) hx hb dX4_movementOf_11 (by decide) ?_
  refine lv_idiv hx hb dX4_movementOf_14 (by decide) ?_
  exact g_iret S hr hlocks (by rw [mvd, es9]) dX4_movementOf_15
set_option maxHeartbeats 4000000 in
set_option maxRecDepth 100000 in
/-- widthAt(moisture) -/
theorem c_wAtP (l : Launch) (z : ZE) (w : WG) (g gm : GS) (o : Nat → Int64) (hO : OKg g) (i : Nat) (hi : i < np g) (a : Int32) : Met l yX4_widthAt (.code yX4_widthAt cX4_widthAt 2 (some .int) :: wU) ({ frames := 2, cells := 0, slots := 0, locals := 42 }) (PE z [.ref (wad w 3 (i)), .int a] (fun H => WW z w g gm o H)) (rqi (g 20 i + mvd (g 20 i) (g 6 (pb g i)) (a - g 21 i))) 0 0 zF := by
  refine Met.ofW (cc := cX4_widthAt) (maxL := 2) (ret := (some .int)) (by decide) rfl ?_
  intro p e s m args below meth c s₁ BD hml hv
  obtain ⟨rfl, hE, hW⟩ := hv
  have hts : ∀ w ∈ wU, w.before _ s = true := fun w h => atoms_spec (ws := .code yX4_widthAt cX4_widthAt 2 (some .int) :: wU) BD.pre w (List.mem_cons_of_mem _ h)
  have S : CallFix p m c cX4_widthAt 2 s ([.ref (wad w 3 (i)), .int a] : List Value).toArray wU RX4 := ⟨BD.exec, BD.bytes, hml, findClass_of_methodNamed BD.named, hts⟩
  have hx := S.1
  have hb := S.2.1
  have hown := S.2.2.2.1
  have hr := BD.returns
  have hlocks := BD.notSynchronized
  have hS : va_S (zA z) s.heap s.heap [] := va_S.rf
  have hl := lv_entry ([.ref (wad w 3 (i)), .int a]) (n := 2) (Nat.le_of_ble_eq_true rfl)
  rw [lg_entry_eq]
  generalize (lg_sl ([.ref (wad w 3 (i)), .int a]) ++ List.replicate (2 - (lg_sl ([.ref (wad w 3 (i)), .int a])).length) Slot.unset).toArray = ls at hl ⊢
  have hl : lv_has ls 2 [(0, .ref (wad w 3 (i))), (1, .int a)] := hl
  have h20 := hO.l5
  have h40 := hO.l16
  refine lv_aload_n hx hb dX4_widthAt_0 rfl (lv_at hl 0 rfl) ?_
  refine g_get S hE (hW.pt (i := i) (by omega)) (C := RX2) (T := TX2) (N := 9) (v := .int (g 20 i)) rfl inU2 1 (by decide) tw_318 (Or.inl rfl) rfl dX4_widthAt_1 ?_
  refine lv_aload_n hx hb dX4_widthAt_4 rfl (lv_at hl 0 rfl) ?_
  refine lv_aload_n hx hb dX4_widthAt_5 rfl (lv_at hl 0 rfl) ?_
  refine g_get S hE (hW.pt (i := i) (by omega)) (C := RX2) (T := TX2) (N := 9) (v := .int (g 20 i)) rfl inU2 1 (by decide) tw_318 (Or.inl rfl) rfl dX4_widthAt_6 ?_
  refine lv_iload_n hx hb dX4_widthAt_9 rfl (lv_at hl 1 rfl) ?_
  refine lv_aload_n hx hb dX4_widthAt_10 rfl (lv_at hl 0 rfl) ?_
  refine g_get S hE (hW.pt (i := i) (by omega)) (C := RX2) (T := TX2) (N := 9) (v := .int (g 21 i)) rfl inU2 2 (by decide) tw_319 (Or.inl rfl) rfl dX4_widthAt_11 ?_
  refine lv_isub hx hb dX4_widthAt_14 ?_
  refine g_callU (As := [.int (g 20 i), .int (a - (g 21 i))]) (rest := [.int (g 20 i)]) S hE hS (c_movP l z w g gm o hO i hi (g 20 i) (a - (g 21 i))) (va_cwU (y := yX4_movementOf) (x := ⟨"DovetailRow$Wood", "movementOf", "(II)I"⟩) (C := "DovetailRow$Part") (owner := "DovetailRow$Wood") 2 hts (gU_U tw_278 tw_657 tw_659 tw_264 tw_13 tw_265) rfl rfl rfl rfl (by decide +kernel) ⟨Nat.le_of_ble_eq_true rfl, Nat.le_of_ble_eq_true rfl⟩) (hE.recv (hW.pt (i := i) (by omega)) (q := (RX2, TX2, 9)) rfl) hW rfl hl.1 rfl (Nat.le_of_ble_eq_true rfl) dX4_widthAt_15 ⟨Nat.zero_le _, Nat.zero_le _⟩ ?_
  refine lv_iadd hx hb dX4_widthAt_18 ?_
  exact g_iret S hr hlocks rfl dX4_widthAt_19
set_option maxHeartbeats 4000000 in
set_option maxRecDepth 100000 in
/-- widthNow() -/
theorem c_wNowP (l : Launch) (z : ZE) (w : WG) (g gm : GS) (o : Nat → Int64) (hO : OKg g) (i : Nat) (hi : i < np g) : Met l yX4_widthNow (.code yX4_widthNow cX4_widthNow 1 (some .int) :: wU) ({ frames := 3, cells := 0, slots := 0, locals := 63 }) (PE z [.ref (wad w 3 (i))] (fun H => WW z w g gm o H)) (rqi (wAt g i (g 22 i))) 0 0 zF := by
  refine Met.ofW (cc := cX4_widthNow) (maxL := 1) (ret := (some .int)) (by decide) rfl ?_
  intro p e s m args below meth c s₁ BD hml hv
  obtain ⟨rfl, hE, hW⟩ := hv
  have hts : ∀ w ∈ wU, w.before _ s = true := fun w h => atoms_spec (ws := .code yX4_widthNow cX4_widthNow 1 (some .int) :: wU) BD.pre w (List.mem_cons_of_mem _ h)
  have S : CallFix p m c cX4_widthNow 1 s ([.ref (wad w 3 (i))] : List Value).toArray wU RX4 := ⟨BD.exec, BD.bytes, hml, findClass_of_methodNamed BD.named, hts⟩
  have hx := S.1
  have hb := S.2.1
  have hown := S.2.2.2.1
  have hr := BD.returns
  have hlocks := BD.notSynchronized
  have hS : va_S (zA z) s.heap s.heap [] := va_S.rf
  have hl := lv_entry ([.ref (wad w 3 (i))]) (n := 1) (Nat.le_of_ble_eq_true rfl)
  rw [lg_entry_eq]
  generalize (lg_sl ([.ref (wad w 3 (i))]) ++ List.replicate (1 - (lg_sl ([.ref (wad w 3 (i))])).length) Slot.unset).toArray = ls at hl ⊢
  have hl : lv_has ls 1 [(0, .ref (wad w 3 (i)))] := hl
  have h20 := hO.l5
  have h40 := hO.l16
  refine lv_aload_n hx hb dX4_widthNow_0 rfl (lv_at hl 0 rfl) ?_
  refine lv_aload_n hx hb dX4_widthNow_1 rfl (lv_at hl 0 rfl) ?_
  refine g_get S hE (hW.pt (i := i) (by omega)) (C := RX2) (T := TX2) (N := 9) (v := .int (g 22 i)) rfl inU2 3 (by decide) tw_322 (Or.inl rfl) rfl dX4_widthNow_2 ?_
  refine g_callU (As := [.int (g 22 i)]) (rest := []) S hE hS (c_wAtP l z w g gm o hO i hi (g 22 i)) (va_cwU (y := yX4_widthAt) (x := ⟨"DovetailRow$Wood", "widthAt", "(I)I"⟩) (C := "DovetailRow$Part") (owner := "DovetailRow$Wood") 1 hts (gU_U tw_438 tw_660 tw_662 tw_276 tw_13 tw_277) rfl rfl rfl rfl (by decide +kernel) ⟨Nat.le_of_ble_eq_true rfl, Nat.le_of_ble_eq_true rfl⟩) (hE.recv (hW.pt (i := i) (by omega)) (q := (RX2, TX2, 9)) rfl) hW rfl hl.1 rfl (Nat.le_of_ble_eq_true rfl) dX4_widthNow_5 ⟨Nat.zero_le _, Nat.zero_le _⟩ ?_
  exact g_iret S hr hlocks rfl dX4_widthNow_8
set_option maxHeartbeats 4000000 in
set_option maxRecDepth 100000 in
/-- moistureAfter(before, air) -/
theorem c_mAfP (l : Launch) (z : ZE) (w : WG) (g gm : GS) (o : Nat → Int64) (hO : OKg g) (i : Nat) (hi : i < np g) (a b : Int32) : Met l yX4_moistureAfter (.code yX4_moistureAfter cX4_moistureAfter 6 (some .int) :: wU) ({ frames := 1, cells := 0, slots := 0, locals := 20 }) (PE z [.ref (wad w 3 (i)), .int a, .int b] (fun H => WW z w g gm o H)) (rqi (beh b a (g 23 i))) 0 0 zF := by
  refine Met.ofW (cc := cX4_moistureAfter) (maxL := 6) (ret := (some .int)) (by decide) rfl ?_
  intro p e s m args below meth c s₁ BD hml hv
  obtain ⟨rfl, hE, hW⟩ := hv
  have hts : ∀ w ∈ wU, w.before _ s = true := fun w h => atoms_spec (ws := .code yX4_moistureAfter cX4_moistureAfter 6 (some .int) :: wU) BD.pre w (List.mem_cons_of_mem _ h)
  have S : CallFix p m c cX4_moistureAfter 6 s ([.ref (wad w 3 (i)), .int a, .int b] : List Value).toArray wU RX4 := ⟨BD.exec, BD.bytes, hml, findClass_of_methodNamed BD.named, hts⟩
  have hx := S.1
  have hb := S.2.1
  have hown := S.2.2.2.1
  have hr := BD.returns
  have hlocks := BD.notSynchronized
  have hS : va_S (zA z) s.heap s.heap [] := va_S.rf
  have hl := lv_entry ([.ref (wad w 3 (i)), .int a, .int b]) (n := 6) (Nat.le_of_ble_eq_true rfl)
  rw [lg_entry_eq]
  generalize (lg_sl ([.ref (wad w 3 (i)), .int a, .int b]) ++ List.replicate (6 - (lg_sl ([.ref (wad w 3 (i)), .int a, .int b])).length) Slot.unset).toArray = ls at hl ⊢
  have hl : lv_has ls 6 [(0, .ref (wad w 3 (i))), (1, .int a), (2, .int b)] := hl
  have h20 := hO.l5
  have h40 := hO.l16
  obtain ⟨c9, hc9, ec9⟩ := hO.cts hi
  refine lv_iload_n hx hb dX4_moistureAfter_0 rfl (lv_at hl 2 rfl) ?_
  refine lv_iload_n hx hb dX4_moistureAfter_1 rfl (lv_at hl 1 rfl) ?_
  refine lv_isub hx hb dX4_moistureAfter_2 ?_
  refine lv_istore_n (lv' := [(3, .int (b - a)), (0, .ref (wad w 3 (i))), (1, .int a), (2, .int b)]) hx hb dX4_moistureAfter_3 rfl hl (by decide) rfl (fun ls hl => ?_)
  refine lv_iconst (v := 4) hx hb dX4_moistureAfter_4 (by decide) ?_
  refine lv_aload_n hx hb dX4_moistureAfter_5 rfl (lv_at hl 1 rfl) ?_
  refine g_get S hE (hW.pt (i := i) (by omega)) (C := RX2) (T := TX2) (N := 9) (v := .int (g 23 i)) rfl inU2 4 (by decide) tw_327 (Or.inl rfl) rfl dX4_moistureAfter_6 ?_
  refine lv_iadd hx hb dX4_moistureAfter_9 ?_
  refine lv_istore (lv' := [(4, .int (4 + (g 23 i))), (3, .int (b - a)), (0, .ref (wad w 3 (i))), (1, .int a), (2, .int b)]) hx hb dX4_moistureAfter_10 hl (by decide) rfl (fun ls hl => ?_)
  refine lv_iload hx hb dX4_moistureAfter_12 (lv_at hl 0 rfl) ?_
  refine lv_if_le (tgt := 24) hx hb dX4_moistureAfter_14 (by decide) (fun h9 => absurd h9 (by rw [ec9]; exact co_nle hc9)) (fun c_14 => ?_)
  refine lv_iload_n hx hb dX4_moistureAfter_17 rfl (lv_at hl 1 rfl) ?_
  refine lv_iload hx hb dX4_moistureAfter_18 (lv_at hl 0 rfl) ?_
  refine lv_idiv hx hb dX4_moistureAfter_20 (by rw [ec9]; exact co_ne hc9) ?_
  refine lv_goto (tgt := 25) hx hb dX4_moistureAfter_21 (by decide) ?_
  refine lv_istore (lv' := [(5, .int ((b - a) / (4 + (g 23 i)))), (4, .int (4 + (g 23 i))), (3, .int (b - a)), (0, .ref (wad w 3 (i))), (1, .int a), (2, .int b)]) hx hb dX4_moistureAfter_25 hl (by decide) rfl (fun ls hl => ?_)
  refine lv_iload_n hx hb dX4_moistureAfter_27 rfl (lv_at hl 4 rfl) ?_
  refine lv_iload hx hb dX4_moistureAfter_28 (lv_at hl 0 rfl) ?_
  refine lv_if_eq (tgt := 38) hx hb dX4_moistureAfter_30 (by decide) (fun c_30_1 => ?_) (fun c_30_1 => ?_)
  · refine lv_iload_n hx hb dX4_moistureAfter_38 rfl (lv_at hl 2 rfl) ?_
    refine g_callS (As := [.int (b - a)]) (rest := [.int a]) S hE hS (c_J6_signum_0f7a4 l z (b - a)) (va_cwS 1 hts (gU_vS tw_240 tw_241 tw_22 tw_242) rfl rfl rfl (by decide +kernel) ⟨Nat.le_of_ble_eq_true rfl, Nat.le_of_ble_eq_true rfl⟩) trivial rfl hl.1 rfl (Nat.le_of_ble_eq_true rfl) dX4_moistureAfter_39 ⟨Nat.zero_le _, Nat.zero_le _⟩ ?_
    refine lv_iadd hx hb dX4_moistureAfter_42 ?_
    exact g_iret S hr hlocks (by unfold beh stp; first | (rw [if_pos c_30_1]; rfl) | rw [if_neg c_30_1]) dX4_moistureAfter_43
  · refine lv_iload hx hb dX4_moistureAfter_33 (lv_at hl 0 rfl) ?_
    refine lv_goto (tgt := 42) hx hb dX4_moistureAfter_35 (by decide) ?_
    refine lv_iadd hx hb dX4_moistureAfter_42 ?_
    exact g_iret S hr hlocks (by unfold beh stp; first | (rw [if_pos c_30_1]; rfl) | rw [if_neg c_30_1]) dX4_moistureAfter_43
set_option maxHeartbeats 4000000 in
set_option maxRecDepth 100000 in
/-- isHeld() -/
theorem c_X1_isHeld (l : Launch) (z : ZE) (w : WG) (g gm : GS) (o : Nat → Int64) (hO : OKg g) (j : Nat) (hj : j < nj g) : Met l yX1_isHeld (.code yX1_isHeld cX1_isHeld 1 (some .boolean) :: wU) ({ frames := 0, cells := 0, slots := 0, locals := 0 }) (PE z [.ref (wad w 4 (j))] (fun H => WW z w g gm o H)) (rqi (bI (hld g j))) 0 0 zF := by
  refine Met.ofW (cc := cX1_isHeld) (maxL := 1) (ret := (some .boolean)) (by decide) rfl ?_
  intro p e s m args below meth c s₁ BD hml hv
  obtain ⟨rfl, hE, hW⟩ := hv
  have hts : ∀ w ∈ wU, w.before _ s = true := fun w h => atoms_spec (ws := .code yX1_isHeld cX1_isHeld 1 (some .boolean) :: wU) BD.pre w (List.mem_cons_of_mem _ h)
  have S : CallFix p m c cX1_isHeld 1 s ([.ref (wad w 4 (j))] : List Value).toArray wU RX1 := ⟨BD.exec, BD.bytes, hml, findClass_of_methodNamed BD.named, hts⟩
  have hx := S.1
  have hb := S.2.1
  have hown := S.2.2.2.1
  have hr := BD.returns
  have hlocks := BD.notSynchronized
  have hS : va_S (zA z) s.heap s.heap [] := va_S.rf
  have hl := lv_entry ([.ref (wad w 4 (j))]) (n := 1) (Nat.le_of_ble_eq_true rfl)
  rw [lg_entry_eq]
  generalize (lg_sl ([.ref (wad w 4 (j))]) ++ List.replicate (1 - (lg_sl ([.ref (wad w 4 (j))])).length) Slot.unset).toArray = ls at hl ⊢
  have hl : lv_has ls 1 [(0, .ref (wad w 4 (j)))] := hl
  have h30 := hO.l24
  refine lv_aload_n hx hb dX1_isHeld_0 rfl (lv_at hl 0 rfl) ?_
  refine g_get S hE (hW.jt (i := j) (by omega)) (C := RX1) (T := TX1) (N := 9) (v := .int (g 31 j)) rfl inU1 6 (by decide) tw_535 (Or.inl rfl) rfl dX1_isHeld_1 ?_
  refine lv_if_eq (tgt := 18) hx hb dX1_isHeld_4 (by decide) (fun c_4 => ?_) (fun c_4 => ?_)
  · refine lv_iconst (v := 0) hx hb dX1_isHeld_18 (by decide) ?_
    exact g_zret S hr hlocks (by simp [hld, bI, c_4]) ⟨_, rfl⟩ dX1_isHeld_19
  · refine lv_aload_n hx hb dX1_isHeld_7 rfl (lv_at hl 0 rfl) ?_
    refine g_get S hE (hW.jt (i := j) (by omega)) (C := RX1) (T := TX1) (N := 9) (v := .int (g 32 j)) rfl inU1 7 (by decide) tw_537 (Or.inl rfl) rfl dX1_isHeld_8 ?_
    refine lv_if_ne (tgt := 18) hx hb dX1_isHeld_11 (by decide) (fun c_11_1 => ?_) (fun c_11_1 => ?_)
    · refine lv_iconst (v := 0) hx hb dX1_isHeld_18 (by decide) ?_
      exact g_zret S hr hlocks (by simp [hld, bI, c_4, c_11_1]) ⟨_, rfl⟩ dX1_isHeld_19
    · refine lv_iconst (v := 1) hx hb dX1_isHeld_14 (by decide) ?_
      refine lv_goto (tgt := 19) hx hb dX1_isHeld_15 (by decide) ?_
      exact g_zret S hr hlocks (by simp [hld, bI, c_4, c_11_1]) ⟨_, rfl⟩ dX1_isHeld_19
set_option maxHeartbeats 4000000 in
set_option maxRecDepth 100000 in
/-- breaksAt(moisture) -/
theorem c_X1_breaksAt (l : Launch) (z : ZE) (w : WG) (g gm : GS) (o : Nat → Int64) (hO : OKg g) (j : Nat) (hj : j < nj g) (a : Int32) : Met l yX1_breaksAt (.code yX1_breaksAt cX1_breaksAt 2 (some .boolean) :: wU) ({ frames := 3, cells := 0, slots := 0, locals := 63 }) (PE z [.ref (wad w 4 (j)), .int a] (fun H => WW z w g gm o H)) (rqi (bI (wbr g j a))) 0 0 zF := by
  refine Met.ofW (cc := cX1_breaksAt) (maxL := 2) (ret := (some .boolean)) (by decide) rfl ?_
  intro p e s m args below meth c s₁ BD hml hv
  obtain ⟨rfl, hE, hW⟩ := hv
  have hts : ∀ w ∈ wU, w.before _ s = true := fun w h => atoms_spec (ws := .code yX1_breaksAt cX1_breaksAt 2 (some .boolean) :: wU) BD.pre w (List.mem_cons_of_mem _ h)
  have S : CallFix p m c cX1_breaksAt 2 s ([.ref (wad w 4 (j)), .int a] : List Value).toArray wU RX1 := ⟨BD.exec, BD.bytes, hml, findClass_of_methodNamed BD.named, hts⟩
  have hx := S.1
  have hb := S.2.1
  have hown := S.2.2.2.1
  have hr := BD.returns
  have hlocks := BD.notSynchronized
  have hS : va_S (zA z) s.heap s.heap [] := va_S.rf
  have hl := lv_entry ([.ref (wad w 4 (j)), .int a]) (n := 2) (Nat.le_of_ble_eq_true rfl)
  rw [lg_entry_eq]
  generalize (lg_sl ([.ref (wad w 4 (j)), .int a]) ++ List.replicate (2 - (lg_sl ([.ref (wad w 4 (j)), .int a])).length) Slot.unset).toArray = ls at hl ⊢
  have hl : lv_has ls 2 [(0, .ref (wad w 4 (j))), (1, .int a)] := hl
  have h40 := hO.l16
  have h30 := hO.l24
  have hjp := hO.l26 hj
  obtain ⟨k9, hk9, ek9⟩ := hO.kd hj
  rcases (show k9 = 0 ∨ k9 = 1 ∨ k9 = 2 by omega) with rfl | rfl | rfl
  · refine lv_aload_n hx hb dX1_breaksAt_0 rfl (lv_at hl 0 rfl) ?_
    refine g_get S hE (hW.jt (i := j) (by omega)) (C := RX1) (T := TX1) (N := 9) (v := .int 0) rfl inU1 0 (by decide) tw_523 (Or.inl rfl) (by rw [show g 25 j = 0 from ek9]; rfl) dX1_breaksAt_1 ?_
    refine lv_lookup (off := 86) (tgt := 90) hx hb dX1_breaksAt_4 (by decide) (by decide) (by decide) ?_
    refine lv_iconst (v := 0) hx hb dX1_breaksAt_90 (by decide) ?_
    exact g_zret S hr hlocks (brk_0 ek9) ⟨_, rfl⟩ dX1_breaksAt_91
  · refine lv_aload_n hx hb dX1_breaksAt_0 rfl (lv_at hl 0 rfl) ?_
    refine g_get S hE (hW.jt (i := j) (by omega)) (C := RX1) (T := TX1) (N := 9) (v := .int 1) rfl inU1 0 (by decide) tw_523 (Or.inl rfl) (by rw [show g 25 j = 1 from ek9]; rfl) dX1_breaksAt_1 ?_
    refine lv_lookup (off := 28) (tgt := 32) hx hb dX1_breaksAt_4 (by decide) (by decide) (by decide) ?_
    refine lv_aload_n hx hb dX1_breaksAt_32 rfl (lv_at hl 0 rfl) ?_
    refine g_get S hE (hW.jt (i := j) (by omega)) (C := RX1) (T := TX1) (N := 9) (v := .ref (wad w 3 (jp g j))) rfl inU1 1 (by decide) tw_525 (Or.inl rfl) rfl dX1_breaksAt_33 ?_
    refine lv_aload_n hx hb dX1_breaksAt_36 rfl (lv_at hl 0 rfl) ?_
    refine g_get S hE (hW.jt (i := j) (by omega)) (C := RX1) (T := TX1) (N := 9) (v := .int (g 28 j)) rfl inU1 4 (by decide) tw_531 (Or.inl rfl) rfl dX1_breaksAt_37 ?_
    refine lv_iload_n hx hb dX1_breaksAt_40 rfl (lv_at hl 1 rfl) ?_
    refine lv_aload_n hx hb dX1_breaksAt_41 rfl (lv_at hl 0 rfl) ?_
    refine g_get S hE (hW.jt (i := j) (by omega)) (C := RX1) (T := TX1) (N := 9) (v := .int (g 33 j)) rfl inU1 8 (by decide) tw_539 (Or.inl rfl) rfl dX1_breaksAt_42 ?_
    refine lv_isub hx hb dX1_breaksAt_45 ?_
    refine g_callU (As := [.int (g 28 j), .int (a - (g 33 j))]) (rest := []) S hE hS (c_movP l z w g gm o hO (jp g j) (by omega) (g 28 j) (a - (g 33 j))) (va_cwU (y := yX4_movementOf) (x := ⟨"DovetailRow$Part", "movementOf", "(II)I"⟩) (C := "DovetailRow$Part") (owner := "DovetailRow$Wood") 2 hts (gU_U tw_260 tw_261 tw_263 tw_264 tw_13 tw_265) rfl rfl rfl rfl (by decide +kernel) ⟨Nat.le_of_ble_eq_true rfl, Nat.le_of_ble_eq_true rfl⟩) (hE.recv (hW.pt (i := jp g j) (by omega)) (q := (RX2, TX2, 9)) rfl) hW rfl hl.1 rfl (Nat.le_of_ble_eq_true rfl) dX1_breaksAt_46 ⟨Nat.zero_le _, Nat.zero_le _⟩ ?_
    refine va_mabs hx hb (hml.trans hl.1.symm) hown (hts _ tw_269) (hts _ tw_270) (hts _ tw_16) (hts _ tw_271) (Nat.le_of_ble_eq_true rfl) (Nat.le_of_ble_eq_true rfl) (Nat.zero_le _) (Nat.zero_le _) dX1_breaksAt_49 ?_
    refine lv_iconst (v := 5) hx hb dX1_breaksAt_52 (by decide) ?_
    refine lv_icmp_le (tgt := 60) hx hb dX1_breaksAt_53 (by decide) (fun c_53 => ?_) (fun c_53 => ?_)
    · refine lv_iconst (v := 0) hx hb dX1_breaksAt_60 (by decide) ?_
      exact g_zret S hr hlocks (brk_1n ek9 c_53) ⟨_, rfl⟩ dX1_breaksAt_61
    · refine lv_iconst (v := 1) hx hb dX1_breaksAt_56 (by decide) ?_
      refine lv_goto (tgt := 61) hx hb dX1_breaksAt_57 (by decide) ?_
      exact g_zret S hr hlocks (brk_1y ek9 c_53) ⟨_, rfl⟩ dX1_breaksAt_61
  · refine lv_aload_n hx hb dX1_breaksAt_0 rfl (lv_at hl 0 rfl) ?_
    refine g_get S hE (hW.jt (i := j) (by omega)) (C := RX1) (T := TX1) (N := 9) (v := .int 2) rfl inU1 0 (by decide) tw_523 (Or.inl rfl) (by rw [show g 25 j = 2 from ek9]; rfl) dX1_breaksAt_1 ?_
    refine lv_lookup (off := 58) (tgt := 62) hx hb dX1_breaksAt_4 (by decide) (by decide) (by decide) ?_
    refine lv_aload_n hx hb dX1_breaksAt_62 rfl (lv_at hl 0 rfl) ?_
    refine g_get S hE (hW.jt (i := j) (by omega)) (C := RX1) (T := TX1) (N := 9) (v := .ref (wad w 3 (jp g j))) rfl inU1 1 (by decide) tw_525 (Or.inl rfl) rfl dX1_breaksAt_63 ?_
    refine lv_iload_n hx hb dX1_breaksAt_66 rfl (lv_at hl 1 rfl) ?_
    refine g_callU (As := [.int a]) (rest := []) S hE hS (c_wAtP l z w g gm o hO (jp g j) (by omega) (a)) (va_cwU (y := yX4_widthAt) (x := ⟨"DovetailRow$Part", "widthAt", "(I)I"⟩) (C := "DovetailRow$Part") (owner := "DovetailRow$Wood") 1 hts (gU_U tw_272 tw_273 tw_275 tw_276 tw_13 tw_277) rfl rfl rfl rfl (by decide +kernel) ⟨Nat.le_of_ble_eq_true rfl, Nat.le_of_ble_eq_true rfl⟩) (hE.recv (hW.pt (i := jp g j) (by omega)) (q := (RX2, TX2, 9)) rfl) hW rfl hl.1 rfl (Nat.le_of_ble_eq_true rfl) dX1_breaksAt_67 ⟨Nat.zero_le _, Nat.zero_le _⟩ ?_
    refine lv_aload_n hx hb dX1_breaksAt_70 rfl (lv_at hl 0 rfl) ?_
    refine g_get S hE (hW.jt (i := j) (by omega)) (C := RX1) (T := TX1) (N := 9) (v := .int (g 28 j)) rfl inU1 4 (by decide) tw_531 (Or.inl rfl) rfl dX1_breaksAt_71 ?_
    refine lv_iconst (v := 2) hx hb dX1_breaksAt_74 (by decide) ?_
    refine lv_aload_n hx hb dX1_breaksAt_75 rfl (lv_at hl 0 rfl) ?_
    refine g_get S hE (hW.jt (i := j) (by omega)) (C := RX1) (T := TX1) (N := 9) (v := .int (g 29 j)) rfl inU1 3 (by decide) tw_529 (Or.inl rfl) rfl dX1_breaksAt_76 ?_
    refine lv_imul hx hb dX1_breaksAt_79 ?_
    refine lv_isub hx hb dX1_breaksAt_80 ?_
    refine lv_icmp_ge (tgt := 88) hx hb dX1_breaksAt_81 (by decide) (fun c_81_1 => ?_) (fun c_81_1 => ?_)
    · refine lv_iconst (v := 0) hx hb dX1_breaksAt_88 (by decide) ?_
      exact g_zret S hr hlocks (by simp [wbr, bI, wAt, show g 25 j = 2 from ek9, c_81_1]) ⟨_, rfl⟩ dX1_breaksAt_89
    · refine lv_iconst (v := 1) hx hb dX1_breaksAt_84 (by decide) ?_
      refine lv_goto (tgt := 89) hx hb dX1_breaksAt_85 (by decide) ?_
      exact g_zret S hr hlocks (by simp [wbr, bI, wAt, show g 25 j = 2 from ek9, c_81_1]) ⟨_, rfl⟩ dX1_breaksAt_89
set_option maxHeartbeats 4000000 in
set_option maxRecDepth 100000 in
/-- state() -/
theorem c_X1_state (l : Launch) (z : ZE) (w : WG) (g gm : GS) (o : Nat → Int64) (hO : OKg g) (j : Nat) (hj : j < nj g) : Met l yX1_state (.code yX1_state cX1_state 1 (some .int) :: wU) ({ frames := 4, cells := 0, slots := 0, locals := 83 }) (PE z [.ref (wad w 4 (j))] (fun H => WW z w g gm o H)) (rqi (sta g j)) 0 0 zF := by
  refine Met.ofW (cc := cX1_state) (maxL := 1) (ret := (some .int)) (by decide) rfl ?_
  intro p e s m args below meth c s₁ BD hml hv
  obtain ⟨rfl, hE, hW⟩ := hv
  have hts : ∀ w ∈ wU, w.before _ s = true := fun w h => atoms_spec (ws := .code yX1_state cX1_state 1 (some .int) :: wU) BD.pre w (List.mem_cons_of_mem _ h)
  have S : CallFix p m c cX1_state 1 s ([.ref (wad w 4 (j))] : List Value).toArray wU RX1 := ⟨BD.exec, BD.bytes, hml, findClass_of_methodNamed BD.named, hts⟩
  have hx := S.1
  have hb := S.2.1
  have hown := S.2.2.2.1
  have hr := BD.returns
  have hlocks := BD.notSynchronized
  have hS : va_S (zA z) s.heap s.heap [] := va_S.rf
  have hl := lv_entry ([.ref (wad w 4 (j))]) (n := 1) (Nat.le_of_ble_eq_true rfl)
  rw [lg_entry_eq]
  generalize (lg_sl ([.ref (wad w 4 (j))]) ++ List.replicate (1 - (lg_sl ([.ref (wad w 4 (j))])).length) Slot.unset).toArray = ls at hl ⊢
  have hl : lv_has ls 1 [(0, .ref (wad w 4 (j)))] := hl
  have h40 := hO.l16
  have h30 := hO.l24
  have hjp := hO.l26 hj
  refine lv_aload_n hx hb dX1_state_0 rfl (lv_at hl 0 rfl) ?_
  refine g_get S hE (hW.jt (i := j) (by omega)) (C := RX1) (T := TX1) (N := 9) (v := .int (g 31 j)) rfl inU1 6 (by decide) tw_535 (Or.inl rfl) rfl dX1_state_1 ?_
  refine lv_if_ne (tgt := 9) hx hb dX1_state_4 (by decide) (fun c_4 => ?_) (fun c_4 => ?_)
  · refine lv_aload_n hx hb dX1_state_9 rfl (lv_at hl 0 rfl) ?_
    refine g_get S hE (hW.jt (i := j) (by omega)) (C := RX1) (T := TX1) (N := 9) (v := .int (g 32 j)) rfl inU1 7 (by decide) tw_537 (Or.inl rfl) rfl dX1_state_10 ?_
    refine lv_if_eq (tgt := 18) hx hb dX1_state_13 (by decide) (fun c_13_1 => ?_) (fun c_13_1 => ?_)
    · refine lv_aload_n hx hb dX1_state_18 rfl (lv_at hl 0 rfl) ?_
      refine g_get S hE (hW.jt (i := j) (by omega)) (C := RX1) (T := TX1) (N := 9) (v := .int (g 25 j)) rfl inU1 0 (by decide) tw_523 (Or.inl rfl) rfl dX1_state_19 ?_
      refine lv_iconst (v := 2) hx hb dX1_state_22 (by decide) ?_
      refine lv_icmp_ne (tgt := 44) hx hb dX1_state_23 (by decide) (fun c_23_2 => ?_) (fun c_23_2 => ?_)
      · refine lv_iconst (v := 1) hx hb dX1_state_44 (by decide) ?_
        exact g_iret S hr hlocks (by simp [sta, c_4, c_13_1, c_23_2]) dX1_state_45
      · refine lv_aload_n hx hb dX1_state_26 rfl (lv_at hl 0 rfl) ?_
        refine g_get S hE (hW.jt (i := j) (by omega)) (C := RX1) (T := TX1) (N := 9) (v := .ref (wad w 3 (jp g j))) rfl inU1 1 (by decide) tw_525 (Or.inl rfl) rfl dX1_state_27 ?_
        refine g_callU (As := []) (rest := []) S hE hS (c_wNowP l z w g gm o hO (jp g j) (by omega)) (va_cwU (y := yX4_widthNow) (x := ⟨"DovetailRow$Part", "widthNow", "()I"⟩) (C := "DovetailRow$Part") (owner := "DovetailRow$Wood") 0 hts (gU_U tw_597 tw_514 tw_515 tw_436 tw_13 tw_437) rfl rfl rfl rfl (by decide +kernel) ⟨Nat.le_of_ble_eq_true rfl, Nat.le_of_ble_eq_true rfl⟩) (hE.recv (hW.pt (i := jp g j) (by omega)) (q := (RX2, TX2, 9)) rfl) hW rfl hl.1 rfl (Nat.le_of_ble_eq_true rfl) dX1_state_30 ⟨Nat.zero_le _, Nat.zero_le _⟩ ?_
        refine lv_aload_n hx hb dX1_state_33 rfl (lv_at hl 0 rfl) ?_
        refine g_get S hE (hW.jt (i := j) (by omega)) (C := RX1) (T := TX1) (N := 9) (v := .int (g 28 j)) rfl inU1 4 (by decide) tw_531 (Or.inl rfl) rfl dX1_state_34 ?_
        refine lv_icmp_le (tgt := 44) hx hb dX1_state_37 (by decide) (fun c_37_3 => ?_) (fun c_37_3 => ?_)
        · refine lv_iconst (v := 1) hx hb dX1_state_44 (by decide) ?_
          exact g_iret S hr hlocks (by simp [sta, c_4, c_13_1, c_23_2, c_37_3]) dX1_state_45
        · refine lv_iconst (v := 2) hx hb dX1_state_40 (by decide) ?_
          refine lv_goto (tgt := 45) hx hb dX1_state_41 (by decide) ?_
          exact g_iret S hr hlocks (by simp [sta, c_4, c_13_1, c_23_2, c_37_3]) dX1_state_45
    · refine lv_iconst (v := 3) hx hb dX1_state_16 (by decide) ?_
      exact g_iret S hr hlocks (by simp [sta, c_4, c_13_1]) dX1_state_17
  · refine lv_iconst (v := 0) hx hb dX1_state_7 (by decide) ?_
    exact g_iret S hr hlocks (by simp [sta, c_4]) dX1_state_8
def tch (f t f2 t2 : Int32) : Bool := !decide (t2 ≤ f) && !decide (t ≤ f2)
set_option maxHeartbeats 4000000 in
set_option maxRecDepth 100000 in
/-- Span.touches(from, to) -/
theorem c_X3_touches (l : Launch) (z : ZE) (a : Nat) (f9 t9 f2 t2 : Int32) : Met l yX3_touches (.code yX3_touches cX3_touches 3 (some .boolean) :: wU) ({ frames := 0, cells := 0, slots := 0, locals := 0 }) (PE z [.ref (a), .int f2, .int t2] (fun H => va_at (zD z) vwCl (a, .inr (4, [.int f9, .int t9])) H)) (rqi (bI (tch f9 t9 f2 t2))) 0 0 zF := by
  refine Met.ofW (cc := cX3_touches) (maxL := 3) (ret := (some .boolean)) (by decide) rfl ?_
  intro p e s m args below meth c s₁ BD hml hv
  obtain ⟨rfl, hE, hW⟩ := hv
  have hts : ∀ w ∈ wU, w.before _ s = true := fun w h => atoms_spec (ws := .code yX3_touches cX3_touches 3 (some .boolean) :: wU) BD.pre w (List.mem_cons_of_mem _ h)
  have S : CallFix p m c cX3_touches 3 s ([.ref (a), .int f2, .int t2] : List Value).toArray wU RX3 := ⟨BD.exec, BD.bytes, hml, findClass_of_methodNamed BD.named, hts⟩
  have hx := S.1
  have hb := S.2.1
  have hown := S.2.2.2.1
  have hr := BD.returns
  have hlocks := BD.notSynchronized
  have hS : va_S (zA z) s.heap s.heap [] := va_S.rf
  have hl := lv_entry ([.ref (a), .int f2, .int t2]) (n := 3) (Nat.le_of_ble_eq_true rfl)
  rw [lg_entry_eq]
  generalize (lg_sl ([.ref (a), .int f2, .int t2]) ++ List.replicate (3 - (lg_sl ([.ref (a), .int f2, .int t2])).length) Slot.unset).toArray = ls at hl ⊢
  have hl : lv_has ls 3 [(0, .ref (a)), (1, .int f2), (2, .int t2)] := hl
  refine lv_aload_n hx hb dX3_touches_0 rfl (lv_at hl 0 rfl) ?_
  refine g_get S hE hW (C := RX3) (T := TX3) (N := 2) (v := .int f9) rfl inU3 0 (by decide) tw_478 (Or.inl rfl) rfl dX3_touches_1 ?_
  refine lv_iload_n hx hb dX3_touches_4 rfl (lv_at hl 2 rfl) ?_
  refine lv_icmp_ge (tgt := 20) hx hb dX3_touches_5 (by decide) (fun c_5 => ?_) (fun c_5 => ?_)
  · refine lv_iconst (v := 0) hx hb dX3_touches_20 (by decide) ?_
    exact g_zret S hr hlocks (by simp [tch, bI, c_5]) ⟨_, rfl⟩ dX3_touches_21
  · refine lv_iload_n hx hb dX3_touches_8 rfl (lv_at hl 1 rfl) ?_
    refine lv_aload_n hx hb dX3_touches_9 rfl (lv_at hl 0 rfl) ?_
    refine g_get S hE hW (C := RX3) (T := TX3) (N := 2) (v := .int t9) rfl inU3 1 (by decide) tw_479 (Or.inl rfl) rfl dX3_touches_10 ?_
    refine lv_icmp_ge (tgt := 20) hx hb dX3_touches_13 (by decide) (fun c_13_1 => ?_) (fun c_13_1 => ?_)
    · refine lv_iconst (v := 0) hx hb dX3_touches_20 (by decide) ?_
      exact g_zret S hr hlocks (by simp [tch, bI, c_5, c_13_1]) ⟨_, rfl⟩ dX3_touches_21
    · refine lv_iconst (v := 1) hx hb dX3_touches_16 (by decide) ?_
      refine lv_goto (tgt := 21) hx hb dX3_touches_17 (by decide) ?_
      exact g_zret S hr hlocks (by simp [tch, bI, c_5, c_13_1]) ⟨_, rfl⟩ dX3_touches_21
set_option maxHeartbeats 4000000 in
set_option maxRecDepth 100000 in
/-- touchesAny(spans, from, to) -/
theorem c_X5_touchesAny (l : Launch) (z : ZE) (w : WG) (g gm : GS) (o : Nat → Int64) (hO : OKg g) (i : Nat) (h3 : 3 ≤ i) (hi : i < 3 + 2 * nb g) (f2 t2 : Int32) : Met l yX5_touchesAny (.code yX5_touchesAny cX5_touchesAny 4 (some .boolean) :: wU) ({ frames := 3, cells := 0, slots := 0, locals := 64 }) (PE z [.ref (wad w 5 (i)), .int f2, .int t2] (fun H => WW z w g gm o H)) (rqi (bI (anyN (ll g i) (fun k => tch (spf g i k) (spt g i k) f2 t2)))) 0 0 zF := by
  refine Met.ofW (cc := cX5_touchesAny) (maxL := 4) (ret := (some .boolean)) (by decide) rfl ?_
  intro p e s m args below meth c s₁ BD hml hv
  obtain ⟨rfl, hE, hW⟩ := hv
  have hts : ∀ w ∈ wU, w.before _ s = true := fun w h => atoms_spec (ws := .code yX5_touchesAny cX5_touchesAny 4 (some .boolean) :: wU) BD.pre w (List.mem_cons_of_mem _ h)
  have S : CallFix p m c cX5_touchesAny 4 s ([.ref (wad w 5 (i)), .int f2, .int t2] : List Value).toArray wU RX5 := ⟨BD.exec, BD.bytes, hml, findClass_of_methodNamed BD.named, hts⟩
  have hx := S.1
  have hb := S.2.1
  have hown := S.2.2.2.1
  have hr := BD.returns
  have hlocks := BD.notSynchronized
  have hS : va_S (zA z) s.heap s.heap [] := va_S.rf
  have hl := lv_entry ([.ref (wad w 5 (i)), .int f2, .int t2]) (n := 4) (Nat.le_of_ble_eq_true rfl)
  rw [lg_entry_eq]
  generalize (lg_sl ([.ref (wad w 5 (i)), .int f2, .int t2]) ++ List.replicate (4 - (lg_sl ([.ref (wad w 5 (i)), .int f2, .int t2])).length) Slot.unset).toArray = ls at hl ⊢
  have hl : lv_has ls 4 [(0, .ref (wad w 5 (i))), (1, .int f2), (2, .int t2)] := hl
  have hll := hW.ll hi
  refine lv_iconst (v := nI 0) hx hb dX5_touchesAny_0 (by decide) ?_
  refine lv_istore_n (lv' := [(3, .int (nI 0)), (0, .ref (wad w 5 (i))), (1, .int f2), (2, .int t2)]) hx hb dX5_touchesAny_1 rfl hl (by decide) rfl (fun ls hl => ?_)
  have lp_2 : ∀ (k9 : Nat) (k : Nat) (hk : k ≤ ll g i) (he : anyN k (fun k => tch (spf g i k) (spt g i k) f2 t2) = false), ll g i - k < k9 → ∀ (ls : Array Slot), lv_has ls 4 [(0, .ref (wad w 5 (i))), (1, .int f2), (2, .int t2), (3, .int (nI k))] → W p l e ({ frames := 3, cells := 0, slots := 0, locals := 64 } : Room) s m ([.ref (wad w 5 (i)), .int f2, .int t2] : List Value).toArray below meth c s.heap [] 0 0 (MQ below (rqi (bI (anyN (ll g i) (fun k => tch (spf g i k) (spt g i k) f2 t2)))) ([.ref (wad w 5 (i)), .int f2, .int t2] : List Value).toArray s 0 0 zF) (F0 m 2 ls []) := by
    intro k9
    induction k9 with
    | zero => intro k hk he h9; exact absurd h9 (Nat.not_lt_zero _)
    | succ k9 ih_2 =>
      intro k hk he hk9 ls hl
      refine lv_iload_n hx hb dX5_touchesAny_2 rfl (lv_at hl 3 rfl) ?_
      refine lv_aload_n hx hb dX5_touchesAny_3 rfl (lv_at hl 0 rfl) ?_
      refine g_callV (As := []) (rest := [.int (nI k)]) S hE hS (c_Jx4a65c_size_8abf5 l z w g gm o (i) (by omega)) (cwV 0 hts (gU_V tw_209 tw_210 tw_211 tw_4 tw_212) rfl rfl rfl (by decide +kernel) ⟨Nat.le_of_ble_eq_true rfl, Nat.le_of_ble_eq_true rfl⟩) (hE.recv (hW.lst (i := i) (by omega)) (q := (RJx4a65c, TJx4a65c, 3)) rfl) hW rfl hl.1 rfl (Nat.le_of_ble_eq_true rfl) dX5_touchesAny_4 ⟨Nat.zero_le _, Nat.zero_le _⟩ ?_
      refine g_icmp_ge S (by omega) (by omega) (tgt := 34) dX5_touchesAny_7 (by decide) (fun c_7 => ?_) (fun c_7 => ?_)
      · refine lv_iconst (v := 0) hx hb dX5_touchesAny_34 (by decide) ?_
        exact g_zret S hr hlocks (by rw [show ll g i = k by omega, he]; rfl) ⟨_, rfl⟩ dX5_touchesAny_35
      · refine lv_aload_n hx hb dX5_touchesAny_10 rfl (lv_at hl 0 rfl) ?_
        refine lv_iload_n hx hb dX5_touchesAny_11 rfl (lv_at hl 3 rfl) ?_
        refine g_callVq (As := [.int (nI k)]) (rest := []) S hE hS (c_Jx4a65c_get_915e3 l z w g gm o (i) (by omega) (k) (by omega)) (cwV 1 hts (gU_V tw_213 tw_214 tw_215 tw_4 tw_216) rfl rfl rfl (by decide +kernel) ⟨Nat.le_of_ble_eq_true rfl, Nat.le_of_ble_eq_true rfl⟩) (hE.recv (hW.lst (i := i) (by omega)) (q := (RJx4a65c, TJx4a65c, 3)) rfl) hW rfl hl.1 rfl (Nat.le_of_ble_eq_true rfl) dX5_touchesAny_12 ⟨Nat.zero_le _, Nat.zero_le _⟩ ?_
        rw [show va_rf (some (wad w (lk i) (li g i k))) = .ref (wad w (lk i) (li g i k)) from rfl]
        refine g_cast S hE (hW.sp hO (i := i) (j := k) (by omega) (by omega) (by omega)) (C := RX3) (T := TX3) (N := 2) rfl tw_427 dX5_touchesAny_15 ?_
        refine lv_iload_n hx hb dX5_touchesAny_18 rfl (lv_at hl 1 rfl) ?_
        refine lv_iload_n hx hb dX5_touchesAny_19 rfl (lv_at hl 2 rfl) ?_
        refine g_callV (As := [.int f2, .int t2]) (rest := []) S hE hS (c_X3_touches l z (wad w (lk i) (li g i k)) (spf g i k) (spt g i k) (f2) (t2)) (cwV 2 hts (gU_V tw_428 tw_429 tw_430 tw_20 tw_431) rfl rfl rfl (by decide +kernel) ⟨Nat.le_of_ble_eq_true rfl, Nat.le_of_ble_eq_true rfl⟩) (hE.recv (hW.sp hO (i := i) (j := k) (by omega) (by omega) (by omega)) (q := (RX3, TX3, 2)) rfl) (hW.sp hO (i := i) (j := k) (by omega) (by omega) (by omega)) rfl hl.1 rfl (Nat.le_of_ble_eq_true rfl) dX5_touchesAny_20 ⟨Nat.zero_le _, Nat.zero_le _⟩ ?_
        refine g_if_eq S (tgt := 28) dX5_touchesAny_23 (by decide) (fun c_23_1 => ?_) (fun c_23_1 => ?_)
        · refine lv_iinc (v := nI (k + 1)) (lv' := [(3, .int (nI (k + 1))), (0, .ref (wad w 5 (i))), (1, .int f2), (2, .int t2)]) hx hb dX5_touchesAny_28 hl (k := 3) rfl (nI_1 _) (by decide) rfl (fun ls hl => ?_)
          refine lv_goto (tgt := 2) hx hb dX5_touchesAny_31 (by decide) ?_
          exact ih_2 (k + 1) (by omega) (by rw [anyN, he]; exact c_23_1) (by omega) ls (lv_sub hl [1, 2, 3, 0] rfl)
        · refine lv_iconst (v := 1) hx hb dX5_touchesAny_26 (by decide) ?_
          exact g_zret S hr hlocks (by rw [anyN_mono (n := k + 1) (k := ll g i) (by rw [anyN, he]; exact c_23_1) (by omega)]; rfl) ⟨_, rfl⟩ dX5_touchesAny_27
  exact lp_2 ((ll g i - 0) + 1) 0 (Nat.zero_le _) rfl (Nat.lt_succ_self _) ls (lv_sub hl [1, 2, 3, 0] rfl)
