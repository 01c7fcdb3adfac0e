/-! ===== constructors ===== -/
set_option maxHeartbeats 4000000 in
set_option maxRecDepth 100000 in
/-- AbstractCollection() -/
theorem c_Jxa1e45_init_da8c8 (l : Launch) (z : ZE) (q : Nat) (v0 v1 v2 : Value)  : Met l yJxa1e45_init_da8c8 (.code yJxa1e45_init_da8c8 cJxa1e45_init_da8c8 1 none :: wU) ({ frames := 1, cells := 0, slots := 0, locals := 20 }) (PE z [.ref (q)] (fun H => zB z ≤ q ∧ va_at (zD z) vwCl (q, .inr (0, [v0, v1, v2])) H)) (qC (fun x => x = q) (fun H => va_at (zD z) vwCl (q, .inr (0, [v0, v1, v2])) H)) 0 0 (zA z) := by
  refine Met.ofW (cc := cJxa1e45_init_da8c8) (maxL := 1) (ret := none) (by decide) rfl ?_
  intro p e s m args below meth c s₁ BD hml hv
  obtain ⟨rfl, hE, hW⟩ := hv
  have hts : ∀ w ∈ wU, w.before _ s = true := fun w h => atoms_spec (ws := .code yJxa1e45_init_da8c8 cJxa1e45_init_da8c8 1 none :: wU) BD.pre w (List.mem_cons_of_mem _ h)
  have S : CallFix p m c cJxa1e45_init_da8c8 1 s ([.ref (q)] : List Value).toArray wU RJxa1e45 := ⟨BD.exec, BD.bytes, hml, findClass_of_methodNamed BD.named, hts⟩
  have hx := S.1
  have hb := S.2.1
  have hown := S.2.2.2.1
  have hr := BD.returns
  have hlocks := BD.notSynchronized
  have hS : va_S (zA z) s.heap s.heap [] := va_S.rf
  have hl := lv_entry ([.ref (q)]) (n := 1) (Nat.le_of_ble_eq_true rfl)
  rw [lg_entry_eq]
  generalize (lg_sl ([.ref (q)]) ++ List.replicate (1 - (lg_sl ([.ref (q)])).length) Slot.unset).toArray = ls at hl ⊢
  have hl : lv_has ls 1 [(0, .ref (q))] := hl
  obtain ⟨hz, hq⟩ := hW
  have hin9 : meth.name = "<init>" := (name_of_methodNamed BD.named BD.method).1
  have hfr : ∀ x : Nat, x < s.heap.size → ¬ x = q → s.heap[x]? = s.heap[x]? := fun _ _ _ => rfl
  have hsz : s.heap.size ≤ s.heap.size := Nat.le_refl _
  refine lv_aload_n hx hb dJxa1e45_init_da8c8_0 rfl (lv_at hl 0 rfl) ?_
  refine g_obj S tw_42 hl.1 ⟨Nat.le_of_ble_eq_true rfl, Nat.le_of_ble_eq_true rfl⟩ (Nat.le_of_ble_eq_true rfl) dJxa1e45_init_da8c8_1 ?_
  exact c_ret S hr hlocks hS hq ⟨hsz, hfr⟩ ⟨Nat.le_of_ble_eq_true rfl, Nat.le_of_ble_eq_true rfl⟩ dJxa1e45_init_da8c8_4
set_option maxHeartbeats 4000000 in
set_option maxRecDepth 100000 in
/-- AbstractList() -/
theorem c_Jxc12de_init_da8c8 (l : Launch) (z : ZE) (q : Nat) (v0 v1 v2 : Value)  : Met l yJxc12de_init_da8c8 (.code yJxc12de_init_da8c8 cJxc12de_init_da8c8 1 none :: wU) ({ frames := 2, cells := 0, slots := 0, locals := 40 }) (PE z [.ref (q)] (fun H => zB z ≤ q ∧ va_at (zD z) vwCl (q, .inr (0, [v0, v1, v2])) H)) (qC (fun x => x = q) (fun H => va_at (zD z) vwCl (q, .inr (0, [.int 0, v1, v2])) H)) 0 0 (zA z) := by
  refine Met.ofW (cc := cJxc12de_init_da8c8) (maxL := 1) (ret := none) (by decide) rfl ?_
  intro p e s m args below meth c s₁ BD hml hv
  obtain ⟨rfl, hE, hW⟩ := hv
  have hts : ∀ w ∈ wU, w.before _ s = true := fun w h => atoms_spec (ws := .code yJxc12de_init_da8c8 cJxc12de_init_da8c8 1 none :: wU) BD.pre w (List.mem_cons_of_mem _ h)
  have S : CallFix p m c cJxc12de_init_da8c8 1 s ([.ref (q)] : List Value).toArray wU RJxc12de := ⟨BD.exec, BD.bytes, hml, findClass_of_methodNamed BD.named, hts⟩
  have hx := S.1
  have hb := S.2.1
  have hown := S.2.2.2.1
  have hr := BD.returns
  have hlocks := BD.notSynchronized
  have hS : va_S (zA z) s.heap s.heap [] := va_S.rf
  have hl := lv_entry ([.ref (q)]) (n := 1) (Nat.le_of_ble_eq_true rfl)
  rw [lg_entry_eq]
  generalize (lg_sl ([.ref (q)]) ++ List.replicate (1 - (lg_sl ([.ref (q)])).length) Slot.unset).toArray = ls at hl ⊢
  have hl : lv_has ls 1 [(0, .ref (q))] := hl
  obtain ⟨hz, hq⟩ := hW
  have hin9 : meth.name = "<init>" := (name_of_methodNamed BD.named BD.method).1
  have hfr : ∀ x : Nat, x < s.heap.size → ¬ x = q → s.heap[x]? = s.heap[x]? := fun _ _ _ => rfl
  have hsz : s.heap.size ≤ s.heap.size := Nat.le_refl _
  refine lv_aload_n hx hb dJxc12de_init_da8c8_0 rfl (lv_at hl 0 rfl) ?_
  refine g_init (As := []) (rest := []) S hE hS (c_Jxa1e45_init_da8c8 l z q v0 v1 v2) (x_cwI 0 hts tw_39 tw_40 tw_2 tw_41 rfl rfl (by decide +kernel) ⟨Nat.le_of_ble_eq_true rfl, Nat.le_of_ble_eq_true rfl⟩ rfl) ⟨hz, hq⟩ rfl hl.1 rfl (Nat.le_of_ble_eq_true rfl) dJxc12de_init_da8c8_1 ⟨Nat.le_of_ble_eq_true rfl, Nat.le_of_ble_eq_true rfl⟩ (fun x _ e => e ▸ hz) (fun H locs hB9 hz9 ho9 hS => ?_)
  replace hfr := fun (x : Nat) (h1 : x < s.heap.size) (h2 : ¬ x = q) => (ho9 x (Nat.lt_of_lt_of_le h1 hsz) h2).trans (hfr x h1 h2)
  replace hsz := Nat.le_trans hsz hz9
  replace hq := hB9
  refine lv_aload_n hx hb dJxc12de_init_da8c8_4 rfl (lv_at hl 0 rfl) ?_
  refine lv_iconst (v := 0) hx hb dJxc12de_init_da8c8_5 (by decide) ?_
  refine g_put S hE hS hq hz (C := RJx4a65c) (T := TJx4a65c) (N := 3) rfl inUL tyJx4a65c tyJx4a65c_ok nmJx4a65c 0 (by decide) tw_47 (Or.inl rfl) (Or.inl rfl) (v := .int 0) rfl rfl (Nat.le_of_ble_eq_true rfl) dJxc12de_init_da8c8_6 (fun H locs hq oq hz9 hS => ?_)
  replace hfr := fun (x : Nat) (h1 : x < s.heap.size) (h2 : ¬ x = q) => (oq x h2).trans (hfr x h1 h2)
  replace hsz := Nat.le_trans hsz (Nat.le_of_eq hz9.symm)
  exact c_ret S hr hlocks hS hq ⟨hsz, hfr⟩ ⟨Nat.le_of_ble_eq_true rfl, Nat.le_of_ble_eq_true rfl⟩ dJxc12de_init_da8c8_9
set_option maxHeartbeats 4000000 in
set_option maxRecDepth 100000 in
/-- ArrayList() -/
theorem c_Jx4a65c_init_da8c8 (l : Launch) (z : ZE) (q : Nat) (v0 v1 v2 : Value)  : Met l yJx4a65c_init_da8c8 (.code yJx4a65c_init_da8c8 cJx4a65c_init_da8c8 1 none :: wU) ({ frames := 3, cells := 0, slots := 0, locals := 60 }) (PE z [.ref (q)] (fun H => zB z ≤ q ∧ va_at (zD z) vwCl (q, .inr (0, [v0, v1, v2])) H)) (qC (fun x => x = q) (fun H => va_at (zD z) vwCl (q, .inr (0, [.int 0, .ref (zd z), v2])) H)) 0 0 (zA z) := by
  refine Met.ofW (cc := cJx4a65c_init_da8c8) (maxL := 1) (ret := none) (by decide) rfl ?_
  intro p e s m args below meth c s₁ BD hml hv
  obtain ⟨rfl, hE, hW⟩ := hv
  have hts : ∀ w ∈ wU, w.before _ s = true := fun w h => atoms_spec (ws := .code yJx4a65c_init_da8c8 cJx4a65c_init_da8c8 1 none :: wU) BD.pre w (List.mem_cons_of_mem _ h)
  have S : CallFix p m c cJx4a65c_init_da8c8 1 s ([.ref (q)] : List Value).toArray wU RJx4a65c := ⟨BD.exec, BD.bytes, hml, findClass_of_methodNamed BD.named, hts⟩
  have hx := S.1
  have hb := S.2.1
  have hown := S.2.2.2.1
  have hr := BD.returns
  have hlocks := BD.notSynchronized
  have hS : va_S (zA z) s.heap s.heap [] := va_S.rf
  have hl := lv_entry ([.ref (q)]) (n := 1) (Nat.le_of_ble_eq_true rfl)
  rw [lg_entry_eq]
  generalize (lg_sl ([.ref (q)]) ++ List.replicate (1 - (lg_sl ([.ref (q)])).length) Slot.unset).toArray = ls at hl ⊢
  have hl : lv_has ls 1 [(0, .ref (q))] := hl
  obtain ⟨hz, hq⟩ := hW
  have hin9 : meth.name = "<init>" := (name_of_methodNamed BD.named BD.method).1
  have hfr : ∀ x : Nat, x < s.heap.size → ¬ x = q → s.heap[x]? = s.heap[x]? := fun _ _ _ => rfl
  have hsz : s.heap.size ≤ s.heap.size := Nat.le_refl _
  refine lv_aload_n hx hb dJx4a65c_init_da8c8_0 rfl (lv_at hl 0 rfl) ?_
  refine g_init (As := []) (rest := []) S hE hS (c_Jxc12de_init_da8c8 l z q v0 v1 v2) (x_cwI 0 hts tw_36 tw_37 tw_3 tw_38 rfl rfl (by decide +kernel) ⟨Nat.le_of_ble_eq_true rfl, Nat.le_of_ble_eq_true rfl⟩ rfl) ⟨hz, hq⟩ rfl hl.1 rfl (Nat.le_of_ble_eq_true rfl) dJx4a65c_init_da8c8_1 ⟨Nat.le_of_ble_eq_true rfl, Nat.le_of_ble_eq_true rfl⟩ (fun x _ e => e ▸ hz) (fun H locs hB9 hz9 ho9 hS => ?_)
  replace hfr := fun (x : Nat) (h1 : x < s.heap.size) (h2 : ¬ x = q) => (ho9 x (Nat.lt_of_lt_of_le h1 hsz) h2).trans (hfr x h1 h2)
  replace hsz := Nat.le_trans hsz hz9
  replace hq := hB9
  refine lv_aload_n hx hb dJx4a65c_init_da8c8_4 rfl (lv_at hl 0 rfl) ?_
  refine va_gets (A := zA z) hx hb hE.2.2.1 hS hown (hts _ tw_43) (fun x hx => hx) dJx4a65c_init_da8c8_5 ?_
  refine g_put S hE hS hq hz (C := RJx4a65c) (T := TJx4a65c) (N := 3) rfl inUL tyJx4a65c tyJx4a65c_ok nmJx4a65c 1 (by decide) tw_45 (Or.inl rfl) (Or.inl rfl) (v := .ref (zd z)) rfl rfl (Nat.le_of_ble_eq_true rfl) dJx4a65c_init_da8c8_8 (fun H locs hq oq hz9 hS => ?_)
  replace hfr := fun (x : Nat) (h1 : x < s.heap.size) (h2 : ¬ x = q) => (oq x h2).trans (hfr x h1 h2)
  replace hsz := Nat.le_trans hsz (Nat.le_of_eq hz9.symm)
  exact c_ret S hr hlocks hS hq ⟨hsz, hfr⟩ ⟨Nat.le_of_ble_eq_true rfl, Nat.le_of_ble_eq_true rfl⟩ dJx4a65c_init_da8c8_11
set_option maxHeartbeats 4000000 in
set_option maxRecDepth 100000 in
/-- Span(from, to) -/
theorem c_X3_init (l : Launch) (z : ZE) (q : Nat) (v0 v1 : Value) (b1 b2 : Int32) : Met l yX3_init (.code yX3_init cX3_init 3 none :: wU) ({ frames := 1, cells := 0, slots := 0, locals := 20 }) (PE z [.ref (q), .int b1, .int b2] (fun H => zB z ≤ q ∧ va_at (zD z) vwCl (q, .inr (4, [v0, v1])) H)) (qC (fun x => x = q) (fun H => va_at (zD z) vwCl (q, .inr (4, [.int b1, .int b2])) H)) 0 0 (zA z) := by
  refine Met.ofW (cc := cX3_init) (maxL := 3) (ret := none) (by decide) rfl ?_
  intro p e s m args below meth c s₁ BD hml hv
  obtain ⟨rfl, hE, hW⟩ := hv
  have hts : ∀ w ∈ wU, w.before _ s = true := fun w h => atoms_spec (ws := .code yX3_init cX3_init 3 none :: wU) BD.pre w (List.mem_cons_of_mem _ h)
  have S : CallFix p m c cX3_init 3 s ([.ref (q), .int b1, .int b2] : List Value).toArray wU RX3 := ⟨BD.exec, BD.bytes, hml, findClass_of_methodNamed BD.named, hts⟩
  have hx := S.1
  have hb := S.2.1
  have hown := S.2.2.2.1
  have hr := BD.returns
  have hlocks := BD.notSynchronized
  have hS : va_S (zA z) s.heap s.heap [] := va_S.rf
  have hl := lv_entry ([.ref (q), .int b1, .int b2]) (n := 3) (Nat.le_of_ble_eq_true rfl)
  rw [lg_entry_eq]
  generalize (lg_sl ([.ref (q), .int b1, .int b2]) ++ List.replicate (3 - (lg_sl ([.ref (q), .int b1, .int b2])).length) Slot.unset).toArray = ls at hl ⊢
  have hl : lv_has ls 3 [(0, .ref (q)), (1, .int b1), (2, .int b2)] := hl
  obtain ⟨hz, hq⟩ := hW
  have hin9 : meth.name = "<init>" := (name_of_methodNamed BD.named BD.method).1
  have hfr : ∀ x : Nat, x < s.heap.size → ¬ x = q → s.heap[x]? = s.heap[x]? := fun _ _ _ => rfl
  have hsz : s.heap.size ≤ s.heap.size := Nat.le_refl _
  refine lv_aload_n hx hb dX3_init_0 rfl (lv_at hl 0 rfl) ?_
  refine g_obj S tw_477 hl.1 ⟨Nat.le_of_ble_eq_true rfl, Nat.le_of_ble_eq_true rfl⟩ (Nat.le_of_ble_eq_true rfl) dX3_init_1 ?_
  refine lv_aload_n hx hb dX3_init_4 rfl (lv_at hl 0 rfl) ?_
  refine lv_iload_n hx hb dX3_init_5 rfl (lv_at hl 1 rfl) ?_
  refine g_put S hE hS hq hz (C := RX3) (T := TX3) (N := 2) rfl inU3 tyX3 tyX3_ok nmX3 0 (by decide) tw_478 (Or.inl rfl) (Or.inr ⟨rfl, hin9, rfl⟩) (v := .int b1) rfl rfl (Nat.le_of_ble_eq_true rfl) dX3_init_6 (fun H locs hq oq hz9 hS => ?_)
  replace hfr := fun (x : Nat) (h1 : x < s.heap.size) (h2 : ¬ x = q) => (oq x h2).trans (hfr x h1 h2)
  replace hsz := Nat.le_trans hsz (Nat.le_of_eq hz9.symm)
  refine lv_aload_n hx hb dX3_init_9 rfl (lv_at hl 0 rfl) ?_
  refine lv_iload_n hx hb dX3_init_10 rfl (lv_at hl 2 rfl) ?_
  refine g_put S hE hS hq hz (C := RX3) (T := TX3) (N := 2) rfl inU3 tyX3 tyX3_ok nmX3 1 (by decide) tw_479 (Or.inl rfl) (Or.inr ⟨rfl, hin9, rfl⟩) (v := .int b2) rfl rfl (Nat.le_of_ble_eq_true rfl) dX3_init_11 (fun H locs hq oq hz9 hS => ?_)
  replace hfr := fun (x : Nat) (h1 : x < s.heap.size) (h2 : ¬ x = q) => (oq x h2).trans (hfr x h1 h2)
  replace hsz := Nat.le_trans hsz (Nat.le_of_eq hz9.symm)
  exact c_ret S hr hlocks hS hq ⟨hsz, hfr⟩ ⟨Nat.le_of_ble_eq_true rfl, Nat.le_of_ble_eq_true rfl⟩ dX3_init_14
set_option maxHeartbeats 4000000 in
set_option maxRecDepth 100000 in
/-- Wood(species, width, moisture) of a board -/
theorem c_wooB (l : Launch) (z : ZE) (q : Nat) (v0 v1 v2 v3 v4 v5 v6 v7 v8 v9 v10 : Value) (b1 b2 b3 : Int32) : Met l yX4_init (.code yX4_init cX4_init 4 none :: wU) ({ frames := 1, cells := 0, slots := 0, locals := 20 }) (PE z [.ref (q), .int b1, .int b2, .int b3] (fun H => zB z ≤ q ∧ va_at (zD z) vwCl (q, .inr (1, [v0, v1, v2, v3, v4, v5, v6, v7, v8, v9, v10])) H)) (qC (fun x => x = q) (fun H => va_at (zD z) vwCl (q, .inr (1, [.int b1, .int b2, .int b3, .int b3, .int 0, v5, v6, v7, v8, v9, v10])) H)) 0 0 (zA z) := by
  refine Met.ofW (cc := cX4_init) (maxL := 4) (ret := none) (by decide) rfl ?_
  intro p e s m args below meth c s₁ BD hml hv
  obtain ⟨rfl, hE, hW⟩ := hv
  have hts : ∀ w ∈ wU, w.before _ s = true := fun w h => atoms_spec (ws := .code yX4_init cX4_init 4 none :: wU) BD.pre w (List.mem_cons_of_mem _ h)
  have S : CallFix p m c cX4_init 4 s ([.ref (q), .int b1, .int b2, .int b3] : List Value).toArray wU RX4 := ⟨BD.exec, BD.bytes, hml, findClass_of_methodNamed BD.named, hts⟩
  have hx := S.1
  have hb := S.2.1
  have hown := S.2.2.2.1
  have hr := BD.returns
  have hlocks := BD.notSynchronized
  have hS : va_S (zA z) s.heap s.heap [] := va_S.rf
  have hl := lv_entry ([.ref (q), .int b1, .int b2, .int b3]) (n := 4) (Nat.le_of_ble_eq_true rfl)
  rw [lg_entry_eq]
  generalize (lg_sl ([.ref (q), .int b1, .int b2, .int b3]) ++ List.replicate (4 - (lg_sl ([.ref (q), .int b1, .int b2, .int b3])).length) Slot.unset).toArray = ls at hl ⊢
  have hl : lv_has ls 4 [(0, .ref (q)), (1, .int b1), (2, .int b2), (3, .int b3)] := hl
  obtain ⟨hz, hq⟩ := hW
  have hin9 : meth.name = "<init>" := (name_of_methodNamed BD.named BD.method).1
  have hfr : ∀ x : Nat, x < s.heap.size → ¬ x = q → s.heap[x]? = s.heap[x]? := fun _ _ _ => rfl
  have hsz : s.heap.size ≤ s.heap.size := Nat.le_refl _
  refine lv_aload_n hx hb dX4_init_0 rfl (lv_at hl 0 rfl) ?_
  refine g_obj S tw_298 hl.1 ⟨Nat.le_of_ble_eq_true rfl, Nat.le_of_ble_eq_true rfl⟩ (Nat.le_of_ble_eq_true rfl) dX4_init_1 ?_
  refine lv_aload_n hx hb dX4_init_4 rfl (lv_at hl 0 rfl) ?_
  refine lv_iconst (v := 0) hx hb dX4_init_5 (by decide) ?_
  refine g_put S hE hS hq hz (C := RX0) (T := TX0) (N := 11) rfl inU0 tyX0 tyX0_ok nmX0 4 (by decide) tw_327 (Or.inl rfl) (Or.inl rfl) (v := .int 0) rfl rfl (Nat.le_of_ble_eq_true rfl) dX4_init_6 (fun H locs hq oq hz9 hS => ?_)
  replace hfr := fun (x : Nat) (h1 : x < s.heap.size) (h2 : ¬ x = q) => (oq x h2).trans (hfr x h1 h2)
  replace hsz := Nat.le_trans hsz (Nat.le_of_eq hz9.symm)
  refine lv_aload_n hx hb dX4_init_9 rfl (lv_at hl 0 rfl) ?_
  refine lv_iload_n hx hb dX4_init_10 rfl (lv_at hl 1 rfl) ?_
  refine g_put S hE hS hq hz (C := RX0) (T := TX0) (N := 11) rfl inU0 tyX0 tyX0_ok nmX0 0 (by decide) tw_314 (Or.inl rfl) (Or.inr ⟨rfl, hin9, rfl⟩) (v := .int b1) rfl rfl (Nat.le_of_ble_eq_true rfl) dX4_init_11 (fun H locs hq oq hz9 hS => ?_)
  replace hfr := fun (x : Nat) (h1 : x < s.heap.size) (h2 : ¬ x = q) => (oq x h2).trans (hfr x h1 h2)
  replace hsz := Nat.le_trans hsz (Nat.le_of_eq hz9.symm)
  refine lv_aload_n hx hb dX4_init_14 rfl (lv_at hl 0 rfl) ?_
  refine lv_iload_n hx hb dX4_init_15 rfl (lv_at hl 2 rfl) ?_
  refine g_put S hE hS hq hz (C := RX0) (T := TX0) (N := 11) rfl inU0 tyX0 tyX0_ok nmX0 1 (by decide) tw_318 (Or.inl rfl) (Or.inr ⟨rfl, hin9, rfl⟩) (v := .int b2) rfl rfl (Nat.le_of_ble_eq_true rfl) dX4_init_16 (fun H locs hq oq hz9 hS => ?_)
  replace hfr := fun (x : Nat) (h1 : x < s.heap.size) (h2 : ¬ x = q) => (oq x h2).trans (hfr x h1 h2)
  replace hsz := Nat.le_trans hsz (Nat.le_of_eq hz9.symm)
  refine lv_aload_n hx hb dX4_init_19 rfl (lv_at hl 0 rfl) ?_
  refine lv_iload_n hx hb dX4_init_20 rfl (lv_at hl 3 rfl) ?_
  refine g_put S hE hS hq hz (C := RX0) (T := TX0) (N := 11) rfl inU0 tyX0 tyX0_ok nmX0 2 (by decide) tw_319 (Or.inl rfl) (Or.inr ⟨rfl, hin9, rfl⟩) (v := .int b3) rfl rfl (Nat.le_of_ble_eq_true rfl) dX4_init_21 (fun H locs hq oq hz9 hS => ?_)
  replace hfr := fun (x : Nat) (h1 : x < s.heap.size) (h2 : ¬ x = q) => (oq x h2).trans (hfr x h1 h2)
  replace hsz := Nat.le_trans hsz (Nat.le_of_eq hz9.symm)
  refine lv_aload_n hx hb dX4_init_24 rfl (lv_at hl 0 rfl) ?_
  refine lv_iload_n hx hb dX4_init_25 rfl (lv_at hl 3 rfl) ?_
  refine g_put S hE hS hq hz (C := RX0) (T := TX0) (N := 11) rfl inU0 tyX0 tyX0_ok nmX0 3 (by decide) tw_322 (Or.inl rfl) (Or.inl rfl) (v := .int b3) rfl rfl (Nat.le_of_ble_eq_true rfl) dX4_init_26 (fun H locs hq oq hz9 hS => ?_)
  replace hfr := fun (x : Nat) (h1 : x < s.heap.size) (h2 : ¬ x = q) => (oq x h2).trans (hfr x h1 h2)
  replace hsz := Nat.le_trans hsz (Nat.le_of_eq hz9.symm)
  exact c_ret S hr hlocks hS hq ⟨hsz, hfr⟩ ⟨Nat.le_of_ble_eq_true rfl, Nat.le_of_ble_eq_true rfl⟩ dX4_init_29
set_option maxHeartbeats 4000000 in
set_option maxRecDepth 100000 in
/-- Wood(species, width, moisture) of a part -/
theorem c_wooP (l : Launch) (z : ZE) (q : Nat) (v0 v1 v2 v3 v4 v5 v6 v7 v8 : Value) (b1 b2 b3 : Int32) : Met l yX4_init (.code yX4_init cX4_init 4 none :: wU) ({ frames := 1, cells := 0, slots := 0, locals := 20 }) (PE z [.ref (q), .int b1, .int b2, .int b3] (fun H => zB z ≤ q ∧ va_at (zD z) vwCl (q, .inr (3, [v0, v1, v2, v3, v4, v5, v6, v7, v8])) H)) (qC (fun x => x = q) (fun H => va_at (zD z) vwCl (q, .inr (3, [.int b1, .int b2, .int b3, .int b3, .int 0, v5, v6, v7, v8])) H)) 0 0 (zA z) := by
  refine Met.ofW (cc := cX4_init) (maxL := 4) (ret := none) (by decide) rfl ?_
  intro p e s m args below meth c s₁ BD hml hv
  obtain ⟨rfl, hE, hW⟩ := hv
  have hts : ∀ w ∈ wU, w.before _ s = true := fun w h => atoms_spec (ws := .code yX4_init cX4_init 4 none :: wU) BD.pre w (List.mem_cons_of_mem _ h)
  have S : CallFix p m c cX4_init 4 s ([.ref (q), .int b1, .int b2, .int b3] : List Value).toArray wU RX4 := ⟨BD.exec, BD.bytes, hml, findClass_of_methodNamed BD.named, hts⟩
  have hx := S.1
  have hb := S.2.1
  have hown := S.2.2.2.1
  have hr := BD.returns
  have hlocks := BD.notSynchronized
  have hS : va_S (zA z) s.heap s.heap [] := va_S.rf
  have hl := lv_entry ([.ref (q), .int b1, .int b2, .int b3]) (n := 4) (Nat.le_of_ble_eq_true rfl)
  rw [lg_entry_eq]
  generalize (lg_sl ([.ref (q), .int b1, .int b2, .int b3]) ++ List.replicate (4 - (lg_sl ([.ref (q), .int b1, .int b2, .int b3])).length) Slot.unset).toArray = ls at hl ⊢
  have hl : lv_has ls 4 [(0, .ref (q)), (1, .int b1), (2, .int b2), (3, .int b3)] := hl
  obtain ⟨hz, hq⟩ := hW
  have hin9 : meth.name = "<init>" := (name_of_methodNamed BD.named BD.method).1
  have hfr : ∀ x : Nat, x < s.heap.size → ¬ x = q → s.heap[x]? = s.heap[x]? := fun _ _ _ => rfl
  have hsz : s.heap.size ≤ s.heap.size := Nat.le_refl _
  refine lv_aload_n hx hb dX4_init_0 rfl (lv_at hl 0 rfl) ?_
  refine g_obj S tw_298 hl.1 ⟨Nat.le_of_ble_eq_true rfl, Nat.le_of_ble_eq_true rfl⟩ (Nat.le_of_ble_eq_true rfl) dX4_init_1 ?_
  refine lv_aload_n hx hb dX4_init_4 rfl (lv_at hl 0 rfl) ?_
  refine lv_iconst (v := 0) hx hb dX4_init_5 (by decide) ?_
  refine g_put S hE hS hq hz (C := RX2) (T := TX2) (N := 9) rfl inU2 tyX2 tyX2_ok nmX2 4 (by decide) tw_327 (Or.inl rfl) (Or.inl rfl) (v := .int 0) rfl rfl (Nat.le_of_ble_eq_true rfl) dX4_init_6 (fun H locs hq oq hz9 hS => ?_)
  replace hfr := fun (x : Nat) (h1 : x < s.heap.size) (h2 : ¬ x = q) => (oq x h2).trans (hfr x h1 h2)
  replace hsz := Nat.le_trans hsz (Nat.le_of_eq hz9.symm)
  refine lv_aload_n hx hb dX4_init_9 rfl (lv_at hl 0 rfl) ?_
  refine lv_iload_n hx hb dX4_init_10 rfl (lv_at hl 1 rfl) ?_
  refine g_put S hE hS hq hz (C := RX2) (T := TX2) (N := 9) rfl inU2 tyX2 tyX2_ok nmX2 0 (by decide) tw_314 (Or.inl rfl) (Or.inr ⟨rfl, hin9, rfl⟩) (v := .int b1) rfl rfl (Nat.le_of_ble_eq_true rfl) dX4_init_11 (fun H locs hq oq hz9 hS => ?_)
  replace hfr := fun (x : Nat) (h1 : x < s.heap.size) (h2 : ¬ x = q) => (oq x h2).trans (hfr x h1 h2)
  replace hsz := Nat.le_trans hsz (Nat.le_of_eq hz9.symm)
  refine lv_aload_n hx hb dX4_init_14 rfl (lv_at hl 0 rfl) ?_
  refine lv_iload_n hx hb dX4_init_15 rfl (lv_at hl 2 rfl) ?_
  refine g_put S hE hS hq hz (C := RX2) (T := TX2) (N := 9) rfl inU2 tyX2 tyX2_ok nmX2 1 (by decide) tw_318 (Or.inl rfl) (Or.inr ⟨rfl, hin9, rfl⟩) (v := .int b2) rfl rfl (Nat.le_of_ble_eq_true rfl) dX4_init_16 (fun H locs hq oq hz9 hS => ?_)
  replace hfr := fun (x : Nat) (h1 : x < s.heap.size) (h2 : ¬ x = q) => (oq x h2).trans (hfr x h1 h2)
  replace hsz := Nat.le_trans hsz (Nat.le_of_eq hz9.symm)
  refine lv_aload_n hx hb dX4_init_19 rfl (lv_at hl 0 rfl) ?_
  refine lv_iload_n hx hb dX4_init_20 rfl (lv_at hl 3 rfl) ?_
  refine g_put S hE hS hq hz (C := RX2) (T := TX2) (N := 9) rfl inU2 tyX2 tyX2_ok nmX2 2 (by decide) tw_319 (Or.inl rfl) (Or.inr ⟨rfl, hin9, rfl⟩) (v := .int b3) rfl rfl (Nat.le_of_ble_eq_true rfl) dX4_init_21 (fun H locs hq oq hz9 hS => ?_)
  replace hfr := fun (x : Nat) (h1 : x < s.heap.size) (h2 : ¬ x = q) => (oq x h2).trans (hfr x h1 h2)
  replace hsz := Nat.le_trans hsz (Nat.le_of_eq hz9.symm)
  refine lv_aload_n hx hb dX4_init_24 rfl (lv_at hl 0 rfl) ?_
  refine lv_iload_n hx hb dX4_init_25 rfl (lv_at hl 3 rfl) ?_
  refine g_put S hE hS hq hz (C := RX2) (T := TX2) (N := 9) rfl inU2 tyX2 tyX2_ok nmX2 3 (by decide) tw_322 (Or.inl rfl) (Or.inl rfl) (v := .int b3) rfl rfl (Nat.le_of_ble_eq_true rfl) dX4_init_26 (fun H locs hq oq hz9 hS => ?_)
  replace hfr := fun (x : Nat) (h1 : x < s.heap.size) (h2 : ¬ x = q) => (oq x h2).trans (hfr x h1 h2)
  replace hsz := Nat.le_trans hsz (Nat.le_of_eq hz9.symm)
  exact c_ret S hr hlocks hS hq ⟨hsz, hfr⟩ ⟨Nat.le_of_ble_eq_true rfl, Nat.le_of_ble_eq_true rfl⟩ dX4_init_29
set_option maxHeartbeats 4000000 in
set_option maxRecDepth 100000 in
/-- Joint(kind, part, other, size, tongue) -/
theorem c_X1_init (l : Launch) (z : ZE) (q : Nat) (v0 v1 v2 v3 v4 v5 v6 v7 v8 : Value) (b1 b4 b5 : Int32) (y1 y2 : Nat) : Met l yX1_init (.code yX1_init cX1_init 6 none :: wU) ({ frames := 1, cells := 0, slots := 0, locals := 20 }) (PE z [.ref (q), .int b1, .ref (y1), .ref (y2), .int b4, .int b5] (fun H => zB z ≤ q ∧ va_at (zD z) vwCl (q, .inr (2, [v0, v1, v2, v3, v4, v5, v6, v7, v8])) H)) (qC (fun x => x = q) (fun H => va_at (zD z) vwCl (q, .inr (2, [.int b1, .ref y1, .ref y2, .int b5, .int b4, .int 0, .int 0, .int 0, .int 0])) H)) 0 0 (zA z) := by
  refine Met.ofW (cc := cX1_init) (maxL := 6) (ret := none) (by decide) rfl ?_
  intro p e s m args below meth c s₁ BD hml hv
  obtain ⟨rfl, hE, hW⟩ := hv
  have hts : ∀ w ∈ wU, w.before _ s = true := fun w h => atoms_spec (ws := .code yX1_init cX1_init 6 none :: wU) BD.pre w (List.mem_cons_of_mem _ h)
  have S : CallFix p m c cX1_init 6 s ([.ref (q), .int b1, .ref (y1), .ref (y2), .int b4, .int b5] : List Value).toArray wU RX1 := ⟨BD.exec, BD.bytes, hml, findClass_of_methodNamed BD.named, hts⟩
  have hx := S.1
  have hb := S.2.1
  have hown := S.2.2.2.1
  have hr := BD.returns
  have hlocks := BD.notSynchronized
  have hS : va_S (zA z) s.heap s.heap [] := va_S.rf
  have hl := lv_entry ([.ref (q), .int b1, .ref (y1), .ref (y2), .int b4, .int b5]) (n := 6) (Nat.le_of_ble_eq_true rfl)
  rw [lg_entry_eq]
  generalize (lg_sl ([.ref (q), .int b1, .ref (y1), .ref (y2), .int b4, .int b5]) ++ List.replicate (6 - (lg_sl ([.ref (q), .int b1, .ref (y1), .ref (y2), .int b4, .int b5])).length) Slot.unset).toArray = ls at hl ⊢
  have hl : lv_has ls 6 [(0, .ref (q)), (1, .int b1), (2, .ref (y1)), (3, .ref (y2)), (4, .int b4), (5, .int b5)] := hl
  obtain ⟨hz, hq⟩ := hW
  have hin9 : meth.name = "<init>" := (name_of_methodNamed BD.named BD.method).1
  have hfr : ∀ x : Nat, x < s.heap.size → ¬ x = q → s.heap[x]? = s.heap[x]? := fun _ _ _ => rfl
  have hsz : s.heap.size ≤ s.heap.size := Nat.le_refl _
  refine lv_aload_n hx hb dX1_init_0 rfl (lv_at hl 0 rfl) ?_
  refine g_obj S tw_522 hl.1 ⟨Nat.le_of_ble_eq_true rfl, Nat.le_of_ble_eq_true rfl⟩ (Nat.le_of_ble_eq_true rfl) dX1_init_1 ?_
  refine lv_aload_n hx hb dX1_init_4 rfl (lv_at hl 0 rfl) ?_
  refine lv_iconst (v := 0) hx hb dX1_init_5 (by decide) ?_
  refine g_put S hE hS hq hz (C := RX1) (T := TX1) (N := 9) rfl inU1 tyX1 tyX1_ok nmX1 5 (by decide) tw_533 (Or.inl rfl) (Or.inl rfl) (v := .int 0) rfl rfl (Nat.le_of_ble_eq_true rfl) dX1_init_6 (fun H locs hq oq hz9 hS => ?_)
  replace hfr := fun (x : Nat) (h1 : x < s.heap.size) (h2 : ¬ x = q) => (oq x h2).trans (hfr x h1 h2)
  replace hsz := Nat.le_trans hsz (Nat.le_of_eq hz9.symm)
  refine lv_aload_n hx hb dX1_init_9 rfl (lv_at hl 0 rfl) ?_
  refine lv_iconst (v := 0) hx hb dX1_init_10 (by decide) ?_
  refine g_put S hE hS hq hz (C := RX1) (T := TX1) (N := 9) rfl inU1 tyX1 tyX1_ok nmX1 6 (by decide) tw_535 (Or.inl rfl) (Or.inl rfl) (v := .int 0) rfl rfl (Nat.le_of_ble_eq_true rfl) dX1_init_11 (fun H locs hq oq hz9 hS => ?_)
  replace hfr := fun (x : Nat) (h1 : x < s.heap.size) (h2 : ¬ x = q) => (oq x h2).trans (hfr x h1 h2)
  replace hsz := Nat.le_trans hsz (Nat.le_of_eq hz9.symm)
  refine lv_aload_n hx hb dX1_init_14 rfl (lv_at hl 0 rfl) ?_
  refine lv_iconst (v := 0) hx hb dX1_init_15 (by decide) ?_
  refine g_put S hE hS hq hz (C := RX1) (T := TX1) (N := 9) rfl inU1 tyX1 tyX1_ok nmX1 7 (by decide) tw_537 (Or.inl rfl) (Or.inl rfl) (v := .int 0) rfl rfl (Nat.le_of_ble_eq_true rfl) dX1_init_16 (fun H locs hq oq hz9 hS => ?_)
  replace hfr := fun (x : Nat) (h1 : x < s.heap.size) (h2 : ¬ x = q) => (oq x h2).trans (hfr x h1 h2)
  replace hsz := Nat.le_trans hsz (Nat.le_of_eq hz9.symm)
  refine lv_aload_n hx hb dX1_init_19 rfl (lv_at hl 0 rfl) ?_
  refine lv_iconst (v := 0) hx hb dX1_init_20 (by decide) ?_
  refine g_put S hE hS hq hz (C := RX1) (T := TX1) (N := 9) rfl inU1 tyX1 tyX1_ok nmX1 8 (by decide) tw_539 (Or.inl rfl) (Or.inl rfl) (v := .int 0) rfl rfl (Nat.le_of_ble_eq_true rfl) dX1_init_21 (fun H locs hq oq hz9 hS => ?_)
  replace hfr := fun (x : Nat) (h1 : x < s.heap.size) (h2 : ¬ x = q) => (oq x h2).trans (hfr x h1 h2)
  replace hsz := Nat.le_trans hsz (Nat.le_of_eq hz9.symm)
  refine lv_aload_n hx hb dX1_init_24 rfl (lv_at hl 0 rfl) ?_
  refine lv_iload_n hx hb dX1_init_25 rfl (lv_at hl 1 rfl) ?_
  refine g_put S hE hS hq hz (C := RX1) (T := TX1) (N := 9) rfl inU1 tyX1 tyX1_ok nmX1 0 (by decide) tw_523 (Or.inl rfl) (Or.inr ⟨rfl, hin9, rfl⟩) (v := .int b1) rfl rfl (Nat.le_of_ble_eq_true rfl) dX1_init_26 (fun H locs hq oq hz9 hS => ?_)
  replace hfr := fun (x : Nat) (h1 : x < s.heap.size) (h2 : ¬ x = q) => (oq x h2).trans (hfr x h1 h2)
  replace hsz := Nat.le_trans hsz (Nat.le_of_eq hz9.symm)
  refine lv_aload_n hx hb dX1_init_29 rfl (lv_at hl 0 rfl) ?_
  refine lv_aload_n hx hb dX1_init_30 rfl (lv_at hl 2 rfl) ?_
  refine g_put S hE hS hq hz (C := RX1) (T := TX1) (N := 9) rfl inU1 tyX1 tyX1_ok nmX1 1 (by decide) tw_525 (Or.inl rfl) (Or.inr ⟨rfl, hin9, rfl⟩) (v := .ref (y1)) rfl rfl (Nat.le_of_ble_eq_true rfl) dX1_init_31 (fun H locs hq oq hz9 hS => ?_)
  replace hfr := fun (x : Nat) (h1 : x < s.heap.size) (h2 : ¬ x = q) => (oq x h2).trans (hfr x h1 h2)
  replace hsz := Nat.le_trans hsz (Nat.le_of_eq hz9.symm)
  refine lv_aload_n hx hb dX1_init_34 rfl (lv_at hl 0 rfl) ?_
  refine lv_aload_n hx hb dX1_init_35 rfl (lv_at hl 3 rfl) ?_
  refine g_put S hE hS hq hz (C := RX1) (T := TX1) (N := 9) rfl inU1 tyX1 tyX1_ok nmX1 2 (by decide) tw_527 (Or.inl rfl) (Or.inr ⟨rfl, hin9, rfl⟩) (v := .ref (y2)) rfl rfl (Nat.le_of_ble_eq_true rfl) dX1_init_36 (fun H locs hq oq hz9 hS => ?_)
  replace hfr := fun (x : Nat) (h1 : x < s.heap.size) (h2 : ¬ x = q) => (oq x h2).trans (hfr x h1 h2)
  replace hsz := Nat.le_trans hsz (Nat.le_of_eq hz9.symm)
  refine lv_aload_n hx hb dX1_init_39 rfl (lv_at hl 0 rfl) ?_
  refine lv_iload hx hb dX1_init_40 (lv_at hl 4 rfl) ?_
  refine g_put S hE hS hq hz (C := RX1) (T := TX1) (N := 9) rfl inU1 tyX1 tyX1_ok nmX1 4 (by decide) tw_531 (Or.inl rfl) (Or.inl rfl) (v := .int b4) rfl rfl (Nat.le_of_ble_eq_true rfl) dX1_init_42 (fun H locs hq oq hz9 hS => ?_)
  replace hfr := fun (x : Nat) (h1 : x < s.heap.size) (h2 : ¬ x = q) => (oq x h2).trans (hfr x h1 h2)
  replace hsz := Nat.le_trans hsz (Nat.le_of_eq hz9.symm)
  refine lv_aload_n hx hb dX1_init_45 rfl (lv_at hl 0 rfl) ?_
  refine lv_iload hx hb dX1_init_46 (lv_at hl 5 rfl) ?_
  refine g_put S hE hS hq hz (C := RX1) (T := TX1) (N := 9) rfl inU1 tyX1 tyX1_ok nmX1 3 (by decide) tw_529 (Or.inl rfl) (Or.inr ⟨rfl, hin9, rfl⟩) (v := .int b5) rfl rfl (Nat.le_of_ble_eq_true rfl) dX1_init_48 (fun H locs hq oq hz9 hS => ?_)
  replace hfr := fun (x : Nat) (h1 : x < s.heap.size) (h2 : ¬ x = q) => (oq x h2).trans (hfr x h1 h2)
  replace hsz := Nat.le_trans hsz (Nat.le_of_eq hz9.symm)
  exact c_ret S hr hlocks hS hq ⟨hsz, hfr⟩ ⟨Nat.le_of_ble_eq_true rfl, Nat.le_of_ble_eq_true rfl⟩ dX1_init_51
set_option maxHeartbeats 4000000 in
set_option maxRecDepth 100000 in
/-- Part(number, board, from, length, width) -/
theorem c_X2_init (l : Launch) (z : ZE) (w : WG) (g gm : GS) (o : Nat → Int64) (q : Nat) (v0 v1 v2 v3 v4 v5 v6 v7 v8 : Value) (n b : Nat) (hb9 : b < nb g) (b3 b4 b5 : Int32) : Met l yX2_init (.code yX2_init cX2_init 6 none :: wU) ({ frames := 2, cells := 0, slots := 0, locals := 43 }) (PE z [.ref (q), .int (nI n), .ref (wad w 2 (b)), .int b3, .int b4, .int b5] (fun H => (zB z ≤ q ∧ va_at (zD z) vwCl (q, .inr (3, [v0, v1, v2, v3, v4, v5, v6, v7, v8])) H) ∧ WW z w g gm o H)) (qC (fun x => x = q) (fun H => va_at (zD z) vwCl (q, .inr (3, [.int (g 6 b), .int b5, .int (g 12 b), .int (g 12 b), .int 0, .int (nI n), .ref (wad w 2 b), .int b3, .int b4])) H)) 0 0 (zA z) := by
  refine Met.ofW (cc := cX2_init) (maxL := 6) (ret := none) (by decide) rfl ?_
  intro p e s m args below meth c s₁ BD hml hv
  obtain ⟨rfl, hE, hW⟩ := hv
  have hts : ∀ w ∈ wU, w.before _ s = true := fun w h => atoms_spec (ws := .code yX2_init cX2_init 6 none :: wU) BD.pre w (List.mem_cons_of_mem _ h)
  have S : CallFix p m c cX2_init 6 s ([.ref (q), .int (nI n), .ref (wad w 2 (b)), .int b3, .int b4, .int b5] : List Value).toArray wU RX2 := ⟨BD.exec, BD.bytes, hml, findClass_of_methodNamed BD.named, hts⟩
  have hx := S.1
  have hb := S.2.1
  have hown := S.2.2.2.1
  have hr := BD.returns
  have hlocks := BD.notSynchronized
  have hS : va_S (zA z) s.heap s.heap [] := va_S.rf
  have hl := lv_entry ([.ref (q), .int (nI n), .ref (wad w 2 (b)), .int b3, .int b4, .int b5]) (n := 6) (Nat.le_of_ble_eq_true rfl)
  rw [lg_entry_eq]
  generalize (lg_sl ([.ref (q), .int (nI n), .ref (wad w 2 (b)), .int b3, .int b4, .int b5]) ++ List.replicate (6 - (lg_sl ([.ref (q), .int (nI n), .ref (wad w 2 (b)), .int b3, .int b4, .int b5])).length) Slot.unset).toArray = ls at hl ⊢
  have hl : lv_has ls 6 [(0, .ref (q)), (1, .int (nI n)), (2, .ref (wad w 2 (b))), (3, .int b3), (4, .int b4), (5, .int b5)] := hl
  obtain ⟨⟨hz, hq⟩, hW⟩ := hW
  have hin9 : meth.name = "<init>" := (name_of_methodNamed BD.named BD.method).1
  have hfr : ∀ x : Nat, x < s.heap.size → ¬ x = q → s.heap[x]? = s.heap[x]? := fun _ _ _ => rfl
  have hsz : s.heap.size ≤ s.heap.size := Nat.le_refl _
  refine lv_aload_n hx hb dX2_init_0 rfl (lv_at hl 0 rfl) ?_
  refine lv_aload_n hx hb dX2_init_1 rfl (lv_at hl 2 rfl) ?_
  refine g_get S hE (hW.bd (i := b) (show b < nb g by omega)) (C := RX0) (T := TX0) (N := 11) (v := .int (g 6 b)) rfl inU0 0 (by decide) tw_312 (Or.inr tw_313) rfl dX2_init_2 ?_
  refine lv_iload hx hb dX2_init_5 (lv_at hl 5 rfl) ?_
  refine lv_aload_n hx hb dX2_init_7 rfl (lv_at hl 2 rfl) ?_
  refine g_get S hE (hW.bd (i := b) (show b < nb g by omega)) (C := RX0) (T := TX0) (N := 11) (v := .int (g 12 b)) rfl inU0 3 (by decide) tw_320 (Or.inr tw_321) rfl dX2_init_8 ?_
  refine g_init (As := [.int (g 6 b), .int b5, .int (g 12 b)]) (rest := []) S hE hS (c_wooP l z q v0 v1 v2 v3 v4 v5 v6 v7 v8 (g 6 b) (b5) (g 12 b)) (x_cwI 3 hts tw_450 tw_296 tw_13 tw_297 rfl rfl (by decide +kernel) ⟨Nat.le_of_ble_eq_true rfl, Nat.le_of_ble_eq_true rfl⟩ rfl) ⟨hz, hq⟩ rfl hl.1 rfl (Nat.le_of_ble_eq_true rfl) dX2_init_11 ⟨Nat.le_of_ble_eq_true rfl, Nat.le_of_ble_eq_true rfl⟩ (fun x _ e => e ▸ hz) (fun H locs hB9 hz9 ho9 hS => ?_)
  replace hfr := fun (x : Nat) (h1 : x < s.heap.size) (h2 : ¬ x = q) => (ho9 x (Nat.lt_of_lt_of_le h1 hsz) h2).trans (hfr x h1 h2)
  replace hsz := Nat.le_trans hsz hz9
  replace hq := hB9
  refine lv_aload_n hx hb dX2_init_14 rfl (lv_at hl 0 rfl) ?_
  refine lv_iload_n hx hb dX2_init_15 rfl (lv_at hl 1 rfl) ?_
  refine g_put S hE hS hq hz (C := RX2) (T := TX2) (N := 9) rfl inU2 tyX2 tyX2_ok nmX2 5 (by decide) tw_451 (Or.inl rfl) (Or.inr ⟨rfl, hin9, rfl⟩) (v := .int (nI n)) rfl rfl (Nat.le_of_ble_eq_true rfl) dX2_init_16 (fun H locs hq oq hz9 hS => ?_)
  replace hfr := fun (x : Nat) (h1 : x < s.heap.size) (h2 : ¬ x = q) => (oq x h2).trans (hfr x h1 h2)
  replace hsz := Nat.le_trans hsz (Nat.le_of_eq hz9.symm)
  refine lv_aload_n hx hb dX2_init_19 rfl (lv_at hl 0 rfl) ?_
  refine lv_aload_n hx hb dX2_init_20 rfl (lv_at hl 2 rfl) ?_
  refine g_put S hE hS hq hz (C := RX2) (T := TX2) (N := 9) rfl inU2 tyX2 tyX2_ok nmX2 6 (by decide) tw_453 (Or.inl rfl) (Or.inr ⟨rfl, hin9, rfl⟩) (v := .ref (wad w 2 (b))) rfl rfl (Nat.le_of_ble_eq_true rfl) dX2_init_21 (fun H locs hq oq hz9 hS => ?_)
  replace hfr := fun (x : Nat) (h1 : x < s.heap.size) (h2 : ¬ x = q) => (oq x h2).trans (hfr x h1 h2)
  replace hsz := Nat.le_trans hsz (Nat.le_of_eq hz9.symm)
  refine lv_aload_n hx hb dX2_init_24 rfl (lv_at hl 0 rfl) ?_
  refine lv_iload_n hx hb dX2_init_25 rfl (lv_at hl 3 rfl) ?_
  refine g_put S hE hS hq hz (C := RX2) (T := TX2) (N := 9) rfl inU2 tyX2 tyX2_ok nmX2 7 (by decide) tw_455 (Or.inl rfl) (Or.inr ⟨rfl, hin9, rfl⟩) (v := .int b3) rfl rfl (Nat.le_of_ble_eq_true rfl) dX2_init_26 (fun H locs hq oq hz9 hS => ?_)
  replace hfr := fun (x : Nat) (h1 : x < s.heap.size) (h2 : ¬ x = q) => (oq x h2).trans (hfr x h1 h2)
  replace hsz := Nat.le_trans hsz (Nat.le_of_eq hz9.symm)
  refine lv_aload_n hx hb dX2_init_29 rfl (lv_at hl 0 rfl) ?_
  refine lv_iload hx hb dX2_init_30 (lv_at hl 4 rfl) ?_
  refine g_put S hE hS hq hz (C := RX2) (T := TX2) (N := 9) rfl inU2 tyX2 tyX2_ok nmX2 8 (by decide) tw_457 (Or.inl rfl) (Or.inr ⟨rfl, hin9, rfl⟩) (v := .int b4) rfl rfl (Nat.le_of_ble_eq_true rfl) dX2_init_32 (fun H locs hq oq hz9 hS => ?_)
  replace hfr := fun (x : Nat) (h1 : x < s.heap.size) (h2 : ¬ x = q) => (oq x h2).trans (hfr x h1 h2)
  replace hsz := Nat.le_trans hsz (Nat.le_of_eq hz9.symm)
  exact c_ret S hr hlocks hS hq ⟨hsz, hfr⟩ ⟨Nat.le_of_ble_eq_true rfl, Nat.le_of_ble_eq_true rfl⟩ dX2_init_35
