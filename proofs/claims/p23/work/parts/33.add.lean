/-! ===== ArrayList.add ===== -/
set_option maxHeartbeats 4000000 in
set_option maxRecDepth 100000 in
/-- ArrayList.add(thing, array, size), with room -/
theorem c_add3R (l : Launch) (z : ZE) (ci : Nat) {rc : vw_C} (hc : vwCl[ci]? = some rc) (hnw : (rc.1, "java/lang/Object") ∈ nwL) (h0 e0 n0 cap : Nat) (a vv : Nat) (vs : List Value) (f : Nat → Option Nat) (hn : n0 < cap) (hcap : cap ≤ 100) (v0 : Value) : Met l yJx4a65c_add_72be8 (.code yJx4a65c_add_72be8 cJx4a65c_add_72be8 4 none :: wU) ({ frames := 0, cells := 1, slots := 100, locals := 0 }) (PE z [.ref (a), .ref (vv), .ref (e0), .int (nI n0)] (fun H => H.size = h0 ∧ zB z ≤ a ∧ va_at (zD z) vwCl (a, .inr (0, [v0, .ref (e0), .int (nI n0)])) H ∧ (va_at (zD z) vwCl (vv, .inr (ci, vs)) H ∧ vv ≠ a) ∧ zB z ≤ e0 ∧ va_at (zD z) vwCl (e0, cQ (zO z) cap f) H ∧ a ≠ e0 ∧ vv ≠ e0)) (qC (fun x => x = a ∨ x = e0) (fun H => va_at (zD z) vwCl (a, .inr (0, [v0, .ref e0, .int (nI (n0 + 1))])) H ∧ va_at (zD z) vwCl (e0, cQ (zO z) cap (va_up f n0 (some vv))) H)) 1 100 (zA z) := by
  refine Met.ofW (cc := cJx4a65c_add_72be8) (maxL := 4) (ret := none) (by decide) rfl ?_
  intro p e s m args below meth c s₁ BD hml hv
  obtain ⟨rfl, hE, hW⟩ := hv
  have hts : ∀ w ∈ wU, w.before _ s = true := fun w h => atoms_spec (ws := .code yJx4a65c_add_72be8 cJx4a65c_add_72be8 4 none :: wU) BD.pre w (List.mem_cons_of_mem _ h)
  have S : CallFix p m c cJx4a65c_add_72be8 4 s ([.ref (a), .ref (vv), .ref (e0), .int (nI n0)] : List Value).toArray wU RJx4a65c := ⟨BD.exec, BD.bytes, hml, findClass_of_methodNamed BD.named, hts⟩
  have hx := S.1
  have hb := S.2.1
  have hown := S.2.2.2.1
  have hr := BD.returns
  have hlocks := BD.notSynchronized
  have hS : va_S (zA z) s.heap s.heap [] := va_S.rf
  have hl := lv_entry ([.ref (a), .ref (vv), .ref (e0), .int (nI n0)]) (n := 4) (Nat.le_of_ble_eq_true rfl)
  rw [lg_entry_eq]
  generalize (lg_sl ([.ref (a), .ref (vv), .ref (e0), .int (nI n0)]) ++ List.replicate (4 - (lg_sl ([.ref (a), .ref (vv), .ref (e0), .int (nI n0)])).length) Slot.unset).toArray = ls at hl ⊢
  have hl : lv_has ls 4 [(0, .ref (a)), (1, .ref (vv)), (2, .ref (e0)), (3, .int (nI n0))] := hl
  obtain ⟨hsz0, hza, ha, ⟨hv, hva⟩, hze, he0, hae, hve⟩ := hW
  have hlt := ha.lt
  have hzz := hE.2.2.2.2.1
  refine lv_iload_n hx hb dJx4a65c_add_72be8_0 rfl (lv_at hl 3 rfl) ?_
  refine lv_aload_n hx hb dJx4a65c_add_72be8_1 rfl (lv_at hl 2 rfl) ?_
  refine g_alenq S hE he0 dJx4a65c_add_72be8_2 ?_
  refine g_icmp_ne S (by omega) (by omega) (tgt := 11) dJx4a65c_add_72be8_3 (by decide) (fun c_3 => ?_) (fun h9 => absurd h9 (by omega))
  refine lv_aload_n hx hb dJx4a65c_add_72be8_11 rfl (lv_at hl 2 rfl) ?_
  refine lv_iload_n hx hb dJx4a65c_add_72be8_12 rfl (lv_at hl 3 rfl) ?_
  refine lv_aload_n hx hb dJx4a65c_add_72be8_13 rfl (lv_at hl 1 rfl) ?_
  refine g_aastq S hE hS hc hnw he0 hze hv (i := n0) hn (by omega) dJx4a65c_add_72be8_14 (fun H locs he0 oq9 zq hS => ?_)
  replace ha := ha.kept (oq9 a hae)
  refine lv_aload_n hx hb dJx4a65c_add_72be8_15 rfl (lv_at hl 0 rfl) ?_
  refine lv_iload_n hx hb dJx4a65c_add_72be8_16 rfl (lv_at hl 3 rfl) ?_
  refine lv_iconst (v := 1) hx hb dJx4a65c_add_72be8_17 (by decide) ?_
  refine lv_iadd hx hb dJx4a65c_add_72be8_18 ?_
  rw [show (nI n0 : Int32) + 1 = nI (n0 + 1) from nI_add _ 1]
  refine g_put S hE hS ha hza (C := RJx4a65c) (T := TJx4a65c) (N := 3) rfl inUL tyJx4a65c tyJx4a65c_ok nmJx4a65c 2 (by decide) tw_46 (Or.inl rfl) (Or.inl rfl) (v := .int (nI (n0 + 1))) rfl rfl (Nat.le_of_ble_eq_true rfl) dJx4a65c_add_72be8_19 (fun H locs ha oq hz9 hS => ?_)
  replace he0 := he0.kept (oq e0 (Ne.symm hae))
  have hfr : ∀ x : Nat, x < s.heap.size → ¬ (x = a ∨ x = e0) → H[x]? = s.heap[x]? := fun x h1 h2 => (oq x (fun e => h2 (Or.inl e))).trans (oq9 x (fun e => h2 (Or.inr e)))
  have hsz : s.heap.size ≤ H.size := by omega
  exact c_ret S hr hlocks hS ⟨ha, he0⟩ ⟨hsz, hfr⟩ ⟨Nat.le_of_ble_eq_true rfl, Nat.le_of_ble_eq_true rfl⟩ dJx4a65c_add_72be8_22
set_option maxHeartbeats 4000000 in
set_option maxRecDepth 100000 in
/-- ArrayList.add(thing), with room -/
theorem c_addR (l : Launch) (z : ZE) (ci : Nat) {rc : vw_C} (hc : vwCl[ci]? = some rc) (hnw : (rc.1, "java/lang/Object") ∈ nwL) (h0 e0 n0 cap : Nat) (a vv : Nat) (vs : List Value) (f : Nat → Option Nat) (hn : n0 < cap) (hcap : cap ≤ 100) (mc9 : Int32) : Met l yJx4a65c_add_9ea2d (.code yJx4a65c_add_9ea2d cJx4a65c_add_9ea2d 2 (some .boolean) :: wU) ({ frames := 1, cells := 1, slots := 100, locals := 23 }) (PE z [.ref (a), .ref (vv)] (fun H => H.size = h0 ∧ zB z ≤ a ∧ va_at (zD z) vwCl (a, .inr (0, [.int mc9, .ref (e0), .int (nI n0)])) H ∧ (va_at (zD z) vwCl (vv, .inr (ci, vs)) H ∧ vv ≠ a) ∧ zB z ≤ e0 ∧ va_at (zD z) vwCl (e0, cQ (zO z) cap f) H ∧ a ≠ e0 ∧ vv ≠ e0)) (qZ (fun x => x = a ∨ x = e0) (fun H => va_at (zD z) vwCl (a, .inr (0, [.int (mc9 + 1), .ref e0, .int (nI (n0 + 1))])) H ∧ va_at (zD z) vwCl (e0, cQ (zO z) cap (va_up f n0 (some vv))) H)) 1 100 (zA z) := by
  refine Met.ofW (cc := cJx4a65c_add_9ea2d) (maxL := 2) (ret := (some .boolean)) (by decide) rfl ?_
  intro p e s m args below meth c s₁ BD hml hv
  obtain ⟨rfl, hE, hW⟩ := hv
  have hts : ∀ w ∈ wU, w.before _ s = true := fun w h => atoms_spec (ws := .code yJx4a65c_add_9ea2d cJx4a65c_add_9ea2d 2 (some .boolean) :: wU) BD.pre w (List.mem_cons_of_mem _ h)
  have S : CallFix p m c cJx4a65c_add_9ea2d 2 s ([.ref (a), .ref (vv)] : List Value).toArray wU RJx4a65c := ⟨BD.exec, BD.bytes, hml, findClass_of_methodNamed BD.named, hts⟩
  have hx := S.1
  have hb := S.2.1
  have hown := S.2.2.2.1
  have hr := BD.returns
  have hlocks := BD.notSynchronized
  have hS : va_S (zA z) s.heap s.heap [] := va_S.rf
  have hl := lv_entry ([.ref (a), .ref (vv)]) (n := 2) (Nat.le_of_ble_eq_true rfl)
  rw [lg_entry_eq]
  generalize (lg_sl ([.ref (a), .ref (vv)]) ++ List.replicate (2 - (lg_sl ([.ref (a), .ref (vv)])).length) Slot.unset).toArray = ls at hl ⊢
  have hl : lv_has ls 2 [(0, .ref (a)), (1, .ref (vv))] := hl
  obtain ⟨hsz0, hza, ha, ⟨hv, hva⟩, hze, he0, hae, hve⟩ := hW
  have hlt := ha.lt
  refine lv_aload_n hx hb dJx4a65c_add_9ea2d_0 rfl (lv_at hl 0 rfl) ?_
  refine lv_dup hx hb dJx4a65c_add_9ea2d_1 rfl ?_
  refine g_get S hE ha (C := RJx4a65c) (T := TJx4a65c) (N := 3) (v := .int mc9) rfl inUL 0 (by decide) tw_48 (Or.inr tw_49) rfl dJx4a65c_add_9ea2d_2 ?_
  refine lv_iconst (v := 1) hx hb dJx4a65c_add_9ea2d_5 (by decide) ?_
  refine lv_iadd hx hb dJx4a65c_add_9ea2d_6 ?_
  refine g_put S hE hS ha hza (C := RJx4a65c) (T := TJx4a65c) (N := 3) rfl inUL tyJx4a65c tyJx4a65c_ok nmJx4a65c 0 (by decide) tw_48 (Or.inr tw_49) (Or.inl rfl) (v := .int (mc9 + 1)) rfl rfl (Nat.le_of_ble_eq_true rfl) dJx4a65c_add_9ea2d_7 (fun H locs ha oq hz9 hS => ?_)
  replace hv := hv.kept (oq vv hva)
  have hf1 : ∀ x : Nat, ¬ x = a → H[x]? = s.heap[x]? := fun x h2 => oq x h2
  have hs1 := hz9
  replace hsz0 : H.size = h0 := by omega
  replace he0 := he0.kept (oq e0 (Ne.symm hae))
  refine lv_aload_n hx hb dJx4a65c_add_9ea2d_10 rfl (lv_at hl 0 rfl) ?_
  refine lv_aload_n hx hb dJx4a65c_add_9ea2d_11 rfl (lv_at hl 1 rfl) ?_
  refine lv_aload_n hx hb dJx4a65c_add_9ea2d_12 rfl (lv_at hl 0 rfl) ?_
  refine g_get S hE ha (C := RJx4a65c) (T := TJx4a65c) (N := 3) (v := .ref (e0)) rfl inUL 1 (by decide) tw_45 (Or.inl rfl) rfl dJx4a65c_add_9ea2d_13 ?_
  refine lv_aload_n hx hb dJx4a65c_add_9ea2d_16 rfl (lv_at hl 0 rfl) ?_
  refine g_get S hE ha (C := RJx4a65c) (T := TJx4a65c) (N := 3) (v := .int (nI n0)) rfl inUL 2 (by decide) tw_46 (Or.inl rfl) rfl dJx4a65c_add_9ea2d_17 ?_
  refine g_callV9 (As := [.ref (vv), .ref (e0), .int (nI n0)]) (rest := []) S hE hS (c_add3R l z ci hc hnw h0 e0 n0 cap a vv vs f hn hcap (.int (mc9 + 1))) (cwV 3 hts (gU_V tw_357 tw_359 tp_5 tw_4 tw_360) rfl rfl rfl (by decide +kernel) ⟨Nat.le_of_ble_eq_true rfl, Nat.le_of_ble_eq_true rfl⟩) (hE.recv ha (q := (RJx4a65c, TJx4a65c, 3)) rfl) ⟨hsz0, hza, ha, ⟨hv, hva⟩, hze, he0, hae, hve⟩ rfl hl.1 rfl (Nat.le_of_ble_eq_true rfl) dJx4a65c_add_9ea2d_20 ⟨Nat.le_of_ble_eq_true rfl, Nat.le_of_ble_eq_true rfl⟩ (fun x _ e => e.elim (fun e => e ▸ hza) (fun e => e ▸ hze)) (fun H locs hB9 hz9 ho9 hS => ?_)
  have hfr : ∀ x : Nat, x < s.heap.size → ¬ (x = a ∨ x = e0) → H[x]? = s.heap[x]? := fun x h1 h2 => (ho9 x (by omega) h2).trans (hf1 x (fun e => h2 (Or.inl e)))
  have hsz : s.heap.size ≤ H.size := by omega
  refine lv_iconst (v := 1) hx hb dJx4a65c_add_9ea2d_23 (by decide) ?_
  exact c_zret S hr hlocks hS hB9 ⟨hsz, hfr⟩ ⟨Nat.le_of_ble_eq_true rfl, Nat.le_of_ble_eq_true rfl⟩ dJx4a65c_add_9ea2d_24
set_option maxHeartbeats 4000000 in
set_option maxRecDepth 100000 in
/-- ArrayList.add(thing, array, size), of an empty list -/
theorem c_add30 (l : Launch) (z : ZE) (ci : Nat) {rc : vw_C} (hc : vwCl[ci]? = some rc) (hnw : (rc.1, "java/lang/Object") ∈ nwL) (h0 : Nat) (a vv : Nat) (vs : List Value) (v0 : Value) : Met l yJx4a65c_add_72be8 (.code yJx4a65c_add_72be8 cJx4a65c_add_72be8 4 none :: wU) ({ frames := 3, cells := 1, slots := 100, locals := 60 }) (PE z [.ref (a), .ref (vv), .ref (zd z), .int (nI 0)] (fun H => H.size = h0 ∧ zB z ≤ a ∧ va_at (zD z) vwCl (a, .inr (0, [v0, .ref (zd z), .int (nI 0)])) H ∧ (va_at (zD z) vwCl (vv, .inr (ci, vs)) H ∧ vv ≠ a))) (qC (fun x => x = a) (fun H => va_at (zD z) vwCl (a, .inr (0, [v0, .ref h0, .int (nI (0 + 1))])) H ∧ va_at (zD z) vwCl (h0, cQ (zO z) 10 (va_up (fun _ => none) 0 (some vv))) H)) 1 100 (zA z) := by
  refine Met.ofW (cc := cJx4a65c_add_72be8) (maxL := 4) (ret := none) (by decide) rfl ?_
  intro p e s m args below meth c s₁ BD hml hv
  obtain ⟨rfl, hE, hW⟩ := hv
  have hts : ∀ w ∈ wU, w.before _ s = true := fun w h => atoms_spec (ws := .code yJx4a65c_add_72be8 cJx4a65c_add_72be8 4 none :: wU) BD.pre w (List.mem_cons_of_mem _ h)
  have S : CallFix p m c cJx4a65c_add_72be8 4 s ([.ref (a), .ref (vv), .ref (zd z), .int (nI 0)] : List Value).toArray wU RJx4a65c := ⟨BD.exec, BD.bytes, hml, findClass_of_methodNamed BD.named, hts⟩
  have hx := S.1
  have hb := S.2.1
  have hown := S.2.2.2.1
  have hr := BD.returns
  have hlocks := BD.notSynchronized
  have hS : va_S (zA z) s.heap s.heap [] := va_S.rf
  have hl := lv_entry ([.ref (a), .ref (vv), .ref (zd z), .int (nI 0)]) (n := 4) (Nat.le_of_ble_eq_true rfl)
  rw [lg_entry_eq]
  generalize (lg_sl ([.ref (a), .ref (vv), .ref (zd z), .int (nI 0)]) ++ List.replicate (4 - (lg_sl ([.ref (a), .ref (vv), .ref (zd z), .int (nI 0)])).length) Slot.unset).toArray = ls at hl ⊢
  have hl : lv_has ls 4 [(0, .ref (a)), (1, .ref (vv)), (2, .ref (zd z)), (3, .int (nI 0))] := hl
  obtain ⟨hsz0, hza, ha, ⟨hv, hva⟩⟩ := hW
  have hlt := ha.lt
  have hzz := hE.2.2.2.2.1
  refine lv_iload_n hx hb dJx4a65c_add_72be8_0 rfl (lv_at hl 3 rfl) ?_
  refine lv_aload_n hx hb dJx4a65c_add_72be8_1 rfl (lv_at hl 2 rfl) ?_
  refine g_alen0 S hE hS dJx4a65c_add_72be8_2 ?_
  refine g_icmp_ne S (by omega) (by omega) (tgt := 11) dJx4a65c_add_72be8_3 (by decide) (fun h9 => absurd h9 (fun h => h rfl)) (fun c_3 => ?_)
  refine lv_aload_n hx hb dJx4a65c_add_72be8_6 rfl (lv_at hl 0 rfl) ?_
  refine g_callRV (As := []) (rest := []) S hE hS (c_gro0 l z h0 a v0) (cwV 0 hts (gU_V tw_361 tw_363 tp_6 tw_4 tw_364) rfl rfl rfl (by decide +kernel) ⟨Nat.le_of_ble_eq_true rfl, Nat.le_of_ble_eq_true rfl⟩) (hE.recv ha (q := (RJx4a65c, TJx4a65c, 3)) rfl) ⟨hsz0, hza, ha⟩ rfl hl.1 rfl (Nat.le_of_ble_eq_true rfl) dJx4a65c_add_72be8_7 ⟨Nat.le_of_ble_eq_true rfl, Nat.le_of_ble_eq_true rfl⟩ (fun x _ e => e ▸ hza) (fun H locs hB9 hz9 ho9 hS => ?_)
  obtain ⟨hq, ha⟩ := hB9
  replace hv := hv.kept (ho9 vv hv.lt hva)
  refine lv_astore_n (lv' := [(2, .ref (h0)), (0, .ref (a)), (1, .ref (vv)), (3, .int (nI 0))]) hx hb dJx4a65c_add_72be8_10 rfl hl (by decide) rfl (fun ls hl => ?_)
  refine lv_aload_n hx hb dJx4a65c_add_72be8_11 rfl (lv_at hl 0 rfl) ?_
  refine lv_iload_n hx hb dJx4a65c_add_72be8_12 rfl (lv_at hl 3 rfl) ?_
  refine lv_aload_n hx hb dJx4a65c_add_72be8_13 rfl (lv_at hl 2 rfl) ?_
  refine g_aastq S hE hS hc hnw hq (by omega) hv (i := 0) (by omega) (by omega) dJx4a65c_add_72be8_14 (fun H locs hq oq9 zq hS => ?_)
  replace ha := ha.kept (oq9 a (by omega))
  refine lv_aload_n hx hb dJx4a65c_add_72be8_15 rfl (lv_at hl 1 rfl) ?_
  refine lv_iload_n hx hb dJx4a65c_add_72be8_16 rfl (lv_at hl 3 rfl) ?_
  refine lv_iconst (v := 1) hx hb dJx4a65c_add_72be8_17 (by decide) ?_
  refine lv_iadd hx hb dJx4a65c_add_72be8_18 ?_
  rw [show (nI 0 : Int32) + 1 = nI (0 + 1) from nI_add _ 1]
  refine g_put S hE hS ha hza (C := RJx4a65c) (T := TJx4a65c) (N := 3) rfl inUL tyJx4a65c tyJx4a65c_ok nmJx4a65c 2 (by decide) tw_46 (Or.inl rfl) (Or.inl rfl) (v := .int (nI (0 + 1))) rfl rfl (Nat.le_of_ble_eq_true rfl) dJx4a65c_add_72be8_19 (fun H locs ha oq hz9 hS => ?_)
  replace hq := hq.kept (oq h0 (by omega))
  have hfr : ∀ x : Nat, x < s.heap.size → ¬ x = a → H[x]? = s.heap[x]? := fun x h1 h2 => (oq x h2).trans ((oq9 x (by omega)).trans (ho9 x h1 h2))
  have hsz : s.heap.size ≤ H.size := by omega
  exact c_ret S hr hlocks hS ⟨ha, hq⟩ ⟨hsz, hfr⟩ ⟨Nat.le_of_ble_eq_true rfl, Nat.le_of_ble_eq_true rfl⟩ dJx4a65c_add_72be8_22
set_option maxHeartbeats 4000000 in
set_option maxRecDepth 100000 in
/-- ArrayList.add(thing), of an empty list -/
theorem c_add0 (l : Launch) (z : ZE) (ci : Nat) {rc : vw_C} (hc : vwCl[ci]? = some rc) (hnw : (rc.1, "java/lang/Object") ∈ nwL) (h0 : Nat) (a vv : Nat) (vs : List Value) (mc9 : Int32) : Met l yJx4a65c_add_9ea2d (.code yJx4a65c_add_9ea2d cJx4a65c_add_9ea2d 2 (some .boolean) :: wU) ({ frames := 4, cells := 1, slots := 100, locals := 83 }) (PE z [.ref (a), .ref (vv)] (fun H => H.size = h0 ∧ zB z ≤ a ∧ va_at (zD z) vwCl (a, .inr (0, [.int mc9, .ref (zd z), .int (nI 0)])) H ∧ (va_at (zD z) vwCl (vv, .inr (ci, vs)) H ∧ vv ≠ a))) (qZ (fun x => x = a) (fun H => va_at (zD z) vwCl (a, .inr (0, [.int (mc9 + 1), .ref h0, .int (nI (0 + 1))])) H ∧ va_at (zD z) vwCl (h0, cQ (zO z) 10 (va_up (fun _ => none) 0 (some vv))) H)) 1 100 (zA z) := by
  refine Met.ofW (cc := cJx4a65c_add_9ea2d) (maxL := 2) (ret := (some .boolean)) (by decide) rfl ?_
  intro p e s m args below meth c s₁ BD hml hv
  obtain ⟨rfl, hE, hW⟩ := hv
  have hts : ∀ w ∈ wU, w.before _ s = true := fun w h => atoms_spec (ws := .code yJx4a65c_add_9ea2d cJx4a65c_add_9ea2d 2 (some .boolean) :: wU) BD.pre w (List.mem_cons_of_mem _ h)
  have S : CallFix p m c cJx4a65c_add_9ea2d 2 s ([.ref (a), .ref (vv)] : List Value).toArray wU RJx4a65c := ⟨BD.exec, BD.bytes, hml, findClass_of_methodNamed BD.named, hts⟩
  have hx := S.1
  have hb := S.2.1
  have hown := S.2.2.2.1
  have hr := BD.returns
  have hlocks := BD.notSynchronized
  have hS : va_S (zA z) s.heap s.heap [] := va_S.rf
  have hl := lv_entry ([.ref (a), .ref (vv)]) (n := 2) (Nat.le_of_ble_eq_true rfl)
  rw [lg_entry_eq]
  generalize (lg_sl ([.ref (a), .ref (vv)]) ++ List.replicate (2 - (lg_sl ([.ref (a), .ref (vv)])).length) Slot.unset).toArray = ls at hl ⊢
  have hl : lv_has ls 2 [(0, .ref (a)), (1, .ref (vv))] := hl
  obtain ⟨hsz0, hza, ha, ⟨hv, hva⟩⟩ := hW
  have hlt := ha.lt
  refine lv_aload_n hx hb dJx4a65c_add_9ea2d_0 rfl (lv_at hl 0 rfl) ?_
  refine lv_dup hx hb dJx4a65c_add_9ea2d_1 rfl ?_
  refine g_get S hE ha (C := RJx4a65c) (T := TJx4a65c) (N := 3) (v := .int mc9) rfl inUL 0 (by decide) tw_48 (Or.inr tw_49) rfl dJx4a65c_add_9ea2d_2 ?_
  refine lv_iconst (v := 1) hx hb dJx4a65c_add_9ea2d_5 (by decide) ?_
  refine lv_iadd hx hb dJx4a65c_add_9ea2d_6 ?_
  refine g_put S hE hS ha hza (C := RJx4a65c) (T := TJx4a65c) (N := 3) rfl inUL tyJx4a65c tyJx4a65c_ok nmJx4a65c 0 (by decide) tw_48 (Or.inr tw_49) (Or.inl rfl) (v := .int (mc9 + 1)) rfl rfl (Nat.le_of_ble_eq_true rfl) dJx4a65c_add_9ea2d_7 (fun H locs ha oq hz9 hS => ?_)
  replace hv := hv.kept (oq vv hva)
  have hf1 : ∀ x : Nat, ¬ x = a → H[x]? = s.heap[x]? := fun x h2 => oq x h2
  have hs1 := hz9
  replace hsz0 : H.size = h0 := by omega
  refine lv_aload_n hx hb dJx4a65c_add_9ea2d_10 rfl (lv_at hl 0 rfl) ?_
  refine lv_aload_n hx hb dJx4a65c_add_9ea2d_11 rfl (lv_at hl 1 rfl) ?_
  refine lv_aload_n hx hb dJx4a65c_add_9ea2d_12 rfl (lv_at hl 0 rfl) ?_
  refine g_get S hE ha (C := RJx4a65c) (T := TJx4a65c) (N := 3) (v := .ref (zd z)) rfl inUL 1 (by decide) tw_45 (Or.inl rfl) rfl dJx4a65c_add_9ea2d_13 ?_
  refine lv_aload_n hx hb dJx4a65c_add_9ea2d_16 rfl (lv_at hl 0 rfl) ?_
  refine g_get S hE ha (C := RJx4a65c) (T := TJx4a65c) (N := 3) (v := .int (nI 0)) rfl inUL 2 (by decide) tw_46 (Or.inl rfl) rfl dJx4a65c_add_9ea2d_17 ?_
  refine g_callV9 (As := [.ref (vv), .ref (zd z), .int (nI 0)]) (rest := []) S hE hS (c_add30 l z ci hc hnw h0 a vv vs (.int (mc9 + 1))) (cwV 3 hts (gU_V tw_357 tw_359 tp_5 tw_4 tw_360) rfl rfl rfl (by decide +kernel) ⟨Nat.le_of_ble_eq_true rfl, Nat.le_of_ble_eq_true rfl⟩) (hE.recv ha (q := (RJx4a65c, TJx4a65c, 3)) rfl) ⟨hsz0, hza, ha, ⟨hv, hva⟩⟩ rfl hl.1 rfl (Nat.le_of_ble_eq_true rfl) dJx4a65c_add_9ea2d_20 ⟨Nat.le_of_ble_eq_true rfl, Nat.le_of_ble_eq_true rfl⟩ (fun x _ e => e ▸ hza) (fun H locs hB9 hz9 ho9 hS => ?_)
  have hfr : ∀ x : Nat, x < s.heap.size → ¬ (x = a) → H[x]? = s.heap[x]? := fun x h1 h2 => (ho9 x (by omega) h2).trans (hf1 x (fun e => h2 e))
  have hsz : s.heap.size ≤ H.size := by omega
  refine lv_iconst (v := 1) hx hb dJx4a65c_add_9ea2d_23 (by decide) ?_
  exact c_zret S hr hlocks hS hB9 ⟨hsz, hfr⟩ ⟨Nat.le_of_ble_eq_true rfl, Nat.le_of_ble_eq_true rfl⟩ dJx4a65c_add_9ea2d_24
set_option maxHeartbeats 4000000 in
set_option maxRecDepth 100000 in
/-- ArrayList.add(thing, array, size), of a full list -/
theorem c_add3N (l : Launch) (z : ZE) (ci : Nat) {rc : vw_C} (hc : vwCl[ci]? = some rc) (hnw : (rc.1, "java/lang/Object") ∈ nwL) (h0 e0 n0 : Nat) (a vv : Nat) (vs : List Value) (f : Nat → Option Nat) (hn1 : 2 ≤ n0) (hn2 : n0 ≤ 66) (v0 : Value) : Met l yJx4a65c_add_72be8 (.code yJx4a65c_add_72be8 cJx4a65c_add_72be8 4 none :: wU) ({ frames := 5, cells := 1, slots := 100, locals := 147 }) (PE z [.ref (a), .ref (vv), .ref (e0), .int (nI n0)] (fun H => H.size = h0 ∧ zB z ≤ a ∧ va_at (zD z) vwCl (a, .inr (0, [v0, .ref (e0), .int (nI n0)])) H ∧ (va_at (zD z) vwCl (vv, .inr (ci, vs)) H ∧ vv ≠ a) ∧ zB z ≤ e0 ∧ va_at (zD z) vwCl (e0, cQ (zO z) n0 f) H ∧ a ≠ e0 ∧ vv ≠ e0 ∧ els z ci f n0 H ∧ ∀ i, i < n0 → f i ≠ some a)) (qC (fun x => x = a) (fun H => va_at (zD z) vwCl (a, .inr (0, [v0, .ref h0, .int (nI (n0 + 1))])) H ∧ va_at (zD z) vwCl (h0, cQ (zO z) (n0 + n0 / 2) (va_up (va_cpy f (fun _ => none) 0 0 n0) n0 (some vv))) H)) 1 100 (zA z) := by
  refine Met.ofW (cc := cJx4a65c_add_72be8) (maxL := 4) (ret := none) (by decide) rfl ?_
  intro p e s m args below meth c s₁ BD hml hv
  obtain ⟨rfl, hE, hW⟩ := hv
  have hts : ∀ w ∈ wU, w.before _ s = true := fun w h => atoms_spec (ws := .code yJx4a65c_add_72be8 cJx4a65c_add_72be8 4 none :: wU) BD.pre w (List.mem_cons_of_mem _ h)
  have S : CallFix p m c cJx4a65c_add_72be8 4 s ([.ref (a), .ref (vv), .ref (e0), .int (nI n0)] : List Value).toArray wU RJx4a65c := ⟨BD.exec, BD.bytes, hml, findClass_of_methodNamed BD.named, hts⟩
  have hx := S.1
  have hb := S.2.1
  have hown := S.2.2.2.1
  have hr := BD.returns
  have hlocks := BD.notSynchronized
  have hS : va_S (zA z) s.heap s.heap [] := va_S.rf
  have hl := lv_entry ([.ref (a), .ref (vv), .ref (e0), .int (nI n0)]) (n := 4) (Nat.le_of_ble_eq_true rfl)
  rw [lg_entry_eq]
  generalize (lg_sl ([.ref (a), .ref (vv), .ref (e0), .int (nI n0)]) ++ List.replicate (4 - (lg_sl ([.ref (a), .ref (vv), .ref (e0), .int (nI n0)])).length) Slot.unset).toArray = ls at hl ⊢
  have hl : lv_has ls 4 [(0, .ref (a)), (1, .ref (vv)), (2, .ref (e0)), (3, .int (nI n0))] := hl
  obtain ⟨hsz0, hza, ha, ⟨hv, hva⟩, hze, he0, hae, hve, hel0, hela⟩ := hW
  have hlt := ha.lt
  have hzz := hE.2.2.2.2.1
  refine lv_iload_n hx hb dJx4a65c_add_72be8_0 rfl (lv_at hl 3 rfl) ?_
  refine lv_aload_n hx hb dJx4a65c_add_72be8_1 rfl (lv_at hl 2 rfl) ?_
  refine g_alenq S hE he0 dJx4a65c_add_72be8_2 ?_
  refine g_icmp_ne S (by omega) (by omega) (tgt := 11) dJx4a65c_add_72be8_3 (by decide) (fun h9 => absurd h9 (fun h => h rfl)) (fun c_3 => ?_)
  refine lv_aload_n hx hb dJx4a65c_add_72be8_6 rfl (lv_at hl 0 rfl) ?_
  refine g_callRV (As := []) (rest := []) S hE hS (c_groN l z ci hc hnw h0 a e0 n0 v0 f hn1 hn2) (cwV 0 hts (gU_V tw_361 tw_363 tp_6 tw_4 tw_364) rfl rfl rfl (by decide +kernel) ⟨Nat.le_of_ble_eq_true rfl, Nat.le_of_ble_eq_true rfl⟩) (hE.recv ha (q := (RJx4a65c, TJx4a65c, 3)) rfl) ⟨hsz0, hza, ha, hze, he0, hel0⟩ rfl hl.1 rfl (Nat.le_of_ble_eq_true rfl) dJx4a65c_add_72be8_7 ⟨Nat.le_of_ble_eq_true rfl, Nat.le_of_ble_eq_true rfl⟩ (fun x _ e => e ▸ hza) (fun H locs hB9 hz9 ho9 hS => ?_)
  obtain ⟨hq, ha⟩ := hB9
  replace hv := hv.kept (ho9 vv hv.lt hva)
  refine lv_astore_n (lv' := [(2, .ref (h0)), (0, .ref (a)), (1, .ref (vv)), (3, .int (nI n0))]) hx hb dJx4a65c_add_72be8_10 rfl hl (by decide) rfl (fun ls hl => ?_)
  refine lv_aload_n hx hb dJx4a65c_add_72be8_11 rfl (lv_at hl 0 rfl) ?_
  refine lv_iload_n hx hb dJx4a65c_add_72be8_12 rfl (lv_at hl 3 rfl) ?_
  refine lv_aload_n hx hb dJx4a65c_add_72be8_13 rfl (lv_at hl 2 rfl) ?_
  refine g_aastq S hE hS hc hnw hq (by omega) hv (i := n0) (by omega) (by omega) dJx4a65c_add_72be8_14 (fun H locs hq oq9 zq hS => ?_)
  replace ha := ha.kept (oq9 a (by omega))
  refine lv_aload_n hx hb dJx4a65c_add_72be8_15 rfl (lv_at hl 1 rfl) ?_
  refine lv_iload_n hx hb dJx4a65c_add_72be8_16 rfl (lv_at hl 3 rfl) ?_
  refine lv_iconst (v := 1) hx hb dJx4a65c_add_72be8_17 (by decide) ?_
  refine lv_iadd hx hb dJx4a65c_add_72be8_18 ?_
  rw [show (nI n0 : Int32) + 1 = nI (n0 + 1) from nI_add _ 1]
  refine g_put S hE hS ha hza (C := RJx4a65c) (T := TJx4a65c) (N := 3) rfl inUL tyJx4a65c tyJx4a65c_ok nmJx4a65c 2 (by decide) tw_46 (Or.inl rfl) (Or.inl rfl) (v := .int (nI (n0 + 1))) rfl rfl (Nat.le_of_ble_eq_true rfl) dJx4a65c_add_72be8_19 (fun H locs ha oq hz9 hS => ?_)
  replace hq := hq.kept (oq h0 (by omega))
  have hfr : ∀ x : Nat, x < s.heap.size → ¬ x = a → H[x]? = s.heap[x]? := fun x h1 h2 => (oq x h2).trans ((oq9 x (by omega)).trans (ho9 x h1 h2))
  have hsz : s.heap.size ≤ H.size := by omega
  exact c_ret S hr hlocks hS ⟨ha, hq⟩ ⟨hsz, hfr⟩ ⟨Nat.le_of_ble_eq_true rfl, Nat.le_of_ble_eq_true rfl⟩ dJx4a65c_add_72be8_22
set_option maxHeartbeats 4000000 in
set_option maxRecDepth 100000 in
/-- ArrayList.add(thing), of a full list -/
theorem c_addN (l : Launch) (z : ZE) (ci : Nat) {rc : vw_C} (hc : vwCl[ci]? = some rc) (hnw : (rc.1, "java/lang/Object") ∈ nwL) (h0 e0 n0 : Nat) (a vv : Nat) (vs : List Value) (f : Nat → Option Nat) (hn1 : 2 ≤ n0) (hn2 : n0 ≤ 66) (mc9 : Int32) : Met l yJx4a65c_add_9ea2d (.code yJx4a65c_add_9ea2d cJx4a65c_add_9ea2d 2 (some .boolean) :: wU) ({ frames := 6, cells := 1, slots := 100, locals := 170 }) (PE z [.ref (a), .ref (vv)] (fun H => H.size = h0 ∧ zB z ≤ a ∧ va_at (zD z) vwCl (a, .inr (0, [.int mc9, .ref (e0), .int (nI n0)])) H ∧ (va_at (zD z) vwCl (vv, .inr (ci, vs)) H ∧ vv ≠ a) ∧ zB z ≤ e0 ∧ va_at (zD z) vwCl (e0, cQ (zO z) n0 f) H ∧ a ≠ e0 ∧ vv ≠ e0 ∧ els z ci f n0 H ∧ ∀ i, i < n0 → f i ≠ some a)) (qZ (fun x => x = a) (fun H => va_at (zD z) vwCl (a, .inr (0, [.int (mc9 + 1), .ref h0, .int (nI (n0 + 1))])) H ∧ va_at (zD z) vwCl (h0, cQ (zO z) (n0 + n0 / 2) (va_up (va_cpy f (fun _ => none) 0 0 n0) n0 (some vv))) H)) 1 100 (zA z) := by
  refine Met.ofW (cc := cJx4a65c_add_9ea2d) (maxL := 2) (ret := (some .boolean)) (by decide) rfl ?_
  intro p e s m args below meth c s₁ BD hml hv
  obtain ⟨rfl, hE, hW⟩ := hv
  have hts : ∀ w ∈ wU, w.before _ s = true := fun w h => atoms_spec (ws := .code yJx4a65c_add_9ea2d cJx4a65c_add_9ea2d 2 (some .boolean) :: wU) BD.pre w (List.mem_cons_of_mem _ h)
  have S : CallFix p m c cJx4a65c_add_9ea2d 2 s ([.ref (a), .ref (vv)] : List Value).toArray wU RJx4a65c := ⟨BD.exec, BD.bytes, hml, findClass_of_methodNamed BD.named, hts⟩
  have hx := S.1
  have hb := S.2.1
  have hown := S.2.2.2.1
  have hr := BD.returns
  have hlocks := BD.notSynchronized
  have hS : va_S (zA z) s.heap s.heap [] := va_S.rf
  have hl := lv_entry ([.ref (a), .ref (vv)]) (n := 2) (Nat.le_of_ble_eq_true rfl)
  rw [lg_entry_eq]
  generalize (lg_sl ([.ref (a), .ref (vv)]) ++ List.replicate (2 - (lg_sl ([.ref (a), .ref (vv)])).length) Slot.unset).toArray = ls at hl ⊢
  have hl : lv_has ls 2 [(0, .ref (a)), (1, .ref (vv))] := hl
  obtain ⟨hsz0, hza, ha, ⟨hv, hva⟩, hze, he0, hae, hve, hel0, hela⟩ := hW
  have hlt := ha.lt
  refine lv_aload_n hx hb dJx4a65c_add_9ea2d_0 rfl (lv_at hl 0 rfl) ?_
  refine lv_dup hx hb dJx4a65c_add_9ea2d_1 rfl ?_
  refine g_get S hE ha (C := RJx4a65c) (T := TJx4a65c) (N := 3) (v := .int mc9) rfl inUL 0 (by decide) tw_48 (Or.inr tw_49) rfl dJx4a65c_add_9ea2d_2 ?_
  refine lv_iconst (v := 1) hx hb dJx4a65c_add_9ea2d_5 (by decide) ?_
  refine lv_iadd hx hb dJx4a65c_add_9ea2d_6 ?_
  refine g_put S hE hS ha hza (C := RJx4a65c) (T := TJx4a65c) (N := 3) rfl inUL tyJx4a65c tyJx4a65c_ok nmJx4a65c 0 (by decide) tw_48 (Or.inr tw_49) (Or.inl rfl) (v := .int (mc9 + 1)) rfl rfl (Nat.le_of_ble_eq_true rfl) dJx4a65c_add_9ea2d_7 (fun H locs ha oq hz9 hS => ?_)
  replace hv := hv.kept (oq vv hva)
  have hf1 : ∀ x : Nat, ¬ x = a → H[x]? = s.heap[x]? := fun x h2 => oq x h2
  have hs1 := hz9
  replace hsz0 : H.size = h0 := by omega
  replace he0 := he0.kept (oq e0 (Ne.symm hae))
  replace hel0 : els z ci f n0 H := fun i hi => (hel0 i hi).elim fun y h => h.elim fun vs h => ⟨y, vs, h.1, h.2.kept (oq y (fun e => hela i hi (e ▸ h.1)))⟩
  refine lv_aload_n hx hb dJx4a65c_add_9ea2d_10 rfl (lv_at hl 0 rfl) ?_
  refine lv_aload_n hx hb dJx4a65c_add_9ea2d_11 rfl (lv_at hl 1 rfl) ?_
  refine lv_aload_n hx hb dJx4a65c_add_9ea2d_12 rfl (lv_at hl 0 rfl) ?_
  refine g_get S hE ha (C := RJx4a65c) (T := TJx4a65c) (N := 3) (v := .ref (e0)) rfl inUL 1 (by decide) tw_45 (Or.inl rfl) rfl dJx4a65c_add_9ea2d_13 ?_
  refine lv_aload_n hx hb dJx4a65c_add_9ea2d_16 rfl (lv_at hl 0 rfl) ?_
  refine g_get S hE ha (C := RJx4a65c) (T := TJx4a65c) (N := 3) (v := .int (nI n0)) rfl inUL 2 (by decide) tw_46 (Or.inl rfl) rfl dJx4a65c_add_9ea2d_17 ?_
  refine g_callV9 (As := [.ref (vv), .ref (e0), .int (nI n0)]) (rest := []) S hE hS (c_add3N l z ci hc hnw h0 e0 n0 a vv vs f hn1 hn2 (.int (mc9 + 1))) (cwV 3 hts (gU_V tw_357 tw_359 tp_5 tw_4 tw_360) rfl rfl rfl (by decide +kernel) ⟨Nat.le_of_ble_eq_true rfl, Nat.le_of_ble_eq_true rfl⟩) (hE.recv ha (q := (RJx4a65c, TJx4a65c, 3)) rfl) ⟨hsz0, hza, ha, ⟨hv, hva⟩, hze, he0, hae, hve, hel0, hela⟩ rfl hl.1 rfl (Nat.le_of_ble_eq_true rfl) dJx4a65c_add_9ea2d_20 ⟨Nat.le_of_ble_eq_true rfl, Nat.le_of_ble_eq_true rfl⟩ (fun x _ e => e ▸ hza) (fun H locs hB9 hz9 ho9 hS => ?_)
  have hfr : ∀ x : Nat, x < s.heap.size → ¬ (x = a) → H[x]? = s.heap[x]? := fun x h1 h2 => (ho9 x (by omega) h2).trans (hf1 x (fun e => h2 e))
  have hsz : s.heap.size ≤ H.size := by omega
  refine lv_iconst (v := 1) hx hb dJx4a65c_add_9ea2d_23 (by decide) ?_
  exact c_zret S hr hlocks hS hB9 ⟨hsz, hfr⟩ ⟨Nat.le_of_ble_eq_true rfl, Nat.le_of_ble_eq_true rfl⟩ dJx4a65c_add_9ea2d_24
