/-! ===== lists that grow ===== -/
set_option maxHeartbeats 4000000 in
set_option maxRecDepth 100000 in
/-- ArrayList.grow(1) of an empty list -/
theorem c_grow0 (l : Launch) (z : ZE) (h0 a : Nat) (v0 : Value) : Met l yJx4a65c_grow_92f84 (.code yJx4a65c_grow_92f84 cJx4a65c_grow_92f84 4 (some (.array (.object "java/lang/Object"))) :: wU) ({ frames := 1, cells := 1, slots := 100, locals := 17 }) (PE z [.ref (a), .int (nI (0 + 1))] (fun H => H.size = h0 ∧ zB z ≤ a ∧ va_at (zD z) vwCl (a, .inr (0, [v0, .ref (zd z), .int (nI 0)])) H)) (qR h0 (fun x => x = a) (fun H => va_at (zD z) vwCl (h0, cQ (zO z) 10 (fun _ => none)) H ∧ va_at (zD z) vwCl (a, .inr (0, [v0, .ref h0, .int (nI 0)])) H)) 1 100 (zA z) := by
  refine Met.ofW (cc := cJx4a65c_grow_92f84) (maxL := 4) (ret := (some (.array (.object "java/lang/Object")))) (by decide) rfl ?_
  intro p e s m args below meth c s₁ BD hml hv
  obtain ⟨rfl, hE, hW⟩ := hv
  have hts : ∀ w ∈ wU, w.before _ s = true := fun w h => atoms_spec (ws := .code yJx4a65c_grow_92f84 cJx4a65c_grow_92f84 4 (some (.array (.object "java/lang/Object"))) :: wU) BD.pre w (List.mem_cons_of_mem _ h)
  have S : CallFix p m c cJx4a65c_grow_92f84 4 s ([.ref (a), .int (nI (0 + 1))] : List Value).toArray wU RJx4a65c := ⟨BD.exec, BD.bytes, hml, findClass_of_methodNamed BD.named, hts⟩
  have hx := S.1
  have hb := S.2.1
  have hown := S.2.2.2.1
  have hr := BD.returns
  have hlocks := BD.notSynchronized
  have hS : va_S (zA z) s.heap s.heap [] := va_S.rf
  have hl := lv_entry ([.ref (a), .int (nI (0 + 1))]) (n := 4) (Nat.le_of_ble_eq_true rfl)
  rw [lg_entry_eq]
  generalize (lg_sl ([.ref (a), .int (nI (0 + 1))]) ++ List.replicate (4 - (lg_sl ([.ref (a), .int (nI (0 + 1))])).length) Slot.unset).toArray = ls at hl ⊢
  have hl : lv_has ls 4 [(0, .ref (a)), (1, .int (nI (0 + 1)))] := hl
  obtain ⟨hsz0, hza, ha⟩ := hW
  have hlt := ha.lt
  refine lv_aload_n hx hb dJx4a65c_grow_92f84_0 rfl (lv_at hl 0 rfl) ?_
  refine g_get S hE ha (C := RJx4a65c) (T := TJx4a65c) (N := 3) (v := .ref (zd z)) rfl inUL 1 (by decide) tw_45 (Or.inl rfl) rfl dJx4a65c_grow_92f84_1 ?_
  refine g_alen0 S hE hS dJx4a65c_grow_92f84_4 ?_
  refine lv_istore_n (lv' := [(2, .int (nI 0)), (0, .ref (a)), (1, .int (nI (0 + 1)))]) hx hb dJx4a65c_grow_92f84_5 rfl hl (by decide) rfl (fun ls hl => ?_)
  refine lv_iload_n hx hb dJx4a65c_grow_92f84_6 rfl (lv_at hl 0 rfl) ?_
  refine lv_if_gt (tgt := 20) hx hb dJx4a65c_grow_92f84_7 (by decide) (fun h9 => absurd h9 (by decide)) (fun c_7 => ?_)
  refine lv_aload_n hx hb dJx4a65c_grow_92f84_10 rfl (lv_at hl 1 rfl) ?_
  refine g_get S hE ha (C := RJx4a65c) (T := TJx4a65c) (N := 3) (v := .ref (zd z)) rfl inUL 1 (by decide) tw_45 (Or.inl rfl) rfl dJx4a65c_grow_92f84_11 ?_
  refine va_gets (A := zA z) hx hb hE.2.2.1 hS hown (hts _ tw_43) (fun x hx => hx) dJx4a65c_grow_92f84_14 ?_
  refine lv_acmp_eq (rx := some (zd z)) (ry := some (zd z)) (tgt := 45) hx hb dJx4a65c_grow_92f84_17 (by decide) (fun c_17_1 => ?_) (fun c_17_1 => ?_)
  · refine lv_aload_n hx hb dJx4a65c_grow_92f84_45 rfl (lv_at hl 1 rfl) ?_
    refine lv_bipush (v := 10) hx hb dJx4a65c_grow_92f84_46 (by decide) ?_
    refine lv_iload_n hx hb dJx4a65c_grow_92f84_48 rfl (lv_at hl 2 rfl) ?_
    refine va_mmax hx hb (hml.trans hl.1.symm) hown (hts _ tw_407) (hts _ tw_373) (hts _ tw_16) (hts _ tw_374) (Nat.le_of_ble_eq_true rfl) (Nat.le_of_ble_eq_true rfl) (Nat.zero_le _) (Nat.zero_le _) dJx4a65c_grow_92f84_49 ?_
    rw [max10]
    refine g_anew (N := 10) S hE hS tw_408 (by omega) ⟨Nat.le_of_ble_eq_true rfl, Nat.le_of_ble_eq_true rfl⟩ dJx4a65c_grow_92f84_52 (q := h0) hsz0 (fun H hq zq oq9 hS => ?_)
    replace ha := ha.kept (oq9 _ (by omega))
    refine lv_dup_x1 hx hb dJx4a65c_grow_92f84_55 rfl rfl ?_
    refine g_put S hE hS ha hza (C := RJx4a65c) (T := TJx4a65c) (N := 3) rfl inUL tyJx4a65c tyJx4a65c_ok nmJx4a65c 1 (by decide) tw_45 (Or.inl rfl) (Or.inl rfl) (v := .ref (h0)) rfl rfl (Nat.le_of_ble_eq_true rfl) dJx4a65c_grow_92f84_56 (fun H locs ha oq hz9 hS => ?_)
    replace hq := hq.kept (oq h0 (by omega))
    have hfr : ∀ x : Nat, x < s.heap.size → ¬ x = a → H[x]? = s.heap[x]? := fun x h1 h2 => (oq x h2).trans (oq9 x (by omega))
    have hsz : s.heap.size ≤ H.size := by omega
    exact c_aret S hr ⟨_, rfl⟩ hlocks hS ⟨hq, ha⟩ ⟨hsz, hfr⟩ ⟨Nat.le_of_ble_eq_true rfl, Nat.le_of_ble_eq_true rfl⟩ dJx4a65c_grow_92f84_59
  · exact absurd rfl c_17_1
set_option maxHeartbeats 4000000 in
set_option maxRecDepth 100000 in
/-- ArrayList.grow(n + 1) of a full list -/
theorem c_growN (l : Launch) (z : ZE) (ci : Nat) {rc : vw_C} (hc : vwCl[ci]? = some rc) (hnw : (rc.1, "java/lang/Object") ∈ nwL) (h0 a e0 n0 : Nat) (v0 : Value) (f : Nat → Option Nat) (hn1 : 2 ≤ n0) (hn2 : n0 ≤ 66) : Met l yJx4a65c_grow_92f84 (.code yJx4a65c_grow_92f84 cJx4a65c_grow_92f84 4 (some (.array (.object "java/lang/Object"))) :: wU) ({ frames := 3, cells := 1, slots := 100, locals := 104 }) (PE z [.ref (a), .int (nI (n0 + 1))] (fun H => H.size = h0 ∧ zB z ≤ a ∧ va_at (zD z) vwCl (a, .inr (0, [v0, .ref e0, .int (nI n0)])) H ∧ zB z ≤ e0 ∧ va_at (zD z) vwCl (e0, cQ (zO z) n0 f) H ∧ els z ci f n0 H)) (qR h0 (fun x => x = a) (fun H => va_at (zD z) vwCl (h0, cQ (zO z) (n0 + n0 / 2) (va_cpy f (fun _ => none) 0 0 n0)) H ∧ va_at (zD z) vwCl (a, .inr (0, [v0, .ref h0, .int (nI n0)])) H)) 1 100 (zA z) := by
  refine Met.ofW (cc := cJx4a65c_grow_92f84) (maxL := 4) (ret := (some (.array (.object "java/lang/Object")))) (by decide) rfl ?_
  intro p e s m args below meth c s₁ BD hml hv
  obtain ⟨rfl, hE, hW⟩ := hv
  have hts : ∀ w ∈ wU, w.before _ s = true := fun w h => atoms_spec (ws := .code yJx4a65c_grow_92f84 cJx4a65c_grow_92f84 4 (some (.array (.object "java/lang/Object"))) :: wU) BD.pre w (List.mem_cons_of_mem _ h)
  have S : CallFix p m c cJx4a65c_grow_92f84 4 s ([.ref (a), .int (nI (n0 + 1))] : List Value).toArray wU RJx4a65c := ⟨BD.exec, BD.bytes, hml, findClass_of_methodNamed BD.named, hts⟩
  have hx := S.1
  have hb := S.2.1
  have hown := S.2.2.2.1
  have hr := BD.returns
  have hlocks := BD.notSynchronized
  have hS : va_S (zA z) s.heap s.heap [] := va_S.rf
  have hl := lv_entry ([.ref (a), .int (nI (n0 + 1))]) (n := 4) (Nat.le_of_ble_eq_true rfl)
  rw [lg_entry_eq]
  generalize (lg_sl ([.ref (a), .int (nI (n0 + 1))]) ++ List.replicate (4 - (lg_sl ([.ref (a), .int (nI (n0 + 1))])).length) Slot.unset).toArray = ls at hl ⊢
  have hl : lv_has ls 4 [(0, .ref (a)), (1, .int (nI (n0 + 1)))] := hl
  obtain ⟨hsz0, hza, ha, hz0, he0, hel0⟩ := hW
  have hlt := ha.lt
  refine lv_aload_n hx hb dJx4a65c_grow_92f84_0 rfl (lv_at hl 0 rfl) ?_
  refine g_get S hE ha (C := RJx4a65c) (T := TJx4a65c) (N := 3) (v := .ref (e0)) rfl inUL 1 (by decide) tw_45 (Or.inl rfl) rfl dJx4a65c_grow_92f84_1 ?_
  refine g_alenq S hE he0 dJx4a65c_grow_92f84_4 ?_
  refine lv_istore_n (lv' := [(2, .int (nI n0)), (0, .ref (a)), (1, .int (nI (n0 + 1)))]) hx hb dJx4a65c_grow_92f84_5 rfl hl (by decide) rfl (fun ls hl => ?_)
  refine lv_iload_n hx hb dJx4a65c_grow_92f84_6 rfl (lv_at hl 0 rfl) ?_
  refine lv_if_gt (tgt := 20) hx hb dJx4a65c_grow_92f84_7 (by decide) (fun c_7 => ?_) (fun h9 => absurd (show (0 : Int32) < nI n0 from (nI_ltI (a := 0) (by decide) (by omega)).mpr (by omega)) h9)
  refine lv_iload_n hx hb dJx4a65c_grow_92f84_20 rfl (lv_at hl 0 rfl) ?_
  refine lv_iload_n hx hb dJx4a65c_grow_92f84_21 rfl (lv_at hl 2 rfl) ?_
  refine lv_iload_n hx hb dJx4a65c_grow_92f84_22 rfl (lv_at hl 0 rfl) ?_
  refine lv_isub hx hb dJx4a65c_grow_92f84_23 ?_
  rw [show (nI (n0 + 1) : Int32) - nI n0 = nI 1 from (by rw [pk_sub (by omega)]; congr 1; omega)]
  refine lv_iload_n hx hb dJx4a65c_grow_92f84_24 rfl (lv_at hl 0 rfl) ?_
  refine lv_iconst (v := 1) hx hb dJx4a65c_grow_92f84_25 (by decide) ?_
  refine lv_ishr hx hb dJx4a65c_grow_92f84_26 ?_
  rw [shr1 n0 (by omega)]
  refine g_callS (As := [.int (nI n0), .int (nI 1), .int (nI (n0 / 2))]) (rest := []) S hE hS (c_J8_newLength_cabcc l z (n0) (n0 / 2) (by omega) (by omega) (by omega)) (va_cwS 3 hts (gU_vS tw_369 tw_370 tw_15 tw_371) rfl rfl rfl (by decide +kernel) ⟨Nat.le_of_ble_eq_true rfl, Nat.le_of_ble_eq_true rfl⟩) trivial rfl hl.1 rfl (Nat.le_of_ble_eq_true rfl) dJx4a65c_grow_92f84_27 ⟨Nat.zero_le _, Nat.zero_le _⟩ ?_
  refine lv_istore_n (lv' := [(3, .int (nI (n0 + n0 / 2))), (2, .int (nI n0)), (0, .ref (a)), (1, .int (nI (n0 + 1)))]) hx hb dJx4a65c_grow_92f84_30 rfl hl (by decide) rfl (fun ls hl => ?_)
  refine lv_aload_n hx hb dJx4a65c_grow_92f84_31 rfl (lv_at hl 2 rfl) ?_
  refine lv_aload_n hx hb dJx4a65c_grow_92f84_32 rfl (lv_at hl 2 rfl) ?_
  refine g_get S hE ha (C := RJx4a65c) (T := TJx4a65c) (N := 3) (v := .ref (e0)) rfl inUL 1 (by decide) tw_45 (Or.inl rfl) rfl dJx4a65c_grow_92f84_33 ?_
  refine lv_iload_n hx hb dJx4a65c_grow_92f84_36 rfl (lv_at hl 0 rfl) ?_
  refine g_callRS (As := [.ref (e0), .int (nI (n0 + n0 / 2))]) (rest := [.ref (a)]) S hE hS (c_J7_copyOf_1904c l z ci hc hnw h0 e0 n0 (n0 + n0 / 2) f (by omega) (by omega)) (va_cwS 2 hts (gU_vS tw_379 tw_380 tw_5 tw_381) rfl rfl rfl (by decide +kernel) ⟨Nat.le_of_ble_eq_true rfl, Nat.le_of_ble_eq_true rfl⟩) ⟨hsz0, hz0, he0, hel0⟩ rfl hl.1 rfl (Nat.le_of_ble_eq_true rfl) dJx4a65c_grow_92f84_37 ⟨Nat.le_of_ble_eq_true rfl, Nat.le_of_ble_eq_true rfl⟩ (fun x _ h => h.elim) (fun H locs hB9 hz9 ho9 hS => ?_)
  replace ha := ha.kept (ho9 a ha.lt (fun h => h))
  refine lv_dup_x1 hx hb dJx4a65c_grow_92f84_40 rfl rfl ?_
  refine g_put S hE hS ha hza (C := RJx4a65c) (T := TJx4a65c) (N := 3) rfl inUL tyJx4a65c tyJx4a65c_ok nmJx4a65c 1 (by decide) tw_45 (Or.inl rfl) (Or.inl rfl) (v := .ref (h0)) rfl rfl (Nat.le_of_ble_eq_true rfl) dJx4a65c_grow_92f84_41 (fun H locs ha oq hz9 hS => ?_)
  have hq := hB9.kept (oq h0 (by omega))
  have hfr : ∀ x : Nat, x < s.heap.size → ¬ x = a → H[x]? = s.heap[x]? := fun x h1 h2 => (oq x h2).trans (ho9 x h1 (fun h => h))
  have hsz : s.heap.size ≤ H.size := by omega
  exact c_aret S hr ⟨_, rfl⟩ hlocks hS ⟨hq, ha⟩ ⟨hsz, hfr⟩ ⟨Nat.le_of_ble_eq_true rfl, Nat.le_of_ble_eq_true rfl⟩ dJx4a65c_grow_92f84_44
set_option maxHeartbeats 4000000 in
set_option maxRecDepth 100000 in
/-- ArrayList.grow() -/
theorem c_gro0 (l : Launch) (z : ZE) (h0 a : Nat) (v0 : Value) : Met l yJx4a65c_grow_d5877 (.code yJx4a65c_grow_d5877 cJx4a65c_grow_d5877 1 (some (.array (.object "java/lang/Object"))) :: wU) ({ frames := 2, cells := 1, slots := 100, locals := 40 }) (PE z [.ref (a)] (fun H => H.size = h0 ∧ zB z ≤ a ∧ va_at (zD z) vwCl (a, .inr (0, [v0, .ref (zd z), .int (nI 0)])) H)) (qR h0 (fun x => x = a) (fun H => va_at (zD z) vwCl (h0, cQ (zO z) 10 (fun _ => none)) H ∧ va_at (zD z) vwCl (a, .inr (0, [v0, .ref h0, .int (nI 0)])) H)) 1 100 (zA z) := by
  refine Met.ofW (cc := cJx4a65c_grow_d5877) (maxL := 1) (ret := (some (.array (.object "java/lang/Object")))) (by decide) rfl ?_
  intro p e s m args below meth c s₁ BD hml hv
  obtain ⟨rfl, hE, hW⟩ := hv
  have hts : ∀ w ∈ wU, w.before _ s = true := fun w h => atoms_spec (ws := .code yJx4a65c_grow_d5877 cJx4a65c_grow_d5877 1 (some (.array (.object "java/lang/Object"))) :: wU) BD.pre w (List.mem_cons_of_mem _ h)
  have S : CallFix p m c cJx4a65c_grow_d5877 1 s ([.ref (a)] : List Value).toArray wU RJx4a65c := ⟨BD.exec, BD.bytes, hml, findClass_of_methodNamed BD.named, hts⟩
  have hx := S.1
  have hb := S.2.1
  have hown := S.2.2.2.1
  have hr := BD.returns
  have hlocks := BD.notSynchronized
  have hS : va_S (zA z) s.heap s.heap [] := va_S.rf
  have hl := lv_entry ([.ref (a)]) (n := 1) (Nat.le_of_ble_eq_true rfl)
  rw [lg_entry_eq]
  generalize (lg_sl ([.ref (a)]) ++ List.replicate (1 - (lg_sl ([.ref (a)])).length) Slot.unset).toArray = ls at hl ⊢
  have hl : lv_has ls 1 [(0, .ref (a))] := hl
  obtain ⟨hsz0, hza, ha⟩ := hW
  refine lv_aload_n hx hb dJx4a65c_grow_d5877_0 rfl (lv_at hl 0 rfl) ?_
  refine lv_aload_n hx hb dJx4a65c_grow_d5877_1 rfl (lv_at hl 0 rfl) ?_
  refine g_get S hE ha (C := RJx4a65c) (T := TJx4a65c) (N := 3) (v := .int (nI 0)) rfl inUL 2 (by decide) tw_46 (Or.inl rfl) rfl dJx4a65c_grow_d5877_2 ?_
  refine lv_iconst (v := 1) hx hb dJx4a65c_grow_d5877_5 (by decide) ?_
  refine lv_iadd hx hb dJx4a65c_grow_d5877_6 ?_
  rw [show (nI 0 : Int32) + 1 = nI (0 + 1) from nI_add _ 1]
  refine g_callRV (As := [.int (nI (0 + 1))]) (rest := []) S hE hS (c_grow0 l z h0 a v0) (cwV 1 hts (gU_V tw_365 tw_367 tp_7 tw_4 tw_368) rfl rfl rfl (by decide +kernel) ⟨Nat.le_of_ble_eq_true rfl, Nat.le_of_ble_eq_true rfl⟩) (hE.recv ha (q := (RJx4a65c, TJx4a65c, 3)) rfl) ⟨hsz0, hza, ha⟩ rfl hl.1 rfl (Nat.le_of_ble_eq_true rfl) dJx4a65c_grow_d5877_7 ⟨Nat.le_of_ble_eq_true rfl, Nat.le_of_ble_eq_true rfl⟩ (fun x _ e => e ▸ hza) (fun H locs hB9 hz9 ho9 hS => ?_)
  have hfr := ho9
  have hsz := hz9
  exact c_aret S hr ⟨_, rfl⟩ hlocks hS hB9 ⟨hsz, hfr⟩ ⟨Nat.le_of_ble_eq_true rfl, Nat.le_of_ble_eq_true rfl⟩ dJx4a65c_grow_d5877_10
set_option maxHeartbeats 4000000 in
set_option maxRecDepth 100000 in
/-- ArrayList.grow() -/
theorem c_groN (l : Launch) (z : ZE) (ci : Nat) {rc : vw_C} (hc : vwCl[ci]? = some rc) (hnw : (rc.1, "java/lang/Object") ∈ nwL) (h0 a e0 n0 : Nat) (v0 : Value) (f : Nat → Option Nat) (hn1 : 2 ≤ n0) (hn2 : n0 ≤ 66) : Met l yJx4a65c_grow_d5877 (.code yJx4a65c_grow_d5877 cJx4a65c_grow_d5877 1 (some (.array (.object "java/lang/Object"))) :: wU) ({ frames := 4, cells := 1, slots := 100, locals := 127 }) (PE z [.ref (a)] (fun H => H.size = h0 ∧ zB z ≤ a ∧ va_at (zD z) vwCl (a, .inr (0, [v0, .ref e0, .int (nI n0)])) H ∧ zB z ≤ e0 ∧ va_at (zD z) vwCl (e0, cQ (zO z) n0 f) H ∧ els z ci f n0 H)) (qR h0 (fun x => x = a) (fun H => va_at (zD z) vwCl (h0, cQ (zO z) (n0 + n0 / 2) (va_cpy f (fun _ => none) 0 0 n0)) H ∧ va_at (zD z) vwCl (a, .inr (0, [v0, .ref h0, .int (nI n0)])) H)) 1 100 (zA z) := by
  refine Met.ofW (cc := cJx4a65c_grow_d5877) (maxL := 1) (ret := (some (.array (.object "java/lang/Object")))) (by decide) rfl ?_
  intro p e s m args below meth c s₁ BD hml hv
  obtain ⟨rfl, hE, hW⟩ := hv
  have hts : ∀ w ∈ wU, w.before _ s = true := fun w h => atoms_spec (ws := .code yJx4a65c_grow_d5877 cJx4a65c_grow_d5877 1 (some (.array (.object "java/lang/Object"))) :: wU) BD.pre w (List.mem_cons_of_mem _ h)
  have S : CallFix p m c cJx4a65c_grow_d5877 1 s ([.ref (a)] : List Value).toArray wU RJx4a65c := ⟨BD.exec, BD.bytes, hml, findClass_of_methodNamed BD.named, hts⟩
  have hx := S.1
  have hb := S.2.1
  have hown := S.2.2.2.1
  have hr := BD.returns
  have hlocks := BD.notSynchronized
  have hS : va_S (zA z) s.heap s.heap [] := va_S.rf
  have hl := lv_entry ([.ref (a)]) (n := 1) (Nat.le_of_ble_eq_true rfl)
  rw [lg_entry_eq]
  generalize (lg_sl ([.ref (a)]) ++ List.replicate (1 - (lg_sl ([.ref (a)])).length) Slot.unset).toArray = ls at hl ⊢
  have hl : lv_has ls 1 [(0, .ref (a))] := hl
  obtain ⟨hsz0, hza, ha, hz0, he0, hel0⟩ := hW
  refine lv_aload_n hx hb dJx4a65c_grow_d5877_0 rfl (lv_at hl 0 rfl) ?_
  refine lv_aload_n hx hb dJx4a65c_grow_d5877_1 rfl (lv_at hl 0 rfl) ?_
  refine g_get S hE ha (C := RJx4a65c) (T := TJx4a65c) (N := 3) (v := .int (nI n0)) rfl inUL 2 (by decide) tw_46 (Or.inl rfl) rfl dJx4a65c_grow_d5877_2 ?_
  refine lv_iconst (v := 1) hx hb dJx4a65c_grow_d5877_5 (by decide) ?_
  refine lv_iadd hx hb dJx4a65c_grow_d5877_6 ?_
  rw [show (nI n0 : Int32) + 1 = nI (n0 + 1) from nI_add _ 1]
  refine g_callRV (As := [.int (nI (n0 + 1))]) (rest := []) S hE hS (c_growN l z ci hc hnw h0 a e0 n0 v0 f hn1 hn2) (cwV 1 hts (gU_V tw_365 tw_367 tp_7 tw_4 tw_368) rfl rfl rfl (by decide +kernel) ⟨Nat.le_of_ble_eq_true rfl, Nat.le_of_ble_eq_true rfl⟩) (hE.recv ha (q := (RJx4a65c, TJx4a65c, 3)) rfl) ⟨hsz0, hza, ha, hz0, he0, hel0⟩ rfl hl.1 rfl (Nat.le_of_ble_eq_true rfl) dJx4a65c_grow_d5877_7 ⟨Nat.le_of_ble_eq_true rfl, Nat.le_of_ble_eq_true rfl⟩ (fun x _ e => e ▸ hza) (fun H locs hB9 hz9 ho9 hS => ?_)
  have hfr := ho9
  have hsz := hz9
  exact c_aret S hr ⟨_, rfl⟩ hlocks hS hB9 ⟨hsz, hfr⟩ ⟨Nat.le_of_ble_eq_true rfl, Nat.le_of_ble_eq_true rfl⟩ dJx4a65c_grow_d5877_10
