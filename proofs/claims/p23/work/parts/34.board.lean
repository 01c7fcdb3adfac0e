/-! ===== a board is made ===== -/
set_option maxHeartbeats 4000000 in
set_option maxRecDepth 100000 in
/-- Board(number, species, flitch, place, width, length, moisture) -/
theorem c_X0_init (l : Launch) (z : ZE) (q h0 : Nat) (v0 v1 v2 v3 v4 v5 v6 v7 v8 v9 v10 : Value) (n : Nat) (b2 b3 b4 b5 b6 b7 : Int32) : Met l yX0_init (.code yX0_init cX0_init 8 none :: wU) ({ frames := 4, cells := 2, slots := 6, locals := 80 }) (PE z [.ref (q), .int (nI n), .int b2, .int b3, .int b4, .int b5, .int b6, .int b7] (fun H => H.size = h0 ∧ zB z ≤ q ∧ va_at (zD z) vwCl (q, .inr (1, [v0, v1, v2, v3, v4, v5, v6, v7, v8, v9, v10])) H)) (qC (fun x => x = q) (fun H => ∃ q1 q2 : Nat, (h0 ≤ q1 ∧ q1 < q2) ∧ va_at (zD z) vwCl (q, .inr (1, [.int b2, .int b5, .int b7, .int b7, .int 0, .int (nI n), .int b3, .int b4, .int b6, .ref q1, .ref q2])) H ∧ va_at (zD z) vwCl (q1, .inr (0, [.int 0, .ref (zd z), .int 0])) H ∧ va_at (zD z) vwCl (q2, .inr (0, [.int 0, .ref (zd z), .int 0])) H)) 2 6 (zA z) := by
  refine Met.ofW (cc := cX0_init) (maxL := 8) (ret := none) (by decide) rfl ?_
  intro p e s m args below meth c s₁ BD hml hv
  obtain ⟨rfl, hE, hW⟩ := hv
  have hts : ∀ w ∈ wU, w.before _ s = true := fun w h => atoms_spec (ws := .code yX0_init cX0_init 8 none :: wU) BD.pre w (List.mem_cons_of_mem _ h)
  have S : CallFix p m c cX0_init 8 s ([.ref (q), .int (nI n), .int b2, .int b3, .int b4, .int b5, .int b6, .int b7] : List Value).toArray wU RX0 := ⟨BD.exec, BD.bytes, hml, findClass_of_methodNamed BD.named, hts⟩
  have hx := S.1
  have hb := S.2.1
  have hown := S.2.2.2.1
  have hr := BD.returns
  have hlocks := BD.notSynchronized
  have hS : va_S (zA z) s.heap s.heap [] := va_S.rf
  have hl := lv_entry ([.ref (q), .int (nI n), .int b2, .int b3, .int b4, .int b5, .int b6, .int b7]) (n := 8) (Nat.le_of_ble_eq_true rfl)
  rw [lg_entry_eq]
  generalize (lg_sl ([.ref (q), .int (nI n), .int b2, .int b3, .int b4, .int b5, .int b6, .int b7]) ++ List.replicate (8 - (lg_sl ([.ref (q), .int (nI n), .int b2, .int b3, .int b4, .int b5, .int b6, .int b7])).length) Slot.unset).toArray = ls at hl ⊢
  have hl : lv_has ls 8 [(0, .ref (q)), (1, .int (nI n)), (2, .int b2), (3, .int b3), (4, .int b4), (5, .int b5), (6, .int b6), (7, .int b7)] := hl
  obtain ⟨hsz0, hz, hq⟩ := hW
  have hlt := hq.lt
  have hzz := hE.2.2.2.2.1
  have hin9 : meth.name = "<init>" := (name_of_methodNamed BD.named BD.method).1
  have hfr : ∀ x : Nat, x < s.heap.size → ¬ x = q → s.heap[x]? = s.heap[x]? := fun _ _ _ => rfl
  have hsz : s.heap.size ≤ s.heap.size := Nat.le_refl _
  refine lv_aload_n hx hb dX0_init_0 rfl (lv_at hl 0 rfl) ?_
  refine lv_iload_n hx hb dX0_init_1 rfl (lv_at hl 2 rfl) ?_
  refine lv_iload hx hb dX0_init_2 (lv_at hl 5 rfl) ?_
  refine lv_iload hx hb dX0_init_4 (lv_at hl 7 rfl) ?_
  refine g_init (As := [.int b2, .int b5, .int b7]) (rest := []) S hE hS (c_wooB l z q v0 v1 v2 v3 v4 v5 v6 v7 v8 v9 v10 (b2) (b5) (b7)) (x_cwI 3 hts tw_295 tw_296 tw_13 tw_297 rfl rfl (by decide +kernel) ⟨Nat.le_of_ble_eq_true rfl, Nat.le_of_ble_eq_true rfl⟩ rfl) ⟨hz, hq⟩ rfl hl.1 rfl (Nat.le_of_ble_eq_true rfl) dX0_init_6 ⟨Nat.le_of_ble_eq_true rfl, Nat.le_of_ble_eq_true rfl⟩ (fun x _ e => e ▸ hz) (fun H locs hB9 hz9 ho9 hS => ?_)
  replace hfr := fun (x : Nat) (h1 : x < s.heap.size) (h2 : ¬ x = q) => (ho9 x (Nat.lt_of_lt_of_le h1 hsz) h2).trans (hfr x h1 h2)
  replace hsz := Nat.le_trans hsz hz9
  replace hq := hB9
  refine lv_aload_n hx hb dX0_init_9 rfl (lv_at hl 0 rfl) ?_
  obtain ⟨q1, hq1⟩ : ∃ x : Nat, H.size = x := ⟨_, rfl⟩
  refine g_new S hE hS (C := RJx4a65c) (T := TJx4a65c) (N := 3) (ci := 0) rfl inUL tyJx4a65c tyJx4a65c_ok tw_299 tw_32 tw_4 (fs := [.int 0, .null, .int 0]) (fun j hj => by match j, hj with | 0, _ => rfl | 1, _ => rfl | 2, _ => rfl) ⟨Nat.le_of_ble_eq_true rfl, Nat.le_of_ble_eq_true rfl⟩ dX0_init_10 hq1 (fun H hl1 zq1 oq9 hS => ?_)
  have hqq1 : q < q1 := by omega
  replace hq := hq.kept (oq9 q (by omega))
  replace hfr := fun (x : Nat) (h1 : x < s.heap.size) (h2 : ¬ x = q) => (oq9 x (by omega)).trans (hfr x h1 h2)
  have hszn1 := hsz
  replace hsz : s.heap.size ≤ H.size := by omega
  refine lv_dup hx hb dX0_init_13 rfl ?_
  refine g_init (As := []) (rest := [.ref (q1), .ref (q)]) S hE hS (c_Jx4a65c_init_da8c8 l z q1 (.int 0) .null (.int 0)) (x_cwI 0 hts tw_300 tw_34 tw_4 tw_35 rfl rfl (by decide +kernel) ⟨Nat.le_of_ble_eq_true rfl, Nat.le_of_ble_eq_true rfl⟩ rfl) ⟨by omega, hl1⟩ rfl hl.1 rfl (Nat.le_of_ble_eq_true rfl) dX0_init_14 ⟨Nat.le_of_ble_eq_true rfl, Nat.le_of_ble_eq_true rfl⟩ (fun x _ e => by omega) (fun H locs hB9 hz9 ho9 hS => ?_)
  replace hq := hq.kept (ho9 q hq.lt (by omega))
  replace hfr := fun (x : Nat) (h1 : x < s.heap.size) (h2 : ¬ x = q) => (ho9 x (Nat.lt_of_lt_of_le h1 hsz) (by omega)).trans (hfr x h1 h2)
  replace hsz := Nat.le_trans hsz hz9
  replace hl1 := hB9
  refine g_put S hE hS hq hz (C := RX0) (T := TX0) (N := 11) rfl inU0 tyX0 tyX0_ok nmX0 9 (by decide) tw_308 (Or.inl rfl) (Or.inr ⟨rfl, hin9, rfl⟩) (v := .ref (q1)) rfl rfl (Nat.le_of_ble_eq_true rfl) dX0_init_17 (fun H locs hq oq hz9 hS => ?_)
  replace hl1 := hl1.kept (oq q1 (by omega))
  replace hfr := fun (x : Nat) (h1 : x < s.heap.size) (h2 : ¬ x = q) => (oq x h2).trans (hfr x h1 h2)
  replace hsz : s.heap.size ≤ H.size := Nat.le_trans hsz (Nat.le_of_eq hz9.symm)
  refine lv_aload_n hx hb dX0_init_20 rfl (lv_at hl 0 rfl) ?_
  obtain ⟨q2, hq2⟩ : ∃ x : Nat, H.size = x := ⟨_, rfl⟩
  refine g_new S hE hS (C := RJx4a65c) (T := TJx4a65c) (N := 3) (ci := 0) rfl inUL tyJx4a65c tyJx4a65c_ok tw_299 tw_32 tw_4 (fs := [.int 0, .null, .int 0]) (fun j hj => by match j, hj with | 0, _ => rfl | 1, _ => rfl | 2, _ => rfl) ⟨Nat.le_of_ble_eq_true rfl, Nat.le_of_ble_eq_true rfl⟩ dX0_init_21 hq2 (fun H hl2 zq2 oq9 hS => ?_)
  have hqq2 : q < q2 := by omega
  replace hq := hq.kept (oq9 q (by omega))
  replace hl1 := hl1.kept (oq9 q1 (by omega))
  replace hfr := fun (x : Nat) (h1 : x < s.heap.size) (h2 : ¬ x = q) => (oq9 x (by omega)).trans (hfr x h1 h2)
  have hszn2 := hsz
  replace hsz : s.heap.size ≤ H.size := by omega
  refine lv_dup hx hb dX0_init_24 rfl ?_
  refine g_init (As := []) (rest := [.ref (q2), .ref (q)]) S hE hS (c_Jx4a65c_init_da8c8 l z q2 (.int 0) .null (.int 0)) (x_cwI 0 hts tw_300 tw_34 tw_4 tw_35 rfl rfl (by decide +kernel) ⟨Nat.le_of_ble_eq_true rfl, Nat.le_of_ble_eq_true rfl⟩ rfl) ⟨by omega, hl2⟩ rfl hl.1 rfl (Nat.le_of_ble_eq_true rfl) dX0_init_25 ⟨Nat.le_of_ble_eq_true rfl, Nat.le_of_ble_eq_true rfl⟩ (fun x _ e => by omega) (fun H locs hB9 hz9 ho9 hS => ?_)
  replace hq := hq.kept (ho9 q hq.lt (by omega))
  replace hl1 := hl1.kept (ho9 q1 hl1.lt (by omega))
  replace hfr := fun (x : Nat) (h1 : x < s.heap.size) (h2 : ¬ x = q) => (ho9 x (Nat.lt_of_lt_of_le h1 hsz) (by omega)).trans (hfr x h1 h2)
  replace hsz := Nat.le_trans hsz hz9
  replace hl2 := hB9
  refine g_put S hE hS hq hz (C := RX0) (T := TX0) (N := 11) rfl inU0 tyX0 tyX0_ok nmX0 10 (by decide) tw_310 (Or.inl rfl) (Or.inr ⟨rfl, hin9, rfl⟩) (v := .ref (q2)) rfl rfl (Nat.le_of_ble_eq_true rfl) dX0_init_28 (fun H locs hq oq hz9 hS => ?_)
  replace hl1 := hl1.kept (oq q1 (by omega))
  replace hl2 := hl2.kept (oq q2 (by omega))
  replace hfr := fun (x : Nat) (h1 : x < s.heap.size) (h2 : ¬ x = q) => (oq x h2).trans (hfr x h1 h2)
  replace hsz : s.heap.size ≤ H.size := Nat.le_trans hsz (Nat.le_of_eq hz9.symm)
  refine lv_aload_n hx hb dX0_init_31 rfl (lv_at hl 0 rfl) ?_
  refine lv_iload_n hx hb dX0_init_32 rfl (lv_at hl 1 rfl) ?_
  refine g_put S hE hS hq hz (C := RX0) (T := TX0) (N := 11) rfl inU0 tyX0 tyX0_ok nmX0 5 (by decide) tw_301 (Or.inl rfl) (Or.inr ⟨rfl, hin9, rfl⟩) (v := .int (nI n)) rfl rfl (Nat.le_of_ble_eq_true rfl) dX0_init_33 (fun H locs hq oq hz9 hS => ?_)
  replace hl1 := hl1.kept (oq q1 (by omega))
  replace hl2 := hl2.kept (oq q2 (by omega))
  replace hfr := fun (x : Nat) (h1 : x < s.heap.size) (h2 : ¬ x = q) => (oq x h2).trans (hfr x h1 h2)
  replace hsz : s.heap.size ≤ H.size := Nat.le_trans hsz (Nat.le_of_eq hz9.symm)
  refine lv_aload_n hx hb dX0_init_36 rfl (lv_at hl 0 rfl) ?_
  refine lv_iload_n hx hb dX0_init_37 rfl (lv_at hl 3 rfl) ?_
  refine g_put S hE hS hq hz (C := RX0) (T := TX0) (N := 11) rfl inU0 tyX0 tyX0_ok nmX0 6 (by decide) tw_303 (Or.inl rfl) (Or.inr ⟨rfl, hin9, rfl⟩) (v := .int b3) rfl rfl (Nat.le_of_ble_eq_true rfl) dX0_init_38 (fun H locs hq oq hz9 hS => ?_)
  replace hl1 := hl1.kept (oq q1 (by omega))
  replace hl2 := hl2.kept (oq q2 (by omega))
  replace hfr := fun (x : Nat) (h1 : x < s.heap.size) (h2 : ¬ x = q) => (oq x h2).trans (hfr x h1 h2)
  replace hsz : s.heap.size ≤ H.size := Nat.le_trans hsz (Nat.le_of_eq hz9.symm)
  refine lv_aload_n hx hb dX0_init_41 rfl (lv_at hl 0 rfl) ?_
  refine lv_iload hx hb dX0_init_42 (lv_at hl 4 rfl) ?_
  refine g_put S hE hS hq hz (C := RX0) (T := TX0) (N := 11) rfl inU0 tyX0 tyX0_ok nmX0 7 (by decide) tw_305 (Or.inl rfl) (Or.inr ⟨rfl, hin9, rfl⟩) (v := .int b4) rfl rfl (Nat.le_of_ble_eq_true rfl) dX0_init_44 (fun H locs hq oq hz9 hS => ?_)
  replace hl1 := hl1.kept (oq q1 (by omega))
  replace hl2 := hl2.kept (oq q2 (by omega))
  replace hfr := fun (x : Nat) (h1 : x < s.heap.size) (h2 : ¬ x = q) => (oq x h2).trans (hfr x h1 h2)
  replace hsz : s.heap.size ≤ H.size := Nat.le_trans hsz (Nat.le_of_eq hz9.symm)
  refine lv_aload_n hx hb dX0_init_47 rfl (lv_at hl 0 rfl) ?_
  refine lv_iload hx hb dX0_init_48 (lv_at hl 6 rfl) ?_
  refine g_put S hE hS hq hz (C := RX0) (T := TX0) (N := 11) rfl inU0 tyX0 tyX0_ok nmX0 8 (by decide) tw_307 (Or.inl rfl) (Or.inr ⟨rfl, hin9, rfl⟩) (v := .int b6) rfl rfl (Nat.le_of_ble_eq_true rfl) dX0_init_50 (fun H locs hq oq hz9 hS => ?_)
  replace hl1 := hl1.kept (oq q1 (by omega))
  replace hl2 := hl2.kept (oq q2 (by omega))
  replace hfr := fun (x : Nat) (h1 : x < s.heap.size) (h2 : ¬ x = q) => (oq x h2).trans (hfr x h1 h2)
  replace hsz : s.heap.size ≤ H.size := Nat.le_trans hsz (Nat.le_of_eq hz9.symm)
  exact c_ret S hr hlocks hS ⟨q1, q2, ⟨by omega, by omega⟩, hq, hl1, hl2⟩ ⟨hsz, hfr⟩ ⟨Nat.le_of_ble_eq_true rfl, Nat.le_of_ble_eq_true rfl⟩ dX0_init_53
