/-! ===== the shop is made ===== -/
set_option maxHeartbeats 4000000 in
set_option maxRecDepth 100000 in
/-- DovetailRow() -/
theorem c_X5_init (l : Launch) (z : ZE) (q h0 : Nat) (v0 v1 v2 v3 v4 v5 v6 v7 : Value) : Met l yX5_init (.code yX5_init cX5_init 1 none :: wU) ({ frames := 4, cells := 4, slots := 21, locals := 80 }) (PE z [.ref (q)] (fun H => H.size = h0 ∧ (zB z ≤ q ∧ q < h0) ∧ va_at (zD z) vwCl (q, .inr (5, [v0, v1, v2, v3, v4, v5, v6, v7])) H)) (qC (fun x => x = q) (fun H => ∃ q1 q2 q3 q4 : Nat, (h0 ≤ q1 ∧ q1 < q2 ∧ q2 < q3 ∧ q3 < q4) ∧ va_at (zD z) vwCl (q, .inr (5, [.ref q1, .ref q2, .ref q3, .ref q4, .int 0, .int 100, .int 100, .int 6])) H ∧ va_at (zD z) vwCl (q1, .inr (0, [.int 0, .ref (zd z), .int 0])) H ∧ va_at (zD z) vwCl (q2, .inr (0, [.int 0, .ref (zd z), .int 0])) H ∧ va_at (zD z) vwCl (q3, .inr (0, [.int 0, .ref (zd z), .int 0])) H ∧ va_at (zD z) vwCl (q4, cI (zI z) 12 (fun j => if j < 12 then 100 else 0)) H)) 4 21 (zA z) := by
  refine Met.ofW (cc := cX5_init) (maxL := 1) (ret := none) (by decide) rfl ?_
  intro p e s m args below meth c s₁ BD hml hv
  obtain ⟨rfl, hE, hW⟩ := hv
  have hts : ∀ w ∈ wU, w.before _ s = true := fun w h => atoms_spec (ws := .code yX5_init cX5_init 1 none :: wU) BD.pre w (List.mem_cons_of_mem _ h)
  have S : CallFix p m c cX5_init 1 s ([.ref (q)] : List Value).toArray wU RX5 := ⟨BD.exec, BD.bytes, hml, findClass_of_methodNamed BD.named, hts⟩
  have hx := S.1
  have hb := S.2.1
  have hown := S.2.2.2.1
  have hr := BD.returns
  have hlocks := BD.notSynchronized
  have hS : va_S (zA z) s.heap s.heap [] := va_S.rf
  have hl := lv_entry ([.ref (q)]) (n := 1) (Nat.le_of_ble_eq_true rfl)
  rw [lg_entry_eq]
  generalize (lg_sl ([.ref (q)]) ++ List.replicate (1 - (lg_sl ([.ref (q)])).length) Slot.unset).toArray = ls at hl ⊢
  have hl : lv_has ls 1 [(0, .ref (q))] := hl
  obtain ⟨hsz0, ⟨hz, hqh⟩, hq⟩ := hW
  have hlt := hq.lt
  have hzz := hE.2.2.2.2.1
  have hin9 : meth.name = "<init>" := (name_of_methodNamed BD.named BD.method).1
  have hfr : ∀ x : Nat, x < s.heap.size → ¬ x = q → s.heap[x]? = s.heap[x]? := fun _ _ _ => rfl
  have hsz : s.heap.size ≤ s.heap.size := Nat.le_refl _
  refine lv_aload_n hx hb dX5_init_0 rfl (lv_at hl 0 rfl) ?_
  refine g_obj S tw_28 hl.1 ⟨Nat.le_of_ble_eq_true rfl, Nat.le_of_ble_eq_true rfl⟩ (Nat.le_of_ble_eq_true rfl) dX5_init_1 ?_
  refine lv_aload_n hx hb dX5_init_4 rfl (lv_at hl 0 rfl) ?_
  obtain ⟨q1, hq1⟩ : ∃ x : Nat, s.heap.size = x := ⟨_, rfl⟩
  refine g_new S hE hS (C := RJx4a65c) (T := TJx4a65c) (N := 3) (ci := 0) rfl inUL tyJx4a65c tyJx4a65c_ok tw_31 tw_32 tw_4 (fs := [.int 0, .null, .int 0]) (fun j hj => by match j, hj with | 0, _ => rfl | 1, _ => rfl | 2, _ => rfl) ⟨Nat.le_of_ble_eq_true rfl, Nat.le_of_ble_eq_true rfl⟩ dX5_init_5 hq1 (fun H hl1 zq1 oq9 hS => ?_)
  have hqq1 : q < q1 := by omega
  replace hq := hq.kept (oq9 q (by omega))
  replace hfr := fun (x : Nat) (h1 : x < s.heap.size) (h2 : ¬ x = q) => (oq9 x (by omega)).trans (hfr x h1 h2)
  have hszn1 := hsz
  replace hsz : s.heap.size ≤ H.size := by omega
  refine lv_dup hx hb dX5_init_8 rfl ?_
  refine g_init (As := []) (rest := [.ref (q1), .ref (q)]) S hE hS (c_Jx4a65c_init_da8c8 l z q1 (.int 0) .null (.int 0)) (x_cwI 0 hts tw_33 tw_34 tw_4 tw_35 rfl rfl (by decide +kernel) ⟨Nat.le_of_ble_eq_true rfl, Nat.le_of_ble_eq_true rfl⟩ rfl) ⟨by omega, hl1⟩ rfl hl.1 rfl (Nat.le_of_ble_eq_true rfl) dX5_init_9 ⟨Nat.le_of_ble_eq_true rfl, Nat.le_of_ble_eq_true rfl⟩ (fun x _ e => by omega) (fun H locs hB9 hz9 ho9 hS => ?_)
  replace hq := hq.kept (ho9 q hq.lt (by omega))
  replace hfr := fun (x : Nat) (h1 : x < s.heap.size) (h2 : ¬ x = q) => (ho9 x (Nat.lt_of_lt_of_le h1 hsz) (by omega)).trans (hfr x h1 h2)
  replace hsz := Nat.le_trans hsz hz9
  replace hl1 := hB9
  refine g_put S hE hS hq hz (C := RX5) (T := TX5) (N := 8) rfl inU5 tyX5 tyX5_ok nmX5 0 (by decide) tw_60 (Or.inl rfl) (Or.inr ⟨rfl, hin9, rfl⟩) (v := .ref (q1)) rfl rfl (Nat.le_of_ble_eq_true rfl) dX5_init_12 (fun H locs hq oq hz9 hS => ?_)
  replace hl1 := hl1.kept (oq q1 (by omega))
  replace hfr := fun (x : Nat) (h1 : x < s.heap.size) (h2 : ¬ x = q) => (oq x h2).trans (hfr x h1 h2)
  replace hsz : s.heap.size ≤ H.size := Nat.le_trans hsz (Nat.le_of_eq hz9.symm)
  refine lv_aload_n hx hb dX5_init_15 rfl (lv_at hl 0 rfl) ?_
  obtain ⟨q2, hq2⟩ : ∃ x : Nat, H.size = x := ⟨_, rfl⟩
  refine g_new S hE hS (C := RJx4a65c) (T := TJx4a65c) (N := 3) (ci := 0) rfl inUL tyJx4a65c tyJx4a65c_ok tw_31 tw_32 tw_4 (fs := [.int 0, .null, .int 0]) (fun j hj => by match j, hj with | 0, _ => rfl | 1, _ => rfl | 2, _ => rfl) ⟨Nat.le_of_ble_eq_true rfl, Nat.le_of_ble_eq_true rfl⟩ dX5_init_16 hq2 (fun H hl2 zq2 oq9 hS => ?_)
  have hqq2 : q < q2 := by omega
  replace hq := hq.kept (oq9 q (by omega))
  replace hl1 := hl1.kept (oq9 q1 (by omega))
  replace hfr := fun (x : Nat) (h1 : x < s.heap.size) (h2 : ¬ x = q) => (oq9 x (by omega)).trans (hfr x h1 h2)
  have hszn2 := hsz
  replace hsz : s.heap.size ≤ H.size := by omega
  refine lv_dup hx hb dX5_init_19 rfl ?_
  refine g_init (As := []) (rest := [.ref (q2), .ref (q)]) S hE hS (c_Jx4a65c_init_da8c8 l z q2 (.int 0) .null (.int 0)) (x_cwI 0 hts tw_33 tw_34 tw_4 tw_35 rfl rfl (by decide +kernel) ⟨Nat.le_of_ble_eq_true rfl, Nat.le_of_ble_eq_true rfl⟩ rfl) ⟨by omega, hl2⟩ rfl hl.1 rfl (Nat.le_of_ble_eq_true rfl) dX5_init_20 ⟨Nat.le_of_ble_eq_true rfl, Nat.le_of_ble_eq_true rfl⟩ (fun x _ e => by omega) (fun H locs hB9 hz9 ho9 hS => ?_)
  replace hq := hq.kept (ho9 q hq.lt (by omega))
  replace hl1 := hl1.kept (ho9 q1 hl1.lt (by omega))
  replace hfr := fun (x : Nat) (h1 : x < s.heap.size) (h2 : ¬ x = q) => (ho9 x (Nat.lt_of_lt_of_le h1 hsz) (by omega)).trans (hfr x h1 h2)
  replace hsz := Nat.le_trans hsz hz9
  replace hl2 := hB9
  refine g_put S hE hS hq hz (C := RX5) (T := TX5) (N := 8) rfl inU5 tyX5 tyX5_ok nmX5 1 (by decide) tw_61 (Or.inl rfl) (Or.inr ⟨rfl, hin9, rfl⟩) (v := .ref (q2)) rfl rfl (Nat.le_of_ble_eq_true rfl) dX5_init_23 (fun H locs hq oq hz9 hS => ?_)
  replace hl1 := hl1.kept (oq q1 (by omega))
  replace hl2 := hl2.kept (oq q2 (by omega))
  replace hfr := fun (x : Nat) (h1 : x < s.heap.size) (h2 : ¬ x = q) => (oq x h2).trans (hfr x h1 h2)
  replace hsz : s.heap.size ≤ H.size := Nat.le_trans hsz (Nat.le_of_eq hz9.symm)
  refine lv_aload_n hx hb dX5_init_26 rfl (lv_at hl 0 rfl) ?_
  obtain ⟨q3, hq3⟩ : ∃ x : Nat, H.size = x := ⟨_, rfl⟩
  refine g_new S hE hS (C := RJx4a65c) (T := TJx4a65c) (N := 3) (ci := 0) rfl inUL tyJx4a65c tyJx4a65c_ok tw_31 tw_32 tw_4 (fs := [.int 0, .null, .int 0]) (fun j hj => by match j, hj with | 0, _ => rfl | 1, _ => rfl | 2, _ => rfl) ⟨Nat.le_of_ble_eq_true rfl, Nat.le_of_ble_eq_true rfl⟩ dX5_init_27 hq3 (fun H hl3 zq3 oq9 hS => ?_)
  have hqq3 : q < q3 := by omega
  replace hq := hq.kept (oq9 q (by omega))
  replace hl1 := hl1.kept (oq9 q1 (by omega))
  replace hl2 := hl2.kept (oq9 q2 (by omega))
  replace hfr := fun (x : Nat) (h1 : x < s.heap.size) (h2 : ¬ x = q) => (oq9 x (by omega)).trans (hfr x h1 h2)
  have hszn3 := hsz
  replace hsz : s.heap.size ≤ H.size := by omega
  refine lv_dup hx hb dX5_init_30 rfl ?_
  refine g_init (As := []) (rest := [.ref (q3), .ref (q)]) S hE hS (c_Jx4a65c_init_da8c8 l z q3 (.int 0) .null (.int 0)) (x_cwI 0 hts tw_33 tw_34 tw_4 tw_35 rfl rfl (by decide +kernel) ⟨Nat.le_of_ble_eq_true rfl, Nat.le_of_ble_eq_true rfl⟩ rfl) ⟨by omega, hl3⟩ rfl hl.1 rfl (Nat.le_of_ble_eq_true rfl) dX5_init_31 ⟨Nat.le_of_ble_eq_true rfl, Nat.le_of_ble_eq_true rfl⟩ (fun x _ e => by omega) (fun H locs hB9 hz9 ho9 hS => ?_)
  replace hq := hq.kept (ho9 q hq.lt (by omega))
  replace hl1 := hl1.kept (ho9 q1 hl1.lt (by omega))
  replace hl2 := hl2.kept (ho9 q2 hl2.lt (by omega))
  replace hfr := fun (x : Nat) (h1 : x < s.heap.size) (h2 : ¬ x = q) => (ho9 x (Nat.lt_of_lt_of_le h1 hsz) (by omega)).trans (hfr x h1 h2)
  replace hsz := Nat.le_trans hsz hz9
  replace hl3 := hB9
  refine g_put S hE hS hq hz (C := RX5) (T := TX5) (N := 8) rfl inU5 tyX5 tyX5_ok nmX5 2 (by decide) tw_62 (Or.inl rfl) (Or.inr ⟨rfl, hin9, rfl⟩) (v := .ref (q3)) rfl rfl (Nat.le_of_ble_eq_true rfl) dX5_init_34 (fun H locs hq oq hz9 hS => ?_)
  replace hl1 := hl1.kept (oq q1 (by omega))
  replace hl2 := hl2.kept (oq q2 (by omega))
  replace hl3 := hl3.kept (oq q3 (by omega))
  replace hfr := fun (x : Nat) (h1 : x < s.heap.size) (h2 : ¬ x = q) => (oq x h2).trans (hfr x h1 h2)
  replace hsz : s.heap.size ≤ H.size := Nat.le_trans hsz (Nat.le_of_eq hz9.symm)
  refine lv_aload_n hx hb dX5_init_37 rfl (lv_at hl 0 rfl) ?_
  refine lv_bipush (v := 12) hx hb dX5_init_38 (by decide) ?_
  obtain ⟨q4, hq4⟩ : ∃ x : Nat, H.size = x := ⟨_, rfl⟩
  refine g_newI (N := 12) S hE hS tw_85 (by decide) ⟨Nat.le_of_ble_eq_true rfl, Nat.le_of_ble_eq_true rfl⟩ dX5_init_40 hq4 (fun H hl4 zq4 oq9 hS => ?_)
  have hqq4 : q < q4 := by omega
  replace hq := hq.kept (oq9 q (by omega))
  replace hl1 := hl1.kept (oq9 q1 (by omega))
  replace hl2 := hl2.kept (oq9 q2 (by omega))
  replace hl3 := hl3.kept (oq9 q3 (by omega))
  replace hfr := fun (x : Nat) (h1 : x < s.heap.size) (h2 : ¬ x = q) => (oq9 x (by omega)).trans (hfr x h1 h2)
  replace hsz : s.heap.size ≤ H.size := by omega
  refine g_put S hE hS hq hz (C := RX5) (T := TX5) (N := 8) rfl inU5 tyX5 tyX5_ok nmX5 3 (by decide) tw_63 (Or.inl rfl) (Or.inr ⟨rfl, hin9, rfl⟩) (v := .ref (q4)) rfl rfl (Nat.le_of_ble_eq_true rfl) dX5_init_42 (fun H locs hq oq hz9 hS => ?_)
  replace hl1 := hl1.kept (oq q1 (by omega))
  replace hl2 := hl2.kept (oq q2 (by omega))
  replace hl3 := hl3.kept (oq q3 (by omega))
  replace hl4 := hl4.kept (oq q4 (by omega))
  replace hfr := fun (x : Nat) (h1 : x < s.heap.size) (h2 : ¬ x = q) => (oq x h2).trans (hfr x h1 h2)
  replace hsz : s.heap.size ≤ H.size := Nat.le_trans hsz (Nat.le_of_eq hz9.symm)
  refine lv_aload_n hx hb dX5_init_45 rfl (lv_at hl 0 rfl) ?_
  refine lv_iconst (v := 0) hx hb dX5_init_46 (by decide) ?_
  refine g_put S hE hS hq hz (C := RX5) (T := TX5) (N := 8) rfl inU5 tyX5 tyX5_ok nmX5 4 (by decide) tw_64 (Or.inl rfl) (Or.inl rfl) (v := .int 0) rfl rfl (Nat.le_of_ble_eq_true rfl) dX5_init_47 (fun H locs hq oq hz9 hS => ?_)
  replace hl1 := hl1.kept (oq q1 (by omega))
  replace hl2 := hl2.kept (oq q2 (by omega))
  replace hl3 := hl3.kept (oq q3 (by omega))
  replace hl4 := hl4.kept (oq q4 (by omega))
  replace hfr := fun (x : Nat) (h1 : x < s.heap.size) (h2 : ¬ x = q) => (oq x h2).trans (hfr x h1 h2)
  replace hsz : s.heap.size ≤ H.size := Nat.le_trans hsz (Nat.le_of_eq hz9.symm)
  refine lv_aload_n hx hb dX5_init_50 rfl (lv_at hl 0 rfl) ?_
  refine lv_bipush (v := 100) hx hb dX5_init_51 (by decide) ?_
  refine g_put S hE hS hq hz (C := RX5) (T := TX5) (N := 8) rfl inU5 tyX5 tyX5_ok nmX5 5 (by decide) tw_65 (Or.inl rfl) (Or.inl rfl) (v := .int 100) rfl rfl (Nat.le_of_ble_eq_true rfl) dX5_init_53 (fun H locs hq oq hz9 hS => ?_)
  replace hl1 := hl1.kept (oq q1 (by omega))
  replace hl2 := hl2.kept (oq q2 (by omega))
  replace hl3 := hl3.kept (oq q3 (by omega))
  replace hl4 := hl4.kept (oq q4 (by omega))
  replace hfr := fun (x : Nat) (h1 : x < s.heap.size) (h2 : ¬ x = q) => (oq x h2).trans (hfr x h1 h2)
  replace hsz : s.heap.size ≤ H.size := Nat.le_trans hsz (Nat.le_of_eq hz9.symm)
  refine lv_aload_n hx hb dX5_init_56 rfl (lv_at hl 0 rfl) ?_
  refine lv_bipush (v := 100) hx hb dX5_init_57 (by decide) ?_
  refine g_put S hE hS hq hz (C := RX5) (T := TX5) (N := 8) rfl inU5 tyX5 tyX5_ok nmX5 6 (by decide) tw_66 (Or.inl rfl) (Or.inl rfl) (v := .int 100) rfl rfl (Nat.le_of_ble_eq_true rfl) dX5_init_59 (fun H locs hq oq hz9 hS => ?_)
  replace hl1 := hl1.kept (oq q1 (by omega))
  replace hl2 := hl2.kept (oq q2 (by omega))
  replace hl3 := hl3.kept (oq q3 (by omega))
  replace hl4 := hl4.kept (oq q4 (by omega))
  replace hfr := fun (x : Nat) (h1 : x < s.heap.size) (h2 : ¬ x = q) => (oq x h2).trans (hfr x h1 h2)
  replace hsz : s.heap.size ≤ H.size := Nat.le_trans hsz (Nat.le_of_eq hz9.symm)
  refine lv_aload_n hx hb dX5_init_62 rfl (lv_at hl 0 rfl) ?_
  refine lv_bipush (v := 6) hx hb dX5_init_63 (by decide) ?_
  refine g_put S hE hS hq hz (C := RX5) (T := TX5) (N := 8) rfl inU5 tyX5 tyX5_ok nmX5 7 (by decide) tw_67 (Or.inl rfl) (Or.inl rfl) (v := .int 6) rfl rfl (Nat.le_of_ble_eq_true rfl) dX5_init_65 (fun H locs hq oq hz9 hS => ?_)
  replace hl1 := hl1.kept (oq q1 (by omega))
  replace hl2 := hl2.kept (oq q2 (by omega))
  replace hl3 := hl3.kept (oq q3 (by omega))
  replace hl4 := hl4.kept (oq q4 (by omega))
  replace hfr := fun (x : Nat) (h1 : x < s.heap.size) (h2 : ¬ x = q) => (oq x h2).trans (hfr x h1 h2)
  replace hsz : s.heap.size ≤ H.size := Nat.le_trans hsz (Nat.le_of_eq hz9.symm)
  refine lv_aload_n hx hb dX5_init_68 rfl (lv_at hl 0 rfl) ?_
  refine g_get S hE hq (C := RX5) (T := TX5) (N := 8) (v := .ref (q4)) rfl inU5 3 (by decide) tw_63 (Or.inl rfl) rfl dX5_init_69 ?_
  refine lv_bipush (v := 100) hx hb dX5_init_72 (by decide) ?_
  refine g_callSv (As := [.ref q4, .int 100]) (rest := []) S hE hS (c_fill l z q4 100 (fun _ => 0)) (va_cwS 2 hts (gU_vS tw_57 tw_58 tw_5 tw_59) rfl rfl rfl (by decide +kernel) ⟨Nat.le_of_ble_eq_true rfl, Nat.le_of_ble_eq_true rfl⟩) ⟨by omega, hl4⟩ rfl hl.1 rfl (Nat.le_of_ble_eq_true rfl) dX5_init_74 ⟨Nat.le_of_ble_eq_true rfl, Nat.le_of_ble_eq_true rfl⟩ (fun x _ (e : x = q4) => by omega) (fun H locs hB9 hz9 ho9 hS => ?_)
  replace hq := hq.kept (ho9 q hq.lt (by omega))
  replace hl1 := hl1.kept (ho9 q1 hl1.lt (by omega))
  replace hl2 := hl2.kept (ho9 q2 hl2.lt (by omega))
  replace hl3 := hl3.kept (ho9 q3 hl3.lt (by omega))
  replace hfr := fun (x : Nat) (h1 : x < s.heap.size) (h2 : ¬ x = q) => (ho9 x (Nat.lt_of_lt_of_le h1 hsz) (by omega)).trans (hfr x h1 h2)
  replace hsz := Nat.le_trans hsz hz9
  replace hl4 := hB9
  exact c_ret S hr hlocks hS ⟨q1, q2, q3, q4, ⟨by omega, by omega, by omega, by omega⟩, hq, hl1, hl2, hl3, hl4⟩ ⟨hsz, hfr⟩ ⟨Nat.le_of_ble_eq_true rfl, Nat.le_of_ble_eq_true rfl⟩ dX5_init_77
