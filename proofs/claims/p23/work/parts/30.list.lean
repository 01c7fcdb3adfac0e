/-! ===== lists that grow: the copy ===== -/
set_option maxHeartbeats 4000000 in
set_option maxRecDepth 100000 in
/-- ArraysSupport.newLength(n, 1, m) -/
theorem c_J8_newLength_cabcc (l : Launch) (z : ZE) (n k : Nat) (hm1 : 1 ≤ k) (hm2 : k ≤ 100) (hn2 : n ≤ 100) : Met l yJ8_newLength_cabcc (.code yJ8_newLength_cabcc cJ8_newLength_cabcc 4 (some .int) :: wU) ({ frames := 1, cells := 0, slots := 0, locals := 17 }) (PE z [.int (nI n), .int (nI 1), .int (nI k)] (fun _ => True)) (rqi (nI (n + k))) 0 0 zF := by
  refine Met.ofW (cc := cJ8_newLength_cabcc) (maxL := 4) (ret := (some .int)) (by decide) rfl ?_
  intro p e s m args below meth c s₁ BD hml hv
  obtain ⟨rfl, hE, hW⟩ := hv
  have hts : ∀ w ∈ wU, w.before _ s = true := fun w h => atoms_spec (ws := .code yJ8_newLength_cabcc cJ8_newLength_cabcc 4 (some .int) :: wU) BD.pre w (List.mem_cons_of_mem _ h)
  have S : CallFix p m c cJ8_newLength_cabcc 4 s ([.int (nI n), .int (nI 1), .int (nI k)] : List Value).toArray wU RJ8 := ⟨BD.exec, BD.bytes, hml, findClass_of_methodNamed BD.named, hts⟩
  have hx := S.1
  have hb := S.2.1
  have hown := S.2.2.2.1
  have hr := BD.returns
  have hlocks := BD.notSynchronized
  have hS : va_S (zA z) s.heap s.heap [] := va_S.rf
  have hl := lv_entry ([.int (nI n), .int (nI 1), .int (nI k)]) (n := 4) (Nat.le_of_ble_eq_true rfl)
  rw [lg_entry_eq]
  generalize (lg_sl ([.int (nI n), .int (nI 1), .int (nI k)]) ++ List.replicate (4 - (lg_sl ([.int (nI n), .int (nI 1), .int (nI k)])).length) Slot.unset).toArray = ls at hl ⊢
  have hl : lv_has ls 4 [(0, .int (nI n)), (1, .int (nI 1)), (2, .int (nI k))] := hl
  refine lv_iload_n hx hb dJ8_newLength_cabcc_0 rfl (lv_at hl 0 rfl) ?_
  refine lv_iload_n hx hb dJ8_newLength_cabcc_1 rfl (lv_at hl 1 rfl) ?_
  refine lv_iload_n hx hb dJ8_newLength_cabcc_2 rfl (lv_at hl 2 rfl) ?_
  refine va_mmax hx hb (hml.trans hl.1.symm) hown (hts _ tw_372) (hts _ tw_373) (hts _ tw_16) (hts _ tw_374) (Nat.le_of_ble_eq_true rfl) (Nat.le_of_ble_eq_true rfl) (Nat.zero_le _) (Nat.zero_le _) dJ8_newLength_cabcc_3 ?_
  rw [mx1 k hm2 hm1]
  refine g_iadd S dJ8_newLength_cabcc_6 ?_
  refine lv_istore_n (lv' := [(3, .int (nI (n + k))), (0, .int (nI n)), (1, .int (nI 1)), (2, .int (nI k))]) hx hb dJ8_newLength_cabcc_7 rfl hl (by decide) rfl (fun ls hl => ?_)
  refine lv_iconst (v := nI 0) hx hb dJ8_newLength_cabcc_8 (by decide) ?_
  refine lv_iload_n hx hb dJ8_newLength_cabcc_9 rfl (lv_at hl 0 rfl) ?_
  refine g_icmp_ge S (by omega) (by omega) (tgt := 21) dJ8_newLength_cabcc_10 (by decide) (fun h9 => absurd h9 (by omega)) (fun c_10 => ?_)
  refine lv_iload_n hx hb dJ8_newLength_cabcc_13 rfl (lv_at hl 0 rfl) ?_
  refine lv_ldc hx hb hown (hts _ tw_375) dJ8_newLength_cabcc_14 ?_
  rw [show (2147483639 : Int32) = nI 2147483639 from rfl]
  refine g_icmp_gt S (by omega) (by omega) (tgt := 21) dJ8_newLength_cabcc_16 (by decide) (fun h9 => absurd h9 (by omega)) (fun c_16_1 => ?_)
  refine lv_iload_n hx hb dJ8_newLength_cabcc_19 rfl (lv_at hl 0 rfl) ?_
  exact g_iret S hr hlocks rfl dJ8_newLength_cabcc_20
set_option maxHeartbeats 4000000 in
set_option maxRecDepth 100000 in
/-- Arrays.copyOf(original, N, its class) -/
theorem c_J7_copyOf_6403c (l : Launch) (z : ZE) (ci : Nat) {rc : vw_C} (hc : vwCl[ci]? = some rc) (hnw : (rc.1, "java/lang/Object") ∈ nwL) (h0 e0 n0 N mi : Nat) (f : Nat → Option Nat) (hN1 : n0 ≤ N) (hN2 : N ≤ 100) : Met l yJ7_copyOf_6403c (.code yJ7_copyOf_6403c cJ7_copyOf_6403c 4 (some (.array (.object "java/lang/Object"))) :: wU) ({ frames := 1, cells := 1, slots := 100, locals := 60 }) (fun v U => PE z [.ref (e0), .int (nI N), .ref (mi)] (fun H => H.size = h0 ∧ zB z ≤ e0 ∧ va_at (zD z) vwCl (e0, cQ (zO z) n0 f) H ∧ els z ci f n0 H) v U ∧ va_Mi "[Ljava/lang/Object;" mi U) (qR h0 (fun x => False) (fun H => va_at (zD z) vwCl (h0, cQ (zO z) N (va_cpy f (fun _ => none) 0 0 n0)) H)) 1 100 (zA z) := by
  refine Met.ofW (cc := cJ7_copyOf_6403c) (maxL := 4) (ret := (some (.array (.object "java/lang/Object")))) (by decide) rfl ?_
  intro p e s m args below meth c s₁ BD hml hv
  obtain ⟨⟨rfl, hE, hW⟩, hMi⟩ := hv
  have hts : ∀ w ∈ wU, w.before _ s = true := fun w h => atoms_spec (ws := .code yJ7_copyOf_6403c cJ7_copyOf_6403c 4 (some (.array (.object "java/lang/Object"))) :: wU) BD.pre w (List.mem_cons_of_mem _ h)
  have S : CallFix p m c cJ7_copyOf_6403c 4 s ([.ref (e0), .int (nI N), .ref (mi)] : List Value).toArray wU RJ7 := ⟨BD.exec, BD.bytes, hml, findClass_of_methodNamed BD.named, hts⟩
  have hx := S.1
  have hb := S.2.1
  have hown := S.2.2.2.1
  have hr := BD.returns
  have hlocks := BD.notSynchronized
  have hS : va_S (zA z) s.heap s.heap [] := va_S.rf
  have hl := lv_entry ([.ref (e0), .int (nI N), .ref (mi)]) (n := 4) (Nat.le_of_ble_eq_true rfl)
  rw [lg_entry_eq]
  generalize (lg_sl ([.ref (e0), .int (nI N), .ref (mi)]) ++ List.replicate (4 - (lg_sl ([.ref (e0), .int (nI N), .ref (mi)])).length) Slot.unset).toArray = ls at hl ⊢
  have hl : lv_has ls 4 [(0, .ref (e0)), (1, .int (nI N)), (2, .ref (mi))] := hl
  obtain ⟨hsz0, hz, he0, hel0⟩ := hW
  have hlt := he0.lt
  have hzz := hE.2.2.2.2.1
  have hne : e0 ≠ h0 := by omega
  refine lv_aload_n hx hb dJ7_copyOf_6403c_0 rfl (lv_at hl 2 rfl) ?_
  refine va_ldcM hx hb hown (hts _ tw_398) hMi dJ7_copyOf_6403c_1 ?_
  refine lv_acmp_ne (rx := some (mi)) (ry := some (mi)) (tgt := 13) hx hb dJ7_copyOf_6403c_3 (by decide) (fun c_3 => ?_) (fun c_3 => ?_)
  · exact absurd rfl c_3
  · refine lv_iload_n hx hb dJ7_copyOf_6403c_6 rfl (lv_at hl 1 rfl) ?_
    refine g_anew (N := N) S hE hS tw_400 (by omega) ⟨show 0 + 1 ≤ 1 by omega, show 0 + N ≤ 100 by omega⟩ dJ7_copyOf_6403c_7 (q := h0) hsz0 (fun H hq zq oq9 hS => ?_)
    have he := he0.kept (oq9 e0 (by omega))
    have hel : els z ci f n0 H := fun i hi => (hel0 i hi).elim fun y h => h.elim fun vs h => ⟨y, vs, h.1, h.2.kept (oq9 y (hsz0 ▸ h.2.lt))⟩
    have hfr9 : ∀ x : Nat, x < s.heap.size → H[x]? = s.heap[x]? := fun x h1 => oq9 x (by omega)
    have hsz9 : s.heap.size ≤ H.size := by omega
    refine lv_goto (tgt := 24) hx hb dJ7_copyOf_6403c_10 (by decide) ?_
    refine lv_astore_n (lv' := [(3, .ref (h0)), (0, .ref (e0)), (1, .int (nI N)), (2, .ref (mi))]) hx hb dJ7_copyOf_6403c_24 rfl hl (by decide) rfl (fun ls hl => ?_)
    refine lv_aload_n hx hb dJ7_copyOf_6403c_25 rfl (lv_at hl 1 rfl) ?_
    refine lv_iconst (v := 0) hx hb dJ7_copyOf_6403c_26 (by decide) ?_
    refine lv_aload_n hx hb dJ7_copyOf_6403c_27 rfl (lv_at hl 0 rfl) ?_
    refine lv_iconst (v := 0) hx hb dJ7_copyOf_6403c_28 (by decide) ?_
    refine lv_aload_n hx hb dJ7_copyOf_6403c_29 rfl (lv_at hl 1 rfl) ?_
    refine g_alenq S hE he dJ7_copyOf_6403c_30 ?_
    refine lv_iload_n hx hb dJ7_copyOf_6403c_31 rfl (lv_at hl 2 rfl) ?_
    refine va_mmin hx hb (hml.trans hl.1.symm) hown (hts _ tw_401) (hts _ tw_402) (hts _ tw_16) (hts _ tw_403) (Nat.le_of_ble_eq_true rfl) (Nat.le_of_ble_eq_true rfl) (by show 0 + 1 ≤ 1; omega) (by show 0 + N ≤ 100; omega) dJ7_copyOf_6403c_32 ?_
    rw [mn1 hN1 (by omega)]
    refine g_copy S hE hc hnw he hq hne ⟨hN1, by omega⟩ hel hsz9 hfr9 ⟨hz, by omega⟩ (Nat.le_of_eq hsz0) hl.1 ⟨Nat.le_of_ble_eq_true rfl, Nat.le_of_ble_eq_true rfl⟩ dJ7_copyOf_6403c_35 (fun H locs hq zq9 oq9 he9 hS => ?_)
    have hfr : ∀ x : Nat, x < s.heap.size → ¬ False → H[x]? = s.heap[x]? := fun x h1 _ => (Nat.decEq x e0).byCases (fun q => by rw [q]; exact he9.trans he0.symm) (fun q => oq9 x h1 q)
    have hsz := Nat.le_trans hsz9 zq9
    refine lv_aload_n hx hb dJ7_copyOf_6403c_38 rfl (lv_at hl 0 rfl) ?_
    exact c_aret S hr ⟨_, rfl⟩ hlocks hS hq ⟨hsz, hfr⟩ ⟨by show 0 + 1 ≤ 1; omega, by show 0 + N ≤ 100; omega⟩ dJ7_copyOf_6403c_39
theorem arr_cls {z : ZE} {s : State} {H H0 : Heap} {a n : Nat} {f : Nat → Option Nat} (hE : EV z s H0) (hat : va_at (zD z) vwCl (a, cQ (zO z) n f) H) : ∃ cell : Cell, H[a]? = some cell ∧ cell.vm.isStatics = false ∧ s.vm.findClass "[Ljava/lang/Object;" = some cell.cls := by
  obtain ⟨-, kA, comp, f2, f3, f4, f1⟩ := hE.1.2 3 _ rfl
  exact ⟨_, hat, rfl, f1⟩
theorem max10 : (if (10 : Int32) < nI (0 + 1) then nI (0 + 1) else 10) = nI 10 := by decide
section GLM
variable {p : Program} {l : Launch} {e : Env} {R : Room} {s : State} {m : MethodId} {args : Array Value} {below : List Frame} {meth : Method} {c : Code} {H : Heap} {locs : List Loc} {cells slots mc ms : Nat} {Q : State → Prop}
variable {cc : ByteArray} {pc nL : Nat} {ls : Array Slot} {rest stk : List Value} {z : ZE} {own : String}
variable {y : MethodName} {bytes : ByteArray} {maxL n index : Nat} {ret : Option FieldType} {ws : List Cond} {rm : Room} {P : Heap → Prop} {C : String} {b v mi : Nat} {As : List Value} {A : Nat → Prop} {B : Heap → Prop}
theorem g_callM (S : CallFix p m c cc nL s args wU own) (hE : EV z s s.heap) (hS : va_S (zA z) s.heap H locs) (hMi : va_Mi "[Ljava/lang/Object;" mi s) (hM : Met l y ws rm (fun v U => PE z As P v U ∧ va_Mi "[Ljava/lang/Object;" mi U) (qR v A B) mc ms (zA z)) (cw : CallB R s args own index y bytes maxL ret ws rm mc ms n ∧ (Cond.static y).before args s = true)
    (hP : P H) (hn : As.length = n) (hsize : ls.size = nL) (hstack : stk = As.reverse ++ rest) (hW : (rest.map fun v => v.category).sum ≤ 8) (hdg : decode cc pc = .ok (.invokestatic index, 3)) (hf : cells + mc ≤ R.cells ∧ slots + ms ≤ R.slots) (hA : ∀ q, q < H.size → A q → zB z ≤ q)
    (kk : ∀ (H1 : Heap) (locs1 : List Loc), B H1 → H.size ≤ H1.size → (∀ q : Nat, q < H.size → ¬ A q → H1[q]? = H[q]?) → va_S (zA z) s.heap H1 locs1 → W p l e R s m args below meth c H1 locs1 (cells + mc) (slots + ms) Q (F0 m (pc + 3) ls (.ref v :: rest))) : W p l e R s m args below meth c H locs cells slots Q (F0 m pc ls stk) :=
  va_callq (va_runS S hM cw ⟨fun a U g mk h => ⟨PE.blind a U g mk h.1, va_Mi.moved (u := U) (U := U.calling g mk a) (Vm.Alike.refl U.vm) h.2⟩, fun U hU hW => ⟨⟨rfl, hE.at hS hU hW, by rw [hU]; exact hP⟩, hMi.moved hW.alike⟩⟩ rfl hn hsize hstack (lv_room hW) hdg hf) hS hA (fun _ h => h)
    (fun r u t9 H1 locs1 ht _ hp hB hz ho hS1 => by
      cases hp
      exact kk H1 locs1 (by rw [← ht]; exact hB) hz ho hS1)
end GLM
set_option maxHeartbeats 4000000 in
set_option maxRecDepth 100000 in
/-- Arrays.copyOf(original, N) -/
theorem c_J7_copyOf_1904c (l : Launch) (z : ZE) (ci : Nat) {rc : vw_C} (hc : vwCl[ci]? = some rc) (hnw : (rc.1, "java/lang/Object") ∈ nwL) (h0 e0 n0 N : Nat) (f : Nat → Option Nat) (hN1 : n0 ≤ N) (hN2 : N ≤ 100) : Met l yJ7_copyOf_1904c (.code yJ7_copyOf_1904c cJ7_copyOf_1904c 2 (some (.array (.object "java/lang/Object"))) :: wU) ({ frames := 2, cells := 1, slots := 100, locals := 83 }) (PE z [.ref (e0), .int (nI N)] (fun H => H.size = h0 ∧ zB z ≤ e0 ∧ va_at (zD z) vwCl (e0, cQ (zO z) n0 f) H ∧ els z ci f n0 H)) (qR h0 (fun x => False) (fun H => va_at (zD z) vwCl (h0, cQ (zO z) N (va_cpy f (fun _ => none) 0 0 n0)) H)) 1 100 (zA z) := by
  refine Met.ofW (cc := cJ7_copyOf_1904c) (maxL := 2) (ret := (some (.array (.object "java/lang/Object")))) (by decide) rfl ?_
  intro p e s m args below meth c s₁ BD hml hv
  obtain ⟨rfl, hE, hW⟩ := hv
  have hts : ∀ w ∈ wU, w.before _ s = true := fun w h => atoms_spec (ws := .code yJ7_copyOf_1904c cJ7_copyOf_1904c 2 (some (.array (.object "java/lang/Object"))) :: wU) BD.pre w (List.mem_cons_of_mem _ h)
  have S : CallFix p m c cJ7_copyOf_1904c 2 s ([.ref (e0), .int (nI N)] : List Value).toArray wU RJ7 := ⟨BD.exec, BD.bytes, hml, findClass_of_methodNamed BD.named, hts⟩
  have hx := S.1
  have hb := S.2.1
  have hown := S.2.2.2.1
  have hr := BD.returns
  have hlocks := BD.notSynchronized
  have hS : va_S (zA z) s.heap s.heap [] := va_S.rf
  have hl := lv_entry ([.ref (e0), .int (nI N)]) (n := 2) (Nat.le_of_ble_eq_true rfl)
  rw [lg_entry_eq]
  generalize (lg_sl ([.ref (e0), .int (nI N)]) ++ List.replicate (2 - (lg_sl ([.ref (e0), .int (nI N)])).length) Slot.unset).toArray = ls at hl ⊢
  have hl : lv_has ls 2 [(0, .ref (e0)), (1, .int (nI N))] := hl
  obtain ⟨hsz0, hz, he0, hel0⟩ := hW
  refine lv_aload_n hx hb dJ7_copyOf_1904c_0 rfl (lv_at hl 0 rfl) ?_
  refine lv_iload_n hx hb dJ7_copyOf_1904c_1 rfl (lv_at hl 1 rfl) ?_
  refine lv_aload_n hx hb dJ7_copyOf_1904c_2 rfl (lv_at hl 0 rfl) ?_
  obtain ⟨mi, hMi⟩ := hE.2.2.2.2.2.1.2.2
  refine va_getC (C := "[Ljava/lang/Object;") hx hb (hml.trans hl.1.symm) hown (hts _ tw_382) (va_Dc.use hE.2.2.2.2.2.1.2.1) (hts _ tw_675) (hts _ tw_383) (hts _ nw_gc) hMi (arr_cls hE he0) (Nat.le_of_ble_eq_true rfl) (Nat.le_of_ble_eq_true rfl) dJ7_copyOf_1904c_3 ?_
  refine g_callM (As := [.ref (e0), .int (nI N), .ref (mi)]) (rest := []) S hE hS hMi (c_J7_copyOf_6403c l z ci hc hnw h0 e0 n0 N mi f hN1 hN2) (cwS 3 hts (gU_S tw_395 tw_396 tw_5 tw_397) rfl rfl rfl (by decide +kernel) ⟨Nat.le_of_ble_eq_true rfl, Nat.le_of_ble_eq_true rfl⟩) ⟨hsz0, hz, he0, hel0⟩ rfl hl.1 rfl (Nat.le_of_ble_eq_true rfl) dJ7_copyOf_1904c_6 ⟨Nat.le_of_ble_eq_true rfl, Nat.le_of_ble_eq_true rfl⟩ (fun x _ h => h.elim) (fun H locs hB9 hz9 ho9 hS => ?_)
  have hfr : ∀ x : Nat, x < s.heap.size → ¬ False → H[x]? = s.heap[x]? := fun x h1 h2 => ho9 x h1 h2
  have hsz := hz9
  exact c_aret S hr ⟨_, rfl⟩ hlocks hS hB9 ⟨hsz, hfr⟩ ⟨Nat.le_of_ble_eq_true rfl, Nat.le_of_ble_eq_true rfl⟩ dJ7_copyOf_1904c_9
