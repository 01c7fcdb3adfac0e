/-! ===== a thing is put into a list's array ===== -/
section GAQ
variable {p : Program} {l : Launch} {e : Env} {R : Room} {s : State} {m : MethodId} {args : Array Value} {below : List Frame} {meth : Method} {c : Code} {H : Heap} {locs : List Loc} {cells slots mc ms : Nat} {Q : State → Prop}
variable {cc : ByteArray} {pc nL : Nat} {ls : Array Slot} {rest stk : List Value} {z : ZE} {own : String}
variable {y : MethodName} {bytes : ByteArray} {maxL n index : Nat} {ret : Option FieldType} {ws : List Cond} {rm : Room} {P : Heap → Prop} {C : String} {b : Nat} {As : List Value} {A : Nat → Prop} {B : Heap → Prop}
theorem g_aastq (S : CallFix p m c cc nL s args wU own) (hE : EV z s s.heap) {H0 : Heap} (hS : va_S (zA z) H0 H locs) {a n ci vv : Nat} {f : Nat → Option Nat} {vs : List Value} {rc : vw_C} (hc : vwCl[ci]? = some rc) (hnw : (rc.1, "java/lang/Object") ∈ nwL) (hat : va_at (zD z) vwCl (a, cQ (zO z) n f) H) (hza : zB z ≤ a) (hv : va_at (zD z) vwCl (vv, .inr (ci, vs)) H) {i : Nat} (hi : i < n) (hn : n ≤ 1000) (hdg : decode cc pc = .ok (.aastore, 1))
    (kk : ∀ (H1 : Heap) (locs1 : List Loc), va_at (zD z) vwCl (a, cQ (zO z) n (va_up f i (some vv))) H1 → (∀ q : Nat, q ≠ a → H1[q]? = H[q]?) → H1.size = H.size → va_S (zA z) H0 H1 locs1 → W p l e R s m args below meth c H1 locs1 cells slots Q (F0 m (pc + 1) ls rest)) : W p l e R s m args below meth c H locs cells slots Q (F0 m pc ls (.ref vv :: .int (nI i) :: .ref a :: rest)) := by
  have hci : (nI i).toNatClampNeg = i := nI_clamp (by omega)
  obtain ⟨r', hr', cellV, g1, g2, g3, -⟩ := hv
  have hcls := (hE.1.1 ci rc hc).2
  obtain ⟨kA, comp, k1, k2, k3, -⟩ := (hE.1.2 3 _ rfl).2
  obtain ⟨kE, hkE, -⟩ := Vm.findClass_spec k3
  obtain ⟨c0, t1, f1, f2, f3⟩ := Cond.castable_spec (va_Nw.use (A := args) rfl (hE.2.2.2.2.2.2.1 _ hnw))
  cases hcls.1.symm.trans f1
  cases k3.symm.trans f2
  obtain ⟨kC, hkC, -⟩ := hcls.2
  refine W.aast S.1 S.2.1 hat (fun q h => by cases h) (fun h => by cases h) k1 k2 rfl hkE ⟨nI_pos (by omega), by show _ < (arrV _ _ _).slots.size; rw [arrV_size, hci]; exact hi⟩ g1 (fun q h => by rw [g3] at h; cases h) (by rw [g2]; exact hkC) (by rw [g2]; exact f3) rfl rfl hdg fun H1 e z9 oq => ?_
  refine kk H1 _ ?_ oq z9 (hS.put z9 oq hza)
  show H1[a]? = some (vp_cell _ _)
  rw [e]
  rw [vp_cell_q, vp_cell_q, arrV_store, hci]
  congr 2
  funext q
  by_cases hq : q = i
  · subst hq; simp [updV, va_up, va_rf]
  · simp [updV, va_up, hq]
theorem g_callV9 (S : CallFix p m c cc nL s args wU own) (hE : EV z s s.heap) (hS : va_S (zA z) s.heap H locs) (hM : Met l y ws rm (PE z (.ref b :: As) P) (qC A B) mc ms (zA z)) (cw : CallW R s args own C index y bytes maxL ret ws rm mc ms n)
    (hv : ∃ cell : Cell, H[b]? = some cell ∧ cell.vm.isStatics = false ∧ s.vm.findClass C = some cell.cls) (hP : P H) (hn : As.length = n) (hsize : ls.size = nL) (hstack : stk = As.reverse ++ .ref b :: rest) (hW : (rest.map fun v => v.category).sum ≤ 8) (hdg : decode cc pc = .ok (.invokevirtual index, 3)) (hf : cells + mc ≤ R.cells ∧ slots + ms ≤ R.slots) (hA : ∀ q, q < H.size → A q → zB z ≤ q)
    (kk : ∀ (H1 : Heap) (locs1 : List Loc), B H1 → H.size ≤ H1.size → (∀ q : Nat, q < H.size → ¬ A q → H1[q]? = H[q]?) → va_S (zA z) s.heap H1 locs1 → W p l e R s m args below meth c H1 locs1 (cells + mc) (slots + ms) Q (F0 m (pc + 3) ls rest)) : W p l e R s m args below meth c H locs cells slots Q (F0 m pc ls stk) :=
  va_callv (va_runV S hM cw ⟨PE.blind, hv, fun U hU hW => ⟨rfl, hE.at hS hU hW, by rw [hU]; exact hP⟩⟩ rfl hn hsize hstack (lv_room hW) hdg hf) hS hA (fun _ h => h)
    (fun u t9 H1 locs1 ht _ hp hB hz ho hS1 => kk H1 locs1 (by rw [← ht]; exact hB) hz ho hS1)
/-- a call that gives 1 back -/
abbrev qZ (A : Nat → Prop) (B : Heap → Prop) : Array Value → State → Outcome → State → Prop := va_Qi (fun r (_ : Unit) => r = 1) (fun _ (t : State) => B t.heap) A
theorem c_zret (S : CallFix p m c cc nL s args wU own) (hr : meth.sig.returnType = some .boolean) (hlocks : meth.locks = false) (hS : va_S (zA z) s.heap H locs) (hB : B H) (hF : s.heap.size ≤ H.size ∧ ∀ q : Nat, q < s.heap.size → ¬ A q → H[q]? = s.heap[q]?) (hc : cells ≤ mc ∧ slots ≤ ms) (hdg : decode cc pc = .ok (.ireturn, 1)) :
    W p l e R s m args below meth c H locs cells slots (MQ below (qZ A B) args s mc ms (zA z)) (F0 m pc ls [.int 1]) :=
  W.widen hc.1 hc.2 (W.zret (v := 1) (ty := .boolean) S.1 S.2.1 hr (by decide) (fun t9 ht _ => ⟨⟨1, (), rfl, rfl, by show B t9.heap; rw [ht]; exact hB⟩, by rw [va_F, ht]; exact hF⟩) hS.2.2 hdg)
theorem g_callZ (S : CallFix p m c cc nL s args wU own) (hE : EV z s s.heap) (hS : va_S (zA z) s.heap H locs) (hM : Met l y ws rm (PE z (.ref b :: As) P) (qZ A B) mc ms (zA z)) (cw : CallW R s args own C index y bytes maxL ret ws rm mc ms n)
    (hv : ∃ cell : Cell, H[b]? = some cell ∧ cell.vm.isStatics = false ∧ s.vm.findClass C = some cell.cls) (hP : P H) (hn : As.length = n) (hsize : ls.size = nL) (hstack : stk = As.reverse ++ .ref b :: rest) (hW : (rest.map fun v => v.category).sum ≤ 8) (hdg : decode cc pc = .ok (.invokevirtual index, 3)) (hf : cells + mc ≤ R.cells ∧ slots + ms ≤ R.slots) (hA : ∀ q, q < H.size → A q → zB z ≤ q)
    (kk : ∀ (H1 : Heap) (locs1 : List Loc), B H1 → H.size ≤ H1.size → (∀ q : Nat, q < H.size → ¬ A q → H1[q]? = H[q]?) → va_S (zA z) s.heap H1 locs1 → W p l e R s m args below meth c H1 locs1 (cells + mc) (slots + ms) Q (F0 m (pc + 3) ls (.int 1 :: rest))) : W p l e R s m args below meth c H locs cells slots Q (F0 m pc ls stk) :=
  va_calli (va_runV S hM cw ⟨PE.blind, hv, fun U hU hW => ⟨rfl, hE.at hS hU hW, by rw [hU]; exact hP⟩⟩ rfl hn hsize hstack (lv_room hW) hdg hf) hS hA (fun _ h => h)
    (fun r u t9 H1 locs1 ht _ hp hB hz ho hS1 => by
      cases hp
      exact kk H1 locs1 (by rw [← ht]; exact hB) hz ho hS1)
end GAQ
