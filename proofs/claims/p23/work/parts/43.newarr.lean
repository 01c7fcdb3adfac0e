/-! ===== new arrays; fill ===== -/
section GNA
variable {p : Program} {l : Launch} {e : Env} {R : Room} {s : State} {m : MethodId} {args : Array Value} {below : List Frame} {meth : Method} {c : Code} {H : Heap} {locs : List Loc} {cells slots mc ms : Nat} {Q : State → Prop}
variable {cc : ByteArray} {pc nL : Nat} {ls : Array Slot} {rest stk : List Value} {z : ZE} {Ts : List Cond} {own : String}
theorem g_newI (S : CallFix p m c cc nL s args Ts own) (hE : EV z s s.heap) (hS : va_S (zA z) s.heap H locs) {N : Nat} (harr : Cond.arrayClass .int ∈ Ts) (hN : N ≤ 1000) (hf : cells + 1 ≤ R.cells ∧ slots + N ≤ R.slots) (hdg : decode cc pc = .ok (.newarray .int, 2)) {q : Nat} (hq : H.size = q)
    (kk : ∀ (H1 : Heap), va_at (zD z) vwCl (q, cI (zI z) N (fun _ => 0)) H1 → H1.size = q + 1 → (∀ x : Nat, x < q → H1[x]? = H[x]?) → va_S (zA z) s.heap H1 locs → W p l e R s m args below meth c H1 locs (cells + 1) (slots + N) Q (F0 m (pc + 2) ls (.ref q :: rest))) : W p l e R s m args below meth c H locs cells slots Q (F0 m pc ls (.int (nI N) :: rest)) := by
  subst hq
  obtain ⟨hx, hb, hml, hown, hts⟩ := S
  refine va_newaK (atype := .int) hx hb (hts _ harr) rfl hdg rfl (nI_pos (by omega)) (nI_clamp (by omega)) (by show N * 4 ≤ 536870912; omega) hf.1 hf.2 rfl fun H1 cA e1 z1 o1 _ hNm => ?_
  have f1' : s.vm.findClass ("[" ++ FieldType.int.toString) = some (zI z) := (hE.1.2 0 _ rfl).2
  cases Option.some.inj (hNm.symm.trans f1')
  refine kk H1 ?_ z1 o1 ⟨Nat.le_trans hS.1 (by omega), fun x h1 h2 => (o1 x (Nat.lt_of_lt_of_le h1 hS.1)).trans (hS.2.1 x h1 h2), hS.2.2⟩
  show H1[H.size]? = some (vp_cell _ _)
  rw [e1, vp_cell_i]
  rfl
variable {y : MethodName} {bytes : ByteArray} {maxL n index : Nat} {ret : Option FieldType} {ws : List Cond} {rm : Room} {P : Heap → Prop} {As : List Value} {A : Nat → Prop} {B : Heap → Prop}
theorem g_callSv (S : CallFix p m c cc nL s args wU own) (hE : EV z s s.heap) (hS : va_S (zA z) s.heap H locs) (hM : Met l y ws rm (PE z As P) (qC A B) mc ms (zA z)) (cw : CallB R s args own index y bytes maxL ret ws rm mc ms n ∧ (Cond.static y).before args s = true)
    (hP : P H) (hn : As.length = n) (hsize : ls.size = nL) (hstack : stk = As.reverse ++ rest) (hW : (rest.map fun v => v.category).sum ≤ 8) (hdg : decode cc pc = .ok (.invokestatic index, 3)) (hf : cells + mc ≤ R.cells ∧ slots + ms ≤ R.slots) (hA : ∀ q, q < H.size → A q → zB z ≤ q)
    (kk : ∀ (H1 : Heap) (locs1 : List Loc), B H1 → H.size ≤ H1.size → (∀ q : Nat, q < H.size → ¬ A q → H1[q]? = H[q]?) → va_S (zA z) s.heap H1 locs1 → W p l e R s m args below meth c H1 locs1 (cells + mc) (slots + ms) Q (F0 m (pc + 3) ls rest)) : W p l e R s m args below meth c H locs cells slots Q (F0 m pc ls stk) :=
  va_callv (va_runS S hM cw ⟨PE.blind, fun U hU hW => ⟨rfl, hE.at hS hU hW, by rw [hU]; exact hP⟩⟩ rfl hn hsize hstack (lv_room hW) hdg hf) hS hA (fun _ h => h)
    (fun u t9 H1 locs1 ht _ hp hB hz ho hS1 => kk H1 locs1 (by rw [← ht]; exact hB) hz ho hS1)
end GNA
theorem fil_s (v : Int32) (f : Nat → Int32) (k : Nat) : upd (fun j => if j < k then v else f j) k v = fun j => if j < k + 1 then v else f j := by
  funext j
  by_cases e : j = k
  · subst e; simp [upd]
  · have e2 : (j < k + 1) = (j < k) := by apply propext; omega
    simp [upd, e, e2]
theorem fil_0 (v : Int32) (f : Nat → Int32) : (fun j => if j < 0 then v else f j) = f := by
  funext j; simp
set_option maxHeartbeats 4000000 in
set_option maxRecDepth 100000 in
/-- Arrays.fill(array of 12, value) -/
theorem c_fill (l : Launch) (z : ZE) (a : Nat) (v : Int32) (f : Nat → Int32) : Met l yJ7_fill_53178 (.code yJ7_fill_53178 cJ7_fill_53178 4 none :: wU) ({ frames := 0, cells := 0, slots := 0, locals := 0 }) (PE z [.ref a, .int v] (fun H => zB z ≤ a ∧ va_at (zD z) vwCl (a, cI (zI z) 12 f) H)) (qC (fun x => x = a) (fun H => va_at (zD z) vwCl (a, cI (zI z) 12 (fun j => if j < 12 then v else f j)) H)) 0 0 (zA z) := by
  refine Met.ofW (cc := cJ7_fill_53178) (maxL := 4) (ret := none) (by decide) rfl ?_
  intro p e s m args below meth c s₁ BD hml hv
  obtain ⟨rfl, hE, hW⟩ := hv
  have hts : ∀ w ∈ wU, w.before _ s = true := fun w h => atoms_spec (ws := .code yJ7_fill_53178 cJ7_fill_53178 4 none :: wU) BD.pre w (List.mem_cons_of_mem _ h)
  have S : CallFix p m c cJ7_fill_53178 4 s ([.ref a, .int v] : List Value).toArray wU "java/util/Arrays" := ⟨BD.exec, BD.bytes, hml, findClass_of_methodNamed BD.named, hts⟩
  have hx := S.1
  have hb := S.2.1
  have hr := BD.returns
  have hlocks := BD.notSynchronized
  have hS : va_S (zA z) s.heap s.heap [] := va_S.rf
  have hl := lv_entry ([.ref a, .int v]) (n := 4) (Nat.le_of_ble_eq_true rfl)
  rw [lg_entry_eq]
  generalize (lg_sl ([.ref a, .int v]) ++ List.replicate (4 - (lg_sl ([.ref a, .int v])).length) Slot.unset).toArray = ls at hl ⊢
  have hl : lv_has ls 4 [(0, .ref a), (1, .int v)] := hl
  obtain ⟨hza, ha⟩ := hW
  refine lv_iconst (v := nI 0) hx hb dJ7_fill_53178_0 (by decide) ?_
  refine lv_istore_n (lv' := [(2, .int (nI 0)), (0, .ref a), (1, .int v)]) hx hb dJ7_fill_53178_1 rfl hl (by decide) rfl (fun ls hl => ?_)
  refine lv_aload_n hx hb dJ7_fill_53178_2 rfl (lv_at hl 1 rfl) ?_
  refine va_alen (v := nI 12) hx hb hE.1 (P1 ha) 0 0 rfl rfl rfl dJ7_fill_53178_3 ?_
  refine lv_istore_n (lv' := [(3, .int (nI 12)), (2, .int (nI 0)), (0, .ref a), (1, .int v)]) hx hb dJ7_fill_53178_4 rfl hl (by decide) rfl (fun ls hl => ?_)
  have lp : ∀ (k9 k : Nat), k ≤ 12 → 12 - k < k9 → ∀ (H : Heap) (locs : List Loc), va_at (zD z) vwCl (a, cI (zI z) 12 (fun j => if j < k then v else f j)) H → s.heap.size ≤ H.size → (∀ x : Nat, x < s.heap.size → ¬ x = a → H[x]? = s.heap[x]?) → va_S (zA z) s.heap H locs → ∀ ls : Array Slot, lv_has ls 4 [(3, .int (nI 12)), (2, .int (nI k)), (0, .ref a), (1, .int v)] → W p l e ({ frames := 0, cells := 0, slots := 0, locals := 0 } : Room) s m ([.ref a, .int v] : List Value).toArray below meth c H locs 0 0 (MQ below (qC (fun x => x = a) (fun H => va_at (zD z) vwCl (a, cI (zI z) 12 (fun j => if j < 12 then v else f j)) H)) ([.ref a, .int v] : List Value).toArray s 0 0 (zA z)) (F0 m 5 ls []) := by
    intro k9
    induction k9 with
    | zero => intro k hk h9; exact absurd h9 (Nat.not_lt_zero _)
    | succ k9 ih =>
      intro k hk hk9 H locs ha hz ho hS ls hl
      refine lv_iload_n hx hb dJ7_fill_53178_5 rfl (lv_at hl 1 rfl) ?_
      refine lv_iload_n hx hb dJ7_fill_53178_6 rfl (lv_at hl 0 rfl) ?_
      refine g_icmp_ge S (by omega) (by omega) (tgt := 20) dJ7_fill_53178_7 (by decide) (fun c7 => ?_) (fun c7 => ?_)
      · obtain rfl : k = 12 := by omega
        exact c_ret S hr hlocks hS ha ⟨hz, ho⟩ ⟨Nat.le_refl _, Nat.le_refl _⟩ dJ7_fill_53178_20
      · refine lv_aload_n hx hb dJ7_fill_53178_10 rfl (lv_at hl 2 rfl) ?_
        refine lv_iload_n hx hb dJ7_fill_53178_11 rfl (lv_at hl 1 rfl) ?_
        refine lv_iload_n hx hb dJ7_fill_53178_12 rfl (lv_at hl 3 rfl) ?_
        refine g_iast S hE hS ha hza (vp_in_nI (show k < 12 by omega) (by decide)) dJ7_fill_53178_13 (fun H1 locs1 he oq z1 hS1 => ?_)
        rw [show (nI k : Int32).toNatClampNeg = k from nI_clamp (by omega), fil_s] at he
        refine lv_iinc (v := nI (k + 1)) (lv' := [(2, .int (nI (k + 1))), (3, .int (nI 12)), (0, .ref a), (1, .int v)]) hx hb dJ7_fill_53178_14 hl (k := 1) rfl (nI_1 _) (by decide) rfl (fun ls hl => ?_)
        refine lv_goto (tgt := 5) hx hb dJ7_fill_53178_17 (by decide) ?_
        exact ih (k + 1) (by omega) (by omega) H1 locs1 he (by omega) (fun x h1 h2 => (oq x h2).trans (ho x h1 h2)) hS1 ls (lv_sub hl [1, 0, 2, 3] rfl)
  exact lp 13 0 (Nat.zero_le _) (by omega) s.heap [] (by rw [fil_0]; exact ha) (Nat.le_refl _) (fun _ _ _ => rfl) hS ls hl
