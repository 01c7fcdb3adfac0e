/-! ===== new things, and the constructors' calls ===== -/
abbrev qC (A : Nat → Prop) (B : Heap → Prop) : Array Value → State → Outcome → State → Prop := va_Qv (fun (_ : Unit) => True) (fun _ (t : State) => B t.heap) A
theorem WW.fr {z : ZE} {w : WG} {g gm : GS} {o : Nat → Int64} {H H1 : Heap} (h : WW z w g gm o H) {A : Nat → Prop} (hne : ∀ k i, lv_e g k i → ¬ A (wad w k i)) (oq : ∀ x : Nat, x < H.size → ¬ A x → H1[x]? = H[x]?) : WW z w g gm o H1 :=
  ⟨fun k i hl => (h.1 k i hl).kept (oq _ (h.1 k i hl).lt (hne k i hl)), h.2⟩
theorem WW.old {z : ZE} {w : WG} {g gm : GS} {o : Nat → Int64} {H : Heap} (h : WW z w g gm o H) {q : Nat} (hq : H.size ≤ q) : ∀ k i, lv_e g k i → wad w k i ≠ q := fun k i hl e => by
  have := (h.1 k i hl).lt
  omega
section GNW
variable {p : Program} {l : Launch} {e : Env} {R : Room} {s : State} {m : MethodId} {args : Array Value} {below : List Frame} {meth : Method} {c : Code} {H : Heap} {locs : List Loc} {cells slots mc ms : Nat} {Q : State → Prop}
variable {cc : ByteArray} {pc nL : Nat} {ls : Array Slot} {rest stk : List Value} {z : ZE} {Ts : List Cond} {own : String}
theorem g_new (S : CallFix p m c cc nL s args Ts own) (hE : EV z s s.heap) (hS : va_S (zA z) s.heap H locs) {C : String} {T : u_T} {N ci index : Nat} (hc : vwCl[ci]? = some (C, T, N)) (hin : ∀ w ∈ u_ws C T N, w ∈ Ts) (ty : Nat → FieldType) (hty : ∀ k, k < N → parseFieldDescriptor (T k).2.2.1 = some (ty k)) (hcl : Cond.classLink own index C ∈ Ts) (hinst : Cond.instantiable C N ∈ Ts) (hini : Cond.initialized C ∈ Ts) {fs : List Value} (hfs : ∀ j, j < N → defaultValue (ty j) = vp_V fs j)
    (hf : cells + 1 ≤ R.cells ∧ slots + N ≤ R.slots) (hdg : decode cc pc = .ok (.new index, 3)) {q : Nat} (hq : H.size = q)
    (kk : ∀ (H1 : Heap), va_at (zD z) vwCl (q, .inr (ci, fs)) H1 → H1.size = q + 1 → (∀ x : Nat, x < q → H1[x]? = H[x]?) → va_S (zA z) s.heap H1 locs → W p l e R s m args below meth c H1 locs (cells + 1) (slots + N) Q (F0 m (pc + 3) ls (.ref q :: rest))) : W p l e R s m args below meth c H locs cells slots Q (F0 m pc ls rest) := by
  subst hq
  obtain ⟨hx, hb, hml, hown, hts⟩ := S
  have hKn := hE.1.1 ci _ hc
  refine W.newcK hx hb hown (hts _ hcl) (hts _ hinst) (hts _ hini) rfl hdg hf.1 hf.2 hKn.2.1 rfl fun H1 kC hkC e1 z1 o1 => ?_
  exact kk H1 ⟨_, hc, (u_born ty hts hin hKn hkC e1 hty).to hfs⟩ z1 o1 ⟨Nat.le_trans hS.1 (by omega), fun x h1 h2 => (o1 x (Nat.lt_of_lt_of_le h1 hS.1)).trans (hS.2.1 x h1 h2), hS.2.2⟩
theorem g_anew (S : CallFix p m c cc nL s args Ts own) (hE : EV z s s.heap) (hS : va_S (zA z) s.heap H locs) {index N : Nat} (hcl : Cond.classLink own index "java/lang/Object" ∈ Ts) (hN : N ≤ 1000) (hf : cells + 1 ≤ R.cells ∧ slots + N ≤ R.slots) (hdg : decode cc pc = .ok (.anewarray index, 3)) {q : Nat} (hq : H.size = q)
    (kk : ∀ (H1 : Heap), va_at (zD z) vwCl (q, cQ (zO z) N (fun _ => none)) H1 → H1.size = q + 1 → (∀ x : Nat, x < q → H1[x]? = H[x]?) → va_S (zA z) s.heap H1 locs → W p l e R s m args below meth c H1 locs (cells + 1) (slots + N) Q (F0 m (pc + 3) ls (.ref q :: rest))) : W p l e R s m args below meth c H locs cells slots Q (F0 m pc ls (.int (nI N) :: rest)) := by
  subst hq
  obtain ⟨hx, hb, hml, hown, hts⟩ := S
  have hNN : (nI N).toNatClampNeg = N := nI_clamp (by omega)
  refine W.anew hx hb hown (hts _ hcl) (va_AO.use hE.2.2.2.2.2.1.1) rfl hdg rfl (nI_pos (by omega)) (by rw [hNN]; omega) hf.1 (by rw [hNN]; exact hf.2) fun cA kA comp f1 f2 f3 f4 => ?_
  rw [hNN]
  obtain ⟨-, kA', comp', f2', f3', f4', f1'⟩ := hE.1.2 3 _ rfl
  cases Option.some.inj (f1.symm.trans f1')
  generalize hH1 : H.push ({ cls := zO z, slots := Array.replicate N .null, vm := .none } : Cell) = H1
  have z1 : H1.size = H.size + 1 := by rw [← hH1, Array.size_push]
  have e1 : H1[H.size]? = some (arrV (zO z) N (fun _ => .null)) := by rw [← hH1, Array.getElem?_push_size, ← arrV_new]
  have o1 : ∀ q : Nat, q < H.size → H1[q]? = H[q]? := fun q hq => by rw [← hH1, Array.getElem?_push, if_neg (Nat.ne_of_lt hq)]
  exact kk H1 e1 z1 o1 ⟨Nat.le_trans hS.1 (by omega), fun x h1 h2 => (o1 x (Nat.lt_of_lt_of_le h1 hS.1)).trans (hS.2.1 x h1 h2), hS.2.2⟩
theorem g_alenq (S : CallFix p m c cc nL s args Ts own) (hE : EV z s s.heap) {a n : Nat} {f : Nat → Option Nat} (hat : va_at (zD z) vwCl (a, cQ (zO z) n f) H) (hdg : decode cc pc = .ok (.arraylength, 1))
    (kk : W p l e R s m args below meth c H locs cells slots Q (F0 m (pc + 1) ls (.int (nI n) :: rest))) : W p l e R s m args below meth c H locs cells slots Q (F0 m pc ls (.ref a :: rest)) :=
  va_alen S.1 S.2.1 hE.1 (P1 hat) 0 3 rfl rfl rfl hdg kk
theorem g_alen0 (S : CallFix p m c cc nL s args Ts own) (hE : EV z s s.heap) (hS : va_S (zA z) s.heap H locs) (hdg : decode cc pc = .ok (.arraylength, 1))
    (kk : W p l e R s m args below meth c H locs cells slots Q (F0 m (pc + 1) ls (.int (nI 0) :: rest))) : W p l e R s m args below meth c H locs cells slots Q (F0 m pc ls (.ref (zd z) :: rest)) :=
  va_tlen S.1 S.2.1 hE.2.2.2.1.2 hS rfl hdg kk
variable {y : MethodName} {bytes : ByteArray} {maxL n index : Nat} {ws ws' : List Cond} {rm : Room} {P : Heap → Prop} {b : Addr} {As : List Value} {A : Nat → Prop} {B : Heap → Prop}
theorem x_cwI (n : Nat) (ht : ∀ w ∈ wU, w.before args s = true) (hl : Cond.methodLink own index y ∈ wU) (hin : Cond.instanceMethod y ∈ wU) (hini : Cond.initialized y.cls ∈ wU) (hcd : Cond.code y bytes maxL none ∈ wU) (hrc : rm.cells = mc) (hrs : rm.slots = ms)
    (hd : y.cls ≠ "java/lang/invoke/MethodHandle" ∧ y.cls ≠ "java/lang/invoke/VarHandle" ∧ (parseMethodDescriptor y.desc).map (fun d => d.parameters.length) = some n) (hR : rm.frames + 1 ≤ R.frames ∧ 8 + (maxL + 11) + rm.locals ≤ R.locals) (hn : y.name = "<init>") :
    CallB R s args own index y bytes maxL none (.code y bytes maxL none :: wU) rm mc ms n ∧ y.name = "<init>" ∧ (Cond.instanceMethod y).before args s = true := by
  have hG := gU_c hcd
  refine ⟨⟨hrc, hrs, hR.1, hR.2, pay_in ht hG, List.mem_cons_self, ht _ hcd, ht _ hini, ⟨hd.1, hd.2.1⟩, fun sig h => ?_, ht _ hl⟩, hn, ht _ hin⟩
  have h2 := hd.2.2
  rw [h] at h2
  exact (Option.some.inj h2).symm
theorem g_init (S : CallFix p m c cc nL s args wU own) (hE : EV z s s.heap) (hS : va_S (zA z) s.heap H locs) (hM : Met l y ws rm (PE z (.ref b :: As) P) (qC A B) mc ms (zA z)) (cw : CallB R s args own index y bytes maxL none ws rm mc ms n ∧ y.name = "<init>" ∧ (Cond.instanceMethod y).before args s = true)
    (hP : P H) (hn : As.length = n) (hsize : ls.size = nL) (hstack : stk = As.reverse ++ .ref b :: rest) (hW : (rest.map fun v => v.category).sum ≤ 8) (hdg : decode cc pc = .ok (.invokespecial index, 3)) (hf : cells + mc ≤ R.cells ∧ slots + ms ≤ R.slots) (hA : ∀ q, q < H.size → A q → zB z ≤ q)
    (kk : ∀ (H1 : Heap) (locs1 : List Loc), B H1 → H.size ≤ H1.size → (∀ q : Nat, q < H.size → ¬ A q → H1[q]? = H[q]?) → va_S (zA z) s.heap H1 locs1 → W p l e R s m args below meth c H1 locs1 (cells + mc) (slots + ms) Q (F0 m (pc + 3) ls rest)) : W p l e R s m args below meth c H locs cells slots Q (F0 m pc ls stk) :=
  va_callv (va_runI S hM cw ⟨PE.blind, fun U hU hW => ⟨rfl, hE.at hS hU hW, by rw [hU]; exact hP⟩⟩ rfl hn hsize hstack (lv_room hW) hdg hf) hS hA (fun _ h => h)
    (fun u t9 H1 locs1 ht _ hp hB hz ho hS1 => kk H1 locs1 (by rw [← ht]; exact hB) hz ho hS1)
theorem c_ret (S : CallFix p m c cc nL s args wU own) (hr : meth.sig.returnType = none) (hlocks : meth.locks = false) (hS : va_S (zA z) s.heap H locs) (hB : B H) (hF : s.heap.size ≤ H.size ∧ ∀ q : Nat, q < s.heap.size → ¬ A q → H[q]? = s.heap[q]?) (hc : cells ≤ mc ∧ slots ≤ ms) (hdg : decode cc pc = .ok (.return_, 1)) :
    W p l e R s m args below meth c H locs cells slots (MQ below (qC A B) args s mc ms (zA z)) (F0 m pc ls []) :=
  W.widen hc.1 hc.2 (W.vret S.1 S.2.1 hr (fun t9 ht _ => ⟨⟨(), rfl, trivial, by show B t9.heap; rw [ht]; exact hB⟩, by rw [va_F, ht]; exact hF⟩) hS.2.2 hdg)
theorem g_obj (S : CallFix p m c cc nL s args wU own) {idx : Nat} {a : Nat} (hl : Cond.methodLink own idx ⟨"java/lang/Object", "<init>", "()V"⟩ ∈ wU) (hsize : ls.size = nL) (hR : 1 ≤ R.frames ∧ 20 ≤ R.locals) (hW : (rest.map fun v => v.category).sum ≤ 8) (hdg : decode cc pc = .ok (.invokespecial idx, 3))
    (kk : W p l e R s m args below meth c H locs cells slots Q (F0 m (pc + 3) ls rest)) : W p l e R s m args below meth c H locs cells slots Q (F0 m pc ls (.ref a :: rest)) :=
  W.objInit S.1 S.2.1 S.2.2.2.1 (S.2.2.2.2 _ hl) (S.2.2.2.2 _ tw_29) (S.2.2.2.2 _ tw_30) (g := F0 m pc ls (.ref a :: rest)) rfl (hsize.trans S.2.2.1.symm) rfl hdg hR.1 (show 0 + (rest.map fun v => v.category).sum + 12 ≤ R.locals by omega) kk
end GNW
