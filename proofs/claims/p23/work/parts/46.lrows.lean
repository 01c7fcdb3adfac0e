/-! ===== the law's own world: the shop, and its ten arrays ===== -/
theorem gU_w {y : MethodName} {b : ByteArray} {n : Nat} {r : Option FieldType} {hh : List (Nat × Nat × Nat × Nat)} {own : String} {i : Nat} (h1 : Cond.methodLink own i y ∈ wU) (h2 : Cond.static y ∈ wU) (h4 : Cond.initialized y.cls ∈ wU) (h : Cond.codeWith y b n r hh ∈ wU) : GoodIn wU (va_wsS own i y (.codeWith y b n r hh :: wU)) := by
  refine gU fun w hw => ?_
  simp only [va_wsS, List.cons_append, List.nil_append, List.mem_cons] at hw
  rcases hw with rfl | rfl | rfl | rfl | hw <;> assumption
theorem WW.ua {z : ZE} {w : WG} {g gm : GS} {o : Nat → Int64} {H H1 : Heap} (h : WW z w g gm o H) {k i : Nat} {x : Int32} (hA : isA k = true) (he : va_at (zD z) vwCl (wad w 10 k, cI (zI z) (ln k) (upd (gm k) i x)) H1) (oq : ∀ q : Nat, q ≠ wad w 10 k → H1[q]? = H[q]?) : WW z w g (gup gm k i x) o H1 := by
  have e1 : gup gm k i x k = upd (gm k) i x := funext fun j => by simp [gup, upd]
  refine h.wr 10 k hA ?_ oq rfl (fun _ _ h => h) ?_ h.2.2.2
  · show va_at (zD z) vwCl (wad w 10 k, cI (zI z) (ln k) (gup gm k i x k)) H1
    rw [e1]
    exact he
  · intro k' i' hl hne
    match k', hl with
    | 0, _ => rfl
    | 1, _ => rfl
    | 2, _ => rfl
    | 3, _ => rfl
    | 4, _ => rfl
    | 5, _ => rfl
    | 6, _ => rfl
    | 7, _ => rfl
    | 8, _ => rfl
    | 9, hl => exact hl.elim
    | 10, _ =>
      have hik : i' ≠ k := fun q => hne ⟨rfl, q⟩
      have e : gup gm k i x i' = gm i' := funext fun j => gup_k hik
      simp only [ct, e]
    | 11, hl => exact hl.elim
    | n + 12, hl => exact hl.elim
/-- the shop at qx holds g, the law's array k at qa k holds gm k -/
def LI (z : ZE) (qx : Nat) (qa : Nat → Nat) (g gm : GS) (H : Heap) : Prop := ∃ w : WG, (wad w 0 0 = qx ∧ wad w 10 = qa) ∧ WW z w g gm (fun _ => 0) H
/-- what a call of the law's own act or breaksIn comes back with -/
def ares (sp : RS) : Int32 := if sp.1 = 0 then sp.2.1 else -1003
abbrev LQ (z : ZE) (qx : Nat) (qa : Nat → Nat) (gm : GS) (sp : RS) : Array Value → State → Outcome → State → Prop := va_Qi (fun r (_ : Unit) => r = ares sp) (fun _ (t : State) => LI z qx qa sp.2.2 gm t.heap) (zA z)
section GLW
variable {p : Program} {l : Launch} {e : Env} {R : Room} {s : State} {m : MethodId} {args : Array Value} {below : List Frame} {meth : Method} {c : Code} {H : Heap} {locs : List Loc} {cells slots mc ms : Nat} {Q : State → Prop}
variable {cc : ByteArray} {pc nL : Nat} {ls : Array Slot} {rest stk : List Value} {z : ZE} {own : String} {w : WG} {g gm : GS} {o : Nat → Int64} {sp : RS} {Ea Eb Ec : String} {qx : Nat} {qa : Nat → Nat}
theorem l_ald (S : CallFix p m c cc nL s args wU own) (hE : EV z s s.heap) (hI : LI z qx qa g gm H) (k : Nat) {i v : Int32} {j : Nat} (hk : isA k = true) (hin : vp_in i (ln k)) (hj : i.toNatClampNeg = j) (hv : gm k j = v) (hdg : decode cc pc = .ok (.iaload, 1))
    (kk : W p l e R s m args below meth c H locs cells slots Q (F0 m (pc + 1) ls (.int v :: rest))) : W p l e R s m args below meth c H locs cells slots Q (F0 m pc ls (.int i :: .ref (qa k) :: rest)) := by
  obtain ⟨w, ⟨-, rfl⟩, hW⟩ := hI
  refine g_iald S hE (hW.ma hk) hin hdg ?_
  rw [hj, hv]
  exact kk
theorem l_ast (S : CallFix p m c cc nL s args wU own) (hE : EV z s s.heap) {H0 : Heap} (hS : va_S (zA z) H0 H locs) (hI : LI z qx qa g gm H) (k : Nat) {i x : Int32} {j : Nat} (hk : isA k = true) (hin : vp_in i (ln k)) (hj : i.toNatClampNeg = j) (hdg : decode cc pc = .ok (.iastore, 1))
    (kk : ∀ (H1 : Heap) (locs1 : List Loc), LI z qx qa g (gup gm k j x) H1 → va_S (zA z) H0 H1 locs1 → W p l e R s m args below meth c H1 locs1 cells slots Q (F0 m (pc + 1) ls rest)) : W p l e R s m args below meth c H locs cells slots Q (F0 m pc ls (.int x :: .int i :: .ref (qa k) :: rest)) := by
  obtain ⟨w, ⟨h1, rfl⟩, hW⟩ := hI
  subst hj
  exact g_iast S hE hS (hW.ma hk) (hW.2.2.1 10 k hk) hin hdg (fun H1 locs1 a1 a2 _ a4 => kk H1 locs1 ⟨w, ⟨h1, rfl⟩, hW.ua hk a1 a2⟩ a4)
variable {y : MethodName} {bytes : ByteArray} {maxL n index : Nat} {ret : Option FieldType} {ws : List Cond} {rm : Room} {As : List Value}
theorem x_wcall (S : CallFix p m c cc nL s args wU own) (hE : EV z s s.heap) (hS : va_S (zA z) s.heap H locs) (hW : WW z w g gm o H) (hM : vx_Met l y ws rm (PE z (.ref (wad w 0 0) :: As) (fun H => WW z w g gm o H)) (xQ z w gm o sp) (xX z w g gm o sp Ea Eb Ec) mc ms (zA z)) (cw : CallW R s args own RX5 index y bytes maxL ret ws rm mc ms n)
    (hn : As.length = n) (hsize : ls.size = nL) (hstack : stk = As.reverse ++ .ref (wad w 0 0) :: rest) (hWr : (rest.map fun v => v.category).sum ≤ 8) (hdg : decode cc pc = .ok (.invokevirtual index, 3)) (hf : cells + mc ≤ R.cells ∧ slots + ms ≤ R.slots)
    (kx : ∀ (k : Int32) (ce : Cell) (q9 : Addr) (H1 : Heap) (locs1 : List Loc), sp = bad k g → (k = 1 ∨ k = 2 ∨ k = 3) → WW z w g gm o H1 → va_S (zA z) s.heap H1 locs1 → H1[q9]? = some ce → ce.vm = .none → s.vm.findClass (ex3 Ea Eb Ec k) = some ce.cls → vx_W p l e R s m args below meth c H1 locs1 (cells + mc) (slots + ms) Q (F0 m pc ls rest) q9)
    (kk : ∀ (r : Int32) (w' : WG) (g' : GS) (H1 : Heap) (locs1 : List Loc), sp = (0, r, g') → wsm w w' → WW z w' g' gm o H1 → va_S (zA z) s.heap H1 locs1 → W p l e R s m args below meth c H1 locs1 (cells + mc) (slots + ms) Q (F0 m (pc + 3) ls (.int r :: rest))) :
    W p l e R s m args below meth c H locs cells slots Q (F0 m pc ls stk) :=
  vx_calli (vx_runV S hM cw ⟨PE.blind, hE.recv hW.sh (q := (RX5, TX5, 8)) rfl, fun U hU hW2 => ⟨rfl, hE.at hS hU hW2, by rw [hU]; exact hW⟩⟩ rfl hn hsize hstack (lv_room hWr) hdg hf) hS (fun _ _ h => h) (fun _ h => h) (fun _ _ h => h)
    (fun E ce q9 u t H1 locs1 ht _ hp hB _ _ hS1 h1 h2 h3 => by
      obtain ⟨rfl, hB⟩ := hB
      exact kx u ce q9 H1 locs1 hp.1 hp.2 (by rw [← ht]; exact hB) hS1 h1 h2 h3)
    (fun r u t H1 locs1 ht _ hp hB _ _ hS1 => kk r u.1 u.2 H1 locs1 hp.1 hp.2 (by rw [← ht]; exact hB) hS1)
/-- a call of the shop that is not refused -/
theorem l_pcall {r : Int32} {g' : GS} (S : CallFix p m c cc nL s args wU own) (hE : EV z s s.heap) (hS : va_S (zA z) s.heap H locs) (hI : LI z qx qa g gm H) (hsp : sp = (0, r, g')) (hM : ∀ w : WG, vx_Met l y ws rm (PE z (.ref (wad w 0 0) :: As) (fun H => WW z w g gm (fun _ => 0) H)) (xQ z w gm (fun _ => 0) sp) (xX z w g gm (fun _ => 0) sp Ea Eb Ec) mc ms (zA z)) (cw : CallW R s args own RX5 index y bytes maxL ret ws rm mc ms n)
    (hn : As.length = n) (hsize : ls.size = nL) (hstack : stk = As.reverse ++ .ref qx :: rest) (hWr : (rest.map fun v => v.category).sum ≤ 8) (hdg : decode cc pc = .ok (.invokevirtual index, 3)) (hf : cells + mc ≤ R.cells ∧ slots + ms ≤ R.slots)
    (kk : ∀ (H1 : Heap) (locs1 : List Loc), LI z qx qa g' gm H1 → va_S (zA z) s.heap H1 locs1 → W p l e R s m args below meth c H1 locs1 (cells + mc) (slots + ms) Q (F0 m (pc + 3) ls (.int r :: rest))) :
    W p l e R s m args below meth c H locs cells slots Q (F0 m pc ls stk) := by
  obtain ⟨w, ⟨h1, h2⟩, hW⟩ := hI
  refine x_wcall S hE hS hW (hM w) cw hn hsize (by rw [hstack, h1]) hWr hdg hf (fun k ce q9 H1 locs1 hb hk _ _ _ _ _ => ?_) (fun r' w' g'' H1 locs1 hs hw hW1 hS1 => ?_)
  · exfalso
    rw [hsp] at hb
    have e : (0 : Int32) = k := congrArg Prod.fst hb
    rcases hk with rfl | rfl | rfl <;> exact absurd e (by decide)
  · rw [hsp] at hs
    cases hs
    exact kk H1 locs1 ⟨w', ⟨hw.1.trans h1, hw.2.1.trans h2⟩, hW1⟩ hS1
/-- a call of the shop that only reads and throws nothing -/
theorem l_rcall {v : Int32} (S : CallFix p m c cc nL s args wU own) (hE : EV z s s.heap) (hS : va_S (zA z) s.heap H locs) (hI : LI z qx qa g gm H) (hM : ∀ w : WG, Met l y ws rm (PE z (.ref (wad w 0 0) :: As) (fun H => WW z w g gm (fun _ => 0) H)) (rqi v) 0 0 zF) (cw : CallW R s args own RX5 index y bytes maxL ret ws rm 0 0 n)
    (hn : As.length = n) (hsize : ls.size = nL) (hstack : stk = As.reverse ++ .ref qx :: rest) (hWr : (rest.map fun v => v.category).sum ≤ 8) (hdg : decode cc pc = .ok (.invokevirtual index, 3)) (hf : cells ≤ R.cells ∧ slots ≤ R.slots)
    (kk : W p l e R s m args below meth c H locs cells slots Q (F0 m (pc + 3) ls (.int v :: rest))) :
    W p l e R s m args below meth c H locs cells slots Q (F0 m pc ls stk) := by
  obtain ⟨w, ⟨h1, h2⟩, hW⟩ := hI
  exact g_callV S hE hS (hM w) cw (hE.recv hW.sh (q := (RX5, TX5, 8)) rfl) hW hn hsize (by rw [hstack, h1]) hWr hdg hf kk
/-- a call of the law's own act or breaksIn -/
theorem l_wcall {N : Nat} {hh : List (Nat × Nat × Nat × Nat)} (S : CallFix p m c cc nL s args wU own) (hE : EV z s s.heap) (hS : va_S (zA z) s.heap H locs) (hI : LI z qx qa g gm H) (hM : Met l y ws rm (PE z As (fun H => LI z qx qa g gm H)) (LQ z qx qa gm sp) mc ms (zA z)) (cw : vx_CSW R s args own index y bytes maxL ret hh ws rm mc ms N)
    (hn : As.length = N) (hsize : ls.size = nL) (hstack : stk = As.reverse ++ rest) (hWr : (rest.map fun v => v.category).sum ≤ 8) (hdg : decode cc pc = .ok (.invokestatic index, 3)) (hf : cells + mc ≤ R.cells ∧ slots + ms ≤ R.slots)
    (kk : ∀ (H1 : Heap) (locs1 : List Loc), LI z qx qa sp.2.2 gm H1 → va_S (zA z) s.heap H1 locs1 → W p l e R s m args below meth c H1 locs1 (cells + mc) (slots + ms) Q (F0 m (pc + 3) ls (.int (ares sp) :: rest))) :
    W p l e R s m args below meth c H locs cells slots Q (F0 m pc ls stk) :=
  va_calli (vx_runSW S hM cw ⟨PE.blind, fun U hU hW2 => ⟨rfl, hE.at hS hU hW2, by rw [hU]; exact hI⟩⟩ rfl hn hsize hstack (lv_room hWr) hdg hf) hS (fun _ _ h => h) (fun _ h => h)
    (fun r u t H1 locs1 ht _ hp hB _ _ hS1 => by
      have hB' : LI z qx qa sp.2.2 gm t.heap := hB
      rw [ht] at hB'
      cases (show r = ares sp from hp)
      exact kk H1 locs1 hB' hS1)
theorem l_ret {x : Int32} {g' : GS} (S : CallFix p m c cc nL s args wU own) (hr : meth.sig.returnType = some .int) (hlocks : meth.locks = false) (hS : va_S (zA z) s.heap H locs) (hI : LI z qx qa g' gm H) (hp : x = ares sp) (hg : g' = sp.2.2) (hc : cells ≤ mc ∧ slots ≤ ms) (hdg : decode cc pc = .ok (.ireturn, 1)) :
    W p l e R s m args below meth c H locs cells slots (MQ below (LQ z qx qa gm sp) args s mc ms (zA z)) (F0 m pc ls [.int x]) :=
  W.widen hc.1 hc.2 (W.iret (v := x) S.1 S.2.1 hr (fun t9 ht _ => ⟨⟨x, (), rfl, hp, by show LI z qx qa sp.2.2 gm t9.heap; rw [ht, ← hg]; exact hI⟩, hS.F ht⟩) hS.2.2 hdg)
theorem EV.nw {U : State} {H : Heap} {args : Array Value} (h : EV z U H) {a b : String} (hq : (a, b) ∈ nwL) : (Cond.castable a b).before args U = true := va_Nw.use rfl (h.2.2.2.2.2.2.1 (a, b) hq)
end GLW
