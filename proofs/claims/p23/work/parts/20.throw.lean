/-! ===== what the shop's calls throw, and how they return ===== -/
abbrev nmE : List String := ["java/lang/RuntimeException", "java/lang/Exception"]
abbrev xI : String := "java/lang/IndexOutOfBoundsException"
abbrev xA : String := "java/lang/IllegalArgumentException"
abbrev xS : String := "java/lang/IllegalStateException"
def badE (E : String) : List Cond := .castable E E :: ndL.map .declares
def exR (ik ic : Nat) (E : String) : Prop := (Cond.classLink RX5 ik E ∈ wU ∧ Cond.initialized E ∈ wU) ∧ ((E, E) ∈ nwL ∧ Bundle.fit E = true) ∧ (∀ w ∈ (vx_atS RX5 ic E nmE).filter goodWord, w ∈ wU) ∧ (∀ w ∈ (vx_atS RX5 ic E nmE).filter (fun w => !goodWord w), w ∈ badE E) ∧ ∀ w ∈ Cond.classLink RX5 ik E :: Cond.initialized E :: vx_atS RX5 ic E nmE, vx_ot w = true
theorem thr_n : ∀ n ∈ nmE, Bundle.fit n = true := by decide +kernel
theorem thr_w {L : List Cond} (h : ∀ w ∈ L.filter goodWord, w ∈ lw_tbl) : ∀ w ∈ L.filter goodWord, w ∈ wU := fun w hw => List.mem_filter.mpr ⟨h w hw, (List.mem_filter.mp hw).2⟩
theorem exI : exR 45 49 xI := ⟨⟨tw_90, tw_18⟩, ⟨by decide +kernel, by decide +kernel⟩, thr_w (by decide +kernel), by decide +kernel, by decide +kernel⟩
theorem exA : exR 56 60 xA := ⟨⟨tw_161, tw_9⟩, ⟨by decide +kernel, by decide +kernel⟩, thr_w (by decide +kernel), by decide +kernel, by decide +kernel⟩
theorem exS : exR 63 67 xS := ⟨⟨tw_182, tw_10⟩, ⟨by decide +kernel, by decide +kernel⟩, thr_w (by decide +kernel), by decide +kernel, by decide +kernel⟩
/-- the world's fixed places -/
def wsm (w w' : WG) : Prop := wad w' 0 0 = wad w 0 0 ∧ wad w' 10 = wad w 10 ∧ wad w' 1 0 = wad w 1 0
theorem wsm.rf {w : WG} : wsm w w := ⟨rfl, rfl, rfl⟩
theorem wsm.trans {w w1 w2 : WG} (h : wsm w w1) (h2 : wsm w1 w2) : wsm w w2 := ⟨h2.1.trans h.1, h2.2.1.trans h.2.1, h2.2.2.trans h.2.2⟩
abbrev xQ (z : ZE) (w : WG) (gm : GS) (o : Nat → Int64) (sp : RS) : Array Value → State → Outcome → State → Prop := va_Qi (fun v (u : WG × GS) => sp = (0, v, u.2) ∧ wsm w u.1) (fun (u : WG × GS) (t : State) => WW z u.1 u.2 gm o t.heap) (zA z)
def ex3 (a b c : String) (k : Int32) : String := if k = 1 then a else if k = 2 then b else c
abbrev xX (z : ZE) (w : WG) (g gm : GS) (o : Nat → Int64) (sp : RS) (a b c : String) : String → State → State → Prop := vx_X (fun (k : Int32) => sp = bad k g ∧ (k = 1 ∨ k = 2 ∨ k = 3)) (fun E k (t : State) => E = ex3 a b c k ∧ WW z w g gm o t.heap) (zA z)
section GTH
variable {p : Program} {l : Launch} {e : Env} {R : Room} {s : State} {m : MethodId} {args : Array Value} {below : List Frame} {meth : Method} {c : Code} {H : Heap} {locs : List Loc} {cells slots mc ms : Nat} {Q : State → Prop}
variable {cc : ByteArray} {pc nL : Nat} {ls : Array Slot} {rest stk : List Value} {z : ZE} {own : String} {w : WG} {g gm : GS} {o : Nat → Int64} {sp : RS} {Ea Eb Ec : String}
theorem g_throw (ik is ic : Nat) (E text : String) (k : Int32) (X : exR ik ic E) (S : CallFix p m c cc nL s args wU RX5) (hst : l.stackTraces = false) (hE : EV z s s.heap) (hS : va_S (zA z) s.heap H locs) (hW : WW z w g gm o H) (hq : (is, text) ∈ strL) (hsize : ls.size = nL) (hno : ∀ x ∈ c.exceptionTable.toList, False) (hlocks : meth.locks = false)
    (d0 : decode cc pc = .ok (.new ik, 3)) (d3 : decode cc (pc + 3) = .ok (.dup, 1)) (d4 : decode cc (pc + 4) = .ok (.ldc is, 2)) (d6 : decode cc (pc + 6) = .ok (.invokespecial ic, 3)) (d9 : decode cc (pc + 9) = .ok (.athrow, 1))
    (hR : 6 ≤ R.frames ∧ 90 ≤ R.locals ∧ cells + 1 ≤ R.cells ∧ slots + 6 ≤ R.slots) (hc : cells + 1 ≤ mc ∧ slots + 6 ≤ ms) (hsp : sp = bad k g ∧ (k = 1 ∨ k = 2 ∨ k = 3)) (hk : E = ex3 Ea Eb Ec k) :
    W p l e R s m args below meth c H locs cells slots (vx_MQ below (xQ z w gm o sp) (xX z w g gm o sp Ea Eb Ec) args s mc ms (zA z)) (F0 m pc ls []) := by
  obtain ⟨⟨k1, k2⟩, ⟨k3, k4⟩, k5, k6, k7⟩ := X
  have hEE := hE
  obtain ⟨-, ⟨hU, hN⟩, -, -, -, -, hnw, -, hstr, -, hnd⟩ := hE
  obtain ⟨sa, hsa⟩ := hstr _ hq
  have hts := S.2.2.2.2
  refine vx_throwS (ik := ik) (is := is) (ic := ic) (names := nmE) (A := zA z) S.1 S.2.1 hst S.2.2.2.1 k4 thr_n (hts _ k1) (hts _ k2) hsa (vx_hat (B := badE E) (fun w hw => hts w (k5 w hw)) k6 ?_) k7 hU hN hS (hsize.trans S.2.2.1.symm) d0 d3 d4 d6 d9 (fun x hx => (hno x hx).elim)
    (show 2 + 3 < R.frames by omega) (show 0 + 82 ≤ R.locals by omega) hR.2.2.1 hR.2.2.2 hlocks ?_ hS.2.2 hc.1 hc.2
  · intro w hw
    rcases List.mem_cons.mp hw with rfl | hw
    · exact va_Nw.use rfl (hnw (E, E) k3)
    · obtain ⟨x, hx, rfl⟩ := List.mem_map.mp hw
      exact va_Nw.use rfl (hnd x hx)
  · intro t hA h1 h2
    exact ⟨k, hsp, ⟨hk, hW.kept h2⟩, Nat.le_trans hS.1 h1, fun q q1 q2 => by rw [h2 q (Nat.lt_of_lt_of_le q1 hS.1)]; exact hS.2.1 q q1 q2⟩
theorem x_ret {w' : WG} {g' : GS} (S : CallFix p m c cc nL s args wU own) (hr : meth.sig.returnType = some .int) (hlocks : meth.locks = false) (hS : va_S (zA z) s.heap H locs) (hW : WW z w' g' gm o H) {x : Int32} (hp : sp = (0, x, g')) (hs : wsm w w') (hc : cells ≤ mc ∧ slots ≤ ms) (hdg : decode cc pc = .ok (.ireturn, 1)) :
    W p l e R s m args below meth c H locs cells slots (vx_MQ below (xQ z w gm o sp) (xX z w g gm o sp Ea Eb Ec) args s mc ms (zA z)) (F0 m pc ls [.int x]) :=
  vx_ret (W.widen hc.1 hc.2 (W.iret (v := x) S.1 S.2.1 hr (fun t9 ht _ => ⟨⟨x, (w', g'), rfl, ⟨hp, hs⟩, by show WW z w' g' gm o t9.heap; rw [ht]; exact hW⟩, hS.F ht⟩) hS.2.2 hdg))
end GTH
section GTH2
variable {p : Program} {l : Launch} {e : Env} {R : Room} {s : State} {m : MethodId} {args : Array Value} {below : List Frame} {meth : Method} {c : Code} {H : Heap} {locs : List Loc} {cells slots mc ms : Nat} {Q : State → Prop}
variable {cc : ByteArray} {pc nL : Nat} {ls : Array Slot} {rest stk : List Value} {z : ZE} {own : String} {w : WG} {g gm : GS} {o : Nat → Int64} {sp : RS} {Ea Eb Ec : String}
theorem g_throwW (ik is ic : Nat) (E text : String) (k : Int32) (X : exR ik ic E) (S : CallFix p m c cc nL s args wU RX5) (hst : l.stackTraces = false) (hE : EV z s s.heap) (hS : va_S (zA z) s.heap H locs) (hW : WW z w g gm o H) (hq : (is, text) ∈ strL) (hsize : ls.size = nL) (hno : ∀ x ∈ c.exceptionTable.toList, False) (hlocks : meth.locks = false)
    (d0 : decode cc pc = .ok (.new ik, 3)) (d3 : decode cc (pc + 3) = .ok (.dup, 1)) (d4 : decode cc (pc + 4) = .ok (.ldc_w is, 3)) (d7 : decode cc (pc + 7) = .ok (.invokespecial ic, 3)) (d10 : decode cc (pc + 10) = .ok (.athrow, 1))
    (hR : 6 ≤ R.frames ∧ 90 ≤ R.locals ∧ cells + 1 ≤ R.cells ∧ slots + 6 ≤ R.slots) (hc : cells + 1 ≤ mc ∧ slots + 6 ≤ ms) (hsp : sp = bad k g ∧ (k = 1 ∨ k = 2 ∨ k = 3)) (hk : E = ex3 Ea Eb Ec k) :
    W p l e R s m args below meth c H locs cells slots (vx_MQ below (xQ z w gm o sp) (xX z w g gm o sp Ea Eb Ec) args s mc ms (zA z)) (F0 m pc ls []) := by
  obtain ⟨⟨k1, k2⟩, ⟨k3, k4⟩, k5, k6, k7⟩ := X
  have hEE := hE
  obtain ⟨-, ⟨hU, hN⟩, -, -, -, -, hnw, -, hstr, -, hnd⟩ := hE
  obtain ⟨sa, hsa⟩ := hstr _ hq
  have hts := S.2.2.2.2
  refine vx_throwSW (ik := ik) (is := is) (ic := ic) (names := nmE) (A := zA z) S.1 S.2.1 hst S.2.2.2.1 k4 thr_n (hts _ k1) (hts _ k2) hsa (vx_hat (B := badE E) (fun w hw => hts w (k5 w hw)) k6 ?_) k7 hU hN hS (hsize.trans S.2.2.1.symm) d0 d3 d4 d7 d10 (fun x hx => (hno x hx).elim)
    (show 2 + 3 < R.frames by omega) (show 0 + 82 ≤ R.locals by omega) hR.2.2.1 hR.2.2.2 hlocks ?_ hS.2.2 hc.1 hc.2
  · intro w hw
    rcases List.mem_cons.mp hw with rfl | hw
    · exact va_Nw.use rfl (hnw (E, E) k3)
    · obtain ⟨x, hx, rfl⟩ := List.mem_map.mp hw
      exact va_Nw.use rfl (hnd x hx)
  · intro t hA h1 h2
    exact ⟨k, hsp, ⟨hk, hW.kept h2⟩, Nat.le_trans hS.1 h1, fun q q1 q2 => by rw [h2 q (Nat.lt_of_lt_of_le q1 hS.1)]; exact hS.2.1 q q1 q2⟩
end GTH2
/-! calls of methods that write the world, their end known by its state -/
abbrev xQv (z : ZE) (w : WG) (g gm : GS) (o : Nat → Int64) : Array Value → State → Outcome → State → Prop := va_Qv (fun (_ : Unit) => True) (fun _ (t : State) => WW z w g gm o t.heap) (zA z)
abbrev xQi (z : ZE) (w : WG) (g gm : GS) (o : Nat → Int64) (v : Int32) : Array Value → State → Outcome → State → Prop := va_Qi (fun r (_ : Unit) => r = v) (fun _ (t : State) => WW z w g gm o t.heap) (zA z)
section GXC
variable {p : Program} {l : Launch} {e : Env} {R : Room} {s : State} {m : MethodId} {args : Array Value} {below : List Frame} {meth : Method} {c : Code} {H : Heap} {locs : List Loc} {cells slots : Nat} {Q : State → Prop}
variable {cc : ByteArray} {pc nL : Nat} {ls : Array Slot} {rest stk : List Value} {z : ZE} {own : String} {w : WG} {g gm : GS} {o : Nat → Int64}
variable {y x0 : MethodName} {bytes : ByteArray} {maxL n index : Nat} {ret : Option FieldType} {ws : List Cond} {rm : Room} {P : Heap → Prop} {C owner host : String} {b : Addr} {As : List Value}
theorem x_vret (S : CallFix p m c cc nL s args wU own) (hr : meth.sig.returnType = none) (hlocks : meth.locks = false) (hS : va_S (zA z) s.heap H locs) (hW : WW z w g gm o H) (hdg : decode cc pc = .ok (.return_, 1)) :
    W p l e R s m args below meth c H locs 0 0 (MQ below (xQv z w g gm o) args s 0 0 (zA z)) (F0 m pc ls []) :=
  W.vret S.1 S.2.1 hr (fun t9 ht _ => ⟨⟨(), rfl, trivial, by show WW z w g gm o t9.heap; rw [ht]; exact hW⟩, hS.F ht⟩) hS.2.2 hdg
theorem x_iret {v x : Int32} (S : CallFix p m c cc nL s args wU own) (hr : meth.sig.returnType = some .int) (hlocks : meth.locks = false) (hS : va_S (zA z) s.heap H locs) (hW : WW z w g gm o H) (hv : x = v) (hdg : decode cc pc = .ok (.ireturn, 1)) :
    W p l e R s m args below meth c H locs 0 0 (MQ below (xQi z w g gm o v) args s 0 0 (zA z)) (F0 m pc ls [.int x]) :=
  W.iret (v := x) S.1 S.2.1 hr (fun t9 ht _ => ⟨⟨x, (), rfl, hv, by show WW z w g gm o t9.heap; rw [ht]; exact hW⟩, hS.F ht⟩) hS.2.2 hdg
theorem x_callv {g' : GS} (S : CallFix p m c cc nL s args wU own) (hE : EV z s s.heap) (hS : va_S (zA z) s.heap H locs) (hM : Met l y ws rm (PE z (.ref b :: As) P) (xQv z w g' gm o) 0 0 (zA z)) (cw : CallW R s args own C index y bytes maxL ret ws rm 0 0 n)
    (hv : ∃ cell : Cell, H[b]? = some cell ∧ cell.vm.isStatics = false ∧ s.vm.findClass C = some cell.cls) (hP : P H) (hn : As.length = n) (hsize : ls.size = nL) (hstack : stk = As.reverse ++ .ref b :: rest) (hW : (rest.map fun v => v.category).sum ≤ 8) (hdg : decode cc pc = .ok (.invokevirtual index, 3)) (hf : cells ≤ R.cells ∧ slots ≤ R.slots)
    (kk : ∀ (H1 : Heap) (locs1 : List Loc), WW z w g' gm o H1 → va_S (zA z) s.heap H1 locs1 → W p l e R s m args below meth c H1 locs1 cells slots Q (F0 m (pc + 3) ls rest)) : W p l e R s m args below meth c H locs cells slots Q (F0 m pc ls stk) :=
  va_callv (va_runV S hM cw ⟨PE.blind, hv, fun U hU hW => ⟨rfl, hE.at hS hU hW, by rw [hU]; exact hP⟩⟩ rfl hn hsize hstack (lv_room hW) hdg hf) hS (fun _ _ h => h) (fun _ h => h)
    (fun u t9 H1 locs1 ht _ hp hB _ _ hS1 => kk H1 locs1 (by rw [← ht]; exact hB) hS1)
theorem x_callvU {g' : GS} (S : CallFix p m c cc nL s args wU own) (hE : EV z s s.heap) (hS : va_S (zA z) s.heap H locs) (hM : Met l y ws rm (PE z (.ref b :: As) P) (xQv z w g' gm o) 0 0 (zA z)) (cw : va_CU R s args own C owner index x0 y bytes maxL ret ws rm 0 0 n)
    (hv : ∃ cell : Cell, H[b]? = some cell ∧ cell.vm.isStatics = false ∧ s.vm.findClass C = some cell.cls) (hP : P H) (hn : As.length = n) (hsize : ls.size = nL) (hstack : stk = As.reverse ++ .ref b :: rest) (hW : (rest.map fun v => v.category).sum ≤ 8) (hdg : decode cc pc = .ok (.invokevirtual index, 3)) (hf : cells ≤ R.cells ∧ slots ≤ R.slots)
    (kk : ∀ (H1 : Heap) (locs1 : List Loc), WW z w g' gm o H1 → va_S (zA z) s.heap H1 locs1 → W p l e R s m args below meth c H1 locs1 cells slots Q (F0 m (pc + 3) ls rest)) : W p l e R s m args below meth c H locs cells slots Q (F0 m pc ls stk) :=
  va_callv (va_runU S hM cw ⟨PE.blind, hv, fun U hU hW => ⟨rfl, hE.at hS hU hW, by rw [hU]; exact hP⟩⟩ rfl hn hsize hstack (lv_room hW) hdg hf) hS (fun _ _ h => h) (fun _ h => h)
    (fun u t9 H1 locs1 ht _ hp hB _ _ hS1 => kk H1 locs1 (by rw [← ht]; exact hB) hS1)
theorem x_calli {g' : GS} {v : Int32} (S : CallFix p m c cc nL s args wU own) (hE : EV z s s.heap) (hS : va_S (zA z) s.heap H locs) (hM : Met l y ws rm (PE z (.ref b :: As) P) (xQi z w g' gm o v) 0 0 (zA z)) (cw : CallW R s args own C index y bytes maxL ret ws rm 0 0 n)
    (hv : ∃ cell : Cell, H[b]? = some cell ∧ cell.vm.isStatics = false ∧ s.vm.findClass C = some cell.cls) (hP : P H) (hn : As.length = n) (hsize : ls.size = nL) (hstack : stk = As.reverse ++ .ref b :: rest) (hW : (rest.map fun v => v.category).sum ≤ 8) (hdg : decode cc pc = .ok (.invokevirtual index, 3)) (hf : cells ≤ R.cells ∧ slots ≤ R.slots)
    (kk : ∀ (H1 : Heap) (locs1 : List Loc), WW z w g' gm o H1 → va_S (zA z) s.heap H1 locs1 → W p l e R s m args below meth c H1 locs1 cells slots Q (F0 m (pc + 3) ls (.int v :: rest))) : W p l e R s m args below meth c H locs cells slots Q (F0 m pc ls stk) :=
  va_calli (va_runV S hM cw ⟨PE.blind, hv, fun U hU hW => ⟨rfl, hE.at hS hU hW, by rw [hU]; exact hP⟩⟩ rfl hn hsize hstack (lv_room hW) hdg hf) hS (fun _ _ h => h) (fun _ h => h)
    (fun r u t9 H1 locs1 ht _ hp hB _ _ hS1 => by
      cases hp
      exact kk H1 locs1 (by rw [← ht]; exact hB) hS1)
end GXC
theorem abs1 (x : Int32) : ((if 0 ≤ x then x else 0 - x) = 1) ↔ (x = 1 ∨ x = -1) := by
  by_cases h : 0 ≤ x
  · rw [if_pos h]
    constructor
    · exact Or.inl
    · rintro (h2 | h2)
      · exact h2
      · subst h2; revert h; decide
  · rw [if_neg h]
    constructor
    · intro h2
      right
      have h3 := congrArg (fun y : Int32 => 0 - y) h2
      simpa using h3
    · rintro (h2 | h2)
      · subst h2; revert h; decide
      · subst h2; decide
theorem tNn {n : Nat} (h : n < 2 ^ 31) : tN (nI n) = n := nI_clamp h
theorem tb_out {w : Int32} {n : Nat} (hn : n ≤ 1000) (h : wi w 0 (nI n) = false) : w.toInt < 0 ∨ (n : Int) < w.toInt := by
  simp only [wi, Bool.and_eq_false_iff, Bool.not_eq_false', decide_eq_true_eq] at h
  rcases h with h | h
  · left; rw [Int32.lt_iff_toInt_lt] at h
    have : (0 : Int32).toInt = 0 := by decide
    omega
  · right; rw [Int32.lt_iff_toInt_lt, nI_toInt (by omega)] at h
    exact h
