/-! ===== what the shop's calls throw, and how they return ===== -/
abbrev nmE : List String := ["java/lang/RuntimeException", "java/lang/Exception"]
abbrev xI : String := "java/lang/IndexOutOfBoundsException"
abbrev xA : String := "java/lang/IllegalArgumentException"
abbrev xS : String := "java/lang/IllegalStateException"
def badE (E : String) : List Cond := .castable E E :: ndL.map .declares
def exR (ik ic : Nat) (E : String) : Prop := (Cond.classLink RX5 ik E ∈ wU ∧ Cond.initialized E ∈ wU) ∧ ((E, E) ∈ nwL ∧ Bundle.fit E = true) ∧ (∀ w ∈ (vx_atS RX5 ic E nmE).filter goodWord, w ∈ wU) ∧ (∀ w ∈ (vx_atS RX5 ic E nmE).filter (fun w => !goodWord w), w ∈ badE E) ∧ ∀ w ∈ Cond.classLink RX5 ik E :: Cond.initialized E :: vx_atS RX5 ic E nmE, vx_ot w = true
theorem thr_n : ∀ n ∈ nmE, Bundle.fit n = true := by decide +kernel
theorem thr_w {L : List Cond} (h : ∀ w ∈ L.filter goodWord, w ∈ lw_tbl) : ∀ w ∈ L.filter goodWord, w ∈ wU := fun w hw => List.mem_filter.mpr ⟨h w hw, (List.mem_filter.mp hw).2⟩
theorem exI : exR 45 49 xI := ⟨⟨tw_100, tw_10⟩, ⟨by decide +kernel, by decide +kernel⟩, thr_w (by decide +kernel), by decide +kernel, by decide +kernel⟩
theorem exA : exR 56 60 xA := ⟨⟨tw_171, tw_11⟩, ⟨by decide +kernel, by decide +kernel⟩, thr_w (by decide +kernel), by decide +kernel, by decide +kernel⟩
theorem exS : exR 63 67 xS := ⟨⟨tw_196, tw_12⟩, ⟨by decide +kernel, by decide +kernel⟩, thr_w (by decide +kernel), by decide +kernel, by decide +kernel⟩
/-- the world's fixed places -/
def wsm (w w' : WG) : Prop := wad w' 0 0 = wad w 0 0 ∧ wad w' 9 0 = wad w 9 0 ∧ wad w' 11 0 = wad w 11 0
theorem wsm.rf {w : WG} : wsm w w := ⟨rfl, rfl, rfl⟩
theorem wsm.trans {w w1 w2 : WG} (h : wsm w w1) (h2 : wsm w1 w2) : wsm w w2 := ⟨h2.1.trans h.1, h2.2.1.trans h.2.1, h2.2.2.trans h.2.2⟩
abbrev xQ (z : ZE) (w : WG) (gm : GS) (o : Nat → Int64) (sp : RS) : Array Value → State → Outcome → State → Prop := va_Qi (fun v (u : WG × GS) => sp = (0, v, u.2) ∧ wsm w u.1) (fun (u : WG × GS) (t : State) => WW z u.1 u.2 gm o t.heap) (zA z)
def ex3 (a b c : String) (k : Int32) : String := if k = 1 then a else if k = 2 then b else c
abbrev xX (z : ZE) (w : WG) (g gm : GS) (o : Nat → Int64) (sp : RS) (a b c : String) : String → State → State → Prop := vx_X (fun (k : Int32) => sp = bad k g ∧ (k = 1 ∨ k = 2 ∨ k = 3)) (fun E k (t : State) => E = ex3 a b c k ∧ WW z w g gm o t.heap) (zA z)
section GTH
variable {p : Program} {l : Launch} {e : Env} {R : Room} {s : State} {m : MethodId} {args : Array Value} {below : List Frame} {meth : Method} {c : Code} {H : Heap} {locs : List Loc} {cells slots mc ms : Nat} {Q : State → Prop}
variable {cc : ByteArray} {pc nL : Nat} {ls : Array Slot} {rest stk : List Value} {z : ZE} {own : String} {w : WG} {g gm : GS} {o : Nat → Int64} {sp : RS} {Ea Eb Ec : String}
theorem g_throw (ik is ic : Nat) (E text : String) (k : Int32) (X : exR ik ic E) (S : CallFix p m c cc nL s args wU RX5) (hst : l.stackTraces = false) (hE : EV z s s.heap) (hS : va_S (zA z) s.heap H locs) (hW : WW z w g gm o H) (hq : (is, text) ∈ strL) (hsize : ls.size = nL) (hno : ∀ x ∈ c.exceptionTable.toList, False) (hlocks : meth.locks = false)
    (d0 : decode cc pc = .ok (.new ik, 3)) (d3 : decode cc (pc + 3) = .ok (.dup, 1)) (d4 : decode cc (pc + 4) = .ok (.ldc is, 2)) (d6 : decode cc (pc + 6) = .ok (.invokespecial ic, 3)) (d9 : decode cc (pc + 9) = .ok (.athrow, 1))
    (hR : 6 ≤ R.frames ∧ 90 ≤ R.locals ∧ cells + 1 ≤ R.cells ∧ slots + 6 ≤ R.slots) (hc : cells + 1 ≤ mc ∧ slots + 6 ≤ ms) (hsp : sp = bad k g ∧ (k = 1 ∨ k = 2 ∨ k = 3)) (hk : E = ex3 Ea Eb Ec k) :
    W p l e R s m args below meth c H locs cells slots (vx_MQ below (xQ z w gm o sp) (xX z w g gm o sp Ea Eb Ec) args s mc ms (zA z)) (F0 m pc ls []) := by
  obtain ⟨⟨k1, k2⟩, ⟨k3, k4⟩, k5, k6, k7⟩ := X
  have hEE := hE
  obtain ⟨-, ⟨hU, hN⟩, -, -, -, -, hnw, -, hstr, -, hnd⟩ := hE
  obtain ⟨sa, hsa⟩ := hstr _ hq
  have hts := S.2.2.2.2
  refine vx_throwS (ik := ik) (is := is) (ic := ic) (names := nmE) (A := zA z) S.1 S.2.1 hst S.2.2.2.1 k4 thr_n (hts _ k1) (hts _ k2) hsa (vx_hat (B := badE E) (fun w hw => hts w (k5 w hw)) k6 ?_) k7 hU hN hS (hsize.trans S.2.2.1.symm) d0 d3 d4 d6 d9 (fun x hx => (hno x hx).elim)
    (show 2 + 3 < R.frames by omega) (show 0 + 82 ≤ R.locals by omega) hR.2.2.1 hR.2.2.2 hlocks ?_ hS.2.2 hc.1 hc.2
  · intro w hw
    rcases List.mem_cons.mp hw with rfl | hw
    · exact va_Nw.use rfl (hnw (E, E) k3)
    · obtain ⟨x, hx, rfl⟩ := List.mem_map.mp hw
      exact va_Nw.use rfl (hnd x hx)
  · intro t hA h1 h2
    exact ⟨k, hsp, ⟨hk, hW.kept h2⟩, Nat.le_trans hS.1 h1, fun q q1 q2 => by rw [h2 q (Nat.lt_of_lt_of_le q1 hS.1)]; exact hS.2.1 q q1 q2⟩
theorem x_ret {w' : WG} {g' : GS} (S : CallFix p m c cc nL s args wU own) (hr : meth.sig.returnType = some .int) (hlocks : meth.locks = false) (hS : va_S (zA z) s.heap H locs) (hW : WW z w' g' gm o H) {x : Int32} (hp : sp = (0, x, g')) (hs : wsm w w') (hc : cells ≤ mc ∧ slots ≤ ms) (hdg : decode cc pc = .ok (.ireturn, 1)) :
    W p l e R s m args below meth c H locs cells slots (vx_MQ below (xQ z w gm o sp) (xX z w g gm o sp Ea Eb Ec) args s mc ms (zA z)) (F0 m pc ls [.int x]) :=
  vx_ret (W.widen hc.1 hc.2 (W.iret (v := x) S.1 S.2.1 hr (fun t9 ht _ => ⟨⟨x, (w', g'), rfl, ⟨hp, hs⟩, by show WW z w' g' gm o t9.heap; rw [ht]; exact hW⟩, hS.F ht⟩) hS.2.2 hdg))
end GTH
/-! one field of the world is written -/
section GUP
variable {z : ZE} {w : WG} {g gm : GS} {o : Nat → Int64} {H H1 : Heap}
theorem WW.u0a (h : WW z w g gm o H) {v : Int32} (he : va_at (zD z) vwCl (wad w 0 0, .inr (5, [.ref (wad w 5 0), .ref (wad w 5 1), .ref (wad w 5 2), .ref (wad w 1 0), .int v, .int (g 3 0), .int (g 3 1), .int (g 4 0)])) H1) (oq : ∀ q : Nat, q ≠ wad w 0 0 → H1[q]? = H[q]?) : WW z w (gup g 1 0 v) gm o H1 := by
  refine h.wr 0 0 rfl he oq rfl (fun k i hk => ?_) (fun k i hl hne => ?_) h.2.2.2
  · match k, hk with
    | 0, hk => exact hk
    | 1, hk => exact hk
    | 2, hk => exact hk
    | 3, hk => exact hk
    | 4, hk => exact hk
    | 5, hk => exact hk
    | 6, hk => exact hk
    | 7, hk => exact hk
    | 8, hk => exact hk
    | 9, hk => exact hk
    | 10, hk => exact hk
    | 11, hk => exact hk
  · match k, hl with
    | 0, hl => exact absurd ⟨rfl, hl⟩ hne
    | 1, _ => rfl
    | 2, _ => rfl
    | 3, _ => rfl
    | 4, _ => rfl
    | 5, _ => rfl
    | 6, _ => rfl
    | 7, _ => rfl
    | 8, _ => rfl
    | 9, _ => rfl
    | 10, _ => rfl
    | 11, _ => rfl
end GUP
