/-! ===== the law's own rows ===== -/
theorem gU_w {y : MethodName} {b : ByteArray} {n : Nat} {r : Option FieldType} {hh : List (Nat × Nat × Nat × Nat)} {own : String} {i : Nat} (h1 : Cond.methodLink own i y ∈ wU) (h2 : Cond.static y ∈ wU) (h4 : Cond.initialized y.cls ∈ wU) (h : Cond.codeWith y b n r hh ∈ wU) : GoodIn wU (va_wsS own i y (.codeWith y b n r hh :: wU)) := by
  refine gU fun w hw => ?_
  simp only [va_wsS, List.cons_append, List.nil_append, List.mem_cons] at hw
  rcases hw with rfl | rfl | rfl | rfl | hw <;> assumption
theorem WW.uout {z : ZE} {w : WG} {g gm : GS} {o o' : Nat → Int64} {H H1 : Heap} (h : WW z w g gm o H) (he : va_at (zD z) vwCl (wad w 11 0, cL (zL z) 1 o') H1) (oq : ∀ q : Nat, q ≠ wad w 11 0 → H1[q]? = H[q]?) : WW z w g gm o' H1 := by
  refine h.wr 11 0 rfl he oq rfl (fun k i hk => hk) (fun k i hl hne => ?_) h.2.2.2
  match k, hl with
  | 0, _ => rfl
  | 1, _ => rfl
  | 2, _ => rfl
  | 3, _ => rfl
  | 4, _ => rfl
  | 5, _ => rfl
  | 6, _ => rfl
  | 7, _ => rfl
  | 8, _ => rfl
  | 9, _ => rfl
  | 10, _ => rfl
  | 11, hl => exact absurd ⟨rfl, hl⟩ hne
  | k + 12, hl => exact hl.elim
/-- what a wrapper comes back with: 0 and the answer in out, or which of its classes was thrown -/
abbrev LQ (z : ZE) (w : WG) (gm : GS) (o : Nat → Int64) (sp : RS) : Array Value → State → Outcome → State → Prop := va_Qi (fun r (u : WG × GS × (Nat → Int64)) => r = sp.1 ∧ wsm w u.1 ∧ u.2.1 = sp.2.2 ∧ (sp.1 = 0 → u.2.2 = vp_updL o 0 sp.2.1.toInt64)) (fun (u : WG × GS × (Nat → Int64)) (t : State) => WW z u.1 u.2.1 gm u.2.2 t.heap) (zA z)
section GLW
variable {p : Program} {l : Launch} {e : Env} {R : Room} {s : State} {m : MethodId} {args : Array Value} {below : List Frame} {meth : Method} {c : Code} {H : Heap} {locs : List Loc} {cells slots mc ms : Nat} {Q : State → Prop}
variable {cc : ByteArray} {pc nL : Nat} {ls : Array Slot} {rest stk : List Value} {z : ZE} {own : String} {w : WG} {g gm : GS} {o : Nat → Int64} {sp : RS} {Ea Eb Ec : String}
theorem g_last {Ts : List Cond} (S : CallFix p m c cc nL s args Ts own) (hE : EV z s s.heap) {H0 : Heap} (hS : va_S (zA z) H0 H locs) {a n : Nat} {f : Nat → Int64} (hat : va_at (zD z) vwCl (a, cL (zL z) n f) H) (hza : zB z ≤ a) {i : Int32} {x : Int64} (hin : vp_in i n) (hdg : decode cc pc = .ok (.lastore, 1))
    (kk : ∀ (H1 : Heap) (locs1 : List Loc), va_at (zD z) vwCl (a, cL (zL z) n (vp_updL f i.toNatClampNeg x)) H1 → (∀ q : Nat, q ≠ a → H1[q]? = H[q]?) → H1.size = H.size → va_S (zA z) H0 H1 locs1 → W p l e R s m args below meth c H1 locs1 cells slots Q (F0 m (pc + 1) ls rest)) : W p l e R s m args below meth c H locs cells slots Q (F0 m pc ls (.long x :: .int i :: .ref a :: rest)) := by
  refine W.last S.1 S.2.1 hat ((hE.1.2 2 _ rfl).1 n (fun j => .long (f j))) (fun q => by cases q) (by show ¬ (i < 0 ∨ (arrV _ _ _).slots.size ≤ _); rw [arrV_size]; exact hin) rfl rfl hdg fun H1 e1 z1 oq => kk H1 _ ?_ oq z1 (hS.put z1 oq hza)
  show H1[a]? = some (vp_cell _ _)
  rw [e1, vp_cell_l, vp_cell_l, arrV_store]
  congr 2
  funext q
  by_cases hq : q = i.toNatClampNeg
  · subst hq; simp [updV, vp_updL]
  · simp [updV, vp_updL, hq]
theorem g_lald {Ts : List Cond} (S : CallFix p m c cc nL s args Ts own) (hE : EV z s s.heap) {a n : Nat} {f : Nat → Int64} (hat : va_at (zD z) vwCl (a, cL (zL z) n f) H) {i : Int32} (hin : vp_in i n) (hdg : decode cc pc = .ok (.laload, 1))
    (kk : W p l e R s m args below meth c H locs cells slots Q (F0 m (pc + 1) ls (.long (f i.toNatClampNeg) :: rest))) : W p l e R s m args below meth c H locs cells slots Q (F0 m pc ls (.int i :: .ref a :: rest)) :=
  va_lald S.1 S.2.1 hE.1 (P1 hat) 0 2 rfl rfl hin hdg kk
theorem x_lret {w' : WG} {g' : GS} {o' : Nat → Int64} (S : CallFix p m c cc nL s args wU own) (hr : meth.sig.returnType = some .int) (hlocks : meth.locks = false) (hS : va_S (zA z) s.heap H locs) (hW : WW z w' g' gm o' H) {x : Int32} (hp : x = sp.1) (hs : wsm w w') (hg : g' = sp.2.2) (ho : sp.1 = 0 → o' = vp_updL o 0 sp.2.1.toInt64) (hc : cells ≤ mc ∧ slots ≤ ms) (hdg : decode cc pc = .ok (.ireturn, 1)) :
    W p l e R s m args below meth c H locs cells slots (MQ below (LQ z w gm o sp) args s mc ms (zA z)) (F0 m pc ls [.int x]) :=
  W.widen hc.1 hc.2 (W.iret (v := x) S.1 S.2.1 hr (fun t9 ht _ => ⟨⟨x, (w', g', o'), rfl, ⟨hp, hs, hg, ho⟩, by show WW z w' g' gm o' t9.heap; rw [ht]; exact hW⟩, hS.F ht⟩) hS.2.2 hdg)
variable {y : MethodName} {bytes : ByteArray} {maxL n index : Nat} {ret : Option FieldType} {ws : List Cond} {rm : Room} {As : List Value}
theorem x_wcall (S : CallFix p m c cc nL s args wU own) (hE : EV z s s.heap) (hS : va_S (zA z) s.heap H locs) (hW : WW z w g gm o H) (hM : vx_Met l y ws rm (PE z (.ref (wad w 0 0) :: As) (fun H => WW z w g gm o H)) (xQ z w gm o sp) (xX z w g gm o sp Ea Eb Ec) mc ms (zA z)) (cw : CallW R s args own RX5 index y bytes maxL ret ws rm mc ms n)
    (hn : As.length = n) (hsize : ls.size = nL) (hstack : stk = As.reverse ++ .ref (wad w 0 0) :: rest) (hWr : (rest.map fun v => v.category).sum ≤ 8) (hdg : decode cc pc = .ok (.invokevirtual index, 3)) (hf : cells + mc ≤ R.cells ∧ slots + ms ≤ R.slots)
    (kx : ∀ (k : Int32) (ce : Cell) (q9 : Addr) (H1 : Heap) (locs1 : List Loc), sp = bad k g → (k = 1 ∨ k = 2 ∨ k = 3) → WW z w g gm o H1 → va_S (zA z) s.heap H1 locs1 → H1[q9]? = some ce → ce.vm = .none → s.vm.findClass (ex3 Ea Eb Ec k) = some ce.cls → vx_W p l e R s m args below meth c H1 locs1 (cells + mc) (slots + ms) Q (F0 m pc ls rest) q9)
    (kk : ∀ (r : Int32) (w' : WG) (g' : GS) (H1 : Heap) (locs1 : List Loc), sp = (0, r, g') → wsm w w' → WW z w' g' gm o H1 → va_S (zA z) s.heap H1 locs1 → W p l e R s m args below meth c H1 locs1 (cells + mc) (slots + ms) Q (F0 m (pc + 3) ls (.int r :: rest))) :
    W p l e R s m args below meth c H locs cells slots Q (F0 m pc ls stk) :=
  vx_calli (vx_runV S hM cw ⟨PE.blind, hE.recv hW.sh (q := (RX5, TX5, 8)) rfl, fun U hU hW2 => ⟨rfl, hE.at hS hU hW2, by rw [hU]; exact hW⟩⟩ rfl hn hsize hstack (lv_room hWr) hdg hf) hS (fun _ _ h => h) (fun _ h => h) (fun _ _ h => h)
    (fun E ce q9 u t H1 locs1 ht _ hp hB _ _ hS1 h1 h2 h3 => by
      obtain ⟨rfl, hB⟩ := hB
      exact kx u ce q9 H1 locs1 hp.1 hp.2 (by rw [← ht]; exact hB) hS1 h1 h2 h3)
    (fun r u t H1 locs1 ht _ hp hB _ _ hS1 => kk r u.1 u.2 H1 locs1 hp.1 hp.2 (by rw [← ht]; exact hB) hS1)
/-- the machine, of pairs of classes -/
theorem EV.nc {U : State} {H : Heap} (h : EV z U H) {a b : String} (hq : (a, b) ∈ ncL) : va_Nc a b U := h.2.2.2.2.2.2.2.2.2.1 (a, b) hq
theorem EV.nw {U : State} {H : Heap} {args : Array Value} (h : EV z U H) {a b : String} (hq : (a, b) ∈ nwL) : (Cond.castable a b).before args U = true := va_Nw.use rfl (h.2.2.2.2.2.2.1 (a, b) hq)
end GLW
theorem vpu (o : Nat → Int64) (x : Int64) : vp_updL o ((0 : Int32).toNatClampNeg) x = vp_updL o 0 x := rfl
