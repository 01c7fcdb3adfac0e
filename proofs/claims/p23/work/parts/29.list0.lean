/-! ===== lists that grow ===== -/
theorem nw_gc : Cond.native ⟨"java/lang/Object", "getClass", "()Ljava/lang/Class;"⟩ ∈ wU := List.mem_filter.mpr ⟨tw_394, by decide +kernel⟩
theorem nw_ac : Cond.native arraycopyName ∈ wU := List.mem_filter.mpr ⟨tw_406, by decide +kernel⟩
theorem shr1 : ∀ n, n ≤ 100 → nI n >>> ((1 : Int32) &&& 31) = nI (n / 2) := by decide +kernel
theorem mx1 : ∀ n, n ≤ 100 → 1 ≤ n → (if (nI 1 : Int32) < nI n then nI n else nI 1) = nI n := by decide +kernel
theorem mn1 {n N : Nat} (h : n ≤ N) (hN : N < 2 ^ 31) : (if (nI N : Int32) < nI n then nI N else nI n) = nI n := by
  rw [if_neg]
  rw [nI_ltI hN (by omega)]
  omega
abbrev qR (v : Nat) (A : Nat → Prop) (B : Heap → Prop) : Array Value → State → Outcome → State → Prop := va_Qq (fun r (_ : Unit) => r = some v) (fun _ (t : State) => B t.heap) A
section GLS
variable {p : Program} {l : Launch} {e : Env} {R : Room} {s : State} {m : MethodId} {args : Array Value} {below : List Frame} {meth : Method} {c : Code} {H : Heap} {locs : List Loc} {cells slots mc ms : Nat} {Q : State → Prop}
variable {cc : ByteArray} {pc nL : Nat} {ls : Array Slot} {rest stk : List Value} {z : ZE} {own : String}
variable {y : MethodName} {bytes : ByteArray} {maxL n index : Nat} {ret : Option FieldType} {ws : List Cond} {rm : Room} {P : Heap → Prop} {C : String} {b v : Nat} {As : List Value} {A : Nat → Prop} {B : Heap → Prop}
theorem c_aret {rt : FieldType} (S : CallFix p m c cc nL s args wU own) (hr : meth.sig.returnType = some rt) (hrt : ∃ t, rt = .array t) (hlocks : meth.locks = false) (hS : va_S (zA z) s.heap H locs) (hB : B H) (hF : s.heap.size ≤ H.size ∧ ∀ q : Nat, q < s.heap.size → ¬ A q → H[q]? = s.heap[q]?) (hc : cells ≤ mc ∧ slots ≤ ms) (hdg : decode cc pc = .ok (.areturn, 1)) :
    W p l e R s m args below meth c H locs cells slots (MQ below (qR v A B) args s mc ms (zA z)) (F0 m pc ls [.ref v]) :=
  W.widen hc.1 hc.2 (W.aret (v := .ref v) (rt := rt) S.1 S.2.1 hr (Or.inr hrt) (Or.inr ⟨_, rfl⟩) (fun t9 ht _ => ⟨⟨some v, (), rfl, rfl, by show B t9.heap; rw [ht]; exact hB⟩, by rw [va_F, ht]; exact hF⟩) hS.2.2 hdg)
theorem g_callRV (S : CallFix p m c cc nL s args wU own) (hE : EV z s s.heap) (hS : va_S (zA z) s.heap H locs) (hM : Met l y ws rm (PE z (.ref b :: As) P) (qR v A B) mc ms (zA z)) (cw : CallW R s args own C index y bytes maxL ret ws rm mc ms n)
    (hv : ∃ cell : Cell, H[b]? = some cell ∧ cell.vm.isStatics = false ∧ s.vm.findClass C = some cell.cls) (hP : P H) (hn : As.length = n) (hsize : ls.size = nL) (hstack : stk = As.reverse ++ .ref b :: rest) (hW : (rest.map fun v => v.category).sum ≤ 8) (hdg : decode cc pc = .ok (.invokevirtual index, 3)) (hf : cells + mc ≤ R.cells ∧ slots + ms ≤ R.slots) (hA : ∀ q, q < H.size → A q → zB z ≤ q)
    (kk : ∀ (H1 : Heap) (locs1 : List Loc), B H1 → H.size ≤ H1.size → (∀ q : Nat, q < H.size → ¬ A q → H1[q]? = H[q]?) → va_S (zA z) s.heap H1 locs1 → W p l e R s m args below meth c H1 locs1 (cells + mc) (slots + ms) Q (F0 m (pc + 3) ls (.ref v :: rest))) : W p l e R s m args below meth c H locs cells slots Q (F0 m pc ls stk) :=
  va_callq (va_runV S hM cw ⟨PE.blind, hv, fun U hU hW => ⟨rfl, hE.at hS hU hW, by rw [hU]; exact hP⟩⟩ rfl hn hsize hstack (lv_room hW) hdg hf) hS hA (fun _ h => h)
    (fun r u t9 H1 locs1 ht _ hp hB hz ho hS1 => by
      cases hp
      exact kk H1 locs1 (by rw [← ht]; exact hB) hz ho hS1)
theorem g_callRS (S : CallFix p m c cc nL s args wU own) (hE : EV z s s.heap) (hS : va_S (zA z) s.heap H locs) (hM : Met l y ws rm (PE z As P) (qR v A B) mc ms (zA z)) (cw : CallB R s args own index y bytes maxL ret ws rm mc ms n ∧ (Cond.static y).before args s = true)
    (hP : P H) (hn : As.length = n) (hsize : ls.size = nL) (hstack : stk = As.reverse ++ rest) (hW : (rest.map fun v => v.category).sum ≤ 8) (hdg : decode cc pc = .ok (.invokestatic index, 3)) (hf : cells + mc ≤ R.cells ∧ slots + ms ≤ R.slots) (hA : ∀ q, q < H.size → A q → zB z ≤ q)
    (kk : ∀ (H1 : Heap) (locs1 : List Loc), B H1 → H.size ≤ H1.size → (∀ q : Nat, q < H.size → ¬ A q → H1[q]? = H[q]?) → va_S (zA z) s.heap H1 locs1 → W p l e R s m args below meth c H1 locs1 (cells + mc) (slots + ms) Q (F0 m (pc + 3) ls (.ref v :: rest))) : W p l e R s m args below meth c H locs cells slots Q (F0 m pc ls stk) :=
  va_callq (va_runS S hM cw ⟨PE.blind, fun U hU hW => ⟨rfl, hE.at hS hU hW, by rw [hU]; exact hP⟩⟩ rfl hn hsize hstack (lv_room hW) hdg hf) hS hA (fun _ h => h)
    (fun r u t9 H1 locs1 ht _ hp hB hz ho hS1 => by
      cases hp
      exact kk H1 locs1 (by rw [← ht]; exact hB) hz ho hS1)
/-- the elements of a list's array: things of one class, which is an Object -/
def els (z : ZE) (ci : Nat) (f : Nat → Option Nat) (n : Nat) (H : Heap) : Prop := ∀ i, i < n → ∃ y vs, f i = some y ∧ va_at (zD z) vwCl (y, .inr (ci, vs)) H
theorem g_copy (S : CallFix p m c cc nL s args wU "java/util/Arrays") (hE : EV z s s.heap) {ci : Nat} {rc : vw_C} (hc : vwCl[ci]? = some rc) (hnw : (rc.1, "java/lang/Object") ∈ nwL) {e0 q n0 N : Nat} {f g0 : Nat → Option Nat} (he : va_at (zD z) vwCl (e0, cQ (zO z) n0 f) H) (hq : va_at (zD z) vwCl (q, cQ (zO z) N g0) H) (hne : e0 ≠ q) (hN : n0 ≤ N ∧ N ≤ 1000) (hel : els z ci f n0 H) (hsz : s.heap.size ≤ H.size) (hfr : ∀ x : Nat, x < s.heap.size → H[x]? = s.heap[x]?) (hzB : zB z ≤ e0 ∧ zB z ≤ q) (hqs : s.heap.size ≤ q)
    (hsize : ls.size = nL) (hR : 1 ≤ R.frames ∧ 60 ≤ R.locals) (hdg : decode cc pc = .ok (.invokestatic 150, 3))
    (kk : ∀ (H1 : Heap) (locs1 : List Loc), va_at (zD z) vwCl (q, cQ (zO z) N (va_cpy f g0 0 0 n0)) H1 → H1.size ≥ H.size → (∀ x : Nat, x < s.heap.size → x ≠ e0 → H1[x]? = s.heap[x]?) → va_at (zD z) vwCl (e0, cQ (zO z) n0 f) H1 → va_S (zA z) s.heap H1 locs1 → W p l e R s m args below meth c H1 locs1 cells slots Q (F0 m (pc + 3) ls [])) : W p l e R s m args below meth c H [] cells slots Q (F0 m pc ls [.int (nI n0), .int 0, .ref q, .int 0, .ref e0]) := by
  have hn0 : (nI n0).toNatClampNeg = n0 := nI_clamp (by omega)
  have h00 : (0 : Int32).toNatClampNeg = 0 := by decide
  have hts := S.2.2.2.2
  refine va_copyq (ws := [(e0, cQ (zO z) n0 f), (q, cQ (zO z) N g0)]) (A := fun x => x = q ∨ x = e0) (H0 := H) (D := zD z) (cl := vwCl) (tys := tysZ z) (C := rc.1) S.1 S.2.1 (S.2.2.1.trans hsize.symm) S.2.2.2.1 (hts _ tw_404) (hts _ nw_ac) (hts _ tw_405) (hts _ tw_17) hE.1 ?_ ?_ va_S.rf 0 1 3 3 rfl rfl rfl rfl (by decide) (by decide) (nI_pos (by omega)) ?_ ?_ ?_ ?_ hR.1 (show 0 + _ ≤ R.locals from Nat.le_trans (by decide +kernel) hR.2) hdg ?_
  · intro k r hk
    match k, hk with
    | 0, hk => cases hk; exact he
    | 1, hk => cases hk; exact hq
  · refine ⟨fun i j p9 q9 hi hj hpq => ?_, fun k r hk => ?_⟩
    · match i, j, hi, hj with
      | 0, 0, _, _ => rfl
      | 1, 1, _, _ => rfl
      | 0, 1, hi, hj => cases hi; cases hj; exact absurd hpq hne
      | 1, 0, hi, hj => cases hi; cases hj; exact absurd hpq.symm hne
    · match k, hk with
      | 0, hk => cases hk; exact Or.inr rfl
      | 1, hk => cases hk; exact Or.inl rfl
  · rw [hn0, h00]; omega
  · rw [hn0, h00]; omega
  · intro i hi y hy
    rw [hn0] at hi
    rw [h00, Nat.zero_add] at hy
    obtain ⟨y', vs, h1, h2⟩ := hel i hi
    cases hy.symm.trans h1
    exact hE.recv h2 hc
  · intro comp c0 h1 h2
    obtain ⟨c9, t1, f1, f2, f3⟩ := Cond.castable_spec (va_Nw.use (A := args) rfl (hE.2.2.2.2.2.2.1 _ hnw))
    cases h2.symm.trans f1
    cases h1.symm.trans f2
    exact f3
  · intro H1 locs1 hP hD hS1
    have a0 := hP 0 _ rfl
    have a1 := hP 1 _ rfl
    rw [h00, hn0] at a1
    refine kk H1 locs1 a1 hS1.1 (fun x h1 h2 => ?_) a0 ⟨Nat.le_trans hsz hS1.1, fun x h1 h2 => ?_, fun l9 hl9 => ?_⟩
    · exact (hS1.2.1 x (Nat.lt_of_lt_of_le h1 hsz) (fun h => h.elim (fun e => by omega) h2)).trans (hfr x h1)
    · refine (hS1.2.1 x (Nat.lt_of_lt_of_le h1 hsz) (fun h => h2 ?_)).trans (hfr x h1)
      rcases h with rfl | rfl
      · exact hzB.2
      · exact hzB.1
    · rcases hS1.2.2 l9 hl9 with h | h
      · show zB z ≤ _; rw [h]; exact hzB.2
      · show zB z ≤ _; rw [h]; exact hzB.1
end GLS
