/-! ===== the shop's rows ===== -/
def spf (g : GS) (i j : Nat) : Int32 := if i % 2 = 1 then g 14 (4 * ((i - 3) / 2) + j) else g 18 ((tk g ((i - 4) / 2)).getD j 0) - 30
def spt (g : GS) (i j : Nat) : Int32 := if i % 2 = 1 then g 15 (4 * ((i - 3) / 2) + j) else g 18 ((tk g ((i - 4) / 2)).getD j 0) + g 19 ((tk g ((i - 4) / 2)).getD j 0) + 30
theorem tk_lt {g : GS} {b j : Nat} (hj : j < (tk g b).length) : (tk g b).getD j 0 < np g := by
  have h : (tk g b).getD j 0 ∈ tk g b := by
    rw [List.getD_eq_getElem?_getD, List.getElem?_eq_getElem hj]
    exact List.getElem_mem hj
  exact List.mem_range.mp (List.mem_filter.mp h).1
theorem WW.sp {z : ZE} {w : WG} {g gm : GS} {o : Nat → Int64} {H : Heap} (h : WW z w g gm o H) (hO : OKg g) {i j : Nat} (h3 : 3 ≤ i) (hi : i < 3 + 2 * nb g) (hj : j < ll g i) : va_at (zD z) vwCl (wad w (lk i) (li g i j), .inr (4, [.int (spf g i j), .int (spt g i j)])) H := by
  by_cases ho : i % 2 = 1
  · have e1 : lk i = 7 := by unfold lk; rw [if_neg (by omega), if_neg (by omega), if_neg (by omega), if_pos ho]
    have e2 : li g i j = 4 * ((i - 3) / 2) + j := by unfold li; rw [if_neg (by omega), if_pos ho]
    have e3 : ll g i = kn g ((i - 3) / 2) := by unfold ll; rw [if_neg (by omega), if_neg (by omega), if_neg (by omega), if_pos ho]
    rw [e1, e2, spf, spt, if_pos ho, if_pos ho]
    exact h.ks (by omega) (by rw [← e3]; exact hj) (hO.l13 (by omega))
  · have e1 : lk i = 8 := by unfold lk; rw [if_neg (by omega), if_neg (by omega), if_neg (by omega), if_neg ho]
    have e2 : li g i j = (tk g ((i - 4) / 2)).getD j 0 := by unfold li; rw [if_neg (by omega), if_neg ho]
    have e3 : ll g i = (tk g ((i - 4) / 2)).length := by unfold ll; rw [if_neg (by omega), if_neg (by omega), if_neg (by omega), if_neg ho]
    rw [e1, e2, spf, spt, if_neg ho, if_neg ho]
    exact h.ts (tk_lt (by rw [← e3]; exact hj))
theorem WW.ll {z : ZE} {w : WG} {g gm : GS} {o : Nat → Int64} {H : Heap} (h : WW z w g gm o H) {i : Nat} (hi : i < 3 + 2 * nb g) : ll g i ≤ wcp w i ∧ wcp w i ≤ 100 := ⟨(h.2.2.2 i hi).1, (h.2.2.2 i hi).2.1.2⟩
theorem wi_no {v : Int32} {n : Nat} (hn : n ≤ 1000) (h : wi v 0 (nI n - 1) = false) (h1 : ¬ v < 0) (h2 : ¬ nI n ≤ v) : False := by
  obtain ⟨j, hj, rfl⟩ := nI_of h1
  rw [nI_leI (by omega) hj] at h2
  simp only [wi, Bool.and_eq_false_iff, Bool.not_eq_false', decide_eq_true_eq] at h
  rcases h with h | h
  · exact h1 h
  · cases n with
    | zero => omega
    | succ n =>
      rw [show (1 : Int32) = nI 1 from rfl, pk_sub (by omega), Nat.add_sub_cancel, nI_ltI (by omega) hj] at h
      omega
section GXR
variable {p : Program} {l : Launch} {e : Env} {R : Room} {s : State} {m : MethodId} {args : Array Value} {below : List Frame} {meth : Method} {c : Code} {H : Heap} {locs : List Loc} {cells slots : Nat} {Q : State → Prop}
variable {cc : ByteArray} {pc nL : Nat} {ls : Array Slot} {rest stk : List Value} {z : ZE} {Ts : List Cond} {own : String}
theorem g_aald (S : CallFix p m c cc nL s args Ts own) (hE : EV z s s.heap) {a n y : Nat} {f : Nat → Option Nat} (hat : va_at (zD z) vwCl (a, cQ (zO z) n f) H) {i : Int32} (hin : vp_in i n) (hv : f i.toNatClampNeg = some y) (hdg : decode cc pc = .ok (.aaload, 1))
    (kk : W p l e R s m args below meth c H locs cells slots Q (F0 m (pc + 1) ls (.ref y :: rest))) : W p l e R s m args below meth c H locs cells slots Q (F0 m pc ls (.int i :: .ref a :: rest)) :=
  va_aldq S.1 S.2.1 hE.1 (P1 hat) 0 3 rfl rfl hin hdg (by rw [hv]; exact kk)
theorem g_cast (S : CallFix p m c cc nL s args Ts own) (hE : EV z s s.heap) {ci a : Nat} {fs : List Value} (hat : va_at (zD z) vwCl (a, .inr (ci, fs)) H) {C : String} {T : u_T} {N index : Nat} (hc : vwCl[ci]? = some (C, T, N)) (hlink : Cond.classLink own index C ∈ Ts) (hdg : decode cc pc = .ok (.checkcast index, 3))
    (kk : W p l e R s m args below meth c H locs cells slots Q (F0 m (pc + 3) ls (.ref a :: rest))) : W p l e R s m args below meth c H locs cells slots Q (F0 m pc ls (.ref a :: rest)) := by
  obtain ⟨hx, hb, hml, hown, hts⟩ := S
  exact va_castS hx hb hown (hts _ hlink) (hE.1.1 ci _ hc).2 (hE.recv hat hc) hdg kk
end GXR
def sgn (d : Int32) : Int32 := if d ≤ 0 then (if 0 ≤ d then 0 else -1) else 1
