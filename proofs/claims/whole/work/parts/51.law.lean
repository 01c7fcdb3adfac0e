/-! ===== the law: its rows ===== -/
def xa (xs : Nat → Int32) (n k : Nat) : Int32 := xs (7 * n + k)
/-- what holds at the head of the law's loop -/
def LI (z : ZE) (qx qm qo : Nat) (H : Heap) : Prop := ∃ (w : WG) (g : GS) (o : Nat → Int64) (t : Int32) (A B : Nat → Int32), (wad w 0 0 = qx ∧ wad w 9 0 = qm ∧ wad w 11 0 = qo) ∧ OKg g ∧ MW z w g o g t A B H
theorem lg_same (x : Int64) : lg_cmp x x = 0 := by
  unfold lg_cmp
  simp
theorem and31 (x : Int32) : ∃ j : Nat, j < 32 ∧ x &&& 31 = nI j := by
  refine ⟨(x &&& 31).toBitVec.toNat, ?_, ?_⟩
  · rw [Int32.toBitVec_and, BitVec.toNat_and]
    exact Nat.lt_of_le_of_lt Nat.and_le_right (by decide)
  · apply Int32.toBitVec_inj.mp
    show _ = BitVec.ofNat 32 _
    simp
section GLL
variable {p : Program} {l : Launch} {e : Env} {R : Room} {s : State} {m : MethodId} {args : Array Value} {below : List Frame} {meth : Method} {c : Code} {H : Heap} {locs : List Loc} {cells slots mc ms : Nat} {Q : State → Prop}
variable {cc : ByteArray} {pc nL : Nat} {ls : Array Slot} {rest stk : List Value} {z : ZE} {own : String} {w : WG} {g gm : GS} {o : Nat → Int64} {sp : RS} {b L n : Nat} {xs : Nat → Int32}
theorem x_arg {k : Nat} {ki : Int} (S : CallFix p m c cc nL s args wU own) (hX : va_X b L xs s s.heap) (hbl : b < s.heap.size) (hbA : ¬ zA z b) (hS : va_S (zA z) s.heap H locs) (g0 : ls[0]? = some (.val (.ref b))) (g4 : ls[4]? = some (.val (.int (nI (7 * n))))) (hL : L ≤ 3584) (hn : 7 * n + 7 ≤ L) (hk : k ≤ 6) (hki : Int32.ofInt ki = nI k)
    (d0 : decode cc pc = .ok (.aload_n 0, 1)) (d1 : decode cc (pc + 1) = .ok (.iload 4, 2)) (d3 : decode cc (pc + 3) = .ok (.iconst ki, 1)) (d4 : decode cc (pc + 4) = .ok (.iadd, 1)) (d5 : decode cc (pc + 5) = .ok (.iaload, 1))
    (kk : W p l e R s m args below meth c H locs cells slots Q (F0 m (pc + 6) ls (.int (xa xs n k) :: rest))) : W p l e R s m args below meth c H locs cells slots Q (F0 m pc ls rest) := by
  refine lv_aload_n S.1 S.2.1 d0 rfl g0 ?_
  refine lv_iload S.1 S.2.1 d1 g4 ?_
  refine lv_iconst (v := nI k) S.1 S.2.1 d3 hki ?_
  refine lv_iadd S.1 S.2.1 d4 ?_
  rw [nI_add]
  refine va_sld S.1 S.2.1 hX hbl hbA hS (vp_in_nI (show 7 * n + k < L by omega) (by omega)) d5 ?_
  rw [nI_clamp (by omega)]
  exact kk
theorem x_arg6 {k : Nat} {ki : Int} (S : CallFix p m c cc nL s args wU own) (hX : va_X b L xs s s.heap) (hbl : b < s.heap.size) (hbA : ¬ zA z b) (hS : va_S (zA z) s.heap H locs) (g0 : ls[0]? = some (.val (.ref b))) (g4 : ls[4]? = some (.val (.int (nI (7 * n))))) (hL : L ≤ 3584) (hn : 7 * n + 7 ≤ L) (hk : k ≤ 6) (hki : (Int8.ofInt ki).toInt32 = nI k)
    (d0 : decode cc pc = .ok (.aload_n 0, 1)) (d1 : decode cc (pc + 1) = .ok (.iload 4, 2)) (d3 : decode cc (pc + 3) = .ok (.bipush ki, 2)) (d4 : decode cc (pc + 5) = .ok (.iadd, 1)) (d5 : decode cc (pc + 6) = .ok (.iaload, 1))
    (kk : W p l e R s m args below meth c H locs cells slots Q (F0 m (pc + 7) ls (.int (xa xs n k) :: rest))) : W p l e R s m args below meth c H locs cells slots Q (F0 m pc ls rest) := by
  refine lv_aload_n S.1 S.2.1 d0 rfl g0 ?_
  refine lv_iload S.1 S.2.1 d1 g4 ?_
  refine lv_bipush (v := nI k) S.1 S.2.1 d3 hki ?_
  refine lv_iadd S.1 S.2.1 d4 ?_
  rw [nI_add]
  refine va_sld S.1 S.2.1 hX hbl hbA hS (vp_in_nI (show 7 * n + k < L by omega) (by omega)) d5 ?_
  rw [nI_clamp (by omega)]
  exact kk
variable {y : MethodName} {bytes : ByteArray} {maxL N index : Nat} {ret : Option FieldType} {hh : List (Nat × Nat × Nat × Nat)} {ws : List Cond} {rm : Room} {As : List Value}
theorem x_lcall (S : CallFix p m c cc nL s args wU own) (hE : EV z s s.heap) (hS : va_S (zA z) s.heap H locs) (hW : WW z w g gm o H) (hM : Met l y ws rm (PE z As (fun H => WW z w g gm o H)) (LQ z w gm o sp) mc ms (zA z)) (cw : vx_CSW R s args own index y bytes maxL ret hh ws rm mc ms N)
    (hn : As.length = N) (hsize : ls.size = nL) (hstack : stk = As.reverse ++ rest) (hWr : (rest.map fun v => v.category).sum ≤ 8) (hdg : decode cc pc = .ok (.invokestatic index, 3)) (hf : cells + mc ≤ R.cells ∧ slots + ms ≤ R.slots)
    (kk : ∀ (r : Int32) (w' : WG) (o' : Nat → Int64) (H1 : Heap) (locs1 : List Loc), r = sp.1 → wsm w w' → (sp.1 = 0 → o' = vp_updL o 0 sp.2.1.toInt64) → WW z w' sp.2.2 gm o' H1 → va_S (zA z) s.heap H1 locs1 → W p l e R s m args below meth c H1 locs1 (cells + mc) (slots + ms) Q (F0 m (pc + 3) ls (.int r :: rest))) :
    W p l e R s m args below meth c H locs cells slots Q (F0 m pc ls stk) :=
  va_calli (vx_runSW S hM cw ⟨PE.blind, fun U hU hW2 => ⟨rfl, hE.at hS hU hW2, by rw [hU]; exact hW⟩⟩ rfl hn hsize hstack (lv_room hWr) hdg hf) hS (fun _ _ h => h) (fun _ h => h)
    (fun r u t H1 locs1 ht _ hp hB _ _ hS1 => by
      obtain ⟨w', g', o'⟩ := u
      obtain ⟨p1, p2, p3, p4⟩ := hp
      have p3' : g' = sp.2.2 := p3
      have hB' : WW z w' g' gm o' t.heap := hB
      rw [ht, p3'] at hB'
      exact kk r w' o' H1 locs1 p1 p2 p4 hB' hS1)
theorem x_mcall {g1 : GS} {t : Int32} {A B : Nat → Int32} (S : CallFix p m c cc nL s args wU own) (hE : EV z s s.heap) (hS : va_S (zA z) s.heap H locs) (hMW : MW z w g1 o g t A B H) (hM : Met l y ws rm (PE z (.ref (wad w 9 0) :: As) (fun H => MW z w g1 o g t A B H)) (qM z w g1 o (fun r u => RR sp r u.2.1 u.1)) 0 0 (zA z)) (cw : CallW R s args own RX6 index y bytes maxL ret ws rm 0 0 N)
    (hn : As.length = N) (hsize : ls.size = nL) (hstack : stk = As.reverse ++ .ref (wad w 9 0) :: rest) (hWr : (rest.map fun v => v.category).sum ≤ 8) (hdg : decode cc pc = .ok (.invokevirtual index, 3)) (hf : cells ≤ R.cells ∧ slots ≤ R.slots)
    (kk : ∀ (r : Int32) (g' : GS) (t' : Int32) (A' B' : Nat → Int32) (H1 : Heap) (locs1 : List Loc), RR sp r t' g' → MW z w g1 o g' t' A' B' H1 → va_S (zA z) s.heap H1 locs1 → W p l e R s m args below meth c H1 locs1 cells slots Q (F0 m (pc + 3) ls (.int r :: rest))) :
    W p l e R s m args below meth c H locs cells slots Q (F0 m pc ls stk) := by
  have hrc : ∃ cell : Cell, H[wad w 9 0]? = some cell ∧ cell.vm.isStatics = false ∧ s.vm.findClass RX6 = some cell.cls := by
    obtain ⟨gm, hW, -⟩ := hMW
    exact hE.recv hW.md (q := (RX6, TX6, 36)) rfl
  exact va_calli (va_runV S hM cw ⟨PE.blind, hrc, fun U hU hW2 => ⟨rfl, hE.at hS hU hW2, by rw [hU]; exact hMW⟩⟩ rfl hn hsize hstack (lv_room hWr) hdg hf) hS (fun _ _ h => h) (fun _ h => h)
    (fun r u t9 H1 locs1 ht _ hp hB _ _ hS1 => kk r u.1 u.2.1 u.2.2.1 u.2.2.2 H1 locs1 hp (by rw [← ht]; exact hB) hS1)
end GLL
section GTL
variable {p : Program} {l : Launch} {e : Env} {s : State} {m : MethodId} {args : Array Value} {below : List Frame} {meth : Method} {c : Code} {H : Heap} {locs : List Loc} {cells slots : Nat} {Q : State → Prop}
variable {cc : ByteArray} {p0 : Nat} {ls : Array Slot} {z : ZE} {w : WG} {o o' : Nat → Int64} {sp : RS} {b n qx qm qo : Nat} {r rm t' : Int32} {g' : GS} {A B : Nat → Int32}
set_option maxHeartbeats 4000000 in
/-- behind the two calls of a case: what they threw, and what they answered, is compared -/
theorem x_tail (S : CallFix p m c cc 7 s args wU RL) (hE : EV z s s.heap) (hS : va_S (zA z) s.heap H locs) (hl : lv_has ls 7 [(5, .int r), (0, .ref b), (1, .ref qx), (2, .ref qm), (3, .ref qo), (4, .int (nI (7 * n)))])
    (hq : wad w 0 0 = qx ∧ wad w 9 0 = qm ∧ wad w 11 0 = qo) (hM : MW z w sp.2.2 o' g' t' A B H) (hO : OKg sp.2.2) (hr : r = sp.1) (hRR : RR sp rm t' g') (ho : sp.1 = 0 → o' = vp_updL o 0 sp.2.1.toInt64) (hf : cells ≤ room_1.cells ∧ slots ≤ room_1.slots) {off : Int}
    (e0 : decode cc p0 = .ok (.istore 6, 2)) (e2 : decode cc (p0 + 2) = .ok (.aload_n 2, 1)) (e3 : decode cc (p0 + 3) = .ok (.invokevirtual 88, 3)) (e6 : decode cc (p0 + 6) = .ok (.iload 5, 2)) (e8 : decode cc (p0 + 8) = .ok (.if_icmp .eq 5, 3)) (e13 : decode cc (p0 + 13) = .ok (.iload 5, 2)) (e15 : decode cc (p0 + 15) = .ok (.ifCond .ne 15, 3))
    (e18 : decode cc (p0 + 18) = .ok (.aload_n 3, 1)) (e19 : decode cc (p0 + 19) = .ok (.iconst 0, 1)) (e20 : decode cc (p0 + 20) = .ok (.laload, 1)) (e21 : decode cc (p0 + 21) = .ok (.iload 6, 2)) (e23 : decode cc (p0 + 23) = .ok (.i2l, 1)) (e24 : decode cc (p0 + 24) = .ok (.lcmp, 1)) (e25 : decode cc (p0 + 25) = .ok (.ifCond .eq 5, 3)) (e30 : decode cc (p0 + 30) = .ok (.goto off, 3)) (hg : ((p0 + 30 : Nat) : Int) + off = ((1507 : Nat) : Int))
    (kk : ∀ ls : Array Slot, LI z qx qm qo H → lv_has ls 7 [(0, .ref b), (1, .ref qx), (2, .ref qm), (3, .ref qo), (4, .int (nI (7 * n)))] → W p l e room_1 s m args below meth c H locs cells slots Q (F0 m 1507 ls [])) : W p l e room_1 s m args below meth c H locs cells slots Q (F0 m p0 ls [.int rm]) := by
  have hx := S.1
  have hb := S.2.1
  have hts := S.2.2.2.2
  obtain ⟨h1, h2, h3⟩ := hRR
  have hI : LI z qx qm qo H := ⟨w, sp.2.2, o', t', A, B, hq, hO, by rw [h2] at hM; exact hM⟩
  have hrc : ∃ cell : Cell, H[wad w 9 0]? = some cell ∧ cell.vm.isStatics = false ∧ s.vm.findClass RX6 = some cell.cls := by
    obtain ⟨gm, hW, -⟩ := hM
    exact hE.recv hW.md (q := (RX6, TX6, 36)) rfl
  have hout : va_at (zD z) vwCl (qo, cL (zL z) 1 o') H := by
    obtain ⟨gm, hW, -⟩ := hM
    exact hq.2.2 ▸ hW.out
  refine lv_istore (lv' := [(6, .int rm), (5, .int r), (0, .ref b), (1, .ref qx), (2, .ref qm), (3, .ref qo), (4, .int (nI (7 * n)))]) hx hb e0 hl (by decide) rfl (fun ls hl => ?_)
  refine lv_aload_n hx hb e2 rfl (lv_at hl 4 rfl) ?_
  refine g_callV (As := []) (rest := []) S hE hS (c_X6_thrown l z w sp.2.2 g' o' t' A B) (cwV 0 hts (gU_V tw_850 tw_851 tw_852 tw_6 tw_853) rfl rfl rfl (by decide +kernel) ⟨Nat.le_of_ble_eq_true rfl, Nat.le_of_ble_eq_true rfl⟩) hrc hM rfl hl.1 (by rw [hq.2.1]; rfl) (Nat.le_of_ble_eq_true rfl) e3 hf ?_
  refine lv_iload hx hb e6 (lv_at hl 1 rfl) ?_
  refine lv_icmp_eq (tgt := p0 + 13) hx hb e8 (by omega) (fun _ => ?_) (fun q => absurd (h1.trans hr.symm) q)
  refine lv_iload hx hb e13 (lv_at hl 1 rfl) ?_
  refine lv_if_ne (tgt := p0 + 30) hx hb e15 (by omega) (fun _ => ?_) (fun q => ?_)
  · refine lv_goto (tgt := 1507) hx hb e30 hg ?_
    exact kk ls hI (lv_sub hl [2, 3, 4, 5, 6] rfl)
  · have hs0 : sp.1 = 0 := hr.symm.trans q
    refine lv_aload_n hx hb e18 rfl (lv_at hl 5 rfl) ?_
    refine lv_iconst (v := 0) hx hb e19 (by decide) ?_
    refine g_lald S hE hout (by unfold vp_in; decide) e20 ?_
    refine lv_iload hx hb e21 (lv_at hl 0 rfl) ?_
    refine lv_i2l (v := rm.toInt64) hx hb e23 rfl ?_
    refine W.lcmp hx hb e24 ?_
    have hc : lg_cmp (o' ((0 : Int32).toNatClampNeg)) rm.toInt64 = 0 := by
      rw [ho hs0, h3 hs0]
      exact lg_same _
    refine lv_if_eq (tgt := p0 + 30) hx hb e25 (by omega) (fun _ => ?_) (fun q => absurd hc q)
    refine lv_goto (tgt := 1507) hx hb e30 hg ?_
    exact kk ls hI (lv_sub hl [2, 3, 4, 5, 6] rfl)
end GTL
