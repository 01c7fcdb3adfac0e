set_option maxHeartbeats 4000000 in
set_option maxRecDepth 100000 in
/-- clearFrom(board, length) -/
theorem c_X6_clearFrom (l : Launch) (z : ZE) (w : WG) (g1 g : GS) (o : Nat → Int64) (t : Int32) (A B : Nat → Int32) (hO : OKg g) (a b : Int32) : Met l yX6_clearFrom (.code yX6_clearFrom cX6_clearFrom 4 (some .int) :: wU) ({ frames := 2, cells := 0, slots := 0, locals := 44 }) (PE z [.ref (wad w 9 (0)), .int a, .int b] (fun H => MW z w g1 o g t A B H)) (qM z w g1 o (fun r u => RR (sp_clearFrom g a b) r u.2.1 u.1)) 0 0 (zA z) := by
  refine Met.ofW (cc := cX6_clearFrom) (maxL := 4) (ret := (some .int)) (by decide) rfl ?_
  intro p e s m args below meth c s₁ BD hml hv
  obtain ⟨rfl, hE, hW⟩ := hv
  have hts : ∀ w ∈ wU, w.before _ s = true := fun w h => atoms_spec (ws := .code yX6_clearFrom cX6_clearFrom 4 (some .int) :: wU) BD.pre w (List.mem_cons_of_mem _ h)
  have S : CallFix p m c cX6_clearFrom 4 s ([.ref (wad w 9 (0)), .int a, .int b] : List Value).toArray wU RX6 := ⟨BD.exec, BD.bytes, hml, findClass_of_methodNamed BD.named, hts⟩
  have hx := S.1
  have hb := S.2.1
  have hown := S.2.2.2.1
  have hr := BD.returns
  have hlocks := BD.notSynchronized
  have hS : va_S (zA z) s.heap s.heap [] := va_S.rf
  have hl := lv_entry ([.ref (wad w 9 (0)), .int a, .int b]) (n := 4) (Nat.le_of_ble_eq_true rfl)
  rw [lg_entry_eq]
  generalize (lg_sl ([.ref (wad w 9 (0)), .int a, .int b]) ++ List.replicate (4 - (lg_sl ([.ref (wad w 9 (0)), .int a, .int b])).length) Slot.unset).toArray = ls at hl ⊢
  have hl : lv_has ls 4 [(0, .ref (wad w 9 (0))), (1, .int a), (2, .int b)] := hl
  have h20 := hO.l5
  have h40 := hO.l16
  have h30 := hO.l24
  refine lv_aload_n hx hb dX6_clearFrom_0 rfl (lv_at hl 0 rfl) ?_
  refine lv_aload_n hx hb dX6_clearFrom_1 rfl (lv_at hl 0 rfl) ?_
  refine lv_iload_n hx hb dX6_clearFrom_2 rfl (lv_at hl 1 rfl) ?_
  refine g_callV (As := [.int a]) (rest := [.ref (wad w 9 (0))]) S hE hS (c_X6_isBoard l z w g1 g o (t) A B hO (a)) (cwV 1 hts (gU_V tw_902 tw_904 tp_23 tw_6 tw_905) rfl rfl rfl (by decide +kernel) ⟨Nat.le_of_ble_eq_true rfl, Nat.le_of_ble_eq_true rfl⟩) (by obtain ⟨gm9, hW9, -⟩ := hW; exact hE.recv hW9.md (q := (RX6, TX6, 36)) rfl) hW rfl hl.1 rfl (Nat.le_of_ble_eq_true rfl) dX6_clearFrom_3 ⟨Nat.zero_le _, Nat.zero_le _⟩ ?_
  refine g_if_ne S (tgt := 13) dX6_clearFrom_6 (by decide) (fun c_6 => ?_) (fun c_6 => ?_)
  · obtain ⟨i, hi, rfl⟩ := wi_lt (n := nb g) (by omega) c_6
    have qi : (nI i).toNatClampNeg = i := nI_clamp (by omega)
    have hk4 := hO.l13 hi
    obtain ⟨L, hL1, hL2, eL⟩ := hO.len hi
    refine lv_aload_n hx hb dX6_clearFrom_13 rfl (lv_at hl 0 rfl) ?_
    refine lv_iload_n hx hb dX6_clearFrom_14 rfl (lv_at hl 2 rfl) ?_
    refine lv_bipush (v := 10) hx hb dX6_clearFrom_15 (by decide) ?_
    refine lv_sipush (v := 30000) hx hb dX6_clearFrom_17 (by decide) ?_
    refine g_callV (As := [.int b, .int 10, .int 30000]) (rest := [.ref (wad w 9 (0))]) S hE hS (c_X6_between l z w g1 g o (t) A B (b) (10) (30000)) (cwV 3 hts (gU_V tw_858 tw_860 tp_15 tw_6 tw_861) rfl rfl rfl (by decide +kernel) ⟨Nat.le_of_ble_eq_true rfl, Nat.le_of_ble_eq_true rfl⟩) (by obtain ⟨gm9, hW9, -⟩ := hW; exact hE.recv hW9.md (q := (RX6, TX6, 36)) rfl) hW rfl hl.1 rfl (Nat.le_of_ble_eq_true rfl) dX6_clearFrom_20 ⟨Nat.zero_le _, Nat.zero_le _⟩ ?_
    refine g_if_ne S (tgt := 30) dX6_clearFrom_23 (by decide) (fun c_23_1 => ?_) (fun c_23_1 => ?_)
    · obtain ⟨j, hj, hjb, rfl⟩ := wi_rng (a := 10) (b := 30000) (by omega) (by omega) c_23_1
      have qj : (nI j).toNatClampNeg = j := nI_clamp (by omega)
      refine lv_iconst (v := 0) hx hb dX6_clearFrom_30 (by decide) ?_
      refine m_putt S hE hS hW tw_740 dX6_clearFrom_31 (fun H locs hW hS => ?_)
      refine lv_aload_n hx hb dX6_clearFrom_34 rfl (lv_at hl 0 rfl) ?_
      refine m_gett S hE hW tw_740 dX6_clearFrom_35 ?_
      refine lv_if_le (tgt := 43) hx hb dX6_clearFrom_38 (by decide) (fun _ => ?_) (fun h9 => absurd h9 (by decide))
      refine lv_iconst (v := nI 0) hx hb dX6_clearFrom_43 (by decide) ?_
      refine lv_istore_n (lv' := [(3, .int (nI 0)), (0, .ref (wad w 9 (0))), (1, .int (nI i)), (2, .int (nI j))]) hx hb dX6_clearFrom_44 rfl hl (by decide) rfl (fun ls hl => ?_)
      have lp_45 : ∀ (k9 : Nat) (x : Nat) (hx9 : x ≤ L + 1 - j) (he : cfs (clr g i j) (L + 1 - j) 0 = cfs (clr g i j) (L + 1 - j - x) x), L + 1 - j - x < k9 → ∀ (H : Heap) (locs : List Loc), MW z w g1 o g (0) A B H → va_S (zA z) s.heap H locs → ∀ (ls : Array Slot), lv_has ls 4 [(0, .ref (wad w 9 (0))), (1, .int (nI i)), (2, .int (nI j)), (3, .int (nI x))] → W p l e ({ frames := 2, cells := 0, slots := 0, locals := 44 } : Room) s m ([.ref (wad w 9 (0)), .int (nI i), .int (nI j)] : List Value).toArray below meth c H locs 0 0 (MQ below (qM z w g1 o (fun r u => RR (sp_clearFrom g (nI i) (nI j)) r u.2.1 u.1)) ([.ref (wad w 9 (0)), .int (nI i), .int (nI j)] : List Value).toArray s 0 0 (zA z)) (F0 m 45 ls []) := by
        intro k9
        induction k9 with
        | zero => intro x hx9 he h9; exact absurd h9 (Nat.not_lt_zero _)
        | succ k9 ih_45 =>
          intro x hx9 he hk9 H locs hW hS ls hl
          refine lv_iload_n hx hb dX6_clearFrom_45 rfl (lv_at hl 3 rfl) ?_
          refine lv_iload_n hx hb dX6_clearFrom_46 rfl (lv_at hl 2 rfl) ?_
          refine g_iadd S dX6_clearFrom_47 ?_
          refine lv_aload_n hx hb dX6_clearFrom_48 rfl (lv_at hl 0 rfl) ?_
          refine m_geta S hE hW 10 (by decide) rfl tw_750 rfl dX6_clearFrom_49 ?_
          refine lv_iload_n hx hb dX6_clearFrom_52 rfl (lv_at hl 1 rfl) ?_
          refine m_ald S hE hW (k := 10) (v := nI L) rfl (vp_in_nI (show i < 20 from (by omega)) (by decide)) (by rw [show (nI i : Int32).toNatClampNeg = i from (nI_clamp (by omega))]; exact eL) dX6_clearFrom_53 ?_
          refine g_icmp_gt S (by omega) (by omega) (tgt := 89) dX6_clearFrom_54 (by decide) (fun c_54_2 => ?_) (fun c_54_2 => ?_)
          · refine lv_iconst (v := (-1)) hx hb dX6_clearFrom_89 (by decide) ?_
            exact m_ret S hr hlocks hS hW (by have e8 : (nI L).toNatClampNeg = L := nI_clamp (by omega); simp only [RR, sp_clearFrom, isB, c_6, c_23_1, if_true, qi, qj, eL, e8, he]; refine ⟨trivial, trivial, fun _ => ?_⟩; rw [show L + 1 - j - x = 0 by omega, cfs]) dX6_clearFrom_90
          · refine lv_aload_n hx hb dX6_clearFrom_57 rfl (lv_at hl 0 rfl) ?_
            refine lv_iload_n hx hb dX6_clearFrom_58 rfl (lv_at hl 1 rfl) ?_
            refine lv_iload_n hx hb dX6_clearFrom_59 rfl (lv_at hl 3 rfl) ?_
            refine lv_iload_n hx hb dX6_clearFrom_60 rfl (lv_at hl 3 rfl) ?_
            refine lv_iload_n hx hb dX6_clearFrom_61 rfl (lv_at hl 2 rfl) ?_
            refine g_iadd S dX6_clearFrom_62 ?_
            refine g_callV (As := [.int (nI i), .int (nI x), .int (nI (x + j))]) (rest := []) S hE hS (c_X6_isTaken l z w g1 g o (0) A B hO (i) (by omega) (nI x) (nI (x + j))) (cwV 3 hts (gU_V tw_906 tw_908 tp_24 tw_6 tw_909) rfl rfl rfl (by decide +kernel) ⟨Nat.le_of_ble_eq_true rfl, Nat.le_of_ble_eq_true rfl⟩) (by obtain ⟨gm9, hW9, -⟩ := hW; exact hE.recv hW9.md (q := (RX6, TX6, 36)) rfl) hW rfl hl.1 rfl (Nat.le_of_ble_eq_true rfl) dX6_clearFrom_63 ⟨Nat.zero_le _, Nat.zero_le _⟩ ?_
            refine g_if_ne S (tgt := 83) dX6_clearFrom_66 (by decide) (fun c_66_3 => ?_) (fun c_66_3 => ?_)
            · refine lv_iinc (v := nI (x + 1)) (lv' := [(3, .int (nI (x + 1))), (0, .ref (wad w 9 (0))), (1, .int (nI i)), (2, .int (nI j))]) hx hb dX6_clearFrom_83 hl (k := 3) rfl (nI_1 _) (by decide) rfl (fun ls hl => ?_)
              refine lv_goto (tgt := 45) hx hb dX6_clearFrom_86 (by decide) ?_
              exact ih_45 (x + 1) (by omega) (by rw [he, show L + 1 - j - x = (L + 1 - j - (x + 1)) + 1 by omega, cfs]; simp [clr, c_66_3]) (by omega) _ _ hW hS ls (lv_sub hl [1, 2, 3, 0] rfl)
            · refine lv_aload_n hx hb dX6_clearFrom_69 rfl (lv_at hl 0 rfl) ?_
              refine lv_iload_n hx hb dX6_clearFrom_70 rfl (lv_at hl 1 rfl) ?_
              refine lv_iload_n hx hb dX6_clearFrom_71 rfl (lv_at hl 3 rfl) ?_
              refine lv_iload_n hx hb dX6_clearFrom_72 rfl (lv_at hl 3 rfl) ?_
              refine lv_iload_n hx hb dX6_clearFrom_73 rfl (lv_at hl 2 rfl) ?_
              refine g_iadd S dX6_clearFrom_74 ?_
              refine g_callV (As := [.int (nI i), .int (nI x), .int (nI (x + j))]) (rest := []) S hE hS (c_X6_hasKnot l z w g1 g o (0) A B hO (i) (by omega) (nI x) (nI (x + j))) (cwV 3 hts (gU_V tw_918 tw_920 tp_26 tw_6 tw_921) rfl rfl rfl (by decide +kernel) ⟨Nat.le_of_ble_eq_true rfl, Nat.le_of_ble_eq_true rfl⟩) (by obtain ⟨gm9, hW9, -⟩ := hW; exact hE.recv hW9.md (q := (RX6, TX6, 36)) rfl) hW rfl hl.1 rfl (Nat.le_of_ble_eq_true rfl) dX6_clearFrom_75 ⟨Nat.zero_le _, Nat.zero_le _⟩ ?_
              refine g_if_ne S (tgt := 83) dX6_clearFrom_78 (by decide) (fun c_78_4 => ?_) (fun c_78_4 => ?_)
              · refine lv_iinc (v := nI (x + 1)) (lv' := [(3, .int (nI (x + 1))), (0, .ref (wad w 9 (0))), (1, .int (nI i)), (2, .int (nI j))]) hx hb dX6_clearFrom_83 hl (k := 3) rfl (nI_1 _) (by decide) rfl (fun ls hl => ?_)
                refine lv_goto (tgt := 45) hx hb dX6_clearFrom_86 (by decide) ?_
                exact ih_45 (x + 1) (by omega) (by rw [he, show L + 1 - j - x = (L + 1 - j - (x + 1)) + 1 by omega, cfs]; simp [clr, c_66_3, c_78_4]) (by omega) _ _ hW hS ls (lv_sub hl [1, 2, 3, 0] rfl)
              · refine lv_iload_n hx hb dX6_clearFrom_81 rfl (lv_at hl 3 rfl) ?_
                exact m_ret S hr hlocks hS hW (by have e8 : (nI L).toNatClampNeg = L := nI_clamp (by omega); simp only [RR, sp_clearFrom, isB, c_6, c_23_1, if_true, qi, qj, eL, e8, he]; refine ⟨trivial, trivial, fun _ => ?_⟩; rw [show L + 1 - j - x = (L + 1 - j - x - 1) + 1 by omega, cfs]; simp [clr, c_66_3, c_78_4]) dX6_clearFrom_82
      exact lp_45 ((L + 1 - j - 0) + 1) 0 (Nat.zero_le _) rfl (Nat.lt_succ_self _) _ _ hW hS ls (lv_sub hl [1, 2, 3, 0] rfl)
    · refine lv_iconst (v := 2) hx hb dX6_clearFrom_26 (by decide) ?_
      refine lv_goto (tgt := 31) hx hb dX6_clearFrom_27 (by decide) ?_
      refine m_putt S hE hS hW tw_740 dX6_clearFrom_31 (fun H locs hW hS => ?_)
      refine lv_aload_n hx hb dX6_clearFrom_34 rfl (lv_at hl 0 rfl) ?_
      refine m_gett S hE hW tw_740 dX6_clearFrom_35 ?_
      refine lv_if_le (tgt := 43) hx hb dX6_clearFrom_38 (by decide) (fun h9 => absurd h9 (by decide)) (fun _ => ?_)
      refine lv_iconst (v := 0) hx hb dX6_clearFrom_41 (by decide) ?_
      exact m_ret S hr hlocks hS hW (by simp [RR, sp_clearFrom, bad, isB, isP, isJ, c_6, c_23_1, qi]) dX6_clearFrom_42
  · refine lv_iconst (v := 1) hx hb dX6_clearFrom_9 (by decide) ?_
    refine lv_goto (tgt := 31) hx hb dX6_clearFrom_10 (by decide) ?_
    refine m_putt S hE hS hW tw_740 dX6_clearFrom_31 (fun H locs hW hS => ?_)
    refine lv_aload_n hx hb dX6_clearFrom_34 rfl (lv_at hl 0 rfl) ?_
    refine m_gett S hE hW tw_740 dX6_clearFrom_35 ?_
    refine lv_if_le (tgt := 43) hx hb dX6_clearFrom_38 (by decide) (fun h9 => absurd h9 (by decide)) (fun _ => ?_)
    refine lv_iconst (v := 0) hx hb dX6_clearFrom_41 (by decide) ?_
    exact m_ret S hr hlocks hS hW (by simp [RR, sp_clearFrom, bad, isB, isP, isJ, c_6]) dX6_clearFrom_42
set_option maxHeartbeats 4000000 in
set_option maxRecDepth 100000 in
/-- pass(months) -/
theorem c_X6_pass (l : Launch) (z : ZE) (w : WG) (g1 g : GS) (o : Nat → Int64) (t : Int32) (A B : Nat → Int32) (hO : OKg g) (a : Int32) : Met l yX6_pass (.code yX6_pass cX6_pass 5 (some .int) :: wU) ({ frames := 4, cells := 0, slots := 0, locals := 90 }) (PE z [.ref (wad w 9 (0)), .int a] (fun H => MW z w g1 o g t A B H)) (qM z w g1 o (fun r u => RR (sp_pass g a) r u.2.1 u.1)) 0 0 (zA z) := by
  refine Met.ofW (cc := cX6_pass) (maxL := 5) (ret := (some .int)) (by decide) rfl ?_
  intro p e s m args below meth c s₁ BD hml hv
  obtain ⟨rfl, hE, hW⟩ := hv
  have hts : ∀ w ∈ wU, w.before _ s = true := fun w h => atoms_spec (ws := .code yX6_pass cX6_pass 5 (some .int) :: wU) BD.pre w (List.mem_cons_of_mem _ h)
  have S : CallFix p m c cX6_pass 5 s ([.ref (wad w 9 (0)), .int a] : List Value).toArray wU RX6 := ⟨BD.exec, BD.bytes, hml, findClass_of_methodNamed BD.named, hts⟩
  have hx := S.1
  have hb := S.2.1
  have hown := S.2.2.2.1
  have hr := BD.returns
  have hlocks := BD.notSynchronized
  have hS : va_S (zA z) s.heap s.heap [] := va_S.rf
  have hl := lv_entry ([.ref (wad w 9 (0)), .int a]) (n := 5) (Nat.le_of_ble_eq_true rfl)
  rw [lg_entry_eq]
  generalize (lg_sl ([.ref (wad w 9 (0)), .int a]) ++ List.replicate (5 - (lg_sl ([.ref (wad w 9 (0)), .int a])).length) Slot.unset).toArray = ls at hl ⊢
  have hl : lv_has ls 5 [(0, .ref (wad w 9 (0))), (1, .int a)] := hl
  have h20 := hO.l5
  have h40 := hO.l16
  have h30 := hO.l24
  have hm0 := hO.l1
  refine lv_aload_n hx hb dX6_pass_0 rfl (lv_at hl 0 rfl) ?_
  refine lv_aload_n hx hb dX6_pass_1 rfl (lv_at hl 0 rfl) ?_
  refine lv_iload_n hx hb dX6_pass_2 rfl (lv_at hl 1 rfl) ?_
  refine lv_iconst (v := 1) hx hb dX6_pass_3 (by decide) ?_
  refine lv_bipush (v := 24) hx hb dX6_pass_4 (by decide) ?_
  refine g_callV (As := [.int a, .int 1, .int 24]) (rest := [.ref (wad w 9 (0))]) S hE hS (c_X6_between l z w g1 g o (t) A B (a) (1) (24)) (cwV 3 hts (gU_V tw_858 tw_860 tp_15 tw_6 tw_861) rfl rfl rfl (by decide +kernel) ⟨Nat.le_of_ble_eq_true rfl, Nat.le_of_ble_eq_true rfl⟩) (by obtain ⟨gm9, hW9, -⟩ := hW; exact hE.recv hW9.md (q := (RX6, TX6, 36)) rfl) hW rfl hl.1 rfl (Nat.le_of_ble_eq_true rfl) dX6_pass_6 ⟨Nat.zero_le _, Nat.zero_le _⟩ ?_
  refine g_if_ne S (tgt := 16) dX6_pass_9 (by decide) (fun c_9 => ?_) (fun c_9 => ?_)
  · obtain ⟨n, hn, hnb, rfl⟩ := wi_rng (a := 1) (b := 24) (by omega) (by omega) c_9
    have qn : (nI n).toNatClampNeg = n := nI_clamp (by omega)
    refine lv_aload_n hx hb dX6_pass_16 rfl (lv_at hl 0 rfl) ?_
    refine m_geti S hE hW 1 (v := nI (mo g)) (by decide) rfl (by decide) tw_741 rfl hO.n1 dX6_pass_17 ?_
    refine lv_iload_n hx hb dX6_pass_20 rfl (lv_at hl 1 rfl) ?_
    refine g_iadd S dX6_pass_21 ?_
    refine lv_sipush (v := nI 1200) hx hb dX6_pass_22 (by decide) ?_
    refine g_icmp_le S (by omega) (by omega) (tgt := 32) dX6_pass_25 (by decide) (fun c_25_1 => ?_) (fun c_25_1 => ?_)
    · refine lv_iconst (v := 0) hx hb dX6_pass_32 (by decide) ?_
      refine m_putt S hE hS hW tw_740 dX6_pass_33 (fun H locs hW hS => ?_)
      refine lv_aload_n hx hb dX6_pass_36 rfl (lv_at hl 0 rfl) ?_
      refine m_gett S hE hW tw_740 dX6_pass_37 ?_
      refine lv_if_le (tgt := 45) hx hb dX6_pass_40 (by decide) (fun _ => ?_) (fun h9 => absurd h9 (by decide))
      refine lv_iconst (v := nI 0) hx hb dX6_pass_45 (by decide) ?_
      refine lv_istore_n (lv' := [(2, .int (nI 0)), (0, .ref (wad w 9 (0))), (1, .int (nI n))]) hx hb dX6_pass_46 rfl hl (by decide) rfl (fun ls hl => ?_)
      refine lv_iconst (v := nI 0) hx hb dX6_pass_47 (by decide) ?_
      refine lv_istore_n (lv' := [(3, .int (nI 0)), (2, .int (nI 0)), (0, .ref (wad w 9 (0))), (1, .int (nI n))]) hx hb dX6_pass_48 rfl hl (by decide) rfl (fun ls hl => ?_)
      have lp_49 : ∀ (k9 : Nat) (k : Nat) (G : GS) (x : Nat) (hk : k ≤ n) (hG : G = pas k g) (hx9 : x = pct k g), n - k < k9 → ∀ (H : Heap) (locs : List Loc), MW z w g1 o G (0) A B H → va_S (zA z) s.heap H locs → ∀ (ls : Array Slot), lv_has ls 5 [(0, .ref (wad w 9 (0))), (1, .int (nI n)), (2, .int (nI x)), (3, .int (nI k))] → W p l e ({ frames := 4, cells := 0, slots := 0, locals := 90 } : Room) s m ([.ref (wad w 9 (0)), .int (nI n)] : List Value).toArray below meth c H locs 0 0 (MQ below (qM z w g1 o (fun r u => RR (sp_pass g (nI n)) r u.2.1 u.1)) ([.ref (wad w 9 (0)), .int (nI n)] : List Value).toArray s 0 0 (zA z)) (F0 m 49 ls []) := by
        intro k9
        induction k9 with
        | zero => intro k G x hk hG hx9 h9; exact absurd h9 (Nat.not_lt_zero _)
        | succ k9 ih_49 =>
          intro k G x hk hG hx9 hk9 H locs hW hS ls hl
          have hOk : OKg G := hG ▸ (OKg_pas hO k (by omega)).1
          have hmk : mo G = mo g + k := hG ▸ (OKg_pas hO k (by omega)).2
          have k20 := hOk.l5
          have k40 := hOk.l16
          have k30 := hOk.l24
          refine lv_iload_n hx hb dX6_pass_49 rfl (lv_at hl 3 rfl) ?_
          refine lv_iload_n hx hb dX6_pass_50 rfl (lv_at hl 1 rfl) ?_
          refine g_icmp_ge S (by omega) (by omega) (tgt := 228) dX6_pass_51 (by decide) (fun c_51_2 => ?_) (fun c_51_2 => ?_)
          · refine lv_iload_n hx hb dX6_pass_228 rfl (lv_at hl 2 rfl) ?_
            exact m_ret S hr hlocks hS hW (by obtain rfl : k = n := (by omega); subst hG hx9; simp [RR, sp_pass, c_9, c_25_1, c_51_2, qn]) dX6_pass_229
          · refine lv_iconst (v := nI 0) hx hb dX6_pass_54 (by decide) ?_
            refine lv_istore (lv' := [(4, .int (nI 0)), (0, .ref (wad w 9 (0))), (1, .int (nI n)), (2, .int (nI x)), (3, .int (nI k))]) hx hb dX6_pass_55 hl (by decide) rfl (fun ls hl => ?_)
            have lp_57 : ∀ (k9 : Nat) (i : Nat) (hi : i ≤ nb G), nb G - i < k9 → ∀ (H : Heap) (locs : List Loc), MW z w g1 o (pst G i 0 0) (0) A B H → va_S (zA z) s.heap H locs → ∀ (ls : Array Slot), lv_has ls 5 [(0, .ref (wad w 9 (0))), (1, .int (nI n)), (2, .int (nI x)), (3, .int (nI k)), (4, .int (nI i))] → W p l e ({ frames := 4, cells := 0, slots := 0, locals := 90 } : Room) s m ([.ref (wad w 9 (0)), .int (nI n)] : List Value).toArray below meth c H locs 0 0 (MQ below (qM z w g1 o (fun r u => RR (sp_pass g (nI n)) r u.2.1 u.1)) ([.ref (wad w 9 (0)), .int (nI n)] : List Value).toArray s 0 0 (zA z)) (F0 m 57 ls []) := by
              intro k9
              induction k9 with
              | zero => intro i hi h9; exact absurd h9 (Nat.not_lt_zero _)
              | succ k9 ih_57 =>
                intro i hi hk9 H locs hW hS ls hl
                refine lv_iload hx hb dX6_pass_57 (lv_at hl 4 rfl) ?_
                refine lv_aload_n hx hb dX6_pass_59 rfl (lv_at hl 0 rfl) ?_
                refine m_geti S hE hW 5 (v := nI (nb G)) (by decide) rfl (by decide) tw_745 rfl ((by simp [gup, pst] : _ = G 5 0).trans hOk.n5) dX6_pass_60 ?_
                refine g_icmp_ge S (by omega) (by omega) (tgt := 95) dX6_pass_63 (by decide) (fun c_63_3 => ?_) (fun c_63_3 => ?_)
                · obtain rfl : i = nb G := by omega
                  refine lv_iconst (v := nI 0) hx hb dX6_pass_95 (by decide) ?_
                  refine lv_istore (lv' := [(4, .int (nI 0)), (0, .ref (wad w 9 (0))), (1, .int (nI n)), (2, .int (nI x)), (3, .int (nI k))]) hx hb dX6_pass_96 hl (by decide) rfl (fun ls hl => ?_)
                  have lp_98 : ∀ (k9 : Nat) (i : Nat) (hi : i ≤ np G), np G - i < k9 → ∀ (H : Heap) (locs : List Loc), MW z w g1 o (pst G (nb G) i 0) (0) A B H → va_S (zA z) s.heap H locs → ∀ (ls : Array Slot), lv_has ls 5 [(0, .ref (wad w 9 (0))), (1, .int (nI n)), (2, .int (nI x)), (3, .int (nI k)), (4, .int (nI i))] → W p l e ({ frames := 4, cells := 0, slots := 0, locals := 90 } : Room) s m ([.ref (wad w 9 (0)), .int (nI n)] : List Value).toArray below meth c H locs 0 0 (MQ below (qM z w g1 o (fun r u => RR (sp_pass g (nI n)) r u.2.1 u.1)) ([.ref (wad w 9 (0)), .int (nI n)] : List Value).toArray s 0 0 (zA z)) (F0 m 98 ls []) := by
                    intro k9
                    induction k9 with
                    | zero => intro i hi h9; exact absurd h9 (Nat.not_lt_zero _)
                    | succ k9 ih_98 =>
                      intro i hi hk9 H locs hW hS ls hl
                      refine lv_iload hx hb dX6_pass_98 (lv_at hl 4 rfl) ?_
                      refine lv_aload_n hx hb dX6_pass_100 rfl (lv_at hl 0 rfl) ?_
                      refine m_geti S hE hW 16 (v := nI (np G)) (by decide) rfl (by decide) tw_756 rfl ((by simp [gup, pst] : _ = G 16 0).trans hOk.n16) dX6_pass_101 ?_
                      refine g_icmp_ge S (by omega) (by omega) (tgt := 142) dX6_pass_104 (by decide) (fun c_104_4 => ?_) (fun c_104_4 => ?_)
                      · obtain rfl : i = np G := by omega
                        refine lv_iconst (v := nI 0) hx hb dX6_pass_142 (by decide) ?_
                        refine lv_istore (lv' := [(4, .int (nI 0)), (0, .ref (wad w 9 (0))), (1, .int (nI n)), (2, .int (nI x)), (3, .int (nI k))]) hx hb dX6_pass_143 hl (by decide) rfl (fun ls hl => ?_)
                        have lp_145 : ∀ (k9 : Nat) (i : Nat) (y : Nat) (hi : i ≤ nj G) (hy9 : y = x + cntN i (brk G)), nj G - i < k9 → ∀ (H : Heap) (locs : List Loc), MW z w g1 o (pst G (nb G) (np G) i) (0) A B H → va_S (zA z) s.heap H locs → ∀ (ls : Array Slot), lv_has ls 5 [(0, .ref (wad w 9 (0))), (1, .int (nI n)), (2, .int (nI y)), (3, .int (nI k)), (4, .int (nI i))] → W p l e ({ frames := 4, cells := 0, slots := 0, locals := 90 } : Room) s m ([.ref (wad w 9 (0)), .int (nI n)] : List Value).toArray below meth c H locs 0 0 (MQ below (qM z w g1 o (fun r u => RR (sp_pass g (nI n)) r u.2.1 u.1)) ([.ref (wad w 9 (0)), .int (nI n)] : List Value).toArray s 0 0 (zA z)) (F0 m 145 ls []) := by
                          intro k9
                          induction k9 with
                          | zero => intro i y hi hy9 h9; exact absurd h9 (Nat.not_lt_zero _)
                          | succ k9 ih_145 =>
                            intro i y hi hy9 hk9 H locs hW hS ls hl
                            refine lv_iload hx hb dX6_pass_145 (lv_at hl 4 rfl) ?_
                            refine lv_aload_n hx hb dX6_pass_147 rfl (lv_at hl 0 rfl) ?_
                            refine m_geti S hE hW 24 (v := nI (nj G)) (by decide) rfl (by decide) tw_764 rfl ((by simp [gup, pst] : _ = G 24 0).trans hOk.n24) dX6_pass_148 ?_
                            refine g_icmp_ge S (by omega) (by omega) (tgt := 212) dX6_pass_151 (by decide) (fun c_151_5 => ?_) (fun c_151_5 => ?_)
                            · obtain rfl : i = nj G := by omega
                              refine lv_aload_n hx hb dX6_pass_212 rfl (lv_at hl 0 rfl) ?_
                              refine lv_dup hx hb dX6_pass_213 rfl ?_
                              refine m_geti S hE hW 1 (v := nI (mo G)) (by decide) rfl (by decide) tw_741 rfl ((by simp [gup, pst] : _ = G 1 0).trans hOk.n1) dX6_pass_214 ?_
                              refine lv_iconst (v := 1) hx hb dX6_pass_217 (by decide) ?_
                              refine lv_iadd hx hb dX6_pass_218 ?_
                              rw [show (nI (mo G) : Int32) + 1 = nI ((mo G) + 1) from nI_add _ 1]
                              refine m_puti S hE hS hW 1 (by decide) rfl (by decide) tw_741 ⟨rfl, rfl, rfl⟩ dX6_pass_219 (fun H locs hW hS => ?_)
                              refine lv_iinc (v := nI (k + 1)) (lv' := [(3, .int (nI (k + 1))), (0, .ref (wad w 9 (0))), (1, .int (nI n)), (2, .int (nI y)), (4, .int (nI (nj G)))]) hx hb dX6_pass_222 hl (k := 3) rfl (nI_1 _) (by decide) rfl (fun ls hl => ?_)
                              refine lv_goto (tgt := 49) hx hb dX6_pass_225 (by decide) ?_
                              exact ih_49 (k + 1) _ _ (by omega) (show _ = mst (pas k g) from hG ▸ rfl) (show _ = pct k g + cntN (nj (pas k g)) (brk (pas k g)) from by rw [hy9, ← hG, hx9]) (by omega) _ _ hW hS ls (lv_sub hl [1, 2, 3, 0] rfl)
                            · have hjpi := hOk.l26 (i := i) (by omega)
                              refine lv_aload_n hx hb dX6_pass_154 rfl (lv_at hl 0 rfl) ?_
                              refine m_geta S hE hW 31 (by decide) rfl tw_771 rfl dX6_pass_155 ?_
                              refine lv_iload hx hb dX6_pass_158 (lv_at hl 4 rfl) ?_
                              refine m_zald S hE hW (k := 31) (v := G 31 i) rfl (vp_in_nI (show i < 30 from (by omega)) (by decide)) (by rw [show (nI i : Int32).toNatClampNeg = i from (nI_clamp (by omega))]; exact (by simp [gup, pst])) dX6_pass_160 ?_
                              refine lv_if_eq (tgt := 206) hx hb dX6_pass_161 (by decide) (fun c_161_6 => ?_) (fun c_161_6 => ?_)
                              · refine lv_iinc (v := nI (i + 1)) (lv' := [(4, .int (nI (i + 1))), (0, .ref (wad w 9 (0))), (1, .int (nI n)), (2, .int (nI y)), (3, .int (nI k))]) hx hb dX6_pass_206 hl (k := 4) rfl (nI_1 _) (by decide) rfl (fun ls hl => ?_)
                                refine lv_goto (tgt := 145) hx hb dX6_pass_209 (by decide) ?_
                                exact ih_145 (i + 1) _ (by omega) (by simp [cntN, hy9, brk, c_161_6]) (by omega) _ _ (by rw [← pst_n G _ _ i (by simp [brk, c_161_6])]; exact hW) hS ls (lv_sub hl [1, 2, 3, 4, 0] rfl)
                              · refine lv_aload_n hx hb dX6_pass_164 rfl (lv_at hl 0 rfl) ?_
                                refine m_geta S hE hW 32 (by decide) rfl tw_772 rfl dX6_pass_165 ?_
                                refine lv_iload hx hb dX6_pass_168 (lv_at hl 4 rfl) ?_
                                refine m_zald S hE hW (k := 32) (v := G 32 i) rfl (vp_in_nI (show i < 30 from (by omega)) (by decide)) (by rw [show (nI i : Int32).toNatClampNeg = i from (nI_clamp (by omega))]; exact (by simp [gup, pst])) dX6_pass_170 ?_
                                refine lv_if_ne (tgt := 206) hx hb dX6_pass_171 (by decide) (fun c_171_7 => ?_) (fun c_171_7 => ?_)
                                · refine lv_iinc (v := nI (i + 1)) (lv' := [(4, .int (nI (i + 1))), (0, .ref (wad w 9 (0))), (1, .int (nI n)), (2, .int (nI y)), (3, .int (nI k))]) hx hb dX6_pass_206 hl (k := 4) rfl (nI_1 _) (by decide) rfl (fun ls hl => ?_)
                                  refine lv_goto (tgt := 145) hx hb dX6_pass_209 (by decide) ?_
                                  exact ih_145 (i + 1) _ (by omega) (by simp [cntN, hy9, brk, c_161_6, c_171_7]) (by omega) _ _ (by rw [← pst_n G _ _ i (by simp [brk, c_161_6, c_171_7])]; exact hW) hS ls (lv_sub hl [1, 2, 3, 4, 0] rfl)
                                · refine lv_aload_n hx hb dX6_pass_174 rfl (lv_at hl 0 rfl) ?_
                                  refine lv_iload hx hb dX6_pass_175 (lv_at hl 4 rfl) ?_
                                  refine lv_aload_n hx hb dX6_pass_177 rfl (lv_at hl 0 rfl) ?_
                                  refine m_geta S hE hW 22 (by decide) rfl tw_762 rfl dX6_pass_178 ?_
                                  refine lv_aload_n hx hb dX6_pass_181 rfl (lv_at hl 0 rfl) ?_
                                  refine m_geta S hE hW 26 (by decide) rfl tw_766 rfl dX6_pass_182 ?_
                                  refine lv_iload hx hb dX6_pass_185 (lv_at hl 4 rfl) ?_
                                  refine m_ald S hE hW (k := 26) (v := nI (jp G (i))) rfl (vp_in_nI (show i < 30 from (by omega)) (by decide)) (by rw [show (nI i : Int32).toNatClampNeg = i from (nI_clamp (by omega))]; exact ((by simp [gup, pst] : _ = G 26 (i)).trans (hOk.n26 (i := i) (by omega)))) dX6_pass_187 ?_
                                  refine m_ald S hE hW (k := 22) (v := beh (wea G (mo G)) (G 22 (jp G (i))) (G 23 (jp G (i)))) rfl (vp_in_nI (show jp G (i) < 40 from (by omega)) (by decide)) (by rw [show (nI (jp G (i)) : Int32).toNatClampNeg = jp G (i) from (nI_clamp (by omega))]; exact (by simp [pst, show jp G (i) < np G by omega])) dX6_pass_188 ?_
                                  refine g_callV (As := [.int (nI i), .int (beh (wea G (mo G)) (G 22 (jp G (i))) (G 23 (jp G (i))))]) (rest := []) S hE hS (c_X6_wouldBreak l z w g1 (pst G (nb G) (np G) i) o (0) A B (OKg_pst hOk _ _ (by first | omega | exact (show _ < np G by omega) | exact (show _ < nb G by omega) | exact (show _ < nj G by omega))) (i) (by first | omega | exact (show _ < np G by omega) | exact (show _ < nb G by omega) | exact (show _ < nj G by omega)) (beh (wea G (mo G)) (G 22 (jp G (i))) (G 23 (jp G (i))))) (cwV 2 hts (gU_V tw_874 tw_876 tp_18 tw_6 tw_877) rfl rfl rfl (by decide +kernel) ⟨Nat.le_of_ble_eq_true rfl, Nat.le_of_ble_eq_true rfl⟩) (by obtain ⟨gm9, hW9, -⟩ := hW; exact hE.recv hW9.md (q := (RX6, TX6, 36)) rfl) hW rfl hl.1 rfl (Nat.le_of_ble_eq_true rfl) dX6_pass_189 ⟨Nat.zero_le _, Nat.zero_le _⟩ ?_
                                  rw [show (bI (wbr (pst G (nb G) (np G) i) (i) (beh (wea G (mo G)) (G 22 (jp G (i))) (G 23 (jp G (i)))))) = bI (wbr G (i) (beh (wea G (mo G)) (G 22 (jp G (i))) (G 23 (jp G (i))))) from rfl]
                                  refine g_if_eq S (tgt := 206) dX6_pass_192 (by decide) (fun c_192_8 => ?_) (fun c_192_8 => ?_)
                                  · refine lv_iinc (v := nI (i + 1)) (lv' := [(4, .int (nI (i + 1))), (0, .ref (wad w 9 (0))), (1, .int (nI n)), (2, .int (nI y)), (3, .int (nI k))]) hx hb dX6_pass_206 hl (k := 4) rfl (nI_1 _) (by decide) rfl (fun ls hl => ?_)
                                    refine lv_goto (tgt := 145) hx hb dX6_pass_209 (by decide) ?_
                                    exact ih_145 (i + 1) _ (by omega) (by simp [cntN, hy9, brk, c_161_6, c_171_7, c_192_8]) (by omega) _ _ (by rw [← pst_n G _ _ i (by simp [brk, c_161_6, c_171_7, c_192_8])]; exact hW) hS ls (lv_sub hl [1, 2, 3, 4, 0] rfl)
                                  · refine lv_aload_n hx hb dX6_pass_195 rfl (lv_at hl 0 rfl) ?_
                                    refine m_geta S hE hW 32 (by decide) rfl tw_772 rfl dX6_pass_196 ?_
                                    refine lv_iload hx hb dX6_pass_199 (lv_at hl 4 rfl) ?_
                                    refine lv_iconst (v := 1) hx hb dX6_pass_201 (by decide) ?_
                                    refine m_zast S hE hS hW (k := 32) (j := i) rfl (vp_in_nI (show i < 30 from (by omega)) (by decide)) (nI_clamp (by omega)) rfl dX6_pass_202 (fun H locs hW hS => ?_)
                                    refine lv_iinc (v := nI (y + 1)) (lv' := [(2, .int (nI (y + 1))), (0, .ref (wad w 9 (0))), (1, .int (nI n)), (3, .int (nI k)), (4, .int (nI i))]) hx hb dX6_pass_203 hl (k := 2) rfl (nI_1 _) (by decide) rfl (fun ls hl => ?_)
                                    refine lv_iinc (v := nI (i + 1)) (lv' := [(4, .int (nI (i + 1))), (2, .int (nI (y + 1))), (0, .ref (wad w 9 (0))), (1, .int (nI n)), (3, .int (nI k))]) hx hb dX6_pass_206 hl (k := 4) rfl (nI_1 _) (by decide) rfl (fun ls hl => ?_)
                                    refine lv_goto (tgt := 145) hx hb dX6_pass_209 (by decide) ?_
                                    exact ih_145 (i + 1) _ (by omega) (by simp [cntN, hy9, brk, c_161_6, c_171_7, c_192_8]; omega) (by omega) _ _ (by rw [← pst_c G _ _ i (by simp [brk, c_161_6, c_171_7, c_192_8])]; exact hW) hS ls (lv_sub hl [2, 3, 1, 4, 0] rfl)
                        exact lp_145 ((nj G - 0) + 1) 0 x (Nat.zero_le _) rfl (Nat.lt_succ_self _) _ _ hW hS ls (lv_sub hl [1, 2, 3, 4, 0] rfl)
                      · refine lv_aload_n hx hb dX6_pass_107 rfl (lv_at hl 0 rfl) ?_
                        refine m_geta S hE hW 22 (by decide) rfl tw_762 rfl dX6_pass_108 ?_
                        refine lv_iload hx hb dX6_pass_111 (lv_at hl 4 rfl) ?_
                        refine lv_aload_n hx hb dX6_pass_113 rfl (lv_at hl 0 rfl) ?_
                        refine lv_aload_n hx hb dX6_pass_114 rfl (lv_at hl 0 rfl) ?_
                        refine m_geta S hE hW 22 (by decide) rfl tw_762 rfl dX6_pass_115 ?_
                        refine lv_iload hx hb dX6_pass_118 (lv_at hl 4 rfl) ?_
                        refine m_ald S hE hW (k := 22) (v := G 22 i) rfl (vp_in_nI (show i < 40 from (by omega)) (by decide)) (by rw [show (nI i : Int32).toNatClampNeg = i from (nI_clamp (by omega))]; exact (by simp [gup, pst])) dX6_pass_120 ?_
                        refine lv_aload_n hx hb dX6_pass_121 rfl (lv_at hl 0 rfl) ?_
                        refine m_geti S hE hW 1 (v := nI (mo G)) (by decide) rfl (by decide) tw_741 rfl ((by simp [gup, pst] : _ = G 1 0).trans hOk.n1) dX6_pass_122 ?_
                        obtain ⟨c9, hc9, ec9⟩ := hOk.cts (i := i) (by omega)
                        refine lv_aload_n hx hb dX6_pass_125 rfl (lv_at hl 0 rfl) ?_
                        refine m_geta S hE hW 23 (by decide) rfl tw_763 rfl dX6_pass_126 ?_
                        refine lv_iload hx hb dX6_pass_129 (lv_at hl 4 rfl) ?_
                        refine m_ald S hE hW (k := 23) (v := G 23 i) rfl (vp_in_nI (show i < 40 from (by omega)) (by decide)) (by rw [show (nI i : Int32).toNatClampNeg = i from (nI_clamp (by omega))]; exact (by simp [gup, pst])) dX6_pass_131 ?_
                        refine g_callV (As := [.int (G 22 i), .int (nI (mo G)), .int (G 23 i)]) (rest := [.int (nI i), .ref (wad w 10 (22))]) S hE hS (c_X6_behind l z w g1 (pst G (nb G) i 0) o (0) A B (G 22 i) (mo G) (by first | omega | exact (show _ < np G by omega) | exact (show _ < nb G by omega) | exact (show _ < nj G by omega)) (G 23 i) (by rw [ec9]; exact co_ne hc9)) (cwV 3 hts (gU_V tw_870 tw_872 tp_17 tw_6 tw_873) rfl rfl rfl (by decide +kernel) ⟨Nat.le_of_ble_eq_true rfl, Nat.le_of_ble_eq_true rfl⟩) (by obtain ⟨gm9, hW9, -⟩ := hW; exact hE.recv hW9.md (q := (RX6, TX6, 36)) rfl) hW rfl hl.1 rfl (Nat.le_of_ble_eq_true rfl) dX6_pass_132 ⟨Nat.zero_le _, Nat.zero_le _⟩ ?_
                        rw [show (beh (wea (pst G (nb G) i 0) (mo G)) (G 22 i) (G 23 i)) = beh (wea G (mo G)) (G 22 i) (G 23 i) from rfl]
                        refine m_ast S hE hS hW (k := 22) (j := i) rfl (vp_in_nI (show i < 40 from (by omega)) (by decide)) (nI_clamp (by omega)) dX6_pass_135 (fun H locs hW hS => ?_)
                        refine lv_iinc (v := nI (i + 1)) (lv' := [(4, .int (nI (i + 1))), (0, .ref (wad w 9 (0))), (1, .int (nI n)), (2, .int (nI x)), (3, .int (nI k))]) hx hb dX6_pass_136 hl (k := 4) rfl (nI_1 _) (by decide) rfl (fun ls hl => ?_)
                        refine lv_goto (tgt := 98) hx hb dX6_pass_139 (by decide) ?_
                        exact ih_98 (i + 1) (by omega) (by omega) _ _ (by rw [← pst_b]; exact hW) hS ls (lv_sub hl [1, 2, 3, 4, 0] rfl)
                  exact lp_98 ((np G - 0) + 1) 0 (Nat.zero_le _) (Nat.lt_succ_self _) _ _ hW hS ls (lv_sub hl [1, 2, 3, 4, 0] rfl)
                · refine lv_aload_n hx hb dX6_pass_66 rfl (lv_at hl 0 rfl) ?_
                  refine m_geta S hE hW 12 (by decide) rfl tw_752 rfl dX6_pass_67 ?_
                  refine lv_iload hx hb dX6_pass_70 (lv_at hl 4 rfl) ?_
                  refine lv_aload_n hx hb dX6_pass_72 rfl (lv_at hl 0 rfl) ?_
                  refine lv_aload_n hx hb dX6_pass_73 rfl (lv_at hl 0 rfl) ?_
                  refine m_geta S hE hW 12 (by decide) rfl tw_752 rfl dX6_pass_74 ?_
                  refine lv_iload hx hb dX6_pass_77 (lv_at hl 4 rfl) ?_
                  refine m_ald S hE hW (k := 12) (v := G 12 i) rfl (vp_in_nI (show i < 20 from (by omega)) (by decide)) (by rw [show (nI i : Int32).toNatClampNeg = i from (nI_clamp (by omega))]; exact (by simp [gup, pst])) dX6_pass_79 ?_
                  refine lv_aload_n hx hb dX6_pass_80 rfl (lv_at hl 0 rfl) ?_
                  refine m_geti S hE hW 1 (v := nI (mo G)) (by decide) rfl (by decide) tw_741 rfl ((by simp [gup, pst] : _ = G 1 0).trans hOk.n1) dX6_pass_81 ?_
                  refine lv_iconst (v := 0) hx hb dX6_pass_84 (by decide) ?_
                  refine g_callV (As := [.int (G 12 i), .int (nI (mo G)), .int 0]) (rest := [.int (nI i), .ref (wad w 10 (12))]) S hE hS (c_X6_behind l z w g1 (pst G i 0 0) o (0) A B (G 12 i) (mo G) (by first | omega | exact (show _ < np G by omega) | exact (show _ < nb G by omega) | exact (show _ < nj G by omega)) (0) (by decide)) (cwV 3 hts (gU_V tw_870 tw_872 tp_17 tw_6 tw_873) rfl rfl rfl (by decide +kernel) ⟨Nat.le_of_ble_eq_true rfl, Nat.le_of_ble_eq_true rfl⟩) (by obtain ⟨gm9, hW9, -⟩ := hW; exact hE.recv hW9.md (q := (RX6, TX6, 36)) rfl) hW rfl hl.1 rfl (Nat.le_of_ble_eq_true rfl) dX6_pass_85 ⟨Nat.zero_le _, Nat.zero_le _⟩ ?_
                  rw [show (beh (wea (pst G i 0 0) (mo G)) (G 12 i) (0)) = beh (wea G (mo G)) (G 12 i) (0) from rfl]
                  refine m_ast S hE hS hW (k := 12) (j := i) rfl (vp_in_nI (show i < 20 from (by omega)) (by decide)) (nI_clamp (by omega)) dX6_pass_88 (fun H locs hW hS => ?_)
                  refine lv_iinc (v := nI (i + 1)) (lv' := [(4, .int (nI (i + 1))), (0, .ref (wad w 9 (0))), (1, .int (nI n)), (2, .int (nI x)), (3, .int (nI k))]) hx hb dX6_pass_89 hl (k := 4) rfl (nI_1 _) (by decide) rfl (fun ls hl => ?_)
                  refine lv_goto (tgt := 57) hx hb dX6_pass_92 (by decide) ?_
                  exact ih_57 (i + 1) (by omega) (by omega) _ _ (by rw [← pst_a]; exact hW) hS ls (lv_sub hl [1, 2, 3, 4, 0] rfl)
            exact lp_57 ((nb G - 0) + 1) 0 (Nat.zero_le _) (Nat.lt_succ_self _) _ _ (by rw [pst_0]; exact hW) hS ls (lv_sub hl [1, 2, 3, 4, 0] rfl)
      exact lp_49 ((n - 0) + 1) 0 g 0 (Nat.zero_le _) rfl rfl (Nat.lt_succ_self _) _ _ hW hS ls (lv_sub hl [2, 3, 1, 0] rfl)
    · refine lv_iconst (v := 2) hx hb dX6_pass_28 (by decide) ?_
      refine lv_goto (tgt := 33) hx hb dX6_pass_29 (by decide) ?_
      refine m_putt S hE hS hW tw_740 dX6_pass_33 (fun H locs hW hS => ?_)
      refine lv_aload_n hx hb dX6_pass_36 rfl (lv_at hl 0 rfl) ?_
      refine m_gett S hE hW tw_740 dX6_pass_37 ?_
      refine lv_if_le (tgt := 45) hx hb dX6_pass_40 (by decide) (fun h9 => absurd h9 (by decide)) (fun _ => ?_)
      refine lv_iconst (v := 0) hx hb dX6_pass_43 (by decide) ?_
      exact m_ret S hr hlocks hS hW (by simp [RR, sp_pass, bad, isB, isP, isJ, c_9, c_25_1, qn]) dX6_pass_44
  · refine lv_iconst (v := 1) hx hb dX6_pass_12 (by decide) ?_
    refine lv_goto (tgt := 33) hx hb dX6_pass_13 (by decide) ?_
    refine m_putt S hE hS hW tw_740 dX6_pass_33 (fun H locs hW hS => ?_)
    refine lv_aload_n hx hb dX6_pass_36 rfl (lv_at hl 0 rfl) ?_
    refine m_gett S hE hW tw_740 dX6_pass_37 ?_
    refine lv_if_le (tgt := 45) hx hb dX6_pass_40 (by decide) (fun h9 => absurd h9 (by decide)) (fun _ => ?_)
    refine lv_iconst (v := 0) hx hb dX6_pass_43 (by decide) ?_
    exact m_ret S hr hlocks hS hW (by simp [RR, sp_pass, bad, isB, isP, isJ, c_9]) dX6_pass_44
set_option maxHeartbeats 4000000 in
set_option maxRecDepth 100000 in
/-- glue(set) -/
theorem c_X6_glue (l : Launch) (z : ZE) (w : WG) (g1 g : GS) (o : Nat → Int64) (t : Int32) (A B : Nat → Int32) (hO : OKg g) (v1 : Int32) : Met l yX6_glue (.code yX6_glue cX6_glue 7 (some .int) :: wU) ({ frames := 0, cells := 0, slots := 0, locals := 0 }) (PE z [.ref (wad w 9 (0)), .int v1] (fun H => MW z w g1 o g t A B H)) (qM z w g1 o (fun r u => RR (sp_glue g v1) r u.2.1 u.1)) 0 0 (zA z) := by
  refine Met.ofW (cc := cX6_glue) (maxL := 7) (ret := (some .int)) (by decide) rfl ?_
  intro p e s m args below meth c s₁ BD hml hv
  obtain ⟨rfl, hE, hW⟩ := hv
  have hts : ∀ w ∈ wU, w.before _ s = true := fun w h => atoms_spec (ws := .code yX6_glue cX6_glue 7 (some .int) :: wU) BD.pre w (List.mem_cons_of_mem _ h)
  have S : CallFix p m c cX6_glue 7 s ([.ref (wad w 9 (0)), .int v1] : List Value).toArray wU RX6 := ⟨BD.exec, BD.bytes, hml, findClass_of_methodNamed BD.named, hts⟩
  have hx := S.1
  have hb := S.2.1
  have hown := S.2.2.2.1
  have hr := BD.returns
  have hlocks := BD.notSynchronized
  have hS : va_S (zA z) s.heap s.heap [] := va_S.rf
  have hl := lv_entry ([.ref (wad w 9 (0)), .int v1]) (n := 7) (Nat.le_of_ble_eq_true rfl)
  rw [lg_entry_eq]
  generalize (lg_sl ([.ref (wad w 9 (0)), .int v1]) ++ List.replicate (7 - (lg_sl ([.ref (wad w 9 (0)), .int v1])).length) Slot.unset).toArray = ls at hl ⊢
  have hl : lv_has ls 7 [(0, .ref (wad w 9 (0))), (1, .int v1)] := hl
  have h20 := hO.l5
  have h40 := hO.l16
  have h30 := hO.l24
  refine lv_aload_n hx hb dX6_glue_0 rfl (lv_at hl 0 rfl) ?_
  refine lv_iload_n hx hb dX6_glue_1 rfl (lv_at hl 1 rfl) ?_
  refine lv_iconst (v := 1) hx hb dX6_glue_2 (by decide) ?_
  refine lv_icmp_lt (tgt := 15) hx hb dX6_glue_3 (by decide) (fun c_3 => ?_) (fun c_3 => ?_)
  · refine lv_iconst (v := 1) hx hb dX6_glue_15 (by decide) ?_
    refine lv_goto (tgt := 20) hx hb dX6_glue_16 (by decide) ?_
    refine m_putt S hE hS hW tw_740 dX6_glue_20 (fun H locs hW hS => ?_)
    refine lv_iconst (v := 0) hx hb dX6_glue_23 (by decide) ?_
    refine lv_istore_n (lv' := [(2, .int 0), (0, .ref (wad w 9 (0))), (1, .int v1)]) hx hb dX6_glue_24 rfl hl (by decide) rfl (fun ls hl => ?_)
    refine lv_iconst (v := 0) hx hb dX6_glue_25 (by decide) ?_
    refine lv_istore_n (lv' := [(3, .int 0), (2, .int 0), (0, .ref (wad w 9 (0))), (1, .int v1)]) hx hb dX6_glue_26 rfl hl (by decide) rfl (fun ls hl => ?_)
    refine lv_iconst (v := 1) hx hb dX6_glue_27 (by decide) ?_
    refine lv_istore (lv' := [(4, .int 1), (3, .int 0), (2, .int 0), (0, .ref (wad w 9 (0))), (1, .int v1)]) hx hb dX6_glue_28 hl (by decide) rfl (fun ls hl => ?_)
    refine lv_iload_n hx hb dX6_glue_30 rfl (lv_at hl 4 rfl) ?_
    refine lv_istore (lv' := [(5, .int v1), (4, .int 1), (3, .int 0), (2, .int 0), (0, .ref (wad w 9 (0))), (1, .int v1)]) hx hb dX6_glue_31 hl (by decide) rfl (fun ls hl => ?_)
    refine lv_iconst (v := nI 0) hx hb dX6_glue_33 (by decide) ?_
    refine lv_istore (lv' := [(6, .int (nI 0)), (5, .int v1), (4, .int 1), (3, .int 0), (2, .int 0), (0, .ref (wad w 9 (0))), (1, .int v1)]) hx hb dX6_glue_34 hl (by decide) rfl (fun ls hl => ?_)
    have lp_36 : ∀ (k9 : Nat) (i : Nat) (x : Int32) (hi : i ≤ nj g) (he : x = dnN g v1 i), nj g - i < k9 → ∀ (H : Heap) (locs : List Loc), MW z w g1 o g (1) A B H → va_S (zA z) s.heap H locs → ∀ (ls : Array Slot), lv_has ls 7 [(0, .ref (wad w 9 (0))), (1, .int v1), (2, .int 0), (3, .int 0), (4, .int 1), (5, .int x), (6, .int (nI i))] → W p l e ({ frames := 0, cells := 0, slots := 0, locals := 0 } : Room) s m ([.ref (wad w 9 (0)), .int v1] : List Value).toArray below meth c H locs 0 0 (MQ below (qM z w g1 o (fun r u => RR (sp_glue g v1) r u.2.1 u.1)) ([.ref (wad w 9 (0)), .int v1] : List Value).toArray s 0 0 (zA z)) (F0 m 36 ls []) := by
      intro k9
      induction k9 with
      | zero => intro i x hi he h9; exact absurd h9 (Nat.not_lt_zero _)
      | succ k9 ih_36 =>
        intro i x hi he hk9 H locs hW hS ls hl
        subst he
        refine lv_iload hx hb dX6_glue_36 (lv_at hl 6 rfl) ?_
        refine lv_aload_n hx hb dX6_glue_38 rfl (lv_at hl 0 rfl) ?_
        refine m_geti S hE hW 24 (v := nI (nj g)) (by decide) rfl (by decide) tw_764 rfl hO.n24 dX6_glue_39 ?_
        refine g_icmp_ge S (by omega) (by omega) (tgt := 75) dX6_glue_42 (by decide) (fun c_42_1 => ?_) (fun c_42_1 => ?_)
        · obtain rfl : i = nj g := by omega
          refine lv_iconst (v := nI 0) hx hb dX6_glue_75 (by decide) ?_
          refine lv_istore (lv' := [(6, .int (nI 0)), (0, .ref (wad w 9 (0))), (1, .int v1), (2, .int 0), (3, .int 0), (4, .int 1), (5, .int (dnN g v1 (nj g)))]) hx hb dX6_glue_76 hl (by decide) rfl (fun ls hl => ?_)
          refine lv_iload hx hb dX6_glue_78 (lv_at hl 0 rfl) ?_
          refine lv_aload_n hx hb dX6_glue_80 rfl (lv_at hl 1 rfl) ?_
          refine m_geti S hE hW 24 (v := nI (nj g)) (by decide) rfl (by decide) tw_764 rfl hO.n24 dX6_glue_81 ?_
          refine g_icmp_ge S (by omega) (by omega) (tgt := 179) dX6_glue_84 (by decide) (fun c_84_2 => ?_) (fun c_84_2 => ?_)
          · refine lv_aload_n hx hb dX6_glue_179 rfl (lv_at hl 1 rfl) ?_
            refine lv_aload_n hx hb dX6_glue_180 rfl (lv_at hl 1 rfl) ?_
            refine m_gett S hE hW tw_740 dX6_glue_181 ?_
            refine lv_if_ne (tgt := 210) hx hb dX6_glue_184 (by decide) (fun _ => ?_) (fun h9 => absurd h9 (by decide))
            refine lv_aload_n hx hb dX6_glue_210 rfl (lv_at hl 1 rfl) ?_
            refine m_gett S hE hW tw_740 dX6_glue_211 ?_
            refine m_putt S hE hS hW tw_740 dX6_glue_214 (fun H locs hW hS => ?_)
            refine lv_aload_n hx hb dX6_glue_217 rfl (lv_at hl 1 rfl) ?_
            refine m_gett S hE hW tw_740 dX6_glue_218 ?_
            refine lv_if_le (tgt := 226) hx hb dX6_glue_221 (by decide) (fun h9 => absurd h9 (by decide)) (fun _ => ?_)
            refine lv_iconst (v := 0) hx hb dX6_glue_224 (by decide) ?_
            exact m_ret S hr hlocks hS hW (by simp [RR, sp_glue, bad, c_3]) dX6_glue_225
          · refine lv_aload_n hx hb dX6_glue_87 rfl (lv_at hl 1 rfl) ?_
            refine m_gett S hE hW tw_740 dX6_glue_88 ?_
            refine lv_if_ne (tgt := 179) hx hb dX6_glue_91 (by decide) (fun _ => ?_) (fun h9 => absurd h9 (by decide))
            refine lv_aload_n hx hb dX6_glue_179 rfl (lv_at hl 1 rfl) ?_
            refine lv_aload_n hx hb dX6_glue_180 rfl (lv_at hl 1 rfl) ?_
            refine m_gett S hE hW tw_740 dX6_glue_181 ?_
            refine lv_if_ne (tgt := 210) hx hb dX6_glue_184 (by decide) (fun _ => ?_) (fun h9 => absurd h9 (by decide))
            refine lv_aload_n hx hb dX6_glue_210 rfl (lv_at hl 1 rfl) ?_
            refine m_gett S hE hW tw_740 dX6_glue_211 ?_
            refine m_putt S hE hS hW tw_740 dX6_glue_214 (fun H locs hW hS => ?_)
            refine lv_aload_n hx hb dX6_glue_217 rfl (lv_at hl 1 rfl) ?_
            refine m_gett S hE hW tw_740 dX6_glue_218 ?_
            refine lv_if_le (tgt := 226) hx hb dX6_glue_221 (by decide) (fun h9 => absurd h9 (by decide)) (fun _ => ?_)
            refine lv_iconst (v := 0) hx hb dX6_glue_224 (by decide) ?_
            exact m_ret S hr hlocks hS hW (by simp [RR, sp_glue, bad, c_3]) dX6_glue_225
        · refine lv_aload_n hx hb dX6_glue_45 rfl (lv_at hl 0 rfl) ?_
          refine m_geta S hE hW 31 (by decide) rfl tw_771 rfl dX6_glue_46 ?_
          refine lv_iload hx hb dX6_glue_49 (lv_at hl 6 rfl) ?_
          refine m_zald S hE hW (k := 31) (v := g 31 i) rfl (vp_in_nI (show i < 30 from (by omega)) (by decide)) (by rw [show (nI i : Int32).toNatClampNeg = i from (nI_clamp (by omega))]) dX6_glue_51 ?_
          refine lv_if_eq (tgt := 65) hx hb dX6_glue_52 (by decide) (fun c_52_3 => ?_) (fun c_52_3 => ?_)
          · refine lv_iload hx hb dX6_glue_65 (lv_at hl 5 rfl) ?_
            refine lv_istore (lv' := [(5, .int (dnN g v1 i)), (0, .ref (wad w 9 (0))), (1, .int v1), (2, .int 0), (3, .int 0), (4, .int 1), (6, .int (nI i))]) hx hb dX6_glue_67 hl (by decide) rfl (fun ls hl => ?_)
            refine lv_iinc (v := nI (i + 1)) (lv' := [(6, .int (nI (i + 1))), (5, .int (dnN g v1 i)), (0, .ref (wad w 9 (0))), (1, .int v1), (2, .int 0), (3, .int 0), (4, .int 1)]) hx hb dX6_glue_69 hl (k := 6) rfl (nI_1 _) (by decide) rfl (fun ls hl => ?_)
            refine lv_goto (tgt := 36) hx hb dX6_glue_72 (by decide) ?_
            exact ih_36 (i + 1) _ (by omega) (by simp [dnN, c_52_3]) (by omega) _ _ hW hS ls (lv_sub hl [2, 3, 4, 5, 6, 1, 0] rfl)
          · refine lv_iload hx hb dX6_glue_55 (lv_at hl 5 rfl) ?_
            refine lv_iconst (v := 1) hx hb dX6_glue_57 (by decide) ?_
            refine lv_iload hx hb dX6_glue_58 (lv_at hl 6 rfl) ?_
            refine lv_ishl hx hb dX6_glue_60 ?_
            refine lv_ior hx hb dX6_glue_61 ?_
            refine lv_goto (tgt := 67) hx hb dX6_glue_62 (by decide) ?_
            refine lv_istore (lv' := [(5, .int ((dnN g v1 i) ||| (1 <<< ((nI i) &&& 31)))), (0, .ref (wad w 9 (0))), (1, .int v1), (2, .int 0), (3, .int 0), (4, .int 1), (6, .int (nI i))]) hx hb dX6_glue_67 hl (by decide) rfl (fun ls hl => ?_)
            refine lv_iinc (v := nI (i + 1)) (lv' := [(6, .int (nI (i + 1))), (5, .int ((dnN g v1 i) ||| (1 <<< ((nI i) &&& 31)))), (0, .ref (wad w 9 (0))), (1, .int v1), (2, .int 0), (3, .int 0), (4, .int 1)]) hx hb dX6_glue_69 hl (k := 6) rfl (nI_1 _) (by decide) rfl (fun ls hl => ?_)
            refine lv_goto (tgt := 36) hx hb dX6_glue_72 (by decide) ?_
            exact ih_36 (i + 1) _ (by omega) (by simp [dnN, c_52_3]) (by omega) _ _ hW hS ls (lv_sub hl [2, 3, 4, 5, 6, 1, 0] rfl)
    exact lp_36 ((nj g - 0) + 1) 0 _ (Nat.zero_le _) rfl (Nat.lt_succ_self _) _ _ hW hS ls (lv_sub hl [5, 6, 4, 3, 2, 1, 0] rfl)
  · refine lv_iload_n hx hb dX6_glue_6 rfl (lv_at hl 1 rfl) ?_
    refine lv_aload_n hx hb dX6_glue_7 rfl (lv_at hl 0 rfl) ?_
    refine m_geti S hE hW 24 (v := nI (nj g)) (by decide) rfl (by decide) tw_764 rfl hO.n24 dX6_glue_8 ?_
    refine lv_ishr hx hb dX6_glue_11 ?_
    refine lv_if_eq (tgt := 19) hx hb dX6_glue_12 (by decide) (fun c_12_4 => ?_) (fun c_12_4 => ?_)
    · refine lv_iconst (v := 0) hx hb dX6_glue_19 (by decide) ?_
      refine m_putt S hE hS hW tw_740 dX6_glue_20 (fun H locs hW hS => ?_)
      refine lv_iconst (v := 0) hx hb dX6_glue_23 (by decide) ?_
      refine lv_istore_n (lv' := [(2, .int 0), (0, .ref (wad w 9 (0))), (1, .int v1)]) hx hb dX6_glue_24 rfl hl (by decide) rfl (fun ls hl => ?_)
      refine lv_iconst (v := 0) hx hb dX6_glue_25 (by decide) ?_
      refine lv_istore_n (lv' := [(3, .int 0), (2, .int 0), (0, .ref (wad w 9 (0))), (1, .int v1)]) hx hb dX6_glue_26 rfl hl (by decide) rfl (fun ls hl => ?_)
      refine lv_iconst (v := 1) hx hb dX6_glue_27 (by decide) ?_
      refine lv_istore (lv' := [(4, .int 1), (3, .int 0), (2, .int 0), (0, .ref (wad w 9 (0))), (1, .int v1)]) hx hb dX6_glue_28 hl (by decide) rfl (fun ls hl => ?_)
      refine lv_iload_n hx hb dX6_glue_30 rfl (lv_at hl 4 rfl) ?_
      refine lv_istore (lv' := [(5, .int v1), (4, .int 1), (3, .int 0), (2, .int 0), (0, .ref (wad w 9 (0))), (1, .int v1)]) hx hb dX6_glue_31 hl (by decide) rfl (fun ls hl => ?_)
      refine lv_iconst (v := nI 0) hx hb dX6_glue_33 (by decide) ?_
      refine lv_istore (lv' := [(6, .int (nI 0)), (5, .int v1), (4, .int 1), (3, .int 0), (2, .int 0), (0, .ref (wad w 9 (0))), (1, .int v1)]) hx hb dX6_glue_34 hl (by decide) rfl (fun ls hl => ?_)
      have lp_36 : ∀ (k9 : Nat) (i : Nat) (x : Int32) (hi : i ≤ nj g) (he : x = dnN g v1 i), nj g - i < k9 → ∀ (H : Heap) (locs : List Loc), MW z w g1 o g (0) A B H → va_S (zA z) s.heap H locs → ∀ (ls : Array Slot), lv_has ls 7 [(0, .ref (wad w 9 (0))), (1, .int v1), (2, .int 0), (3, .int 0), (4, .int 1), (5, .int x), (6, .int (nI i))] → W p l e ({ frames := 0, cells := 0, slots := 0, locals := 0 } : Room) s m ([.ref (wad w 9 (0)), .int v1] : List Value).toArray below meth c H locs 0 0 (MQ below (qM z w g1 o (fun r u => RR (sp_glue g v1) r u.2.1 u.1)) ([.ref (wad w 9 (0)), .int v1] : List Value).toArray s 0 0 (zA z)) (F0 m 36 ls []) := by
        intro k9
        induction k9 with
        | zero => intro i x hi he h9; exact absurd h9 (Nat.not_lt_zero _)
        | succ k9 ih_36 =>
          intro i x hi he hk9 H locs hW hS ls hl
          subst he
          refine lv_iload hx hb dX6_glue_36 (lv_at hl 6 rfl) ?_
          refine lv_aload_n hx hb dX6_glue_38 rfl (lv_at hl 0 rfl) ?_
          refine m_geti S hE hW 24 (v := nI (nj g)) (by decide) rfl (by decide) tw_764 rfl hO.n24 dX6_glue_39 ?_
          refine g_icmp_ge S (by omega) (by omega) (tgt := 75) dX6_glue_42 (by decide) (fun c_42_5 => ?_) (fun c_42_5 => ?_)
          · obtain rfl : i = nj g := by omega
            refine lv_iconst (v := nI 0) hx hb dX6_glue_75 (by decide) ?_
            refine lv_istore (lv' := [(6, .int (nI 0)), (0, .ref (wad w 9 (0))), (1, .int v1), (2, .int 0), (3, .int 0), (4, .int 1), (5, .int (dnN g v1 (nj g)))]) hx hb dX6_glue_76 hl (by decide) rfl (fun ls hl => ?_)
            have lp_78 : ∀ (k9 : Nat) (i : Nat) (x1 x2 x3 : Int32) (hi : i ≤ nj g) (h1 : x1 = miN g v1 i) (h2 : x2 = taN g v1 i) (h3 : x3 = bI (myN g v1 (dnN g v1 (nj g)) i)), nj g - i < k9 → ∀ (H : Heap) (locs : List Loc), MW z w g1 o g (0) A B H → va_S (zA z) s.heap H locs → ∀ (ls : Array Slot), lv_has ls 7 [(0, .ref (wad w 9 (0))), (1, .int v1), (2, .int x1), (3, .int x2), (4, .int x3), (5, .int (dnN g v1 (nj g))), (6, .int (nI i))] → W p l e ({ frames := 0, cells := 0, slots := 0, locals := 0 } : Room) s m ([.ref (wad w 9 (0)), .int v1] : List Value).toArray below meth c H locs 0 0 (MQ below (qM z w g1 o (fun r u => RR (sp_glue g v1) r u.2.1 u.1)) ([.ref (wad w 9 (0)), .int v1] : List Value).toArray s 0 0 (zA z)) (F0 m 78 ls []) := by
              intro k9
              induction k9 with
              | zero => intro i x1 x2 x3 hi h1 h2 h3 h9; exact absurd h9 (Nat.not_lt_zero _)
              | succ k9 ih_78 =>
                intro i x1 x2 x3 hi h1 h2 h3 hk9 H locs hW hS ls hl
                subst h1 h2 h3
                refine lv_iload hx hb dX6_glue_78 (lv_at hl 6 rfl) ?_
                refine lv_aload_n hx hb dX6_glue_80 rfl (lv_at hl 0 rfl) ?_
                refine m_geti S hE hW 24 (v := nI (nj g)) (by decide) rfl (by decide) tw_764 rfl hO.n24 dX6_glue_81 ?_
                refine g_icmp_ge S (by omega) (by omega) (tgt := 179) dX6_glue_84 (by decide) (fun c_84_6 => ?_) (fun c_84_6 => ?_)
                · obtain rfl : i = nj g := by omega
                  refine lv_aload_n hx hb dX6_glue_179 rfl (lv_at hl 0 rfl) ?_
                  refine lv_aload_n hx hb dX6_glue_180 rfl (lv_at hl 0 rfl) ?_
                  refine m_gett S hE hW tw_740 dX6_glue_181 ?_
                  refine lv_if_ne (tgt := 210) hx hb dX6_glue_184 (by decide) (fun h9 => absurd h9 (by decide)) (fun _ => ?_)
                  refine lv_iload hx hb dX6_glue_187 (lv_at hl 4 rfl) ?_
                  refine g_if_eq S (tgt := 206) dX6_glue_189 (by decide) (fun c_189_7 => ?_) (fun c_189_7 => ?_)
                  · refine lv_iconst (v := 2) hx hb dX6_glue_206 (by decide) ?_
                    refine lv_goto (tgt := 214) hx hb dX6_glue_207 (by decide) ?_
                    refine m_putt S hE hS hW tw_740 dX6_glue_214 (fun H locs hW hS => ?_)
                    refine lv_aload_n hx hb dX6_glue_217 rfl (lv_at hl 0 rfl) ?_
                    refine m_gett S hE hW tw_740 dX6_glue_218 ?_
                    refine lv_if_le (tgt := 226) hx hb dX6_glue_221 (by decide) (fun h9 => absurd h9 (by decide)) (fun _ => ?_)
                    refine lv_iconst (v := 0) hx hb dX6_glue_224 (by decide) ?_
                    exact m_ret S hr hlocks hS hW (by simp [RR, sp_glue, bad, c_3, c_12_4, c_189_7]) dX6_glue_225
                  · refine lv_iload_n hx hb dX6_glue_192 rfl (lv_at hl 2 rfl) ?_
                    refine lv_bipush (v := 30) hx hb dX6_glue_193 (by decide) ?_
                    refine lv_icmp_gt (tgt := 206) hx hb dX6_glue_195 (by decide) (fun c_195_8 => ?_) (fun c_195_8 => ?_)
                    · refine lv_iconst (v := 2) hx hb dX6_glue_206 (by decide) ?_
                      refine lv_goto (tgt := 214) hx hb dX6_glue_207 (by decide) ?_
                      refine m_putt S hE hS hW tw_740 dX6_glue_214 (fun H locs hW hS => ?_)
                      refine lv_aload_n hx hb dX6_glue_217 rfl (lv_at hl 0 rfl) ?_
                      refine m_gett S hE hW tw_740 dX6_glue_218 ?_
                      refine lv_if_le (tgt := 226) hx hb dX6_glue_221 (by decide) (fun h9 => absurd h9 (by decide)) (fun _ => ?_)
                      refine lv_iconst (v := 0) hx hb dX6_glue_224 (by decide) ?_
                      exact m_ret S hr hlocks hS hW (by simp [RR, sp_glue, bad, c_3, c_12_4, c_189_7, c_195_8]) dX6_glue_225
                    · refine lv_iload_n hx hb dX6_glue_198 rfl (lv_at hl 3 rfl) ?_
                      refine lv_aload_n hx hb dX6_glue_199 rfl (lv_at hl 0 rfl) ?_
                      refine m_geti S hE hW 4 (v := g 4 0) (by decide) rfl (by decide) tw_744 rfl rfl dX6_glue_200 ?_
                      refine lv_icmp_le (tgt := 210) hx hb dX6_glue_203 (by decide) (fun c_203_9 => ?_) (fun c_203_9 => ?_)
                      · refine lv_aload_n hx hb dX6_glue_210 rfl (lv_at hl 0 rfl) ?_
                        refine m_gett S hE hW tw_740 dX6_glue_211 ?_
                        refine m_putt S hE hS hW tw_740 dX6_glue_214 (fun H locs hW hS => ?_)
                        refine lv_aload_n hx hb dX6_glue_217 rfl (lv_at hl 0 rfl) ?_
                        refine m_gett S hE hW tw_740 dX6_glue_218 ?_
                        refine lv_if_le (tgt := 226) hx hb dX6_glue_221 (by decide) (fun _ => ?_) (fun h9 => absurd h9 (by decide))
                        refine lv_iconst (v := nI 0) hx hb dX6_glue_226 (by decide) ?_
                        refine lv_istore (lv' := [(6, .int (nI 0)), (0, .ref (wad w 9 (0))), (1, .int v1), (2, .int (miN g v1 (nj g))), (3, .int (taN g v1 (nj g))), (4, .int (bI (myN g v1 (dnN g v1 (nj g)) (nj g)))), (5, .int (dnN g v1 (nj g)))]) hx hb dX6_glue_227 hl (by decide) rfl (fun ls hl => ?_)
                        have lp_229 : ∀ (k9 : Nat) (i : Nat) (hi : i ≤ nj g), nj g - i < k9 → ∀ (H : Heap) (locs : List Loc), MW z w g1 o (gst g v1 i) (0) A B H → va_S (zA z) s.heap H locs → ∀ (ls : Array Slot), lv_has ls 7 [(0, .ref (wad w 9 (0))), (1, .int v1), (2, .int (miN g v1 (nj g))), (6, .int (nI i))] → W p l e ({ frames := 0, cells := 0, slots := 0, locals := 0 } : Room) s m ([.ref (wad w 9 (0)), .int v1] : List Value).toArray below meth c H locs 0 0 (MQ below (qM z w g1 o (fun r u => RR (sp_glue g v1) r u.2.1 u.1)) ([.ref (wad w 9 (0)), .int v1] : List Value).toArray s 0 0 (zA z)) (F0 m 229 ls []) := by
                          intro k9
                          induction k9 with
                          | zero => intro i hi h9; exact absurd h9 (Nat.not_lt_zero _)
                          | succ k9 ih_229 =>
                            intro i hi hk9 H locs hW hS ls hl
                            refine lv_iload hx hb dX6_glue_229 (lv_at hl 3 rfl) ?_
                            refine lv_aload_n hx hb dX6_glue_231 rfl (lv_at hl 0 rfl) ?_
                            refine m_geti S hE hW 24 (v := nI (nj g)) (by decide) rfl (by decide) tw_764 rfl ((by simp [gup, gst] : _ = g 24 0).trans hO.n24) dX6_glue_232 ?_
                            refine g_icmp_ge S (by omega) (by omega) (tgt := 281) dX6_glue_235 (by decide) (fun c_235_10 => ?_) (fun c_235_10 => ?_)
                            · obtain rfl : i = nj g := by omega
                              refine lv_iload_n hx hb dX6_glue_281 rfl (lv_at hl 2 rfl) ?_
                              exact m_ret S hr hlocks hS hW (by simp [RR, sp_glue, bad, c_3, c_12_4, c_189_7, c_195_8, c_203_9]) dX6_glue_282
                            · have hjpi := hO.l26 (i := i) (by omega)
                              refine lv_iload_n hx hb dX6_glue_238 rfl (lv_at hl 1 rfl) ?_
                              refine lv_iload hx hb dX6_glue_239 (lv_at hl 3 rfl) ?_
                              refine lv_ishr hx hb dX6_glue_241 ?_
                              refine lv_iconst (v := 1) hx hb dX6_glue_242 (by decide) ?_
                              refine lv_iand hx hb dX6_glue_243 ?_
                              refine lv_iconst (v := 1) hx hb dX6_glue_244 (by decide) ?_
                              refine lv_icmp_ne (tgt := 275) hx hb dX6_glue_245 (by decide) (fun c_245_11 => ?_) (fun c_245_11 => ?_)
                              · refine lv_iinc (v := nI (i + 1)) (lv' := [(6, .int (nI (i + 1))), (0, .ref (wad w 9 (0))), (1, .int v1), (2, .int (miN g v1 (nj g)))]) hx hb dX6_glue_275 hl (k := 3) rfl (nI_1 _) (by decide) rfl (fun ls hl => ?_)
                                refine lv_goto (tgt := 229) hx hb dX6_glue_278 (by decide) ?_
                                exact ih_229 (i + 1) (by omega) (by omega) _ _ (by rw [← gst_n g v1 i (by simp [btS, c_245_11])]; exact hW) hS ls (lv_sub hl [1, 2, 3, 0] rfl)
                              · refine lv_aload_n hx hb dX6_glue_248 rfl (lv_at hl 0 rfl) ?_
                                refine m_geta S hE hW 31 (by decide) rfl tw_771 rfl dX6_glue_249 ?_
                                refine lv_iload hx hb dX6_glue_252 (lv_at hl 3 rfl) ?_
                                refine lv_iconst (v := 1) hx hb dX6_glue_254 (by decide) ?_
                                refine m_zast S hE hS hW (k := 31) (j := i) rfl (vp_in_nI (show i < 30 from (by omega)) (by decide)) (nI_clamp (by omega)) rfl dX6_glue_255 (fun H locs hW hS => ?_)
                                refine lv_aload_n hx hb dX6_glue_256 rfl (lv_at hl 0 rfl) ?_
                                refine m_geta S hE hW 33 (by decide) rfl tw_773 rfl dX6_glue_257 ?_
                                refine lv_iload hx hb dX6_glue_260 (lv_at hl 3 rfl) ?_
                                refine lv_aload_n hx hb dX6_glue_262 rfl (lv_at hl 0 rfl) ?_
                                refine m_geta S hE hW 22 (by decide) rfl tw_762 rfl dX6_glue_263 ?_
                                refine lv_aload_n hx hb dX6_glue_266 rfl (lv_at hl 0 rfl) ?_
                                refine m_geta S hE hW 26 (by decide) rfl tw_766 rfl dX6_glue_267 ?_
                                refine lv_iload hx hb dX6_glue_270 (lv_at hl 3 rfl) ?_
                                refine m_ald S hE hW (k := 26) (v := nI (jp g (i))) rfl (vp_in_nI (show i < 30 from (by omega)) (by decide)) (by rw [show (nI i : Int32).toNatClampNeg = i from (nI_clamp (by omega))]; exact ((by simp [gup, gst] : _ = g 26 (i)).trans (hO.n26 (i := i) (by omega)))) dX6_glue_272 ?_
                                refine m_ald S hE hW (k := 22) (v := g 22 (jp g (i))) rfl (vp_in_nI (show jp g (i) < 40 from (by omega)) (by decide)) (by rw [show (nI (jp g (i)) : Int32).toNatClampNeg = jp g (i) from (nI_clamp (by omega))]; exact (by simp [gup, gst])) dX6_glue_273 ?_
                                refine m_ast S hE hS hW (k := 33) (j := i) rfl (vp_in_nI (show i < 30 from (by omega)) (by decide)) (nI_clamp (by omega)) dX6_glue_274 (fun H locs hW hS => ?_)
                                refine lv_iinc (v := nI (i + 1)) (lv' := [(6, .int (nI (i + 1))), (0, .ref (wad w 9 (0))), (1, .int v1), (2, .int (miN g v1 (nj g)))]) hx hb dX6_glue_275 hl (k := 3) rfl (nI_1 _) (by decide) rfl (fun ls hl => ?_)
                                refine lv_goto (tgt := 229) hx hb dX6_glue_278 (by decide) ?_
                                exact ih_229 (i + 1) (by omega) (by omega) _ _ (by rw [← gst_s g v1 i (by simp [btS, c_245_11])]; exact hW) hS ls (lv_sub hl [1, 2, 3, 0] rfl)
                        exact lp_229 ((nj g - 0) + 1) 0 (Nat.zero_le _) (Nat.lt_succ_self _) _ _ (by rw [gst_0]; exact hW) hS ls (lv_sub hl [1, 2, 3, 0] rfl)
                      · refine lv_iconst (v := 2) hx hb dX6_glue_206 (by decide) ?_
                        refine lv_goto (tgt := 214) hx hb dX6_glue_207 (by decide) ?_
                        refine m_putt S hE hS hW tw_740 dX6_glue_214 (fun H locs hW hS => ?_)
                        refine lv_aload_n hx hb dX6_glue_217 rfl (lv_at hl 0 rfl) ?_
                        refine m_gett S hE hW tw_740 dX6_glue_218 ?_
                        refine lv_if_le (tgt := 226) hx hb dX6_glue_221 (by decide) (fun h9 => absurd h9 (by decide)) (fun _ => ?_)
                        refine lv_iconst (v := 0) hx hb dX6_glue_224 (by decide) ?_
                        exact m_ret S hr hlocks hS hW (by simp [RR, sp_glue, bad, c_3, c_12_4, c_189_7, c_195_8, c_203_9]) dX6_glue_225
                · refine lv_aload_n hx hb dX6_glue_87 rfl (lv_at hl 0 rfl) ?_
                  refine m_gett S hE hW tw_740 dX6_glue_88 ?_
                  refine lv_if_ne (tgt := 179) hx hb dX6_glue_91 (by decide) (fun h9 => absurd h9 (by decide)) (fun _ => ?_)
                  refine lv_iload_n hx hb dX6_glue_94 rfl (lv_at hl 1 rfl) ?_
                  refine lv_iload hx hb dX6_glue_95 (lv_at hl 6 rfl) ?_
                  refine lv_ishr hx hb dX6_glue_97 ?_
                  refine lv_iconst (v := 1) hx hb dX6_glue_98 (by decide) ?_
                  refine lv_iand hx hb dX6_glue_99 ?_
                  refine lv_iconst (v := 1) hx hb dX6_glue_100 (by decide) ?_
                  refine lv_icmp_ne (tgt := 173) hx hb dX6_glue_101 (by decide) (fun c_101_12 => ?_) (fun c_101_12 => ?_)
                  · refine lv_iinc (v := nI (i + 1)) (lv' := [(6, .int (nI (i + 1))), (0, .ref (wad w 9 (0))), (1, .int v1), (2, .int (miN g v1 i)), (3, .int (taN g v1 i)), (4, .int (bI (myN g v1 (dnN g v1 (nj g)) i))), (5, .int (dnN g v1 (nj g)))]) hx hb dX6_glue_173 hl (k := 6) rfl (nI_1 _) (by decide) rfl (fun ls hl => ?_)
                    refine lv_goto (tgt := 78) hx hb dX6_glue_176 (by decide) ?_
                    exact ih_78 (i + 1) _ _ _ (by omega) (by simp [miN, btS, c_101_12]) (by simp [taN, btS, c_101_12]) (by simp [myN, btS, bI, c_101_12]) (by omega) _ _ hW hS ls (lv_sub hl [1, 2, 3, 4, 5, 6, 0] rfl)
                  · refine lv_iload_n hx hb dX6_glue_104 rfl (lv_at hl 2 rfl) ?_
                    refine lv_iconst (v := 3) hx hb dX6_glue_105 (by decide) ?_
                    refine lv_aload_n hx hb dX6_glue_106 rfl (lv_at hl 0 rfl) ?_
                    refine m_geta S hE hW 28 (by decide) rfl tw_768 rfl dX6_glue_107 ?_
                    refine lv_iload hx hb dX6_glue_110 (lv_at hl 6 rfl) ?_
                    refine m_ald S hE hW (k := 28) (v := g 28 i) rfl (vp_in_nI (show i < 30 from (by omega)) (by decide)) (by rw [show (nI i : Int32).toNatClampNeg = i from (nI_clamp (by omega))]) dX6_glue_112 ?_
                    refine lv_sipush (v := 1000) hx hb dX6_glue_113 (by decide) ?_
                    refine lv_idiv hx hb dX6_glue_116 (by decide) ?_
                    refine lv_iadd hx hb dX6_glue_117 ?_
                    refine lv_iadd hx hb dX6_glue_118 ?_
                    refine lv_istore_n (lv' := [(2, .int ((miN g v1 i) + (3 + ((g 28 i) / (1000))))), (0, .ref (wad w 9 (0))), (1, .int v1), (3, .int (taN g v1 i)), (4, .int (bI (myN g v1 (dnN g v1 (nj g)) i))), (5, .int (dnN g v1 (nj g))), (6, .int (nI i))]) hx hb dX6_glue_119 rfl hl (by decide) rfl (fun ls hl => ?_)
                    refine lv_iload_n hx hb dX6_glue_120 rfl (lv_at hl 3 rfl) ?_
                    refine lv_iconst (v := 1) hx hb dX6_glue_121 (by decide) ?_
                    refine lv_aload_n hx hb dX6_glue_122 rfl (lv_at hl 1 rfl) ?_
                    refine m_geta S hE hW 28 (by decide) rfl tw_768 rfl dX6_glue_123 ?_
                    refine lv_iload hx hb dX6_glue_126 (lv_at hl 6 rfl) ?_
                    refine m_ald S hE hW (k := 28) (v := g 28 i) rfl (vp_in_nI (show i < 30 from (by omega)) (by decide)) (by rw [show (nI i : Int32).toNatClampNeg = i from (nI_clamp (by omega))]) dX6_glue_128 ?_
                    refine lv_sipush (v := 500) hx hb dX6_glue_129 (by decide) ?_
                    refine lv_idiv hx hb dX6_glue_132 (by decide) ?_
                    refine lv_iadd hx hb dX6_glue_133 ?_
                    refine lv_iadd hx hb dX6_glue_134 ?_
                    refine lv_istore_n (lv' := [(3, .int ((taN g v1 i) + (1 + ((g 28 i) / (500))))), (2, .int ((miN g v1 i) + (3 + ((g 28 i) / (1000))))), (0, .ref (wad w 9 (0))), (1, .int v1), (4, .int (bI (myN g v1 (dnN g v1 (nj g)) i))), (5, .int (dnN g v1 (nj g))), (6, .int (nI i))]) hx hb dX6_glue_135 rfl hl (by decide) rfl (fun ls hl => ?_)
                    refine lv_iload hx hb dX6_glue_136 (lv_at hl 4 rfl) ?_
                    refine g_if_eq S (tgt := 170) dX6_glue_138 (by decide) (fun c_138_13 => ?_) (fun c_138_13 => ?_)
                    · refine lv_iconst (v := 0) hx hb dX6_glue_170 (by decide) ?_
                      refine lv_istore (lv' := [(4, .int 0), (3, .int ((taN g v1 i) + (1 + ((g 28 i) / (500))))), (2, .int ((miN g v1 i) + (3 + ((g 28 i) / (1000))))), (0, .ref (wad w 9 (0))), (1, .int v1), (5, .int (dnN g v1 (nj g))), (6, .int (nI i))]) hx hb dX6_glue_171 hl (by decide) rfl (fun ls hl => ?_)
                      refine lv_iinc (v := nI (i + 1)) (lv' := [(6, .int (nI (i + 1))), (4, .int 0), (3, .int ((taN g v1 i) + (1 + ((g 28 i) / (500))))), (2, .int ((miN g v1 i) + (3 + ((g 28 i) / (1000))))), (0, .ref (wad w 9 (0))), (1, .int v1), (5, .int (dnN g v1 (nj g)))]) hx hb dX6_glue_173 hl (k := 6) rfl (nI_1 _) (by decide) rfl (fun ls hl => ?_)
                      refine lv_goto (tgt := 78) hx hb dX6_glue_176 (by decide) ?_
                      exact ih_78 (i + 1) _ _ _ (by omega) (by simp [miN, btS, c_101_12, c_138_13]) (by simp [taN, btS, c_101_12, c_138_13]) (by simp [myN, btS, bI, c_101_12, c_138_13]) (by omega) _ _ hW hS ls (lv_sub hl [4, 5, 3, 2, 1, 6, 0] rfl)
                    · refine lv_aload_n hx hb dX6_glue_141 rfl (lv_at hl 2 rfl) ?_
                      refine m_geta S hE hW 31 (by decide) rfl tw_771 rfl dX6_glue_142 ?_
                      refine lv_iload hx hb dX6_glue_145 (lv_at hl 6 rfl) ?_
                      refine m_zald S hE hW (k := 31) (v := g 31 i) rfl (vp_in_nI (show i < 30 from (by omega)) (by decide)) (by rw [show (nI i : Int32).toNatClampNeg = i from (nI_clamp (by omega))]) dX6_glue_147 ?_
                      refine lv_if_ne (tgt := 170) hx hb dX6_glue_148 (by decide) (fun c_148_14 => ?_) (fun c_148_14 => ?_)
                      · refine lv_iconst (v := 0) hx hb dX6_glue_170 (by decide) ?_
                        refine lv_istore (lv' := [(4, .int 0), (3, .int ((taN g v1 i) + (1 + ((g 28 i) / (500))))), (2, .int ((miN g v1 i) + (3 + ((g 28 i) / (1000))))), (0, .ref (wad w 9 (0))), (1, .int v1), (5, .int (dnN g v1 (nj g))), (6, .int (nI i))]) hx hb dX6_glue_171 hl (by decide) rfl (fun ls hl => ?_)
                        refine lv_iinc (v := nI (i + 1)) (lv' := [(6, .int (nI (i + 1))), (4, .int 0), (3, .int ((taN g v1 i) + (1 + ((g 28 i) / (500))))), (2, .int ((miN g v1 i) + (3 + ((g 28 i) / (1000))))), (0, .ref (wad w 9 (0))), (1, .int v1), (5, .int (dnN g v1 (nj g)))]) hx hb dX6_glue_173 hl (k := 6) rfl (nI_1 _) (by decide) rfl (fun ls hl => ?_)
                        refine lv_goto (tgt := 78) hx hb dX6_glue_176 (by decide) ?_
                        exact ih_78 (i + 1) _ _ _ (by omega) (by simp [miN, btS, c_101_12, c_138_13, c_148_14]) (by simp [taN, btS, c_101_12, c_138_13, c_148_14]) (by simp [myN, btS, bI, c_101_12, c_138_13, c_148_14]) (by omega) _ _ hW hS ls (lv_sub hl [4, 5, 3, 2, 1, 6, 0] rfl)
                      · refine lv_aload_n hx hb dX6_glue_151 rfl (lv_at hl 2 rfl) ?_
                        refine m_geta S hE hW 30 (by decide) rfl tw_770 rfl dX6_glue_152 ?_
                        refine lv_iload hx hb dX6_glue_155 (lv_at hl 6 rfl) ?_
                        refine m_ald S hE hW (k := 30) (v := g 30 i) rfl (vp_in_nI (show i < 30 from (by omega)) (by decide)) (by rw [show (nI i : Int32).toNatClampNeg = i from (nI_clamp (by omega))]) dX6_glue_157 ?_
                        refine lv_iload hx hb dX6_glue_158 (lv_at hl 5 rfl) ?_
                        refine lv_iconst (v := (-1)) hx hb dX6_glue_160 (by decide) ?_
                        refine lv_ixor hx hb dX6_glue_161 ?_
                        refine lv_iand hx hb dX6_glue_162 ?_
                        refine lv_if_ne (tgt := 170) hx hb dX6_glue_163 (by decide) (fun c_163_15 => ?_) (fun c_163_15 => ?_)
                        · refine lv_iconst (v := 0) hx hb dX6_glue_170 (by decide) ?_
                          refine lv_istore (lv' := [(4, .int 0), (3, .int ((taN g v1 i) + (1 + ((g 28 i) / (500))))), (2, .int ((miN g v1 i) + (3 + ((g 28 i) / (1000))))), (0, .ref (wad w 9 (0))), (1, .int v1), (5, .int (dnN g v1 (nj g))), (6, .int (nI i))]) hx hb dX6_glue_171 hl (by decide) rfl (fun ls hl => ?_)
                          refine lv_iinc (v := nI (i + 1)) (lv' := [(6, .int (nI (i + 1))), (4, .int 0), (3, .int ((taN g v1 i) + (1 + ((g 28 i) / (500))))), (2, .int ((miN g v1 i) + (3 + ((g 28 i) / (1000))))), (0, .ref (wad w 9 (0))), (1, .int v1), (5, .int (dnN g v1 (nj g)))]) hx hb dX6_glue_173 hl (k := 6) rfl (nI_1 _) (by decide) rfl (fun ls hl => ?_)
                          refine lv_goto (tgt := 78) hx hb dX6_glue_176 (by decide) ?_
                          exact ih_78 (i + 1) _ _ _ (by omega) (by simp [miN, btS, c_101_12, c_138_13, c_148_14, c_163_15]) (by simp [taN, btS, c_101_12, c_138_13, c_148_14, c_163_15]) (by have q9 : ndz (g 30 i) (dnN g v1 (nj g)) = false := (by unfold ndz; exact decide_eq_false c_163_15); simp [myN, btS, bI, q9, c_101_12, c_138_13, c_148_14]) (by omega) _ _ hW hS ls (lv_sub hl [4, 5, 3, 2, 1, 6, 0] rfl)
                        · refine lv_iconst (v := 1) hx hb dX6_glue_166 (by decide) ?_
                          refine lv_goto (tgt := 171) hx hb dX6_glue_167 (by decide) ?_
                          refine lv_istore (lv' := [(4, .int 1), (3, .int ((taN g v1 i) + (1 + ((g 28 i) / (500))))), (2, .int ((miN g v1 i) + (3 + ((g 28 i) / (1000))))), (0, .ref (wad w 9 (0))), (1, .int v1), (5, .int (dnN g v1 (nj g))), (6, .int (nI i))]) hx hb dX6_glue_171 hl (by decide) rfl (fun ls hl => ?_)
                          refine lv_iinc (v := nI (i + 1)) (lv' := [(6, .int (nI (i + 1))), (4, .int 1), (3, .int ((taN g v1 i) + (1 + ((g 28 i) / (500))))), (2, .int ((miN g v1 i) + (3 + ((g 28 i) / (1000))))), (0, .ref (wad w 9 (0))), (1, .int v1), (5, .int (dnN g v1 (nj g)))]) hx hb dX6_glue_173 hl (k := 6) rfl (nI_1 _) (by decide) rfl (fun ls hl => ?_)
                          refine lv_goto (tgt := 78) hx hb dX6_glue_176 (by decide) ?_
                          exact ih_78 (i + 1) _ _ _ (by omega) (by simp [miN, btS, c_101_12, c_138_13, c_148_14, c_163_15]) (by simp [taN, btS, c_101_12, c_138_13, c_148_14, c_163_15]) (by have q9 : ndz (g 30 i) (dnN g v1 (nj g)) = true := (by unfold ndz; exact decide_eq_true c_163_15); simp [myN, btS, bI, q9, c_101_12, c_138_13, c_148_14]) (by omega) _ _ hW hS ls (lv_sub hl [4, 5, 3, 2, 1, 6, 0] rfl)
            exact lp_78 ((nj g - 0) + 1) 0 _ _ _ (Nat.zero_le _) rfl rfl rfl (Nat.lt_succ_self _) _ _ hW hS ls (lv_sub hl [1, 2, 3, 4, 5, 6, 0] rfl)
          · refine lv_aload_n hx hb dX6_glue_45 rfl (lv_at hl 0 rfl) ?_
            refine m_geta S hE hW 31 (by decide) rfl tw_771 rfl dX6_glue_46 ?_
            refine lv_iload hx hb dX6_glue_49 (lv_at hl 6 rfl) ?_
            refine m_zald S hE hW (k := 31) (v := g 31 i) rfl (vp_in_nI (show i < 30 from (by omega)) (by decide)) (by rw [show (nI i : Int32).toNatClampNeg = i from (nI_clamp (by omega))]) dX6_glue_51 ?_
            refine lv_if_eq (tgt := 65) hx hb dX6_glue_52 (by decide) (fun c_52_16 => ?_) (fun c_52_16 => ?_)
            · refine lv_iload hx hb dX6_glue_65 (lv_at hl 5 rfl) ?_
              refine lv_istore (lv' := [(5, .int (dnN g v1 i)), (0, .ref (wad w 9 (0))), (1, .int v1), (2, .int 0), (3, .int 0), (4, .int 1), (6, .int (nI i))]) hx hb dX6_glue_67 hl (by decide) rfl (fun ls hl => ?_)
              refine lv_iinc (v := nI (i + 1)) (lv' := [(6, .int (nI (i + 1))), (5, .int (dnN g v1 i)), (0, .ref (wad w 9 (0))), (1, .int v1), (2, .int 0), (3, .int 0), (4, .int 1)]) hx hb dX6_glue_69 hl (k := 6) rfl (nI_1 _) (by decide) rfl (fun ls hl => ?_)
              refine lv_goto (tgt := 36) hx hb dX6_glue_72 (by decide) ?_
              exact ih_36 (i + 1) _ (by omega) (by simp [dnN, c_52_16]) (by omega) _ _ hW hS ls (lv_sub hl [2, 3, 4, 5, 6, 1, 0] rfl)
            · refine lv_iload hx hb dX6_glue_55 (lv_at hl 5 rfl) ?_
              refine lv_iconst (v := 1) hx hb dX6_glue_57 (by decide) ?_
              refine lv_iload hx hb dX6_glue_58 (lv_at hl 6 rfl) ?_
              refine lv_ishl hx hb dX6_glue_60 ?_
              refine lv_ior hx hb dX6_glue_61 ?_
              refine lv_goto (tgt := 67) hx hb dX6_glue_62 (by decide) ?_
              refine lv_istore (lv' := [(5, .int ((dnN g v1 i) ||| (1 <<< ((nI i) &&& 31)))), (0, .ref (wad w 9 (0))), (1, .int v1), (2, .int 0), (3, .int 0), (4, .int 1), (6, .int (nI i))]) hx hb dX6_glue_67 hl (by decide) rfl (fun ls hl => ?_)
              refine lv_iinc (v := nI (i + 1)) (lv' := [(6, .int (nI (i + 1))), (5, .int ((dnN g v1 i) ||| (1 <<< ((nI i) &&& 31)))), (0, .ref (wad w 9 (0))), (1, .int v1), (2, .int 0), (3, .int 0), (4, .int 1)]) hx hb dX6_glue_69 hl (k := 6) rfl (nI_1 _) (by decide) rfl (fun ls hl => ?_)
              refine lv_goto (tgt := 36) hx hb dX6_glue_72 (by decide) ?_
              exact ih_36 (i + 1) _ (by omega) (by simp [dnN, c_52_16]) (by omega) _ _ hW hS ls (lv_sub hl [2, 3, 4, 5, 6, 1, 0] rfl)
      exact lp_36 ((nj g - 0) + 1) 0 _ (Nat.zero_le _) rfl (Nat.lt_succ_self _) _ _ hW hS ls (lv_sub hl [5, 6, 4, 3, 2, 1, 0] rfl)
    · refine lv_iconst (v := 1) hx hb dX6_glue_15 (by decide) ?_
      refine lv_goto (tgt := 20) hx hb dX6_glue_16 (by decide) ?_
      refine m_putt S hE hS hW tw_740 dX6_glue_20 (fun H locs hW hS => ?_)
      refine lv_iconst (v := 0) hx hb dX6_glue_23 (by decide) ?_
      refine lv_istore_n (lv' := [(2, .int 0), (0, .ref (wad w 9 (0))), (1, .int v1)]) hx hb dX6_glue_24 rfl hl (by decide) rfl (fun ls hl => ?_)
      refine lv_iconst (v := 0) hx hb dX6_glue_25 (by decide) ?_
      refine lv_istore_n (lv' := [(3, .int 0), (2, .int 0), (0, .ref (wad w 9 (0))), (1, .int v1)]) hx hb dX6_glue_26 rfl hl (by decide) rfl (fun ls hl => ?_)
      refine lv_iconst (v := 1) hx hb dX6_glue_27 (by decide) ?_
      refine lv_istore (lv' := [(4, .int 1), (3, .int 0), (2, .int 0), (0, .ref (wad w 9 (0))), (1, .int v1)]) hx hb dX6_glue_28 hl (by decide) rfl (fun ls hl => ?_)
      refine lv_iload_n hx hb dX6_glue_30 rfl (lv_at hl 4 rfl) ?_
      refine lv_istore (lv' := [(5, .int v1), (4, .int 1), (3, .int 0), (2, .int 0), (0, .ref (wad w 9 (0))), (1, .int v1)]) hx hb dX6_glue_31 hl (by decide) rfl (fun ls hl => ?_)
      refine lv_iconst (v := nI 0) hx hb dX6_glue_33 (by decide) ?_
      refine lv_istore (lv' := [(6, .int (nI 0)), (5, .int v1), (4, .int 1), (3, .int 0), (2, .int 0), (0, .ref (wad w 9 (0))), (1, .int v1)]) hx hb dX6_glue_34 hl (by decide) rfl (fun ls hl => ?_)
      have lp_36 : ∀ (k9 : Nat) (i : Nat) (x : Int32) (hi : i ≤ nj g) (he : x = dnN g v1 i), nj g - i < k9 → ∀ (H : Heap) (locs : List Loc), MW z w g1 o g (1) A B H → va_S (zA z) s.heap H locs → ∀ (ls : Array Slot), lv_has ls 7 [(0, .ref (wad w 9 (0))), (1, .int v1), (2, .int 0), (3, .int 0), (4, .int 1), (5, .int x), (6, .int (nI i))] → W p l e ({ frames := 0, cells := 0, slots := 0, locals := 0 } : Room) s m ([.ref (wad w 9 (0)), .int v1] : List Value).toArray below meth c H locs 0 0 (MQ below (qM z w g1 o (fun r u => RR (sp_glue g v1) r u.2.1 u.1)) ([.ref (wad w 9 (0)), .int v1] : List Value).toArray s 0 0 (zA z)) (F0 m 36 ls []) := by
        intro k9
        induction k9 with
        | zero => intro i x hi he h9; exact absurd h9 (Nat.not_lt_zero _)
        | succ k9 ih_36 =>
          intro i x hi he hk9 H locs hW hS ls hl
          subst he
          refine lv_iload hx hb dX6_glue_36 (lv_at hl 6 rfl) ?_
          refine lv_aload_n hx hb dX6_glue_38 rfl (lv_at hl 0 rfl) ?_
          refine m_geti S hE hW 24 (v := nI (nj g)) (by decide) rfl (by decide) tw_764 rfl hO.n24 dX6_glue_39 ?_
          refine g_icmp_ge S (by omega) (by omega) (tgt := 75) dX6_glue_42 (by decide) (fun c_42_17 => ?_) (fun c_42_17 => ?_)
          · obtain rfl : i = nj g := by omega
            refine lv_iconst (v := nI 0) hx hb dX6_glue_75 (by decide) ?_
            refine lv_istore (lv' := [(6, .int (nI 0)), (0, .ref (wad w 9 (0))), (1, .int v1), (2, .int 0), (3, .int 0), (4, .int 1), (5, .int (dnN g v1 (nj g)))]) hx hb dX6_glue_76 hl (by decide) rfl (fun ls hl => ?_)
            refine lv_iload hx hb dX6_glue_78 (lv_at hl 0 rfl) ?_
            refine lv_aload_n hx hb dX6_glue_80 rfl (lv_at hl 1 rfl) ?_
            refine m_geti S hE hW 24 (v := nI (nj g)) (by decide) rfl (by decide) tw_764 rfl hO.n24 dX6_glue_81 ?_
            refine g_icmp_ge S (by omega) (by omega) (tgt := 179) dX6_glue_84 (by decide) (fun c_84_18 => ?_) (fun c_84_18 => ?_)
            · refine lv_aload_n hx hb dX6_glue_179 rfl (lv_at hl 1 rfl) ?_
              refine lv_aload_n hx hb dX6_glue_180 rfl (lv_at hl 1 rfl) ?_
              refine m_gett S hE hW tw_740 dX6_glue_181 ?_
              refine lv_if_ne (tgt := 210) hx hb dX6_glue_184 (by decide) (fun _ => ?_) (fun h9 => absurd h9 (by decide))
              refine lv_aload_n hx hb dX6_glue_210 rfl (lv_at hl 1 rfl) ?_
              refine m_gett S hE hW tw_740 dX6_glue_211 ?_
              refine m_putt S hE hS hW tw_740 dX6_glue_214 (fun H locs hW hS => ?_)
              refine lv_aload_n hx hb dX6_glue_217 rfl (lv_at hl 1 rfl) ?_
              refine m_gett S hE hW tw_740 dX6_glue_218 ?_
              refine lv_if_le (tgt := 226) hx hb dX6_glue_221 (by decide) (fun h9 => absurd h9 (by decide)) (fun _ => ?_)
              refine lv_iconst (v := 0) hx hb dX6_glue_224 (by decide) ?_
              exact m_ret S hr hlocks hS hW (by simp [RR, sp_glue, bad, c_3, c_12_4]) dX6_glue_225
            · refine lv_aload_n hx hb dX6_glue_87 rfl (lv_at hl 1 rfl) ?_
              refine m_gett S hE hW tw_740 dX6_glue_88 ?_
              refine lv_if_ne (tgt := 179) hx hb dX6_glue_91 (by decide) (fun _ => ?_) (fun h9 => absurd h9 (by decide))
              refine lv_aload_n hx hb dX6_glue_179 rfl (lv_at hl 1 rfl) ?_
              refine lv_aload_n hx hb dX6_glue_180 rfl (lv_at hl 1 rfl) ?_
              refine m_gett S hE hW tw_740 dX6_glue_181 ?_
              refine lv_if_ne (tgt := 210) hx hb dX6_glue_184 (by decide) (fun _ => ?_) (fun h9 => absurd h9 (by decide))
              refine lv_aload_n hx hb dX6_glue_210 rfl (lv_at hl 1 rfl) ?_
              refine m_gett S hE hW tw_740 dX6_glue_211 ?_
              refine m_putt S hE hS hW tw_740 dX6_glue_214 (fun H locs hW hS => ?_)
              refine lv_aload_n hx hb dX6_glue_217 rfl (lv_at hl 1 rfl) ?_
              refine m_gett S hE hW tw_740 dX6_glue_218 ?_
              refine lv_if_le (tgt := 226) hx hb dX6_glue_221 (by decide) (fun h9 => absurd h9 (by decide)) (fun _ => ?_)
              refine lv_iconst (v := 0) hx hb dX6_glue_224 (by decide) ?_
              exact m_ret S hr hlocks hS hW (by simp [RR, sp_glue, bad, c_3, c_12_4]) dX6_glue_225
          · refine lv_aload_n hx hb dX6_glue_45 rfl (lv_at hl 0 rfl) ?_
            refine m_geta S hE hW 31 (by decide) rfl tw_771 rfl dX6_glue_46 ?_
            refine lv_iload hx hb dX6_glue_49 (lv_at hl 6 rfl) ?_
            refine m_zald S hE hW (k := 31) (v := g 31 i) rfl (vp_in_nI (show i < 30 from (by omega)) (by decide)) (by rw [show (nI i : Int32).toNatClampNeg = i from (nI_clamp (by omega))]) dX6_glue_51 ?_
            refine lv_if_eq (tgt := 65) hx hb dX6_glue_52 (by decide) (fun c_52_19 => ?_) (fun c_52_19 => ?_)
            · refine lv_iload hx hb dX6_glue_65 (lv_at hl 5 rfl) ?_
              refine lv_istore (lv' := [(5, .int (dnN g v1 i)), (0, .ref (wad w 9 (0))), (1, .int v1), (2, .int 0), (3, .int 0), (4, .int 1), (6, .int (nI i))]) hx hb dX6_glue_67 hl (by decide) rfl (fun ls hl => ?_)
              refine lv_iinc (v := nI (i + 1)) (lv' := [(6, .int (nI (i + 1))), (5, .int (dnN g v1 i)), (0, .ref (wad w 9 (0))), (1, .int v1), (2, .int 0), (3, .int 0), (4, .int 1)]) hx hb dX6_glue_69 hl (k := 6) rfl (nI_1 _) (by decide) rfl (fun ls hl => ?_)
              refine lv_goto (tgt := 36) hx hb dX6_glue_72 (by decide) ?_
              exact ih_36 (i + 1) _ (by omega) (by simp [dnN, c_52_19]) (by omega) _ _ hW hS ls (lv_sub hl [2, 3, 4, 5, 6, 1, 0] rfl)
            · refine lv_iload hx hb dX6_glue_55 (lv_at hl 5 rfl) ?_
              refine lv_iconst (v := 1) hx hb dX6_glue_57 (by decide) ?_
              refine lv_iload hx hb dX6_glue_58 (lv_at hl 6 rfl) ?_
              refine lv_ishl hx hb dX6_glue_60 ?_
              refine lv_ior hx hb dX6_glue_61 ?_
              refine lv_goto (tgt := 67) hx hb dX6_glue_62 (by decide) ?_
              refine lv_istore (lv' := [(5, .int ((dnN g v1 i) ||| (1 <<< ((nI i) &&& 31)))), (0, .ref (wad w 9 (0))), (1, .int v1), (2, .int 0), (3, .int 0), (4, .int 1), (6, .int (nI i))]) hx hb dX6_glue_67 hl (by decide) rfl (fun ls hl => ?_)
              refine lv_iinc (v := nI (i + 1)) (lv' := [(6, .int (nI (i + 1))), (5, .int ((dnN g v1 i) ||| (1 <<< ((nI i) &&& 31)))), (0, .ref (wad w 9 (0))), (1, .int v1), (2, .int 0), (3, .int 0), (4, .int 1)]) hx hb dX6_glue_69 hl (k := 6) rfl (nI_1 _) (by decide) rfl (fun ls hl => ?_)
              refine lv_goto (tgt := 36) hx hb dX6_glue_72 (by decide) ?_
              exact ih_36 (i + 1) _ (by omega) (by simp [dnN, c_52_19]) (by omega) _ _ hW hS ls (lv_sub hl [2, 3, 4, 5, 6, 1, 0] rfl)
      exact lp_36 ((nj g - 0) + 1) 0 _ (Nat.zero_le _) rfl (Nat.lt_succ_self _) _ _ hW hS ls (lv_sub hl [5, 6, 4, 3, 2, 1, 0] rfl)
set_option maxHeartbeats 4000000 in
set_option maxRecDepth 100000 in
/-- lookAhead(months) -/
theorem c_X6_lookAhead (l : Launch) (z : ZE) (w : WG) (g1 g : GS) (o : Nat → Int64) (t : Int32) (A B : Nat → Int32) (hO : OKg g) (n : Nat) (hn : n ≤ 24) : Met l yX6_lookAhead (.code yX6_lookAhead cX6_lookAhead 5 none :: wU) ({ frames := 4, cells := 0, slots := 0, locals := 90 }) (PE z [.ref (wad w 9 (0)), .int (nI n)] (fun H => MW z w g1 o g t A B H)) (qMv z w g1 o (fun u => g = u.1 ∧ t = u.2.1 ∧ ∀ j, j < nj g → u.2.2.2 j = nI (bkk g j n))) 0 0 (zA z) := by
  refine Met.ofW (cc := cX6_lookAhead) (maxL := 5) (ret := none) (by decide) rfl ?_
  intro p e s m args below meth c s₁ BD hml hv
  obtain ⟨rfl, hE, hW⟩ := hv
  have hts : ∀ w ∈ wU, w.before _ s = true := fun w h => atoms_spec (ws := .code yX6_lookAhead cX6_lookAhead 5 none :: wU) BD.pre w (List.mem_cons_of_mem _ h)
  have S : CallFix p m c cX6_lookAhead 5 s ([.ref (wad w 9 (0)), .int (nI n)] : List Value).toArray wU RX6 := ⟨BD.exec, BD.bytes, hml, findClass_of_methodNamed BD.named, hts⟩
  have hx := S.1
  have hb := S.2.1
  have hown := S.2.2.2.1
  have hr := BD.returns
  have hlocks := BD.notSynchronized
  have hS : va_S (zA z) s.heap s.heap [] := va_S.rf
  have hl := lv_entry ([.ref (wad w 9 (0)), .int (nI n)]) (n := 5) (Nat.le_of_ble_eq_true rfl)
  rw [lg_entry_eq]
  generalize (lg_sl ([.ref (wad w 9 (0)), .int (nI n)]) ++ List.replicate (5 - (lg_sl ([.ref (wad w 9 (0)), .int (nI n)])).length) Slot.unset).toArray = ls at hl ⊢
  have hl : lv_has ls 5 [(0, .ref (wad w 9 (0))), (1, .int (nI n))] := hl
  have h20 := hO.l5
  have h40 := hO.l16
  have h30 := hO.l24
  have hm0 := hO.l1
  refine lv_iconst (v := nI 0) hx hb dX6_lookAhead_0 (by decide) ?_
  refine lv_istore_n (lv' := [(2, .int (nI 0)), (0, .ref (wad w 9 (0))), (1, .int (nI n))]) hx hb dX6_lookAhead_1 rfl hl (by decide) rfl (fun ls hl => ?_)
  have lp_2 : ∀ (k9 : Nat) (i : Nat) (A2 : Nat → Int32) (hi : i ≤ np g) (hA : ∀ p, p < i → A2 p = g 22 p), np g - i < k9 → ∀ (H : Heap) (locs : List Loc), MW z w g1 o g (t) A2 B H → va_S (zA z) s.heap H locs → ∀ (ls : Array Slot), lv_has ls 5 [(0, .ref (wad w 9 (0))), (1, .int (nI n)), (2, .int (nI i))] → W p l e ({ frames := 4, cells := 0, slots := 0, locals := 90 } : Room) s m ([.ref (wad w 9 (0)), .int (nI n)] : List Value).toArray below meth c H locs 0 0 (MQ below (qMv z w g1 o (fun u => g = u.1 ∧ t = u.2.1 ∧ ∀ j, j < nj g → u.2.2.2 j = nI (bkk g j n))) ([.ref (wad w 9 (0)), .int (nI n)] : List Value).toArray s 0 0 (zA z)) (F0 m 2 ls []) := by
    intro k9
    induction k9 with
    | zero => intro i A2 hi hA h9; exact absurd h9 (Nat.not_lt_zero _)
    | succ k9 ih_2 =>
      intro i A2 hi hA hk9 H locs hW hS ls hl
      refine lv_iload_n hx hb dX6_lookAhead_2 rfl (lv_at hl 2 rfl) ?_
      refine lv_aload_n hx hb dX6_lookAhead_3 rfl (lv_at hl 0 rfl) ?_
      refine m_geti S hE hW 16 (v := nI (np g)) (by decide) rfl (by decide) tw_756 rfl hO.n16 dX6_lookAhead_4 ?_
      refine g_icmp_ge S (by omega) (by omega) (tgt := 28) dX6_lookAhead_7 (by decide) (fun c_7 => ?_) (fun c_7 => ?_)
      · refine lv_iconst (v := nI 0) hx hb dX6_lookAhead_28 (by decide) ?_
        refine lv_istore_n (lv' := [(2, .int (nI 0)), (0, .ref (wad w 9 (0))), (1, .int (nI n))]) hx hb dX6_lookAhead_29 rfl hl (by decide) rfl (fun ls hl => ?_)
        have lp_30 : ∀ (k9 : Nat) (i2 : Nat) (B2 : Nat → Int32) (hi2 : i2 ≤ nj g) (hB : ∀ j, j < i2 → B2 j = 0), nj g - i2 < k9 → ∀ (H : Heap) (locs : List Loc), MW z w g1 o g (t) A2 B2 H → va_S (zA z) s.heap H locs → ∀ (ls : Array Slot), lv_has ls 5 [(0, .ref (wad w 9 (0))), (1, .int (nI n)), (2, .int (nI i2))] → W p l e ({ frames := 4, cells := 0, slots := 0, locals := 90 } : Room) s m ([.ref (wad w 9 (0)), .int (nI n)] : List Value).toArray below meth c H locs 0 0 (MQ below (qMv z w g1 o (fun u => g = u.1 ∧ t = u.2.1 ∧ ∀ j, j < nj g → u.2.2.2 j = nI (bkk g j n))) ([.ref (wad w 9 (0)), .int (nI n)] : List Value).toArray s 0 0 (zA z)) (F0 m 30 ls []) := by
          intro k9
          induction k9 with
          | zero => intro i2 B2 hi2 hB h9; exact absurd h9 (Nat.not_lt_zero _)
          | succ k9 ih_30 =>
            intro i2 B2 hi2 hB hk9 H locs hW hS ls hl
            refine lv_iload_n hx hb dX6_lookAhead_30 rfl (lv_at hl 2 rfl) ?_
            refine lv_aload_n hx hb dX6_lookAhead_31 rfl (lv_at hl 0 rfl) ?_
            refine m_geti S hE hW 24 (v := nI (nj g)) (by decide) rfl (by decide) tw_764 rfl hO.n24 dX6_lookAhead_32 ?_
            refine g_icmp_ge S (by omega) (by omega) (tgt := 51) dX6_lookAhead_35 (by decide) (fun c_35_1 => ?_) (fun c_35_1 => ?_)
            · refine lv_iconst (v := nI 1) hx hb dX6_lookAhead_51 (by decide) ?_
              refine lv_istore_n (lv' := [(2, .int (nI 1)), (0, .ref (wad w 9 (0))), (1, .int (nI n))]) hx hb dX6_lookAhead_52 rfl hl (by decide) rfl (fun ls hl => ?_)
              have lp_53 : ∀ (k9 : Nat) (k : Nat) (A3 B3 : Nat → Int32) (hk : k ≤ n) (hA3 : ∀ p, p < np g → A3 p = wdk g p k) (hB3 : ∀ j, j < nj g → B3 j = nI (bkk g j k)), n - k < k9 → ∀ (H : Heap) (locs : List Loc), MW z w g1 o g (t) A3 B3 H → va_S (zA z) s.heap H locs → ∀ (ls : Array Slot), lv_has ls 5 [(0, .ref (wad w 9 (0))), (1, .int (nI n)), (2, .int (nI (k + 1)))] → W p l e ({ frames := 4, cells := 0, slots := 0, locals := 90 } : Room) s m ([.ref (wad w 9 (0)), .int (nI n)] : List Value).toArray below meth c H locs 0 0 (MQ below (qMv z w g1 o (fun u => g = u.1 ∧ t = u.2.1 ∧ ∀ j, j < nj g → u.2.2.2 j = nI (bkk g j n))) ([.ref (wad w 9 (0)), .int (nI n)] : List Value).toArray s 0 0 (zA z)) (F0 m 53 ls []) := by
                intro k9
                induction k9 with
                | zero => intro k A3 B3 hk hA3 hB3 h9; exact absurd h9 (Nat.not_lt_zero _)
                | succ k9 ih_53 =>
                  intro k A3 B3 hk hA3 hB3 hk9 H locs hW hS ls hl
                  refine lv_iload_n hx hb dX6_lookAhead_53 rfl (lv_at hl 2 rfl) ?_
                  refine lv_iload_n hx hb dX6_lookAhead_54 rfl (lv_at hl 1 rfl) ?_
                  refine g_icmp_gt S (by omega) (by omega) (tgt := 200) dX6_lookAhead_55 (by decide) (fun c_55_2 => ?_) (fun c_55_2 => ?_)
                  · exact m_vret S hr hlocks hS hW ⟨rfl, rfl, fun j hj => by show B3 j = _; rw [hB3 j hj, show k = n by omega]⟩ dX6_lookAhead_200
                  · refine lv_iconst (v := nI 0) hx hb dX6_lookAhead_58 (by decide) ?_
                    refine lv_istore_n (lv' := [(3, .int (nI 0)), (0, .ref (wad w 9 (0))), (1, .int (nI n)), (2, .int (nI (k + 1)))]) hx hb dX6_lookAhead_59 rfl hl (by decide) rfl (fun ls hl => ?_)
                    have lp_60 : ∀ (k9 : Nat) (i4 : Nat) (A4 : Nat → Int32) (hi4 : i4 ≤ np g) (hA4 : ∀ p, p < np g → A4 p = if p < i4 then wdk g p (k + 1) else wdk g p k), np g - i4 < k9 → ∀ (H : Heap) (locs : List Loc), MW z w g1 o g (t) A4 B3 H → va_S (zA z) s.heap H locs → ∀ (ls : Array Slot), lv_has ls 5 [(0, .ref (wad w 9 (0))), (1, .int (nI n)), (2, .int (nI (k + 1))), (3, .int (nI i4))] → W p l e ({ frames := 4, cells := 0, slots := 0, locals := 90 } : Room) s m ([.ref (wad w 9 (0)), .int (nI n)] : List Value).toArray below meth c H locs 0 0 (MQ below (qMv z w g1 o (fun u => g = u.1 ∧ t = u.2.1 ∧ ∀ j, j < nj g → u.2.2.2 j = nI (bkk g j n))) ([.ref (wad w 9 (0)), .int (nI n)] : List Value).toArray s 0 0 (zA z)) (F0 m 60 ls []) := by
                      intro k9
                      induction k9 with
                      | zero => intro i4 A4 hi4 hA4 h9; exact absurd h9 (Nat.not_lt_zero _)
                      | succ k9 ih_60 =>
                        intro i4 A4 hi4 hA4 hk9 H locs hW hS ls hl
                        refine lv_iload_n hx hb dX6_lookAhead_60 rfl (lv_at hl 3 rfl) ?_
                        refine lv_aload_n hx hb dX6_lookAhead_61 rfl (lv_at hl 0 rfl) ?_
                        refine m_geti S hE hW 16 (v := nI (np g)) (by decide) rfl (by decide) tw_756 rfl hO.n16 dX6_lookAhead_62 ?_
                        refine g_icmp_ge S (by omega) (by omega) (tgt := 104) dX6_lookAhead_65 (by decide) (fun c_65_3 => ?_) (fun c_65_3 => ?_)
                        · have hA5 : ∀ p, p < np g → A4 p = wdk g p (k + 1) := fun p hp => by rw [hA4 p hp, if_pos (by omega)]
                          refine lv_iconst (v := nI 0) hx hb dX6_lookAhead_104 (by decide) ?_
                          refine lv_istore_n (lv' := [(3, .int (nI 0)), (0, .ref (wad w 9 (0))), (1, .int (nI n)), (2, .int (nI (k + 1)))]) hx hb dX6_lookAhead_105 rfl hl (by decide) rfl (fun ls hl => ?_)
                          have lp_106 : ∀ (k9 : Nat) (i5 : Nat) (B4 : Nat → Int32) (hi5 : i5 ≤ nj g) (hB4 : ∀ j, j < nj g → B4 j = if j < i5 then nI (bkk g j (k + 1)) else nI (bkk g j k)), nj g - i5 < k9 → ∀ (H : Heap) (locs : List Loc), MW z w g1 o g (t) A4 B4 H → va_S (zA z) s.heap H locs → ∀ (ls : Array Slot), lv_has ls 5 [(0, .ref (wad w 9 (0))), (1, .int (nI n)), (2, .int (nI (k + 1))), (3, .int (nI i5))] → W p l e ({ frames := 4, cells := 0, slots := 0, locals := 90 } : Room) s m ([.ref (wad w 9 (0)), .int (nI n)] : List Value).toArray below meth c H locs 0 0 (MQ below (qMv z w g1 o (fun u => g = u.1 ∧ t = u.2.1 ∧ ∀ j, j < nj g → u.2.2.2 j = nI (bkk g j n))) ([.ref (wad w 9 (0)), .int (nI n)] : List Value).toArray s 0 0 (zA z)) (F0 m 106 ls []) := by
                            intro k9
                            induction k9 with
                            | zero => intro i5 B4 hi5 hB4 h9; exact absurd h9 (Nat.not_lt_zero _)
                            | succ k9 ih_106 =>
                              intro i5 B4 hi5 hB4 hk9 H locs hW hS ls hl
                              refine lv_iload_n hx hb dX6_lookAhead_106 rfl (lv_at hl 3 rfl) ?_
                              refine lv_aload_n hx hb dX6_lookAhead_107 rfl (lv_at hl 0 rfl) ?_
                              refine m_geti S hE hW 24 (v := nI (nj g)) (by decide) rfl (by decide) tw_764 rfl hO.n24 dX6_lookAhead_108 ?_
                              refine g_icmp_ge S (by omega) (by omega) (tgt := 194) dX6_lookAhead_111 (by decide) (fun c_111_4 => ?_) (fun c_111_4 => ?_)
                              · refine lv_iinc (v := nI ((k + 1) + 1)) (lv' := [(2, .int (nI ((k + 1) + 1))), (0, .ref (wad w 9 (0))), (1, .int (nI n)), (3, .int (nI i5))]) hx hb dX6_lookAhead_194 hl (k := 2) rfl (nI_1 _) (by decide) rfl (fun ls hl => ?_)
                                refine lv_goto (tgt := 53) hx hb dX6_lookAhead_197 (by decide) ?_
                                exact ih_53 (k + 1) _ _ (by omega) hA5 (fun j hj => by rw [hB4 j hj, if_pos (by omega)]) (by omega) _ _ hW hS ls (lv_sub hl [1, 2, 0] rfl)
                              · have hjpi := hO.l26 (i := i5) (by omega)
                                have hb4 : B4 i5 = nI (bkk g i5 k) := by rw [hB4 i5 (by omega), if_neg (Nat.lt_irrefl _)]
                                have ha4 : A4 (jp g i5) = wdk g (jp g i5) (k + 1) := hA5 _ hjpi
                                refine lv_aload_n hx hb dX6_lookAhead_114 rfl (lv_at hl 0 rfl) ?_
                                refine m_geta S hE hW 31 (by decide) rfl tw_771 rfl dX6_lookAhead_115 ?_
                                refine lv_iload_n hx hb dX6_lookAhead_118 rfl (lv_at hl 3 rfl) ?_
                                refine m_zald S hE hW (k := 31) (v := g 31 i5) rfl (vp_in_nI (show i5 < 30 from (by omega)) (by decide)) (by rw [show (nI i5 : Int32).toNatClampNeg = i5 from (nI_clamp (by omega))]) dX6_lookAhead_119 ?_
                                refine lv_if_eq (tgt := 145) hx hb dX6_lookAhead_120 (by decide) (fun c_120_5 => ?_) (fun c_120_5 => ?_)
                                · refine lv_iconst (v := 0) hx hb dX6_lookAhead_145 (by decide) ?_
                                  refine lv_istore (lv' := [(4, .int 0), (0, .ref (wad w 9 (0))), (1, .int (nI n)), (2, .int (nI (k + 1))), (3, .int (nI i5))]) hx hb dX6_lookAhead_146 hl (by decide) rfl (fun ls hl => ?_)
                                  refine lv_aload_n hx hb dX6_lookAhead_148 rfl (lv_at hl 1 rfl) ?_
                                  refine m_geta S hE hW 35 (by decide) rfl tw_775 rfl dX6_lookAhead_149 ?_
                                  refine lv_iload_n hx hb dX6_lookAhead_152 rfl (lv_at hl 4 rfl) ?_
                                  refine lv_iload hx hb dX6_lookAhead_153 (lv_at hl 0 rfl) ?_
                                  refine lv_if_eq (tgt := 181) hx hb dX6_lookAhead_155 (by decide) (fun _ => ?_) (fun h9 => absurd h9 (by decide))
                                  refine lv_aload_n hx hb dX6_lookAhead_181 rfl (lv_at hl 1 rfl) ?_
                                  refine m_geta S hE hW 35 (by decide) rfl tw_775 rfl dX6_lookAhead_182 ?_
                                  refine lv_iload_n hx hb dX6_lookAhead_185 rfl (lv_at hl 4 rfl) ?_
                                  refine m_ald35 S hE hW (vp_in_nI (show i5 < 30 from (by omega)) (by decide)) dX6_lookAhead_186 ?_
                                  rw [show (nI i5 : Int32).toNatClampNeg = i5 from (nI_clamp (by omega))]
                                  refine m_ast35 S hE hS hW (j := i5) (vp_in_nI (show i5 < 30 from (by omega)) (by decide)) (nI_clamp (by omega)) dX6_lookAhead_187 (fun H locs hW hS => ?_)
                                  refine lv_iinc (v := nI (i5 + 1)) (lv' := [(3, .int (nI (i5 + 1))), (4, .int 0), (0, .ref (wad w 9 (0))), (1, .int (nI n)), (2, .int (nI (k + 1)))]) hx hb dX6_lookAhead_188 hl (k := 4) rfl (nI_1 _) (by decide) rfl (fun ls hl => ?_)
                                  refine lv_goto (tgt := 106) hx hb dX6_lookAhead_191 (by decide) ?_
                                  exact ih_106 (i5 + 1) _ (by omega) (la_a hB4 (hb4.trans (la_n (Or.inl c_120_5)))) (by omega) _ _ hW hS ls (lv_sub hl [2, 3, 4, 0] rfl)
                                · refine lv_aload_n hx hb dX6_lookAhead_123 rfl (lv_at hl 0 rfl) ?_
                                  refine m_geta S hE hW 32 (by decide) rfl tw_772 rfl dX6_lookAhead_124 ?_
                                  refine lv_iload_n hx hb dX6_lookAhead_127 rfl (lv_at hl 3 rfl) ?_
                                  refine m_zald S hE hW (k := 32) (v := g 32 i5) rfl (vp_in_nI (show i5 < 30 from (by omega)) (by decide)) (by rw [show (nI i5 : Int32).toNatClampNeg = i5 from (nI_clamp (by omega))]) dX6_lookAhead_128 ?_
                                  refine lv_if_ne (tgt := 145) hx hb dX6_lookAhead_129 (by decide) (fun c_129_6 => ?_) (fun c_129_6 => ?_)
                                  · refine lv_iconst (v := 0) hx hb dX6_lookAhead_145 (by decide) ?_
                                    refine lv_istore (lv' := [(4, .int 0), (0, .ref (wad w 9 (0))), (1, .int (nI n)), (2, .int (nI (k + 1))), (3, .int (nI i5))]) hx hb dX6_lookAhead_146 hl (by decide) rfl (fun ls hl => ?_)
                                    refine lv_aload_n hx hb dX6_lookAhead_148 rfl (lv_at hl 1 rfl) ?_
                                    refine m_geta S hE hW 35 (by decide) rfl tw_775 rfl dX6_lookAhead_149 ?_
                                    refine lv_iload_n hx hb dX6_lookAhead_152 rfl (lv_at hl 4 rfl) ?_
                                    refine lv_iload hx hb dX6_lookAhead_153 (lv_at hl 0 rfl) ?_
                                    refine lv_if_eq (tgt := 181) hx hb dX6_lookAhead_155 (by decide) (fun _ => ?_) (fun h9 => absurd h9 (by decide))
                                    refine lv_aload_n hx hb dX6_lookAhead_181 rfl (lv_at hl 1 rfl) ?_
                                    refine m_geta S hE hW 35 (by decide) rfl tw_775 rfl dX6_lookAhead_182 ?_
                                    refine lv_iload_n hx hb dX6_lookAhead_185 rfl (lv_at hl 4 rfl) ?_
                                    refine m_ald35 S hE hW (vp_in_nI (show i5 < 30 from (by omega)) (by decide)) dX6_lookAhead_186 ?_
                                    rw [show (nI i5 : Int32).toNatClampNeg = i5 from (nI_clamp (by omega))]
                                    refine m_ast35 S hE hS hW (j := i5) (vp_in_nI (show i5 < 30 from (by omega)) (by decide)) (nI_clamp (by omega)) dX6_lookAhead_187 (fun H locs hW hS => ?_)
                                    refine lv_iinc (v := nI (i5 + 1)) (lv' := [(3, .int (nI (i5 + 1))), (4, .int 0), (0, .ref (wad w 9 (0))), (1, .int (nI n)), (2, .int (nI (k + 1)))]) hx hb dX6_lookAhead_188 hl (k := 4) rfl (nI_1 _) (by decide) rfl (fun ls hl => ?_)
                                    refine lv_goto (tgt := 106) hx hb dX6_lookAhead_191 (by decide) ?_
                                    exact ih_106 (i5 + 1) _ (by omega) (la_a hB4 (hb4.trans (la_n (Or.inr (Or.inl c_129_6))))) (by omega) _ _ hW hS ls (lv_sub hl [2, 3, 4, 0] rfl)
                                  · refine lv_aload_n hx hb dX6_lookAhead_132 rfl (lv_at hl 0 rfl) ?_
                                    refine m_geta S hE hW 35 (by decide) rfl tw_775 rfl dX6_lookAhead_133 ?_
                                    refine lv_iload_n hx hb dX6_lookAhead_136 rfl (lv_at hl 3 rfl) ?_
                                    refine m_ald35 S hE hW (vp_in_nI (show i5 < 30 from (by omega)) (by decide)) dX6_lookAhead_137 ?_
                                    rw [show (nI i5 : Int32).toNatClampNeg = i5 from (nI_clamp (by omega))]
                                    refine lv_if_ne (tgt := 145) hx hb dX6_lookAhead_138 (by decide) (fun c_138_7 => ?_) (fun c_138_7 => ?_)
                                    · refine lv_iconst (v := 0) hx hb dX6_lookAhead_145 (by decide) ?_
                                      refine lv_istore (lv' := [(4, .int 0), (0, .ref (wad w 9 (0))), (1, .int (nI n)), (2, .int (nI (k + 1))), (3, .int (nI i5))]) hx hb dX6_lookAhead_146 hl (by decide) rfl (fun ls hl => ?_)
                                      refine lv_aload_n hx hb dX6_lookAhead_148 rfl (lv_at hl 1 rfl) ?_
                                      refine m_geta S hE hW 35 (by decide) rfl tw_775 rfl dX6_lookAhead_149 ?_
                                      refine lv_iload_n hx hb dX6_lookAhead_152 rfl (lv_at hl 4 rfl) ?_
                                      refine lv_iload hx hb dX6_lookAhead_153 (lv_at hl 0 rfl) ?_
                                      refine lv_if_eq (tgt := 181) hx hb dX6_lookAhead_155 (by decide) (fun _ => ?_) (fun h9 => absurd h9 (by decide))
                                      refine lv_aload_n hx hb dX6_lookAhead_181 rfl (lv_at hl 1 rfl) ?_
                                      refine m_geta S hE hW 35 (by decide) rfl tw_775 rfl dX6_lookAhead_182 ?_
                                      refine lv_iload_n hx hb dX6_lookAhead_185 rfl (lv_at hl 4 rfl) ?_
                                      refine m_ald35 S hE hW (vp_in_nI (show i5 < 30 from (by omega)) (by decide)) dX6_lookAhead_186 ?_
                                      rw [show (nI i5 : Int32).toNatClampNeg = i5 from (nI_clamp (by omega))]
                                      refine m_ast35 S hE hS hW (j := i5) (vp_in_nI (show i5 < 30 from (by omega)) (by decide)) (nI_clamp (by omega)) dX6_lookAhead_187 (fun H locs hW hS => ?_)
                                      refine lv_iinc (v := nI (i5 + 1)) (lv' := [(3, .int (nI (i5 + 1))), (4, .int 0), (0, .ref (wad w 9 (0))), (1, .int (nI n)), (2, .int (nI (k + 1)))]) hx hb dX6_lookAhead_188 hl (k := 4) rfl (nI_1 _) (by decide) rfl (fun ls hl => ?_)
                                      refine lv_goto (tgt := 106) hx hb dX6_lookAhead_191 (by decide) ?_
                                      exact ih_106 (i5 + 1) _ (by omega) (la_a hB4 (hb4.trans (la_n (Or.inr (Or.inr (Or.inl (fun q => c_138_7 (hb4.trans ((bkk_0 (by omega)).mpr q))))))))) (by omega) _ _ hW hS ls (lv_sub hl [2, 3, 4, 0] rfl)
                                    · refine lv_iconst (v := 1) hx hb dX6_lookAhead_141 (by decide) ?_
                                      refine lv_goto (tgt := 146) hx hb dX6_lookAhead_142 (by decide) ?_
                                      refine lv_istore (lv' := [(4, .int 1), (0, .ref (wad w 9 (0))), (1, .int (nI n)), (2, .int (nI (k + 1))), (3, .int (nI i5))]) hx hb dX6_lookAhead_146 hl (by decide) rfl (fun ls hl => ?_)
                                      refine lv_aload_n hx hb dX6_lookAhead_148 rfl (lv_at hl 1 rfl) ?_
                                      refine m_geta S hE hW 35 (by decide) rfl tw_775 rfl dX6_lookAhead_149 ?_
                                      refine lv_iload_n hx hb dX6_lookAhead_152 rfl (lv_at hl 4 rfl) ?_
                                      refine lv_iload hx hb dX6_lookAhead_153 (lv_at hl 0 rfl) ?_
                                      refine lv_if_eq (tgt := 181) hx hb dX6_lookAhead_155 (by decide) (fun h9 => absurd h9 (by decide)) (fun _ => ?_)
                                      refine lv_aload_n hx hb dX6_lookAhead_158 rfl (lv_at hl 1 rfl) ?_
                                      refine lv_iload_n hx hb dX6_lookAhead_159 rfl (lv_at hl 4 rfl) ?_
                                      refine lv_aload_n hx hb dX6_lookAhead_160 rfl (lv_at hl 1 rfl) ?_
                                      refine m_geta S hE hW 34 (by decide) rfl tw_774 rfl dX6_lookAhead_161 ?_
                                      refine lv_aload_n hx hb dX6_lookAhead_164 rfl (lv_at hl 1 rfl) ?_
                                      refine m_geta S hE hW 26 (by decide) rfl tw_766 rfl dX6_lookAhead_165 ?_
                                      refine lv_iload_n hx hb dX6_lookAhead_168 rfl (lv_at hl 4 rfl) ?_
                                      refine m_ald S hE hW (k := 26) (v := nI (jp g (i5))) rfl (vp_in_nI (show i5 < 30 from (by omega)) (by decide)) (by rw [show (nI i5 : Int32).toNatClampNeg = i5 from (nI_clamp (by omega))]; exact (hO.n26 (i := i5) (by omega))) dX6_lookAhead_169 ?_
                                      refine m_ald34 S hE hW (vp_in_nI (show jp g (i5) < 40 from (by omega)) (by decide)) dX6_lookAhead_170 ?_
                                      rw [show (nI (jp g (i5)) : Int32).toNatClampNeg = jp g (i5) from (nI_clamp (by omega))]
                                      refine g_callV (As := [.int (nI i5), .int (A4 (jp g (i5)))]) (rest := [.int (nI i5), .ref (wad w 10 (35))]) S hE hS (c_X6_wouldBreak l z w g1 g o (t) A4 B4 hO (i5) (by omega) (A4 (jp g (i5)))) (cwV 2 hts (gU_V tw_874 tw_876 tp_18 tw_6 tw_877) rfl rfl rfl (by decide +kernel) ⟨Nat.le_of_ble_eq_true rfl, Nat.le_of_ble_eq_true rfl⟩) (by obtain ⟨gm9, hW9, -⟩ := hW; exact hE.recv hW9.md (q := (RX6, TX6, 36)) rfl) hW rfl hl.1 rfl (Nat.le_of_ble_eq_true rfl) dX6_lookAhead_171 ⟨Nat.zero_le _, Nat.zero_le _⟩ ?_
                                      refine g_if_eq S (tgt := 181) dX6_lookAhead_174 (by decide) (fun c_174_8 => ?_) (fun c_174_8 => ?_)
                                      · refine lv_aload_n hx hb dX6_lookAhead_181 rfl (lv_at hl 1 rfl) ?_
                                        refine m_geta S hE hW 35 (by decide) rfl tw_775 rfl dX6_lookAhead_182 ?_
                                        refine lv_iload_n hx hb dX6_lookAhead_185 rfl (lv_at hl 4 rfl) ?_
                                        refine m_ald35 S hE hW (vp_in_nI (show i5 < 30 from (by omega)) (by decide)) dX6_lookAhead_186 ?_
                                        rw [show (nI i5 : Int32).toNatClampNeg = i5 from (nI_clamp (by omega))]
                                        refine m_ast35 S hE hS hW (j := i5) (vp_in_nI (show i5 < 30 from (by omega)) (by decide)) (nI_clamp (by omega)) dX6_lookAhead_187 (fun H locs hW hS => ?_)
                                        refine lv_iinc (v := nI (i5 + 1)) (lv' := [(3, .int (nI (i5 + 1))), (4, .int 1), (0, .ref (wad w 9 (0))), (1, .int (nI n)), (2, .int (nI (k + 1)))]) hx hb dX6_lookAhead_188 hl (k := 4) rfl (nI_1 _) (by decide) rfl (fun ls hl => ?_)
                                        refine lv_goto (tgt := 106) hx hb dX6_lookAhead_191 (by decide) ?_
                                        exact ih_106 (i5 + 1) _ (by omega) (la_a hB4 (hb4.trans (la_n (Or.inr (Or.inr (Or.inr (ha4 ▸ c_174_8))))))) (by omega) _ _ hW hS ls (lv_sub hl [2, 3, 4, 0] rfl)
                                      · refine lv_iload_n hx hb dX6_lookAhead_177 rfl (lv_at hl 3 rfl) ?_
                                        refine lv_goto (tgt := 187) hx hb dX6_lookAhead_178 (by decide) ?_
                                        refine m_ast35 S hE hS hW (j := i5) (vp_in_nI (show i5 < 30 from (by omega)) (by decide)) (nI_clamp (by omega)) dX6_lookAhead_187 (fun H locs hW hS => ?_)
                                        refine lv_iinc (v := nI (i5 + 1)) (lv' := [(3, .int (nI (i5 + 1))), (4, .int 1), (0, .ref (wad w 9 (0))), (1, .int (nI n)), (2, .int (nI (k + 1)))]) hx hb dX6_lookAhead_188 hl (k := 4) rfl (nI_1 _) (by decide) rfl (fun ls hl => ?_)
                                        refine lv_goto (tgt := 106) hx hb dX6_lookAhead_191 (by decide) ?_
                                        exact ih_106 (i5 + 1) _ (by omega) (la_a hB4 (la_y c_120_5 c_129_6 ((bkk_0 (by omega)).mp (hb4 ▸ c_138_7)) ha4 c_174_8)) (by omega) _ _ hW hS ls (lv_sub hl [2, 3, 4, 0] rfl)
                          exact lp_106 ((nj g - 0) + 1) 0 _ (Nat.zero_le _) (fun p hp => by rw [if_neg (Nat.not_lt_zero _)]; exact hB3 p hp) (Nat.lt_succ_self _) _ _ hW hS ls (lv_sub hl [1, 2, 3, 0] rfl)
                        · refine lv_aload_n hx hb dX6_lookAhead_68 rfl (lv_at hl 0 rfl) ?_
                          refine m_geta S hE hW 34 (by decide) rfl tw_774 rfl dX6_lookAhead_69 ?_
                          refine lv_iload_n hx hb dX6_lookAhead_72 rfl (lv_at hl 3 rfl) ?_
                          refine lv_aload_n hx hb dX6_lookAhead_73 rfl (lv_at hl 0 rfl) ?_
                          refine lv_aload_n hx hb dX6_lookAhead_74 rfl (lv_at hl 0 rfl) ?_
                          refine m_geta S hE hW 34 (by decide) rfl tw_774 rfl dX6_lookAhead_75 ?_
                          refine lv_iload_n hx hb dX6_lookAhead_78 rfl (lv_at hl 3 rfl) ?_
                          refine m_ald34 S hE hW (vp_in_nI (show i4 < 40 from (by omega)) (by decide)) dX6_lookAhead_79 ?_
                          rw [show (nI i4 : Int32).toNatClampNeg = i4 from (nI_clamp (by omega))]
                          refine lv_aload_n hx hb dX6_lookAhead_80 rfl (lv_at hl 0 rfl) ?_
                          refine m_geti S hE hW 1 (v := nI (mo g)) (by decide) rfl (by decide) tw_741 rfl hO.n1 dX6_lookAhead_81 ?_
                          refine lv_iload_n hx hb dX6_lookAhead_84 rfl (lv_at hl 2 rfl) ?_
                          refine g_iadd S dX6_lookAhead_85 ?_
                          refine lv_iconst (v := 1) hx hb dX6_lookAhead_86 (by decide) ?_
                          refine lv_isub hx hb dX6_lookAhead_87 ?_
                          rw [show (nI ((mo g) + (k + 1)) : Int32) - 1 = nI ((mo g) + (k + 1) - 1) from pk_sub (b := 1) (by omega)]
                          refine lv_aload_n hx hb dX6_lookAhead_88 rfl (lv_at hl 0 rfl) ?_
                          obtain ⟨c9, hc9, ec9⟩ := hO.cts (i := i4) (by omega)
                          refine m_geta S hE hW 23 (by decide) rfl tw_763 rfl dX6_lookAhead_89 ?_
                          refine lv_iload_n hx hb dX6_lookAhead_92 rfl (lv_at hl 3 rfl) ?_
                          refine m_ald S hE hW (k := 23) (v := g 23 i4) rfl (vp_in_nI (show i4 < 40 from (by omega)) (by decide)) (by rw [show (nI i4 : Int32).toNatClampNeg = i4 from (nI_clamp (by omega))]) dX6_lookAhead_93 ?_
                          refine g_callV (As := [.int (A4 i4), .int (nI ((mo g) + (k + 1) - 1)), .int (g 23 i4)]) (rest := [.int (nI i4), .ref (wad w 10 (34))]) S hE hS (c_X6_behind l z w g1 g o (t) A4 B3 (A4 i4) ((mo g) + (k + 1) - 1) (by omega) (g 23 i4) (by rw [ec9]; exact co_ne hc9)) (cwV 3 hts (gU_V tw_870 tw_872 tp_17 tw_6 tw_873) rfl rfl rfl (by decide +kernel) ⟨Nat.le_of_ble_eq_true rfl, Nat.le_of_ble_eq_true rfl⟩) (by obtain ⟨gm9, hW9, -⟩ := hW; exact hE.recv hW9.md (q := (RX6, TX6, 36)) rfl) hW rfl hl.1 rfl (Nat.le_of_ble_eq_true rfl) dX6_lookAhead_94 ⟨Nat.zero_le _, Nat.zero_le _⟩ ?_
                          refine m_ast34 S hE hS hW (j := i4) (vp_in_nI (show i4 < 40 from (by omega)) (by decide)) (nI_clamp (by omega)) dX6_lookAhead_97 (fun H locs hW hS => ?_)
                          refine lv_iinc (v := nI (i4 + 1)) (lv' := [(3, .int (nI (i4 + 1))), (0, .ref (wad w 9 (0))), (1, .int (nI n)), (2, .int (nI (k + 1)))]) hx hb dX6_lookAhead_98 hl (k := 3) rfl (nI_1 _) (by decide) rfl (fun ls hl => ?_)
                          refine lv_goto (tgt := 60) hx hb dX6_lookAhead_101 (by decide) ?_
                          exact ih_60 (i4 + 1) _ (by omega) (la_a hA4 (by rw [hA4 i4 (by omega), if_neg (Nat.lt_irrefl _)]; rfl)) (by omega) _ _ hW hS ls (lv_sub hl [1, 2, 3, 0] rfl)
                    exact lp_60 ((np g - 0) + 1) 0 _ (Nat.zero_le _) (fun p hp => by rw [if_neg (Nat.not_lt_zero _)]; exact hA3 p hp) (Nat.lt_succ_self _) _ _ hW hS ls (lv_sub hl [1, 2, 3, 0] rfl)
              exact lp_53 ((n - 0) + 1) 0 _ _ (Nat.zero_le _) (fun p hp => hA p (by omega)) (fun j hj => hB j (by omega)) (Nat.lt_succ_self _) _ _ hW hS ls (lv_sub hl [1, 2, 0] rfl)
            · refine lv_aload_n hx hb dX6_lookAhead_38 rfl (lv_at hl 0 rfl) ?_
              refine m_geta S hE hW 35 (by decide) rfl tw_775 rfl dX6_lookAhead_39 ?_
              refine lv_iload_n hx hb dX6_lookAhead_42 rfl (lv_at hl 2 rfl) ?_
              refine lv_iconst (v := 0) hx hb dX6_lookAhead_43 (by decide) ?_
              refine m_ast35 S hE hS hW (j := i2) (vp_in_nI (show i2 < 30 from (by omega)) (by decide)) (nI_clamp (by omega)) dX6_lookAhead_44 (fun H locs hW hS => ?_)
              refine lv_iinc (v := nI (i2 + 1)) (lv' := [(2, .int (nI (i2 + 1))), (0, .ref (wad w 9 (0))), (1, .int (nI n))]) hx hb dX6_lookAhead_45 hl (k := 2) rfl (nI_1 _) (by decide) rfl (fun ls hl => ?_)
              refine lv_goto (tgt := 30) hx hb dX6_lookAhead_48 (by decide) ?_
              exact ih_30 (i2 + 1) _ (by omega) (la_0 (f := fun _ => 0) hB) (by omega) _ _ hW hS ls (lv_sub hl [1, 2, 0] rfl)
        exact lp_30 ((nj g - 0) + 1) 0 _ (Nat.zero_le _) (fun p hp => absurd hp (Nat.not_lt_zero _)) (Nat.lt_succ_self _) _ _ hW hS ls (lv_sub hl [1, 2, 0] rfl)
      · refine lv_aload_n hx hb dX6_lookAhead_10 rfl (lv_at hl 0 rfl) ?_
        refine m_geta S hE hW 34 (by decide) rfl tw_774 rfl dX6_lookAhead_11 ?_
        refine lv_iload_n hx hb dX6_lookAhead_14 rfl (lv_at hl 2 rfl) ?_
        refine lv_aload_n hx hb dX6_lookAhead_15 rfl (lv_at hl 0 rfl) ?_
        refine m_geta S hE hW 22 (by decide) rfl tw_762 rfl dX6_lookAhead_16 ?_
        refine lv_iload_n hx hb dX6_lookAhead_19 rfl (lv_at hl 2 rfl) ?_
        refine m_ald S hE hW (k := 22) (v := g 22 i) rfl (vp_in_nI (show i < 40 from (by omega)) (by decide)) (by rw [show (nI i : Int32).toNatClampNeg = i from (nI_clamp (by omega))]) dX6_lookAhead_20 ?_
        refine m_ast34 S hE hS hW (j := i) (vp_in_nI (show i < 40 from (by omega)) (by decide)) (nI_clamp (by omega)) dX6_lookAhead_21 (fun H locs hW hS => ?_)
        refine lv_iinc (v := nI (i + 1)) (lv' := [(2, .int (nI (i + 1))), (0, .ref (wad w 9 (0))), (1, .int (nI n))]) hx hb dX6_lookAhead_22 hl (k := 2) rfl (nI_1 _) (by decide) rfl (fun ls hl => ?_)
        refine lv_goto (tgt := 2) hx hb dX6_lookAhead_25 (by decide) ?_
        exact ih_2 (i + 1) _ (by omega) (la_0 hA) (by omega) _ _ hW hS ls (lv_sub hl [1, 2, 0] rfl)
  exact lp_2 ((np g - 0) + 1) 0 _ (Nat.zero_le _) (fun p hp => absurd hp (Nat.not_lt_zero _)) (Nat.lt_succ_self _) _ _ hW hS ls (lv_sub hl [1, 2, 0] rfl)
set_option maxHeartbeats 4000000 in
set_option maxRecDepth 100000 in
/-- through(months) -/
theorem c_X6_through (l : Launch) (z : ZE) (w : WG) (g1 g : GS) (o : Nat → Int64) (t : Int32) (A B : Nat → Int32) (hO : OKg g) (v1 : Int32) : Met l yX6_through (.code yX6_through cX6_through 4 (some .int) :: wU) ({ frames := 5, cells := 0, slots := 0, locals := 114 }) (PE z [.ref (wad w 9 (0)), .int v1] (fun H => MW z w g1 o g t A B H)) (qM z w g1 o (fun r u => RR (sp_through g v1) r u.2.1 u.1)) 0 0 (zA z) := by
  refine Met.ofW (cc := cX6_through) (maxL := 4) (ret := (some .int)) (by decide) rfl ?_
  intro p e s m args below meth c s₁ BD hml hv
  obtain ⟨rfl, hE, hW⟩ := hv
  have hts : ∀ w ∈ wU, w.before _ s = true := fun w h => atoms_spec (ws := .code yX6_through cX6_through 4 (some .int) :: wU) BD.pre w (List.mem_cons_of_mem _ h)
  have S : CallFix p m c cX6_through 4 s ([.ref (wad w 9 (0)), .int v1] : List Value).toArray wU RX6 := ⟨BD.exec, BD.bytes, hml, findClass_of_methodNamed BD.named, hts⟩
  have hx := S.1
  have hb := S.2.1
  have hown := S.2.2.2.1
  have hr := BD.returns
  have hlocks := BD.notSynchronized
  have hS : va_S (zA z) s.heap s.heap [] := va_S.rf
  have hl := lv_entry ([.ref (wad w 9 (0)), .int v1]) (n := 4) (Nat.le_of_ble_eq_true rfl)
  rw [lg_entry_eq]
  generalize (lg_sl ([.ref (wad w 9 (0)), .int v1]) ++ List.replicate (4 - (lg_sl ([.ref (wad w 9 (0)), .int v1])).length) Slot.unset).toArray = ls at hl ⊢
  have hl : lv_has ls 4 [(0, .ref (wad w 9 (0))), (1, .int v1)] := hl
  have h20 := hO.l5
  have h40 := hO.l16
  have h30 := hO.l24
  refine lv_aload_n hx hb dX6_through_0 rfl (lv_at hl 0 rfl) ?_
  refine lv_aload_n hx hb dX6_through_1 rfl (lv_at hl 0 rfl) ?_
  refine lv_iload_n hx hb dX6_through_2 rfl (lv_at hl 1 rfl) ?_
  refine lv_iconst (v := 1) hx hb dX6_through_3 (by decide) ?_
  refine lv_bipush (v := 24) hx hb dX6_through_4 (by decide) ?_
  refine g_callV (As := [.int v1, .int 1, .int 24]) (rest := [.ref (wad w 9 (0))]) S hE hS (c_X6_between l z w g1 g o (t) A B (v1) (1) (24)) (cwV 3 hts (gU_V tw_858 tw_860 tp_15 tw_6 tw_861) rfl rfl rfl (by decide +kernel) ⟨Nat.le_of_ble_eq_true rfl, Nat.le_of_ble_eq_true rfl⟩) (by obtain ⟨gm9, hW9, -⟩ := hW; exact hE.recv hW9.md (q := (RX6, TX6, 36)) rfl) hW rfl hl.1 rfl (Nat.le_of_ble_eq_true rfl) dX6_through_6 ⟨Nat.zero_le _, Nat.zero_le _⟩ ?_
  refine g_if_ne S (tgt := 16) dX6_through_9 (by decide) (fun c_9 => ?_) (fun c_9 => ?_)
  · obtain ⟨n, hn, hnb, rfl⟩ := wi_rng (a := 1) (b := 24) (by omega) (by omega) c_9
    have qn : (nI n).toNatClampNeg = n := nI_clamp (by omega)
    refine lv_iconst (v := 0) hx hb dX6_through_16 (by decide) ?_
    refine m_putt S hE hS hW tw_740 dX6_through_17 (fun H locs hW hS => ?_)
    refine lv_aload_n hx hb dX6_through_20 rfl (lv_at hl 0 rfl) ?_
    refine m_gett S hE hW tw_740 dX6_through_21 ?_
    refine lv_if_le (tgt := 29) hx hb dX6_through_24 (by decide) (fun _ => ?_) (fun h9 => absurd h9 (by decide))
    refine lv_aload_n hx hb dX6_through_29 rfl (lv_at hl 0 rfl) ?_
    refine lv_iload_n hx hb dX6_through_30 rfl (lv_at hl 1 rfl) ?_
    refine m_callv (As := [.int (nI n)]) (rest := []) S hE hS (c_X6_lookAhead l z w g1 g o (0) A B hO (n) (by omega)) (cwV 1 hts (gU_V tw_978 tw_980 tp_31 tw_6 tw_981) rfl rfl rfl (by decide +kernel) ⟨Nat.le_of_ble_eq_true rfl, Nat.le_of_ble_eq_true rfl⟩) (by obtain ⟨gm9, hW9, -⟩ := hW; exact hE.recv hW9.md (q := (RX6, TX6, 36)) rfl) hW rfl hl.1 rfl (Nat.le_of_ble_eq_true rfl) dX6_through_31 ⟨Nat.zero_le _, Nat.zero_le _⟩ (fun g9 t9 A9 B9 H locs hp9 hW hS => ?_)
    have hp9 : g = g9 ∧ 0 = t9 ∧ ∀ j, j < nj g → B9 j = nI (bkk g j (n)) := hp9
    obtain ⟨rfl, rfl, hB9⟩ := hp9
    refine lv_iconst (v := 0) hx hb dX6_through_34 (by decide) ?_
    refine lv_istore_n (lv' := [(2, .int 0), (0, .ref (wad w 9 (0))), (1, .int (nI n))]) hx hb dX6_through_35 rfl hl (by decide) rfl (fun ls hl => ?_)
    refine lv_iconst (v := nI 0) hx hb dX6_through_36 (by decide) ?_
    refine lv_istore_n (lv' := [(3, .int (nI 0)), (2, .int 0), (0, .ref (wad w 9 (0))), (1, .int (nI n))]) hx hb dX6_through_37 rfl hl (by decide) rfl (fun ls hl => ?_)
    have lp_38 : ∀ (k9 : Nat) (i : Nat) (x : Int32) (hi : i ≤ nj g) (he : x = setN i (fun j => decide (0 < bkk g j n))), nj g - i < k9 → ∀ (H : Heap) (locs : List Loc), MW z w g1 o g (0) A9 B9 H → va_S (zA z) s.heap H locs → ∀ (ls : Array Slot), lv_has ls 4 [(0, .ref (wad w 9 (0))), (1, .int (nI n)), (2, .int x), (3, .int (nI i))] → W p l e ({ frames := 5, cells := 0, slots := 0, locals := 114 } : Room) s m ([.ref (wad w 9 (0)), .int (nI n)] : List Value).toArray below meth c H locs 0 0 (MQ below (qM z w g1 o (fun r u => RR (sp_through g (nI n)) r u.2.1 u.1)) ([.ref (wad w 9 (0)), .int (nI n)] : List Value).toArray s 0 0 (zA z)) (F0 m 38 ls []) := by
      intro k9
      induction k9 with
      | zero => intro i x hi he h9; exact absurd h9 (Nat.not_lt_zero _)
      | succ k9 ih_38 =>
        intro i x hi he hk9 H locs hW hS ls hl
        subst he
        refine lv_iload_n hx hb dX6_through_38 rfl (lv_at hl 3 rfl) ?_
        refine lv_aload_n hx hb dX6_through_39 rfl (lv_at hl 0 rfl) ?_
        refine m_geti S hE hW 24 (v := nI (nj g)) (by decide) rfl (by decide) tw_764 rfl hO.n24 dX6_through_40 ?_
        refine g_icmp_ge S (by omega) (by omega) (tgt := 71) dX6_through_43 (by decide) (fun c_43_1 => ?_) (fun c_43_1 => ?_)
        · obtain rfl : i = nj g := by omega
          refine lv_iload_n hx hb dX6_through_71 rfl (lv_at hl 2 rfl) ?_
          exact m_ret S hr hlocks hS hW (by simp [RR, sp_through, bad, isB, isP, isJ, c_9, c_43_1, qn]) dX6_through_72
        · have hb9 := hB9 i (by omega)
          refine lv_aload_n hx hb dX6_through_46 rfl (lv_at hl 0 rfl) ?_
          refine m_geta S hE hW 35 (by decide) rfl tw_775 rfl dX6_through_47 ?_
          refine lv_iload_n hx hb dX6_through_50 rfl (lv_at hl 3 rfl) ?_
          refine m_ald35 S hE hW (vp_in_nI (show i < 30 from (by omega)) (by decide)) dX6_through_51 ?_
          rw [show (nI i : Int32).toNatClampNeg = i from (nI_clamp (by omega))]
          refine lv_if_le (tgt := 63) hx hb dX6_through_52 (by decide) (fun c_52_2 => ?_) (fun c_52_2 => ?_)
          · refine lv_iload_n hx hb dX6_through_63 rfl (lv_at hl 2 rfl) ?_
            refine lv_istore_n (lv' := [(2, .int (setN i (fun j => decide (0 < bkk g j n)))), (0, .ref (wad w 9 (0))), (1, .int (nI n)), (3, .int (nI i))]) hx hb dX6_through_64 rfl hl (by decide) rfl (fun ls hl => ?_)
            refine lv_iinc (v := nI (i + 1)) (lv' := [(3, .int (nI (i + 1))), (2, .int (setN i (fun j => decide (0 < bkk g j n)))), (0, .ref (wad w 9 (0))), (1, .int (nI n))]) hx hb dX6_through_65 hl (k := 3) rfl (nI_1 _) (by decide) rfl (fun ls hl => ?_)
            refine lv_goto (tgt := 38) hx hb dX6_through_68 (by decide) ?_
            exact ih_38 (i + 1) _ (by omega) (by have q9 := c_52_2; rw [hb9, bkk_p (by omega)] at q9; (try simp only [Decidable.not_not] at q9); simp [setN, q9]) (by omega) _ _ hW hS ls (lv_sub hl [2, 3, 1, 0] rfl)
          · refine lv_iload_n hx hb dX6_through_55 rfl (lv_at hl 2 rfl) ?_
            refine lv_iconst (v := 1) hx hb dX6_through_56 (by decide) ?_
            refine lv_iload_n hx hb dX6_through_57 rfl (lv_at hl 3 rfl) ?_
            refine lv_ishl hx hb dX6_through_58 ?_
            refine lv_ior hx hb dX6_through_59 ?_
            refine lv_goto (tgt := 64) hx hb dX6_through_60 (by decide) ?_
            refine lv_topi (fun x_4 ex_4 => ?_)
            refine lv_istore_n (lv' := [(2, .int x_4), (0, .ref (wad w 9 (0))), (1, .int (nI n)), (3, .int (nI i))]) hx hb dX6_through_64 rfl hl (by decide) rfl (fun ls hl => ?_)
            refine lv_iinc (v := nI (i + 1)) (lv' := [(3, .int (nI (i + 1))), (2, .int x_4), (0, .ref (wad w 9 (0))), (1, .int (nI n))]) hx hb dX6_through_65 hl (k := 3) rfl (nI_1 _) (by decide) rfl (fun ls hl => ?_)
            refine lv_goto (tgt := 38) hx hb dX6_through_68 (by decide) ?_
            exact ih_38 (i + 1) _ (by omega) (by have q9 := c_52_2; rw [hb9, bkk_p (by omega)] at q9; (try simp only [Decidable.not_not] at q9); simp [setN, q9, ex_4]) (by omega) _ _ hW hS ls (lv_sub hl [2, 3, 1, 0] rfl)
    exact lp_38 ((nj g - 0) + 1) 0 _ (Nat.zero_le _) rfl (Nat.lt_succ_self _) _ _ hW hS ls (lv_sub hl [2, 3, 1, 0] rfl)
  · refine lv_iconst (v := 1) hx hb dX6_through_12 (by decide) ?_
    refine lv_goto (tgt := 17) hx hb dX6_through_13 (by decide) ?_
    refine m_putt S hE hS hW tw_740 dX6_through_17 (fun H locs hW hS => ?_)
    refine lv_aload_n hx hb dX6_through_20 rfl (lv_at hl 0 rfl) ?_
    refine m_gett S hE hW tw_740 dX6_through_21 ?_
    refine lv_if_le (tgt := 29) hx hb dX6_through_24 (by decide) (fun h9 => absurd h9 (by decide)) (fun _ => ?_)
    refine lv_iconst (v := 0) hx hb dX6_through_27 (by decide) ?_
    exact m_ret S hr hlocks hS hW (by simp [RR, sp_through, bad, isB, isP, isJ, c_9]) dX6_through_28
set_option maxHeartbeats 4000000 in
set_option maxRecDepth 100000 in
/-- breaksIn(joint, months) -/
theorem c_X6_breaksIn (l : Launch) (z : ZE) (w : WG) (g1 g : GS) (o : Nat → Int64) (t : Int32) (A B : Nat → Int32) (hO : OKg g) (v1 v2 : Int32) : Met l yX6_breaksIn (.code yX6_breaksIn cX6_breaksIn 3 (some .int) :: wU) ({ frames := 5, cells := 0, slots := 0, locals := 114 }) (PE z [.ref (wad w 9 (0)), .int v1, .int v2] (fun H => MW z w g1 o g t A B H)) (qM z w g1 o (fun r u => RR (sp_breaksIn g v1 v2) r u.2.1 u.1)) 0 0 (zA z) := by
  refine Met.ofW (cc := cX6_breaksIn) (maxL := 3) (ret := (some .int)) (by decide) rfl ?_
  intro p e s m args below meth c s₁ BD hml hv
  obtain ⟨rfl, hE, hW⟩ := hv
  have hts : ∀ w ∈ wU, w.before _ s = true := fun w h => atoms_spec (ws := .code yX6_breaksIn cX6_breaksIn 3 (some .int) :: wU) BD.pre w (List.mem_cons_of_mem _ h)
  have S : CallFix p m c cX6_breaksIn 3 s ([.ref (wad w 9 (0)), .int v1, .int v2] : List Value).toArray wU RX6 := ⟨BD.exec, BD.bytes, hml, findClass_of_methodNamed BD.named, hts⟩
  have hx := S.1
  have hb := S.2.1
  have hown := S.2.2.2.1
  have hr := BD.returns
  have hlocks := BD.notSynchronized
  have hS : va_S (zA z) s.heap s.heap [] := va_S.rf
  have hl := lv_entry ([.ref (wad w 9 (0)), .int v1, .int v2]) (n := 3) (Nat.le_of_ble_eq_true rfl)
  rw [lg_entry_eq]
  generalize (lg_sl ([.ref (wad w 9 (0)), .int v1, .int v2]) ++ List.replicate (3 - (lg_sl ([.ref (wad w 9 (0)), .int v1, .int v2])).length) Slot.unset).toArray = ls at hl ⊢
  have hl : lv_has ls 3 [(0, .ref (wad w 9 (0))), (1, .int v1), (2, .int v2)] := hl
  have h20 := hO.l5
  have h40 := hO.l16
  have h30 := hO.l24
  refine lv_aload_n hx hb dX6_breaksIn_0 rfl (lv_at hl 0 rfl) ?_
  refine lv_aload_n hx hb dX6_breaksIn_1 rfl (lv_at hl 0 rfl) ?_
  refine lv_iload_n hx hb dX6_breaksIn_2 rfl (lv_at hl 1 rfl) ?_
  refine g_callV (As := [.int v1]) (rest := [.ref (wad w 9 (0))]) S hE hS (c_X6_isJoint l z w g1 g o (t) A B hO (v1)) (cwV 1 hts (gU_V tw_958 tw_960 tp_30 tw_6 tw_961) rfl rfl rfl (by decide +kernel) ⟨Nat.le_of_ble_eq_true rfl, Nat.le_of_ble_eq_true rfl⟩) (by obtain ⟨gm9, hW9, -⟩ := hW; exact hE.recv hW9.md (q := (RX6, TX6, 36)) rfl) hW rfl hl.1 rfl (Nat.le_of_ble_eq_true rfl) dX6_breaksIn_3 ⟨Nat.zero_le _, Nat.zero_le _⟩ ?_
  refine g_if_ne S (tgt := 13) dX6_breaksIn_6 (by decide) (fun c_6 => ?_) (fun c_6 => ?_)
  · obtain ⟨i, hi, rfl⟩ := wi_lt (n := nj g) (by omega) c_6
    have qi : (nI i).toNatClampNeg = i := nI_clamp (by omega)
    have hjpi := hO.l26 hi
    have hjoi := hO.l27 hi
    refine lv_aload_n hx hb dX6_breaksIn_13 rfl (lv_at hl 0 rfl) ?_
    refine lv_iload_n hx hb dX6_breaksIn_14 rfl (lv_at hl 2 rfl) ?_
    refine lv_iconst (v := 1) hx hb dX6_breaksIn_15 (by decide) ?_
    refine lv_bipush (v := 24) hx hb dX6_breaksIn_16 (by decide) ?_
    refine g_callV (As := [.int v2, .int 1, .int 24]) (rest := [.ref (wad w 9 (0))]) S hE hS (c_X6_between l z w g1 g o (t) A B (v2) (1) (24)) (cwV 3 hts (gU_V tw_858 tw_860 tp_15 tw_6 tw_861) rfl rfl rfl (by decide +kernel) ⟨Nat.le_of_ble_eq_true rfl, Nat.le_of_ble_eq_true rfl⟩) (by obtain ⟨gm9, hW9, -⟩ := hW; exact hE.recv hW9.md (q := (RX6, TX6, 36)) rfl) hW rfl hl.1 rfl (Nat.le_of_ble_eq_true rfl) dX6_breaksIn_18 ⟨Nat.zero_le _, Nat.zero_le _⟩ ?_
    refine g_if_ne S (tgt := 28) dX6_breaksIn_21 (by decide) (fun c_21_1 => ?_) (fun c_21_1 => ?_)
    · obtain ⟨n, hn, hnb, rfl⟩ := wi_rng (a := 1) (b := 24) (by omega) (by omega) c_21_1
      have qn : (nI n).toNatClampNeg = n := nI_clamp (by omega)
      refine lv_aload_n hx hb dX6_breaksIn_28 rfl (lv_at hl 0 rfl) ?_
      refine m_geta S hE hW 31 (by decide) rfl tw_771 rfl dX6_breaksIn_29 ?_
      refine lv_iload_n hx hb dX6_breaksIn_32 rfl (lv_at hl 1 rfl) ?_
      refine m_zald S hE hW (k := 31) (v := g 31 i) rfl (vp_in_nI (show i < 30 from (by omega)) (by decide)) (by rw [show (nI i : Int32).toNatClampNeg = i from (nI_clamp (by omega))]) dX6_breaksIn_33 ?_
      refine lv_if_eq (tgt := 46) hx hb dX6_breaksIn_34 (by decide) (fun c_34_2 => ?_) (fun c_34_2 => ?_)
      · refine lv_iconst (v := 3) hx hb dX6_breaksIn_46 (by decide) ?_
        refine lv_goto (tgt := 51) hx hb dX6_breaksIn_47 (by decide) ?_
        refine m_putt S hE hS hW tw_740 dX6_breaksIn_51 (fun H locs hW hS => ?_)
        refine lv_aload_n hx hb dX6_breaksIn_54 rfl (lv_at hl 0 rfl) ?_
        refine m_gett S hE hW tw_740 dX6_breaksIn_55 ?_
        refine lv_if_le (tgt := 63) hx hb dX6_breaksIn_58 (by decide) (fun h9 => absurd h9 (by decide)) (fun _ => ?_)
        refine lv_iconst (v := 0) hx hb dX6_breaksIn_61 (by decide) ?_
        exact m_ret S hr hlocks hS hW (by simp [RR, sp_breaksIn, hld, isJ, bad, c_6, c_21_1, c_34_2, qi, qn]) dX6_breaksIn_62
      · refine lv_aload_n hx hb dX6_breaksIn_37 rfl (lv_at hl 0 rfl) ?_
        refine m_geta S hE hW 32 (by decide) rfl tw_772 rfl dX6_breaksIn_38 ?_
        refine lv_iload_n hx hb dX6_breaksIn_41 rfl (lv_at hl 1 rfl) ?_
        refine m_zald S hE hW (k := 32) (v := g 32 i) rfl (vp_in_nI (show i < 30 from (by omega)) (by decide)) (by rw [show (nI i : Int32).toNatClampNeg = i from (nI_clamp (by omega))]) dX6_breaksIn_42 ?_
        refine lv_if_eq (tgt := 50) hx hb dX6_breaksIn_43 (by decide) (fun c_43_3 => ?_) (fun c_43_3 => ?_)
        · refine lv_iconst (v := 0) hx hb dX6_breaksIn_50 (by decide) ?_
          refine m_putt S hE hS hW tw_740 dX6_breaksIn_51 (fun H locs hW hS => ?_)
          refine lv_aload_n hx hb dX6_breaksIn_54 rfl (lv_at hl 0 rfl) ?_
          refine m_gett S hE hW tw_740 dX6_breaksIn_55 ?_
          refine lv_if_le (tgt := 63) hx hb dX6_breaksIn_58 (by decide) (fun _ => ?_) (fun h9 => absurd h9 (by decide))
          refine lv_aload_n hx hb dX6_breaksIn_63 rfl (lv_at hl 0 rfl) ?_
          refine lv_iload_n hx hb dX6_breaksIn_64 rfl (lv_at hl 2 rfl) ?_
          refine m_callv (As := [.int (nI n)]) (rest := []) S hE hS (c_X6_lookAhead l z w g1 g o (0) A B hO (n) (by omega)) (cwV 1 hts (gU_V tw_978 tw_980 tp_31 tw_6 tw_981) rfl rfl rfl (by decide +kernel) ⟨Nat.le_of_ble_eq_true rfl, Nat.le_of_ble_eq_true rfl⟩) (by obtain ⟨gm9, hW9, -⟩ := hW; exact hE.recv hW9.md (q := (RX6, TX6, 36)) rfl) hW rfl hl.1 rfl (Nat.le_of_ble_eq_true rfl) dX6_breaksIn_65 ⟨Nat.zero_le _, Nat.zero_le _⟩ (fun g9 t9 A9 B9 H locs hp9 hW hS => ?_)
          have hp9 : g = g9 ∧ 0 = t9 ∧ ∀ j, j < nj g → B9 j = nI (bkk g j (n)) := hp9
          obtain ⟨rfl, rfl, hB9⟩ := hp9
          have hb9 := hB9 i hi
          refine lv_aload_n hx hb dX6_breaksIn_68 rfl (lv_at hl 0 rfl) ?_
          refine m_geta S hE hW 35 (by decide) rfl tw_775 rfl dX6_breaksIn_69 ?_
          refine lv_iload_n hx hb dX6_breaksIn_72 rfl (lv_at hl 1 rfl) ?_
          refine m_ald35 S hE hW (vp_in_nI (show i < 30 from (by omega)) (by decide)) dX6_breaksIn_73 ?_
          rw [show (nI i : Int32).toNatClampNeg = i from (nI_clamp (by omega))]
          refine lv_if_le (tgt := 86) hx hb dX6_breaksIn_74 (by decide) (fun c_74_4 => ?_) (fun c_74_4 => ?_)
          · refine lv_iconst (v := (-1)) hx hb dX6_breaksIn_86 (by decide) ?_
            exact m_ret S hr hlocks hS hW (by have q9 := c_74_4; rw [hb9, bkk_p (by omega)] at q9; (try simp only [Decidable.not_not] at q9); simp [RR, sp_breaksIn, hld, isJ, bad, q9, hb9, c_6, c_21_1, c_34_2, c_43_3, qi, qn]) dX6_breaksIn_87
          · refine lv_aload_n hx hb dX6_breaksIn_77 rfl (lv_at hl 0 rfl) ?_
            refine m_geta S hE hW 35 (by decide) rfl tw_775 rfl dX6_breaksIn_78 ?_
            refine lv_iload_n hx hb dX6_breaksIn_81 rfl (lv_at hl 1 rfl) ?_
            refine m_ald35 S hE hW (vp_in_nI (show i < 30 from (by omega)) (by decide)) dX6_breaksIn_82 ?_
            rw [show (nI i : Int32).toNatClampNeg = i from (nI_clamp (by omega))]
            refine lv_goto (tgt := 87) hx hb dX6_breaksIn_83 (by decide) ?_
            exact m_ret S hr hlocks hS hW (by have q9 := c_74_4; rw [hb9, bkk_p (by omega)] at q9; (try simp only [Decidable.not_not] at q9); simp [RR, sp_breaksIn, hld, isJ, bad, q9, hb9, c_6, c_21_1, c_34_2, c_43_3, qi, qn]) dX6_breaksIn_87
        · refine lv_iconst (v := 3) hx hb dX6_breaksIn_46 (by decide) ?_
          refine lv_goto (tgt := 51) hx hb dX6_breaksIn_47 (by decide) ?_
          refine m_putt S hE hS hW tw_740 dX6_breaksIn_51 (fun H locs hW hS => ?_)
          refine lv_aload_n hx hb dX6_breaksIn_54 rfl (lv_at hl 0 rfl) ?_
          refine m_gett S hE hW tw_740 dX6_breaksIn_55 ?_
          refine lv_if_le (tgt := 63) hx hb dX6_breaksIn_58 (by decide) (fun h9 => absurd h9 (by decide)) (fun _ => ?_)
          refine lv_iconst (v := 0) hx hb dX6_breaksIn_61 (by decide) ?_
          exact m_ret S hr hlocks hS hW (by simp [RR, sp_breaksIn, hld, isJ, bad, c_6, c_21_1, c_34_2, c_43_3, qi, qn]) dX6_breaksIn_62
    · refine lv_iconst (v := 2) hx hb dX6_breaksIn_24 (by decide) ?_
      refine lv_goto (tgt := 51) hx hb dX6_breaksIn_25 (by decide) ?_
      refine m_putt S hE hS hW tw_740 dX6_breaksIn_51 (fun H locs hW hS => ?_)
      refine lv_aload_n hx hb dX6_breaksIn_54 rfl (lv_at hl 0 rfl) ?_
      refine m_gett S hE hW tw_740 dX6_breaksIn_55 ?_
      refine lv_if_le (tgt := 63) hx hb dX6_breaksIn_58 (by decide) (fun h9 => absurd h9 (by decide)) (fun _ => ?_)
      refine lv_iconst (v := 0) hx hb dX6_breaksIn_61 (by decide) ?_
      exact m_ret S hr hlocks hS hW (by simp [RR, sp_breaksIn, hld, isJ, bad, c_6, c_21_1, qi]) dX6_breaksIn_62
  · refine lv_iconst (v := 1) hx hb dX6_breaksIn_9 (by decide) ?_
    refine lv_goto (tgt := 51) hx hb dX6_breaksIn_10 (by decide) ?_
    refine m_putt S hE hS hW tw_740 dX6_breaksIn_51 (fun H locs hW hS => ?_)
    refine lv_aload_n hx hb dX6_breaksIn_54 rfl (lv_at hl 0 rfl) ?_
    refine m_gett S hE hW tw_740 dX6_breaksIn_55 ?_
    refine lv_if_le (tgt := 63) hx hb dX6_breaksIn_58 (by decide) (fun h9 => absurd h9 (by decide)) (fun _ => ?_)
    refine lv_iconst (v := 0) hx hb dX6_breaksIn_61 (by decide) ?_
    exact m_ret S hr hlocks hS hW (by simp [RR, sp_breaksIn, hld, isJ, bad, c_6]) dX6_breaksIn_62
