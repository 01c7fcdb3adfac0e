/-! ===== the shop: gluing ===== -/
theorem i_le0 {a : Int32} (h : a ≤ 0) : a < 1 := by
  rw [Int32.lt_iff_toInt_lt]
  rw [Int32.le_iff_toInt_le] at h
  have h0 : (0 : Int32).toInt = 0 := by decide
  have h1 : (1 : Int32).toInt = 1 := by decide
  omega
theorem i_nlt1 {k : Nat} (hk : k < 2 ^ 31) (h : ¬ nI k ≤ 0) : ¬ nI k < 1 := by
  rw [show (0 : Int32) = nI 0 from rfl, nI_leI hk (by decide)] at h
  rw [show (1 : Int32) = nI 1 from rfl, nI_ltI hk (by decide)]
  omega
theorem i_nlt0 {a : Int32} (h : ¬ a ≤ 0) : ¬ a < 0 := fun q => h (Int32.le_of_lt q)
set_option maxHeartbeats 4000000 in
set_option maxRecDepth 100000 in
/-- glue(set) -/
theorem c_X5_glue (l : Launch) (z : ZE) (hst : l.stackTraces = false) (w : WG) (g gm : GS) (o : Nat → Int64) (hO : OKg g) (a : Int32) : vx_Met l yX5_glue (.code yX5_glue cX5_glue 4 (some .int) :: wU) ({ frames := 6, cells := 1, slots := 6, locals := 90 }) (PE z [.ref (wad w 0 (0)), .int a] (fun H => WW z w g gm o H)) (xQ z w gm o (sp_glue g a)) (xX z w g gm o (sp_glue g a) xA xS xI) 1 6 (zA z) := by
  refine vx_ofW (cc := cX5_glue) (maxL := 4) (ret := (some .int)) (by decide) rfl ?_
  intro p e s m args below meth c s₁ BD hml hno hv
  obtain ⟨rfl, hE, hW⟩ := hv
  have hts : ∀ w ∈ wU, w.before _ s = true := fun w h => atoms_spec (ws := .code yX5_glue cX5_glue 4 (some .int) :: wU) BD.pre w (List.mem_cons_of_mem _ h)
  have S : CallFix p m c cX5_glue 4 s ([.ref (wad w 0 (0)), .int a] : List Value).toArray wU RX5 := ⟨BD.exec, BD.bytes, hml, findClass_of_methodNamed BD.named, hts⟩
  have hx := S.1
  have hb := S.2.1
  have hown := S.2.2.2.1
  have hr := BD.returns
  have hlocks := BD.notSynchronized
  have hS : va_S (zA z) s.heap s.heap [] := va_S.rf
  have hl := lv_entry ([.ref (wad w 0 (0)), .int a]) (n := 4) (Nat.le_of_ble_eq_true rfl)
  rw [lg_entry_eq]
  generalize (lg_sl ([.ref (wad w 0 (0)), .int a]) ++ List.replicate (4 - (lg_sl ([.ref (wad w 0 (0)), .int a])).length) Slot.unset).toArray = ls at hl ⊢
  have hl : lv_has ls 4 [(0, .ref (wad w 0 (0))), (1, .int a)] := hl
  have h20 := hO.l5
  have h40 := hO.l16
  have h30 := hO.l24
  refine lv_iload_n hx hb dX5_glue_0 rfl (lv_at hl 1 rfl) ?_
  refine lv_if_le (tgt := 17) hx hb dX5_glue_1 (by decide) (fun c_1 => ?_) (fun c_1 => ?_)
  · exact g_throw 56 240 60 xA _ 1 exA S hst hE hS hW (show (240, "the set is empty, or has a joint that there is not") ∈ strL by decide +kernel) hl.1 hno hlocks dX5_glue_17 dX5_glue_20 dX5_glue_21 dX5_glue_23 dX5_glue_26 ⟨Nat.le_of_ble_eq_true rfl, Nat.le_of_ble_eq_true rfl, Nat.le_of_ble_eq_true rfl, Nat.le_of_ble_eq_true rfl⟩ ⟨Nat.le_of_ble_eq_true rfl, Nat.le_of_ble_eq_true rfl⟩ ⟨by simp [sp_glue, i_le0 c_1], by decide⟩ (by decide +kernel)
  · obtain ⟨k, hk, rfl⟩ := nI_of (x := a) (i_nlt0 c_1)
    have hn1 := i_nlt1 hk c_1
    obtain ⟨T, hT, hT2⟩ : ∃ T, 2 ^ nj g = T ∧ T < 2 ^ 31 := ⟨_, rfl, Nat.lt_of_le_of_lt (Nat.pow_le_pow_right (n := 2) (by decide) (show nj g ≤ 30 by omega)) (by decide)⟩
    have hs9 : (nI k >>> (nI (nj g) &&& 31) = 0) ↔ k < T := hT ▸ set_lt hk (by omega)
    refine lv_iload_n hx hb dX5_glue_4 rfl (lv_at hl 1 rfl) ?_
    refine lv_iconst (v := 1) hx hb dX5_glue_5 (by decide) ?_
    refine lv_aload_n hx hb dX5_glue_6 rfl (lv_at hl 0 rfl) ?_
    refine g_get S hE hW.sh (C := RX5) (T := TX5) (N := 8) (v := .ref (wad w 5 (2))) rfl inU5 2 (by decide) tw_62 (Or.inl rfl) rfl dX5_glue_7 ?_
    refine g_callV (As := []) (rest := [.int 1, .int (nI k)]) S hE hS (c_sizeJ l z w g gm o) (cwV 0 hts (gU_V tw_209 tw_210 tw_211 tw_4 tw_212) rfl rfl rfl (by decide +kernel) ⟨Nat.le_of_ble_eq_true rfl, Nat.le_of_ble_eq_true rfl⟩) (hE.recv (hW.lst (i := 2) (show 2 < 3 + 2 * nb g by omega)) (q := (RJx4a65c, TJx4a65c, 3)) rfl) hW rfl hl.1 rfl (Nat.le_of_ble_eq_true rfl) dX5_glue_10 ⟨Nat.zero_le _, Nat.zero_le _⟩ ?_
    refine lv_ishl hx hb dX5_glue_13 ?_
    rw [shl1 (nj g) (by omega), hT]
    refine g_icmp_lt S (by omega) (by omega) (tgt := 27) dX5_glue_14 (by decide) (fun c_14_1 => ?_) (fun c_14_1 => ?_)
    · refine lv_aload_n hx hb dX5_glue_27 rfl (lv_at hl 0 rfl) ?_
      refine lv_iload_n hx hb dX5_glue_28 rfl (lv_at hl 1 rfl) ?_
      refine g_callV (As := [.int (nI k)]) (rest := []) S hE hS (c_X5_canBeGlued l z w g gm o hO (nI k)) (cwV 1 hts (gU_V tw_613 tw_615 tp_12 tw_1 tw_616) rfl rfl rfl (by decide +kernel) ⟨Nat.le_of_ble_eq_true rfl, Nat.le_of_ble_eq_true rfl⟩) (hE.recv hW.sh (q := (RX5, TX5, 8)) rfl) hW rfl hl.1 rfl (Nat.le_of_ble_eq_true rfl) dX5_glue_29 ⟨Nat.zero_le _, Nat.zero_le _⟩ ?_
      refine g_if_ne S (tgt := 45) dX5_glue_32 (by decide) (fun c_32_2 => ?_) (fun c_32_2 => ?_)
      · refine lv_aload_n hx hb dX5_glue_45 rfl (lv_at hl 0 rfl) ?_
        refine lv_iload_n hx hb dX5_glue_46 rfl (lv_at hl 1 rfl) ?_
        refine g_callV (As := [.int (nI k)]) (rest := []) S hE hS (c_X5_minutesOf l z w g gm o hO (nI k)) (cwV 1 hts (gU_V tw_621 tw_623 tp_13 tw_1 tw_624) rfl rfl rfl (by decide +kernel) ⟨Nat.le_of_ble_eq_true rfl, Nat.le_of_ble_eq_true rfl⟩) (hE.recv hW.sh (q := (RX5, TX5, 8)) rfl) hW rfl hl.1 rfl (Nat.le_of_ble_eq_true rfl) dX5_glue_47 ⟨Nat.zero_le _, Nat.zero_le _⟩ ?_
        refine lv_istore_n (lv' := [(2, .int (miN g (nI k) (nj g))), (0, .ref (wad w 0 (0))), (1, .int (nI k))]) hx hb dX5_glue_50 rfl hl (by decide) rfl (fun ls hl => ?_)
        refine lv_iload_n hx hb dX5_glue_51 rfl (lv_at hl 0 rfl) ?_
        refine lv_bipush (v := 30) hx hb dX5_glue_52 (by decide) ?_
        refine lv_icmp_gt (tgt := 69) hx hb dX5_glue_54 (by decide) (fun c_54_3 => ?_) (fun c_54_3 => ?_)
        · exact g_throw 63 254 67 xS _ 2 exS S hst hE hS hW (show (254, "it would take too long, or too many clamps") ∈ strL by decide +kernel) hl.1 hno hlocks dX5_glue_69 dX5_glue_72 dX5_glue_73 dX5_glue_75 dX5_glue_78 ⟨Nat.le_of_ble_eq_true rfl, Nat.le_of_ble_eq_true rfl, Nat.le_of_ble_eq_true rfl, Nat.le_of_ble_eq_true rfl⟩ ⟨Nat.le_of_ble_eq_true rfl, Nat.le_of_ble_eq_true rfl⟩ ⟨by simp [sp_glue, hn1, hs9, c_14_1, c_32_2, c_54_3], by decide⟩ (by decide +kernel)
        · refine lv_aload_n hx hb dX5_glue_57 rfl (lv_at hl 1 rfl) ?_
          refine lv_iload_n hx hb dX5_glue_58 rfl (lv_at hl 2 rfl) ?_
          refine g_callV (As := [.int (nI k)]) (rest := []) S hE hS (c_X5_clampsOf l z w g gm o hO (nI k)) (cwV 1 hts (gU_V tw_625 tw_627 tp_14 tw_1 tw_628) rfl rfl rfl (by decide +kernel) ⟨Nat.le_of_ble_eq_true rfl, Nat.le_of_ble_eq_true rfl⟩) (hE.recv hW.sh (q := (RX5, TX5, 8)) rfl) hW rfl hl.1 rfl (Nat.le_of_ble_eq_true rfl) dX5_glue_59 ⟨Nat.zero_le _, Nat.zero_le _⟩ ?_
          refine lv_aload_n hx hb dX5_glue_62 rfl (lv_at hl 1 rfl) ?_
          refine g_get S hE hW.sh (C := RX5) (T := TX5) (N := 8) (v := .int (g 4 0)) rfl inU5 7 (by decide) tw_67 (Or.inl rfl) rfl dX5_glue_63 ?_
          refine lv_icmp_le (tgt := 79) hx hb dX5_glue_66 (by decide) (fun c_66_4 => ?_) (fun c_66_4 => ?_)
          · have hmy := c_32_2
            refine lv_iconst (v := nI 0) hx hb dX5_glue_79 (by decide) ?_
            refine lv_istore_n (lv' := [(3, .int (nI 0)), (2, .int (miN g (nI k) (nj g))), (0, .ref (wad w 0 (0))), (1, .int (nI k))]) hx hb dX5_glue_80 rfl hl (by decide) rfl (fun ls hl => ?_)
            have lp_81 : ∀ (k9 : Nat) (i : Nat) (hi : i ≤ nj g), nj g - i < k9 → ∀ (H : Heap) (locs : List Loc), WW z w (gst g (nI k) i) gm o H → va_S (zA z) s.heap H locs → ∀ (ls : Array Slot), lv_has ls 4 [(0, .ref (wad w 0 (0))), (1, .int (nI k)), (2, .int (miN g (nI k) (nj g))), (3, .int (nI i))] → W p l e ({ frames := 6, cells := 1, slots := 6, locals := 90 } : Room) s m ([.ref (wad w 0 (0)), .int (nI k)] : List Value).toArray below meth c H locs 0 0 (vx_MQ below (xQ z w gm o (sp_glue g (nI k))) (xX z w g gm o (sp_glue g (nI k)) xA xS xI) ([.ref (wad w 0 (0)), .int (nI k)] : List Value).toArray s 1 6 (zA z)) (F0 m 81 ls []) := by
              intro k9
              induction k9 with
              | zero => intro i hi h9; exact absurd h9 (Nat.not_lt_zero _)
              | succ k9 ih_81 =>
                intro i hi hk9 H locs hW hS ls hl
                have h32 : ∀ i, btS (nI k) i = true → i < nj g → g 32 i = 0 := fun i hb9 hi9 => (hO.br hi9).elim id (fun q => absurd ((my_at hmy i hi9 hb9).symm.trans q.2) (by decide))
                refine lv_iload_n hx hb dX5_glue_81 rfl (lv_at hl 3 rfl) ?_
                refine lv_aload_n hx hb dX5_glue_82 rfl (lv_at hl 0 rfl) ?_
                refine g_get S hE hW.sh (C := RX5) (T := TX5) (N := 8) (v := .ref (wad w 5 (2))) rfl inU5 2 (by decide) tw_62 (Or.inl rfl) rfl dX5_glue_83 ?_
                refine g_callV (As := []) (rest := [.int (nI i)]) S hE hS (c_sizeJ l z w (gst g (nI k) i) gm o) (cwV 0 hts (gU_V tw_209 tw_210 tw_211 tw_4 tw_212) rfl rfl rfl (by decide +kernel) ⟨Nat.le_of_ble_eq_true rfl, Nat.le_of_ble_eq_true rfl⟩) (hE.recv (hW.lst (i := 2) (show 2 < 3 + 2 * nb g by omega)) (q := (RJx4a65c, TJx4a65c, 3)) rfl) hW rfl hl.1 rfl (Nat.le_of_ble_eq_true rfl) dX5_glue_86 ⟨Nat.zero_le _, Nat.zero_le _⟩ ?_
                rw [show nj (gst g (nI k) i) = nj g from rfl]
                refine g_icmp_ge S (by omega) (by omega) (tgt := 120) dX5_glue_89 (by decide) (fun c_89_5 => ?_) (fun c_89_5 => ?_)
                · refine lv_iload_n hx hb dX5_glue_120 rfl (lv_at hl 2 rfl) ?_
                  exact x_ret S hr hlocks hS hW (by obtain rfl : i = nj g := (by omega); rw [sp_glue, if_neg hn1, if_pos (hs9.mpr c_14_1), if_pos c_32_2, if_neg c_54_3, if_pos c_66_4]) wsm.rf ⟨Nat.le_of_ble_eq_true rfl, Nat.le_of_ble_eq_true rfl⟩ dX5_glue_121
                · refine lv_iload_n hx hb dX5_glue_92 rfl (lv_at hl 1 rfl) ?_
                  refine lv_iload_n hx hb dX5_glue_93 rfl (lv_at hl 3 rfl) ?_
                  refine g_callS (As := [.int (nI k), .int (nI i)]) (rest := []) S hE hS (c_X5_has l z (nI k) (i)) (cwS 2 hts (gU_S tw_617 tw_618 tw_1 tw_619) rfl rfl rfl (by decide +kernel) ⟨Nat.le_of_ble_eq_true rfl, Nat.le_of_ble_eq_true rfl⟩) trivial rfl hl.1 rfl (Nat.le_of_ble_eq_true rfl) dX5_glue_94 ⟨Nat.zero_le _, Nat.zero_le _⟩ ?_
                  rw [hs_bt (set := nI k) (j := i) (by omega)]
                  refine g_if_eq S (tgt := 114) dX5_glue_97 (by decide) (fun c_97_6 => ?_) (fun c_97_6 => ?_)
                  · refine lv_iinc (v := nI (i + 1)) (lv' := [(3, .int (nI (i + 1))), (0, .ref (wad w 0 (0))), (1, .int (nI k)), (2, .int (miN g (nI k) (nj g)))]) hx hb dX5_glue_114 hl (k := 3) rfl (nI_1 _) (by decide) rfl (fun ls hl => ?_)
                    refine lv_goto (tgt := 81) hx hb dX5_glue_117 (by decide) ?_
                    exact ih_81 (i + 1) (by omega) (by omega) _ _ (by rw [← gst_n g (nI k) i c_97_6]; exact hW) hS ls (lv_sub hl [1, 2, 3, 0] rfl)
                  · refine lv_aload_n hx hb dX5_glue_100 rfl (lv_at hl 0 rfl) ?_
                    refine g_get S hE hW.sh (C := RX5) (T := TX5) (N := 8) (v := .ref (wad w 5 (2))) rfl inU5 2 (by decide) tw_62 (Or.inl rfl) rfl dX5_glue_101 ?_
                    refine lv_iload_n hx hb dX5_glue_104 rfl (lv_at hl 3 rfl) ?_
                    refine g_callVq (As := [.int (nI i)]) (rest := []) S hE hS (c_getJ l z w (gst g (nI k) i) gm o (i) (show i < nj g by omega)) (cwV 1 hts (gU_V tw_213 tw_214 tw_215 tw_4 tw_216) rfl rfl rfl (by decide +kernel) ⟨Nat.le_of_ble_eq_true rfl, Nat.le_of_ble_eq_true rfl⟩) (hE.recv (hW.lst (i := 2) (show 2 < 3 + 2 * nb g by omega)) (q := (RJx4a65c, TJx4a65c, 3)) rfl) hW rfl hl.1 rfl (Nat.le_of_ble_eq_true rfl) dX5_glue_105 ⟨Nat.zero_le _, Nat.zero_le _⟩ ?_
                    rw [show va_rf (some (wad w 4 (i))) = .ref (wad w 4 (i)) from rfl]
                    have q26 := hO.l26 (i := i) (by omega)
                    refine g_cast S hE (hW.jt (i := i) (show i < nj g by omega)) (C := RX1) (T := TX1) (N := 9) rfl tw_251 dX5_glue_108 ?_
                    refine x_callv (As := []) (rest := []) S hE hS (c_X1_hold l z w (gst g (nI k) i) gm o (i) (show i < nj g by omega) (show jp g i < np g by omega)) (cwV 0 hts (gU_V tw_630 tw_631 tw_632 tw_21 tw_633) rfl rfl rfl (by decide +kernel) ⟨Nat.le_of_ble_eq_true rfl, Nat.le_of_ble_eq_true rfl⟩) (hE.recv (hW.jt (i := i) (show i < nj g by omega)) (q := (RX1, TX1, 9)) rfl) hW rfl hl.1 rfl (Nat.le_of_ble_eq_true rfl) dX5_glue_111 ⟨Nat.zero_le _, Nat.zero_le _⟩ (fun H locs hW hS => ?_)
                    refine lv_iinc (v := nI (i + 1)) (lv' := [(3, .int (nI (i + 1))), (0, .ref (wad w 0 (0))), (1, .int (nI k)), (2, .int (miN g (nI k) (nj g)))]) hx hb dX5_glue_114 hl (k := 3) rfl (nI_1 _) (by decide) rfl (fun ls hl => ?_)
                    refine lv_goto (tgt := 81) hx hb dX5_glue_117 (by decide) ?_
                    exact ih_81 (i + 1) (by omega) (by omega) _ _ (by rw [← gst_h (g := g) c_97_6 (h32 i c_97_6 (by omega))]; exact hW) hS ls (lv_sub hl [1, 2, 3, 0] rfl)
            exact lp_81 ((nj g - 0) + 1) 0 (Nat.zero_le _) (Nat.lt_succ_self _) _ _ (by rw [gst_0]; exact hW) hS ls (lv_sub hl [2, 3, 1, 0] rfl)
          · exact g_throw 63 254 67 xS _ 2 exS S hst hE hS hW (show (254, "it would take too long, or too many clamps") ∈ strL by decide +kernel) hl.1 hno hlocks dX5_glue_69 dX5_glue_72 dX5_glue_73 dX5_glue_75 dX5_glue_78 ⟨Nat.le_of_ble_eq_true rfl, Nat.le_of_ble_eq_true rfl, Nat.le_of_ble_eq_true rfl, Nat.le_of_ble_eq_true rfl⟩ ⟨Nat.le_of_ble_eq_true rfl, Nat.le_of_ble_eq_true rfl⟩ ⟨by simp [sp_glue, hn1, hs9, c_14_1, c_32_2, c_54_3, c_66_4], by decide⟩ (by decide +kernel)
      · exact g_throw 63 246 67 xS _ 2 exS S hst hE hS hW (show (246, "one is glued, or one that it needs is not glued by then") ∈ strL by decide +kernel) hl.1 hno hlocks dX5_glue_35 dX5_glue_38 dX5_glue_39 dX5_glue_41 dX5_glue_44 ⟨Nat.le_of_ble_eq_true rfl, Nat.le_of_ble_eq_true rfl, Nat.le_of_ble_eq_true rfl, Nat.le_of_ble_eq_true rfl⟩ ⟨Nat.le_of_ble_eq_true rfl, Nat.le_of_ble_eq_true rfl⟩ ⟨by simp [sp_glue, hn1, hs9, c_14_1, c_32_2], by decide⟩ (by decide +kernel)
    · exact g_throw 56 240 60 xA _ 1 exA S hst hE hS hW (show (240, "the set is empty, or has a joint that there is not") ∈ strL by decide +kernel) hl.1 hno hlocks dX5_glue_17 dX5_glue_20 dX5_glue_21 dX5_glue_23 dX5_glue_26 ⟨Nat.le_of_ble_eq_true rfl, Nat.le_of_ble_eq_true rfl, Nat.le_of_ble_eq_true rfl, Nat.le_of_ble_eq_true rfl⟩ ⟨Nat.le_of_ble_eq_true rfl, Nat.le_of_ble_eq_true rfl⟩ ⟨by simp [sp_glue, hn1, hs9, c_14_1], by decide⟩ (by decide +kernel)
