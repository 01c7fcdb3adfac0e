/-! ===== the shop, cut ===== -/
theorem tk_le (g : GS) (b : Nat) : (tk g b).length ≤ np g := by
  unfold tk
  exact Nat.le_trans (List.length_filter_le _ _) (Nat.le_of_eq List.length_range)
set_option maxHeartbeats 4000000 in
set_option maxRecDepth 100000 in
/-- cut(board, from, length, width, hidden) -/
theorem c_X5_cut (l : Launch) (z : ZE) (hst : l.stackTraces = false) (w : WG) (g gm : GS) (o : Nat → Int64) (hO : OKg g) (a1 a2 a3 a4 a5 : Int32) : vx_Met l yX5_cut (.code yX5_cut cX5_cut 9 (some .int) :: wU) ({ frames := 7, cells := 4, slots := 211, locals := 191 }) (PE z [.ref (wad w 0 (0)), .int a1, .int a2, .int a3, .int a4, .int a5] (fun H => WW z w g gm o H)) (xQ z w gm o (sp_cut g a1 a2 a3 a4 a5)) (xX z w g gm o (sp_cut g a1 a2 a3 a4 a5) xI xA xS) 4 211 (zA z) := by
  refine vx_ofW (cc := cX5_cut) (maxL := 9) (ret := (some .int)) (by decide) rfl ?_
  intro p e s m args below meth c s₁ BD hml hno hv
  obtain ⟨rfl, hE, hW⟩ := hv
  have hts : ∀ w ∈ wU, w.before _ s = true := fun w h => atoms_spec (ws := .code yX5_cut cX5_cut 9 (some .int) :: wU) BD.pre w (List.mem_cons_of_mem _ h)
  have S : CallFix p m c cX5_cut 9 s ([.ref (wad w 0 (0)), .int a1, .int a2, .int a3, .int a4, .int a5] : List Value).toArray wU RX5 := ⟨BD.exec, BD.bytes, hml, findClass_of_methodNamed BD.named, hts⟩
  have hx := S.1
  have hb := S.2.1
  have hown := S.2.2.2.1
  have hr := BD.returns
  have hlocks := BD.notSynchronized
  have hS : va_S (zA z) s.heap s.heap [] := va_S.rf
  have hl := lv_entry ([.ref (wad w 0 (0)), .int a1, .int a2, .int a3, .int a4, .int a5]) (n := 9) (Nat.le_of_ble_eq_true rfl)
  rw [lg_entry_eq]
  generalize (lg_sl ([.ref (wad w 0 (0)), .int a1, .int a2, .int a3, .int a4, .int a5]) ++ List.replicate (9 - (lg_sl ([.ref (wad w 0 (0)), .int a1, .int a2, .int a3, .int a4, .int a5])).length) Slot.unset).toArray = ls at hl ⊢
  have hl : lv_has ls 9 [(0, .ref (wad w 0 (0))), (1, .int a1), (2, .int a2), (3, .int a3), (4, .int a4), (5, .int a5)] := hl
  have h20 := hO.l5
  have h40 := hO.l16
  have h30 := hO.l24
  by_cases h9 : isB g a1 = true
  · obtain ⟨i, hi, rfl⟩ := wi_lt (by omega) h9
    have ti : tN (nI i) = i := tNn (by omega)
    obtain ⟨s9, hs9, es9⟩ := hO.sp hi
    have hk4 := hO.l13 hi
    refine lv_aload_n hx hb dX5_cut_0 rfl (lv_at hl 0 rfl) ?_
    refine lv_iload_n hx hb dX5_cut_1 rfl (lv_at hl 1 rfl) ?_
    refine g_callVq (As := [.int (nI i)]) (rest := []) S hE hS (c_findBoard_y l z w g gm o hO (i) (by omega)) (cwV 1 hts (gU_V tw_413 tw_415 tp_8 tw_1 tw_416) rfl rfl rfl (by decide +kernel) ⟨Nat.le_of_ble_eq_true rfl, Nat.le_of_ble_eq_true rfl⟩) (hE.recv hW.sh (q := (RX5, TX5, 8)) rfl) hW rfl hl.1 rfl (Nat.le_of_ble_eq_true rfl) dX5_cut_2 ⟨Nat.zero_le _, Nat.zero_le _⟩ ?_
    rw [show va_rf (some (wad w 2 (i))) = .ref (wad w 2 (i)) from rfl]
    refine lv_astore (lv' := [(6, .ref (wad w 2 (i))), (0, .ref (wad w 0 (0))), (1, .int (nI i)), (2, .int a2), (3, .int a3), (4, .int a4), (5, .int a5)]) hx hb dX5_cut_5 hl (by decide) rfl (fun ls hl => ?_)
    refine lv_aload hx hb dX5_cut_7 (lv_at hl 0 rfl) ?_
    refine lv_ifnonnull (tgt := 22) hx hb dX5_cut_9 (by decide) ?_
    refine lv_iload_n hx hb dX5_cut_22 rfl (lv_at hl 3 rfl) ?_
    refine lv_iconst (v := 0) hx hb dX5_cut_23 (by decide) ?_
    refine lv_sipush (v := 30000) hx hb dX5_cut_24 (by decide) ?_
    refine g_callS (As := [.int a2, .int 0, .int 30000]) (rest := []) S hE hS (c_X5_isWithin l z (a2) (0) (30000)) (cwS 3 hts (gU_S tw_158 tw_159 tw_1 tw_160) rfl rfl rfl (by decide +kernel) ⟨Nat.le_of_ble_eq_true rfl, Nat.le_of_ble_eq_true rfl⟩) trivial rfl hl.1 rfl (Nat.le_of_ble_eq_true rfl) dX5_cut_27 ⟨Nat.zero_le _, Nat.zero_le _⟩ ?_
    refine g_if_eq S (tgt := 58) dX5_cut_30 (by decide) (fun c_30 => ?_) (fun c_30 => ?_)
    · exact g_throw 56 133 60 xA _ 2 exA S hst hE hS hW (show (133, "from, length or width is out of its range") ∈ strL by decide +kernel) hl.1 hno hlocks dX5_cut_58 dX5_cut_61 dX5_cut_62 dX5_cut_64 dX5_cut_67 ⟨Nat.le_of_ble_eq_true rfl, Nat.le_of_ble_eq_true rfl, Nat.le_of_ble_eq_true rfl, Nat.le_of_ble_eq_true rfl⟩ ⟨Nat.le_of_ble_eq_true rfl, Nat.le_of_ble_eq_true rfl⟩ ⟨by simp [sp_cut, h9, ti, c_30], by decide⟩ (by decide +kernel)
    · refine lv_iload_n hx hb dX5_cut_33 rfl (lv_at hl 4 rfl) ?_
      refine lv_bipush (v := 10) hx hb dX5_cut_34 (by decide) ?_
      refine lv_sipush (v := 30000) hx hb dX5_cut_36 (by decide) ?_
      refine g_callS (As := [.int a3, .int 10, .int 30000]) (rest := []) S hE hS (c_X5_isWithin l z (a3) (10) (30000)) (cwS 3 hts (gU_S tw_158 tw_159 tw_1 tw_160) rfl rfl rfl (by decide +kernel) ⟨Nat.le_of_ble_eq_true rfl, Nat.le_of_ble_eq_true rfl⟩) trivial rfl hl.1 rfl (Nat.le_of_ble_eq_true rfl) dX5_cut_39 ⟨Nat.zero_le _, Nat.zero_le _⟩ ?_
      refine g_if_eq S (tgt := 58) dX5_cut_42 (by decide) (fun c_42_1 => ?_) (fun c_42_1 => ?_)
      · exact g_throw 56 133 60 xA _ 2 exA S hst hE hS hW (show (133, "from, length or width is out of its range") ∈ strL by decide +kernel) hl.1 hno hlocks dX5_cut_58 dX5_cut_61 dX5_cut_62 dX5_cut_64 dX5_cut_67 ⟨Nat.le_of_ble_eq_true rfl, Nat.le_of_ble_eq_true rfl, Nat.le_of_ble_eq_true rfl, Nat.le_of_ble_eq_true rfl⟩ ⟨Nat.le_of_ble_eq_true rfl, Nat.le_of_ble_eq_true rfl⟩ ⟨by simp [sp_cut, h9, ti, c_30, c_42_1], by decide⟩ (by decide +kernel)
      · refine lv_iload hx hb dX5_cut_45 (lv_at hl 5 rfl) ?_
        refine lv_bipush (v := 10) hx hb dX5_cut_47 (by decide) ?_
        refine lv_sipush (v := 6000) hx hb dX5_cut_49 (by decide) ?_
        refine g_callS (As := [.int a4, .int 10, .int 6000]) (rest := []) S hE hS (c_X5_isWithin l z (a4) (10) (6000)) (cwS 3 hts (gU_S tw_158 tw_159 tw_1 tw_160) rfl rfl rfl (by decide +kernel) ⟨Nat.le_of_ble_eq_true rfl, Nat.le_of_ble_eq_true rfl⟩) trivial rfl hl.1 rfl (Nat.le_of_ble_eq_true rfl) dX5_cut_52 ⟨Nat.zero_le _, Nat.zero_le _⟩ ?_
        refine g_if_ne S (tgt := 68) dX5_cut_55 (by decide) (fun c_55_2 => ?_) (fun c_55_2 => ?_)
        · refine lv_aload_n hx hb dX5_cut_68 rfl (lv_at hl 1 rfl) ?_
          refine g_get S hE hW.sh (C := RX5) (T := TX5) (N := 8) (v := .ref (wad w 5 (1))) rfl inU5 1 (by decide) tw_61 (Or.inl rfl) rfl dX5_cut_69 ?_
          refine g_callV (As := []) (rest := []) S hE hS (c_sizeP l z w g gm o) (cwV 0 hts (gU_V tw_209 tw_210 tw_211 tw_4 tw_212) rfl rfl rfl (by decide +kernel) ⟨Nat.le_of_ble_eq_true rfl, Nat.le_of_ble_eq_true rfl⟩) (hE.recv (hW.lst (i := 1) (show 1 < 3 + 2 * nb g by omega)) (q := (RJx4a65c, TJx4a65c, 3)) rfl) hW rfl hl.1 rfl (Nat.le_of_ble_eq_true rfl) dX5_cut_72 ⟨Nat.zero_le _, Nat.zero_le _⟩ ?_
          refine lv_bipush (v := 40) hx hb dX5_cut_75 (by decide) ?_
          rw [show (40 : Int32) = nI 40 from rfl]
          refine g_icmp_lt S (by omega) (by omega) (tgt := 90) dX5_cut_77 (by decide) (fun c_77_3 => ?_) (fun c_77_3 => ?_)
          · refine lv_aload hx hb dX5_cut_90 (lv_at hl 0 rfl) ?_
            refine lv_iload_n hx hb dX5_cut_92 rfl (lv_at hl 3 rfl) ?_
            refine lv_iload_n hx hb dX5_cut_93 rfl (lv_at hl 4 rfl) ?_
            refine g_callV (As := [.int a2, .int a3]) (rest := []) S hE hS (c_X0_hasRoom l z w g gm o hO (i) (by omega) (a2) (a3)) (cwV 2 hts (gU_V tw_420 tw_421 tw_422 tw_14 tw_423) rfl rfl rfl (by decide +kernel) ⟨Nat.le_of_ble_eq_true rfl, Nat.le_of_ble_eq_true rfl⟩) (hE.recv (hW.bd (i := i) (show i < nb g by omega)) (q := (RX0, TX0, 11)) rfl) hW rfl hl.1 rfl (Nat.le_of_ble_eq_true rfl) dX5_cut_94 ⟨Nat.zero_le _, Nat.zero_le _⟩ ?_
            refine g_if_eq S (tgt := 110) dX5_cut_97 (by decide) (fun c_97_4 => ?_) (fun c_97_4 => ?_)
            · skip
              exact g_throw 63 144 67 xS _ 3 exS S hst hE hS hW (show (144, "the board has no room for it") ∈ strL by decide +kernel) hl.1 hno hlocks dX5_cut_110 dX5_cut_113 dX5_cut_114 dX5_cut_116 dX5_cut_119 ⟨Nat.le_of_ble_eq_true rfl, Nat.le_of_ble_eq_true rfl, Nat.le_of_ble_eq_true rfl, Nat.le_of_ble_eq_true rfl⟩ ⟨Nat.le_of_ble_eq_true rfl, Nat.le_of_ble_eq_true rfl⟩ ⟨by simp [sp_cut, cutok_hrm, h9, ti, c_30, c_42_1, c_55_2, c_77_3, c_97_4], by decide⟩ (by decide +kernel)
            · refine lv_iload hx hb dX5_cut_100 (lv_at hl 5 rfl) ?_
              refine lv_aload hx hb dX5_cut_102 (lv_at hl 0 rfl) ?_
              refine g_callU (As := []) (rest := [.int a4]) S hE hS (c_wNowB l z w g gm o hO (i) (by omega)) (va_cwU (y := yX4_widthNow) (x := ⟨"DovetailRow$Board", "widthNow", "()I"⟩) (C := "DovetailRow$Board") (owner := "DovetailRow$Wood") 0 hts (gU_U tw_432 tw_433 tw_435 tw_436 tw_13 tw_437) rfl rfl rfl rfl (by decide +kernel) ⟨Nat.le_of_ble_eq_true rfl, Nat.le_of_ble_eq_true rfl⟩) (hE.recv (hW.bd (i := i) (show i < nb g by omega)) (q := (RX0, TX0, 11)) rfl) hW rfl hl.1 rfl (Nat.le_of_ble_eq_true rfl) dX5_cut_104 ⟨Nat.zero_le _, Nat.zero_le _⟩ ?_
              refine lv_icmp_le (tgt := 120) hx hb dX5_cut_107 (by decide) (fun c_107_5 => ?_) (fun c_107_5 => ?_)
              · refine lv_iload hx hb dX5_cut_120 (lv_at hl 6 rfl) ?_
                refine lv_if_ne (tgt := 150) hx hb dX5_cut_122 (by decide) (fun c_122_6 => ?_) (fun c_122_6 => ?_)
                · refine lv_aload hx hb dX5_cut_150 (lv_at hl 0 rfl) ?_
                  refine g_get S hE (hW.bd (i := i) (show i < nb g by omega)) (C := RX0) (T := TX0) (N := 11) (v := .int (nI s9)) rfl inU0 0 (by decide) tw_315 (Or.inr tw_313) (by rw [← es9]; rfl) dX5_cut_152 ?_
                  refine g_callS (As := [.int (nI s9)]) (rest := []) S hE hS (c_X5_hardnessOf l z (s9) (by omega)) (cwS 1 hts (gU_S tw_442 tw_443 tw_1 tw_444) rfl rfl rfl (by decide +kernel) ⟨Nat.le_of_ble_eq_true rfl, Nat.le_of_ble_eq_true rfl⟩) trivial rfl hl.1 rfl (Nat.le_of_ble_eq_true rfl) dX5_cut_155 ⟨Nat.zero_le _, Nat.zero_le _⟩ ?_
                  refine lv_istore (lv' := [(7, .int (hd (nI s9))), (6, .ref (wad w 2 (i))), (0, .ref (wad w 0 (0))), (1, .int (nI i)), (2, .int a2), (3, .int a3), (4, .int a4), (5, .int a5)]) hx hb dX5_cut_158 hl (by decide) rfl (fun ls hl => ?_)
                  refine lv_aload_n hx hb dX5_cut_160 rfl (lv_at hl 2 rfl) ?_
                  refine g_get S hE hW.sh (C := RX5) (T := TX5) (N := 8) (v := .int (g 3 0)) rfl inU5 5 (by decide) tw_65 (Or.inl rfl) rfl dX5_cut_161 ?_
                  refine lv_iload hx hb dX5_cut_164 (lv_at hl 0 rfl) ?_
                  refine lv_icmp_ge (tgt := 179) hx hb dX5_cut_166 (by decide) (fun c_166_7 => ?_) (fun c_166_7 => ?_)
                  · refine lv_aload_n hx hb dX5_cut_179 rfl (lv_at hl 2 rfl) ?_
                    refine lv_dup hx hb dX5_cut_180 rfl ?_
                    refine g_get S hE hW.sh (C := RX5) (T := TX5) (N := 8) (v := .int (g 3 0)) rfl inU5 5 (by decide) tw_65 (Or.inl rfl) rfl dX5_cut_181 ?_
                    refine lv_iload hx hb dX5_cut_184 (lv_at hl 0 rfl) ?_
                    refine lv_isub hx hb dX5_cut_186 ?_
                    refine g_put S hE hS hW.sh (hW.2.2.1 0 0 rfl) (C := RX5) (T := TX5) (N := 8) rfl inU5 tyX5 tyX5_ok nmX5 5 (by decide) tw_65 (Or.inl rfl) (Or.inl rfl) (v := .int ((g 3 0) - (hd (nI s9)))) rfl rfl (Nat.le_of_ble_eq_true rfl) dX5_cut_187 (fun H locs he oq _ hS => ?_)
                    replace hW := hW.us30 he oq
                    refine lv_aload_n hx hb dX5_cut_190 rfl (lv_at hl 2 rfl) ?_
                    refine g_get S hE hW.sh (C := RX5) (T := TX5) (N := 8) (v := .ref (wad w 5 (1))) rfl inU5 1 (by decide) tw_61 (Or.inl rfl) rfl dX5_cut_191 ?_
                    refine g_callV (As := []) (rest := []) S hE hS (c_sizeP l z w ((gup g 3 (0) ((g 3 0) - (hd (nI s9))))) gm o) (cwV 0 hts (gU_V tw_209 tw_210 tw_211 tw_4 tw_212) rfl rfl rfl (by decide +kernel) ⟨Nat.le_of_ble_eq_true rfl, Nat.le_of_ble_eq_true rfl⟩) (hE.recv (hW.lst (i := 1) (show 1 < 3 + 2 * nb g by omega)) (q := (RJx4a65c, TJx4a65c, 3)) rfl) hW rfl hl.1 rfl (Nat.le_of_ble_eq_true rfl) dX5_cut_194 ⟨Nat.zero_le _, Nat.zero_le _⟩ ?_
                    rw [show np ((gup g 3 (0) ((g 3 0) - (hd (nI s9))))) = np g from rfl]
                    refine lv_istore (lv' := [(8, .int (nI (np g))), (7, .int (hd (nI s9))), (6, .ref (wad w 2 (i))), (0, .ref (wad w 0 (0))), (1, .int (nI i)), (2, .int a2), (3, .int a3), (4, .int a4), (5, .int a5)]) hx hb dX5_cut_197 hl (by decide) rfl (fun ls hl => ?_)
                    have hO9 : OKg (gup g 3 (0) ((g 3 0) - (hd (nI s9)))) := hO
                    refine lv_aload_n hx hb dX5_cut_199 rfl (lv_at hl 3 rfl) ?_
                    refine g_get S hE hW.sh (C := RX5) (T := TX5) (N := 8) (v := .ref (wad w 5 (1))) rfl inU5 1 (by decide) tw_61 (Or.inl rfl) rfl dX5_cut_200 ?_
                    have hzz : zB z ≤ H.size := Nat.le_trans hE.2.2.2.2.1 hS.1
                    obtain ⟨x1, hx1⟩ : ∃ x : Nat, H.size = x := ⟨_, rfl⟩
                    refine g_new S hE hS (C := RX2) (T := TX2) (N := 9) (ci := 3) rfl inU2 tyX2 tyX2_ok tw_243 tw_446 tw_19 (fs := [.int 0, .int 0, .int 0, .int 0, .int 0, .int 0, .null, .int 0, .int 0]) (fun j hj => by match j, hj with | 0, _ => rfl | 1, _ => rfl | 2, _ => rfl | 3, _ => rfl | 4, _ => rfl | 5, _ => rfl | 6, _ => rfl | 7, _ => rfl | 8, _ => rfl) ⟨Nat.le_of_ble_eq_true rfl, Nat.le_of_ble_eq_true rfl⟩ dX5_cut_203 hx1 (fun K1 hv1 zq1 oq1 hS => ?_)
                    have hf1 : ∀ y : Nat, y < H.size → K1[y]? = H[y]? := fun y hy => oq1 y (by omega)
                    refine lv_dup hx hb dX5_cut_206 rfl ?_
                    refine lv_iload hx hb dX5_cut_207 (lv_at hl 0 rfl) ?_
                    refine lv_aload hx hb dX5_cut_209 (lv_at hl 2 rfl) ?_
                    refine lv_iload_n hx hb dX5_cut_211 rfl (lv_at hl 5 rfl) ?_
                    refine lv_iload_n hx hb dX5_cut_212 rfl (lv_at hl 6 rfl) ?_
                    refine lv_iload hx hb dX5_cut_213 (lv_at hl 7 rfl) ?_
                    refine g_init (As := [.int (nI (np g)), .ref (wad w 2 (i)), .int a2, .int a3, .int a4]) (rest := [.ref (x1), .ref (wad w 5 (1))]) S hE hS (c_X2_init l z w ((gup g 3 (0) ((g 3 0) - (hd (nI s9))))) gm o x1 (.int 0) (.int 0) (.int 0) (.int 0) (.int 0) (.int 0) (.null) (.int 0) (.int 0) (np g) (i) (show i < nb g by omega) (a2) (a3) (a4)) (x_cwI 5 hts tw_447 tw_448 tw_19 tw_449 rfl rfl (by decide +kernel) ⟨Nat.le_of_ble_eq_true rfl, Nat.le_of_ble_eq_true rfl⟩ rfl) ⟨⟨(show zB z ≤ x1 by omega), hv1⟩, hW.kept hf1⟩ rfl hl.1 rfl (Nat.le_of_ble_eq_true rfl) dX5_cut_215 ⟨Nat.le_of_ble_eq_true rfl, Nat.le_of_ble_eq_true rfl⟩ (fun y _ (e9 : y = x1) => by omega) (fun K2 locs hv1 hz1 ho1 hS => ?_)
                    replace hf1 : ∀ y : Nat, y < H.size → K2[y]? = H[y]? := fun y hy => (ho1 y (by omega) (show ¬ y = x1 by omega)).trans (hf1 y hy)
                    refine x_addW (rest := []) (g := (gup g 3 (0) ((g 3 0) - (hd (nI s9))))) S hE hS hO9 hW (show H.size ≤ K2.size by omega) (1) (by first | omega | exact hi9) (k0 := 3) (ci := 3) rfl (by decide +kernel) rfl (fun j => ⟨_, rfl⟩) (fun k j hl _ => hf1 _ (hW.1 k j hl).lt) hv1 (by omega) (show np g ≤ 60 by omega) hl.1 (Nat.le_of_ble_eq_true rfl) dX5_cut_218 ⟨Nat.le_of_ble_eq_true rfl, Nat.le_of_ble_eq_true rfl⟩ ⟨Nat.le_of_ble_eq_true rfl, Nat.le_of_ble_eq_true rfl⟩ (fun K3 locs e1 cap1 f1 he1 hl51 hl61 hc1 hfo1 hfn1 hza1 hoa1 hS => ?_)
                    have hW9 := hW
                    have hlt5 : wad w 5 1 < H.size := (hW.lst (i := 1) (show 1 < 3 + 2 * nb g by omega)).lt
                    have hlt6 : 0 < np g → wad w 6 1 < H.size := fun h0 => (hW.arr (i := 1) (show 1 < 3 + 2 * nb g by omega) h0).lt
                    have hbl : wad w 2 i < H.size := (hW.bd (i := i) hi).lt
                    have hf3 : ∀ y : Nat, y < H.size → y ≠ wad w 5 1 → (0 < np g → y ≠ wad w 6 1) → K3[y]? = H[y]? := fun y hy h1 h2 => (hoa1 y (by omega) h1 h2).trans (hf1 y hy)
                    have hbk : K3[wad w 2 i]? = H[wad w 2 i]? := hf3 _ hbl (fun e => absurd (hW9.2.1 2 i 5 1 hi (show 1 < 3 + 2 * nb g by omega) e).1 (by decide)) (fun h0 e => absurd (hW9.2.1 2 i 6 1 hi ⟨(show 1 < 3 + 2 * nb g by omega), h0⟩ e).1 (by decide))
                    have hpk := hv1.kept (H1 := K3) (hoa1 x1 (by omega) (by omega) (fun h0 => by have := hlt6 h0; omega))
                    have he61 : e1 < K3.size := hl61.lt
                    refine lv_pop hx hb dX5_cut_221 rfl ?_
                    refine lv_aload hx hb dX5_cut_222 (lv_at hl 2 rfl) ?_
                    refine g_get S hE ((hW9.bd (i := i) hi).kept hbk) (C := RX0) (T := TX0) (N := 11) (v := .ref (wad w 5 (4 + 2 * i))) rfl inU0 10 (by decide) tw_311 (Or.inl rfl) rfl dX5_cut_224 ?_
                    obtain ⟨x2, hx2⟩ : ∃ x : Nat, K3.size = x := ⟨_, rfl⟩
                    refine g_new S hE hS (C := RX3) (T := TX3) (N := 2) (ci := 4) rfl inU3 tyX3 tyX3_ok tw_427 tw_473 tw_20 (fs := [.int 0, .int 0]) (fun j hj => by match j, hj with | 0, _ => rfl | 1, _ => rfl) ⟨Nat.le_of_ble_eq_true rfl, Nat.le_of_ble_eq_true rfl⟩ dX5_cut_227 hx2 (fun K4 hv2 zq2 oq2 hS => ?_)
                    refine lv_dup hx hb dX5_cut_230 rfl ?_
                    refine lv_iload_n hx hb dX5_cut_231 rfl (lv_at hl 5 rfl) ?_
                    refine lv_bipush (v := 30) hx hb dX5_cut_232 (by decide) ?_
                    refine lv_isub hx hb dX5_cut_234 ?_
                    refine lv_iload_n hx hb dX5_cut_235 rfl (lv_at hl 5 rfl) ?_
                    refine lv_iload_n hx hb dX5_cut_236 rfl (lv_at hl 6 rfl) ?_
                    refine lv_iadd hx hb dX5_cut_237 ?_
                    refine lv_bipush (v := 30) hx hb dX5_cut_238 (by decide) ?_
                    refine lv_iadd hx hb dX5_cut_240 ?_
                    refine g_init (As := [.int (a2 - 30), .int ((a2 + a3) + 30)]) (rest := [.ref (x2), .ref (wad w 5 (4 + 2 * i))]) S hE hS (c_X3_init l z x2 (.int 0) (.int 0) (a2 - 30) ((a2 + a3) + 30)) (x_cwI 2 hts tw_474 tw_475 tw_20 tw_476 rfl rfl (by decide +kernel) ⟨Nat.le_of_ble_eq_true rfl, Nat.le_of_ble_eq_true rfl⟩ rfl) ⟨(show zB z ≤ x2 by omega), hv2⟩ rfl hl.1 rfl (Nat.le_of_ble_eq_true rfl) dX5_cut_241 ⟨Nat.le_of_ble_eq_true rfl, Nat.le_of_ble_eq_true rfl⟩ (fun y _ (e9 : y = x2) => by omega) (fun K5 locs hv2 hz2 ho2 hS => ?_)
                    have hf5 : ∀ y : Nat, y < H.size → y ≠ wad w 5 1 → (0 < np g → y ≠ wad w 6 1) → K5[y]? = H[y]? := fun y hy h1 h2 => (ho2 y (by omega) (show ¬ y = x2 by omega)).trans ((oq2 y (by omega)).trans (hf3 y hy h1 h2))
                    have hk5 : ∀ y : Nat, y < x2 → K5[y]? = K3[y]? := fun y hy => (ho2 y (by omega) (show ¬ y = x2 by omega)).trans (oq2 y (by omega))
                    have hi9 : 4 + 2 * i < 3 + 2 * nb g := by omega
                    have hn9 : ll g (4 + 2 * i) ≤ 60 := by have q1 := (hW9.2.2.2 (4 + 2 * i) hi9).1; rw [ll_tk]; exact Nat.le_trans (tk_le g i) (by omega)
                    refine x_addW (rest := []) (g := (gup g 3 (0) ((g 3 0) - (hd (nI s9))))) S hE hS hO9 hW (show H.size ≤ K5.size by omega) (4 + 2 * i) (by first | omega | exact hi9) (k0 := 8) (ci := 4) rfl (by decide +kernel) (lk_t i) (fun j => ⟨_, rfl⟩) (fun k j hl hk => hf5 _ (hW9.1 k j hl).lt (fun e => by have := hW9.2.1 k j 5 1 hl (show 1 < 3 + 2 * nb g by omega) e; omega) (fun h0 e => by have := hW9.2.1 k j 6 1 hl ⟨(show 1 < 3 + 2 * nb g by omega), h0⟩ e; omega)) hv2 (by omega) hn9 hl.1 (Nat.le_of_ble_eq_true rfl) dX5_cut_244 ⟨Nat.le_of_ble_eq_true rfl, Nat.le_of_ble_eq_true rfl⟩ ⟨Nat.le_of_ble_eq_true rfl, Nat.le_of_ble_eq_true rfl⟩ (fun K6 locs e2 cap2 f2 he2 hl52 hl62 hc2 hfo2 hfn2 hza2 hoa2 hS => ?_)
                    have hltt5 : wad w 5 (4 + 2 * i) < H.size := (hW9.lst (i := 4 + 2 * i) hi9).lt
                    have hltt6 : 0 < ll g (4 + 2 * i) → wad w 6 (4 + 2 * i) < H.size := fun h0 => (hW9.arr (i := 4 + 2 * i) hi9 h0).lt
                    have n55 : wad w 5 1 ≠ wad w 5 (4 + 2 * i) := fun e => absurd (hW9.2.1 5 1 5 (4 + 2 * i) (show 1 < 3 + 2 * nb g by omega) hi9 e).2 (by omega)
                    have n56 : 0 < ll g (4 + 2 * i) → wad w 5 1 ≠ wad w 6 (4 + 2 * i) := fun h0 e => absurd (hW9.2.1 5 1 6 (4 + 2 * i) (show 1 < 3 + 2 * nb g by omega) ⟨hi9, h0⟩ e).1 (by decide)
                    have n65 : 0 < np g → wad w 6 1 ≠ wad w 5 (4 + 2 * i) := fun h0 e => absurd (hW9.2.1 6 1 5 (4 + 2 * i) ⟨(show 1 < 3 + 2 * nb g by omega), h0⟩ hi9 e).1 (by decide)
                    have n66 : 0 < np g → 0 < ll g (4 + 2 * i) → wad w 6 1 ≠ wad w 6 (4 + 2 * i) := fun h0 h1 e => absurd (hW9.2.1 6 1 6 (4 + 2 * i) ⟨(show 1 < 3 + 2 * nb g by omega), h0⟩ ⟨hi9, h1⟩ e).2 (by omega)
                    have ne5 : e1 ≠ wad w 5 (4 + 2 * i) := by rcases he1 with ⟨q1, q2⟩ | q1 <;> first | (rw [q1]; exact n65 q2) | omega
                    have ne6 : 0 < ll g (4 + 2 * i) → e1 ≠ wad w 6 (4 + 2 * i) := fun h0 => by have := hltt6 h0; rcases he1 with ⟨q1, q2⟩ | q1 <;> first | (rw [q1]; exact n66 q2 h0) | omega
                    have hWc := ww_cut (b := i) (f := a2) (l := a3) (wd := a4) (x := x1) (y := x2) hO9 hW9 hzz (show np g < 40 by omega) hi hx1.symm (by omega) ((hpk.kept (hk5 x1 (by omega))).kept (hoa2 x1 (by omega) (by omega) (fun h0 => by have := hltt6 h0; omega))) (hv2.kept (hoa2 x2 (by omega) (by omega) (fun h0 => by have := hltt6 h0; omega))) (he1.imp id (fun h => ⟨by omega, by omega⟩)) (he2.imp id (fun h => by omega)) ((hl51.kept (hk5 _ (by omega))).kept (hoa2 _ (show wad w 5 1 < K5.size by omega) n55 n56)) ((hl61.kept (hk5 _ (show e1 < x2 by omega))).kept (hoa2 _ (show e1 < K5.size by omega) ne5 ne6)) hc1 hfo1 hfn1 hl52 hl62 hc2 hfo2 hfn2 (fun y hy h1 h2 h3 h4 => (hoa2 y (by omega) h3 h4).trans (hf5 y hy h1 h2))
                    replace hW := hWc
                    rw [es9.symm, cst_eq] at hW
                    refine lv_pop hx hb dX5_cut_247 rfl ?_
                    refine lv_iload hx hb dX5_cut_248 (lv_at hl 0 rfl) ?_
                    have q77 : np g < 40 := by omega
                    have q107 : ¬ bWd g i < a4 := Int32.not_lt.mpr c_107_5
                    have q166 : ¬ g 3 0 < hd (g 6 i) := by rw [es9]; exact Int32.not_lt.mpr c_166_7
                    exact x_ret S hr hlocks hS hW (by simp [sp_cut, cutok_hrm, q107, q77, q166, h9, ti, c_30, c_42_1, c_55_2, c_97_4, c_122_6]) ⟨rfl, rfl, rfl⟩ ⟨Nat.le_of_ble_eq_true rfl, Nat.le_of_ble_eq_true rfl⟩ dX5_cut_250
                  · have q166 : g 3 0 < hd (g 6 i) := by rw [es9]; exact Int32.not_le.mp c_166_7
                    exact g_throw 63 154 67 xS _ 3 exS S hst hE hS hW (show (154, "the saw is not sharp enough") ∈ strL by decide +kernel) hl.1 hno hlocks dX5_cut_169 dX5_cut_172 dX5_cut_173 dX5_cut_175 dX5_cut_178 ⟨Nat.le_of_ble_eq_true rfl, Nat.le_of_ble_eq_true rfl, Nat.le_of_ble_eq_true rfl, Nat.le_of_ble_eq_true rfl⟩ ⟨Nat.le_of_ble_eq_true rfl, Nat.le_of_ble_eq_true rfl⟩ ⟨by simp [sp_cut, cutok_hrm, q166, h9, ti, c_30, c_42_1, c_55_2, c_77_3, c_97_4, c_107_5, c_122_6], by decide⟩ (by decide +kernel)
                · refine lv_aload hx hb dX5_cut_125 (lv_at hl 0 rfl) ?_
                  refine g_get S hE (hW.bd (i := i) (show i < nb g by omega)) (C := RX0) (T := TX0) (N := 11) (v := .ref (wad w 5 (3 + 2 * i))) rfl inU0 9 (by decide) tw_309 (Or.inl rfl) rfl dX5_cut_127 ?_
                  refine lv_iload_n hx hb dX5_cut_130 rfl (lv_at hl 3 rfl) ?_
                  refine lv_iload_n hx hb dX5_cut_131 rfl (lv_at hl 3 rfl) ?_
                  refine lv_iload_n hx hb dX5_cut_132 rfl (lv_at hl 4 rfl) ?_
                  refine lv_iadd hx hb dX5_cut_133 ?_
                  refine g_callS (As := [.ref (wad w 5 (3 + 2 * i)), .int a2, .int (a2 + a3)]) (rest := []) S hE hS (c_X5_touchesAny l z w g gm o hO (3 + 2 * i) (by omega) (by omega) (a2) (a2 + a3)) (cwS 3 hts (gU_S tw_440 tw_425 tw_1 tw_426) rfl rfl rfl (by decide +kernel) ⟨Nat.le_of_ble_eq_true rfl, Nat.le_of_ble_eq_true rfl⟩) hW rfl hl.1 rfl (Nat.le_of_ble_eq_true rfl) dX5_cut_134 ⟨Nat.zero_le _, Nat.zero_le _⟩ ?_
                  rw [kn_any]
                  refine g_if_eq S (tgt := 150) dX5_cut_137 (by decide) (fun c_137_8 => ?_) (fun c_137_8 => ?_)
                  · refine lv_aload hx hb dX5_cut_150 (lv_at hl 0 rfl) ?_
                    refine g_get S hE (hW.bd (i := i) (show i < nb g by omega)) (C := RX0) (T := TX0) (N := 11) (v := .int (nI s9)) rfl inU0 0 (by decide) tw_315 (Or.inr tw_313) (by rw [← es9]; rfl) dX5_cut_152 ?_
                    refine g_callS (As := [.int (nI s9)]) (rest := []) S hE hS (c_X5_hardnessOf l z (s9) (by omega)) (cwS 1 hts (gU_S tw_442 tw_443 tw_1 tw_444) rfl rfl rfl (by decide +kernel) ⟨Nat.le_of_ble_eq_true rfl, Nat.le_of_ble_eq_true rfl⟩) trivial rfl hl.1 rfl (Nat.le_of_ble_eq_true rfl) dX5_cut_155 ⟨Nat.zero_le _, Nat.zero_le _⟩ ?_
                    refine lv_istore (lv' := [(7, .int (hd (nI s9))), (6, .ref (wad w 2 (i))), (0, .ref (wad w 0 (0))), (1, .int (nI i)), (2, .int a2), (3, .int a3), (4, .int a4), (5, .int a5)]) hx hb dX5_cut_158 hl (by decide) rfl (fun ls hl => ?_)
                    refine lv_aload_n hx hb dX5_cut_160 rfl (lv_at hl 2 rfl) ?_
                    refine g_get S hE hW.sh (C := RX5) (T := TX5) (N := 8) (v := .int (g 3 0)) rfl inU5 5 (by decide) tw_65 (Or.inl rfl) rfl dX5_cut_161 ?_
                    refine lv_iload hx hb dX5_cut_164 (lv_at hl 0 rfl) ?_
                    refine lv_icmp_ge (tgt := 179) hx hb dX5_cut_166 (by decide) (fun c_166_9 => ?_) (fun c_166_9 => ?_)
                    · refine lv_aload_n hx hb dX5_cut_179 rfl (lv_at hl 2 rfl) ?_
                      refine lv_dup hx hb dX5_cut_180 rfl ?_
                      refine g_get S hE hW.sh (C := RX5) (T := TX5) (N := 8) (v := .int (g 3 0)) rfl inU5 5 (by decide) tw_65 (Or.inl rfl) rfl dX5_cut_181 ?_
                      refine lv_iload hx hb dX5_cut_184 (lv_at hl 0 rfl) ?_
                      refine lv_isub hx hb dX5_cut_186 ?_
                      refine g_put S hE hS hW.sh (hW.2.2.1 0 0 rfl) (C := RX5) (T := TX5) (N := 8) rfl inU5 tyX5 tyX5_ok nmX5 5 (by decide) tw_65 (Or.inl rfl) (Or.inl rfl) (v := .int ((g 3 0) - (hd (nI s9)))) rfl rfl (Nat.le_of_ble_eq_true rfl) dX5_cut_187 (fun H locs he oq _ hS => ?_)
                      replace hW := hW.us30 he oq
                      refine lv_aload_n hx hb dX5_cut_190 rfl (lv_at hl 2 rfl) ?_
                      refine g_get S hE hW.sh (C := RX5) (T := TX5) (N := 8) (v := .ref (wad w 5 (1))) rfl inU5 1 (by decide) tw_61 (Or.inl rfl) rfl dX5_cut_191 ?_
                      refine g_callV (As := []) (rest := []) S hE hS (c_sizeP l z w ((gup g 3 (0) ((g 3 0) - (hd (nI s9))))) gm o) (cwV 0 hts (gU_V tw_209 tw_210 tw_211 tw_4 tw_212) rfl rfl rfl (by decide +kernel) ⟨Nat.le_of_ble_eq_true rfl, Nat.le_of_ble_eq_true rfl⟩) (hE.recv (hW.lst (i := 1) (show 1 < 3 + 2 * nb g by omega)) (q := (RJx4a65c, TJx4a65c, 3)) rfl) hW rfl hl.1 rfl (Nat.le_of_ble_eq_true rfl) dX5_cut_194 ⟨Nat.zero_le _, Nat.zero_le _⟩ ?_
                      rw [show np ((gup g 3 (0) ((g 3 0) - (hd (nI s9))))) = np g from rfl]
                      refine lv_istore (lv' := [(8, .int (nI (np g))), (7, .int (hd (nI s9))), (6, .ref (wad w 2 (i))), (0, .ref (wad w 0 (0))), (1, .int (nI i)), (2, .int a2), (3, .int a3), (4, .int a4), (5, .int a5)]) hx hb dX5_cut_197 hl (by decide) rfl (fun ls hl => ?_)
                      have hO9 : OKg (gup g 3 (0) ((g 3 0) - (hd (nI s9)))) := hO
                      refine lv_aload_n hx hb dX5_cut_199 rfl (lv_at hl 3 rfl) ?_
                      refine g_get S hE hW.sh (C := RX5) (T := TX5) (N := 8) (v := .ref (wad w 5 (1))) rfl inU5 1 (by decide) tw_61 (Or.inl rfl) rfl dX5_cut_200 ?_
                      have hzz : zB z ≤ H.size := Nat.le_trans hE.2.2.2.2.1 hS.1
                      obtain ⟨x1, hx1⟩ : ∃ x : Nat, H.size = x := ⟨_, rfl⟩
                      refine g_new S hE hS (C := RX2) (T := TX2) (N := 9) (ci := 3) rfl inU2 tyX2 tyX2_ok tw_243 tw_446 tw_19 (fs := [.int 0, .int 0, .int 0, .int 0, .int 0, .int 0, .null, .int 0, .int 0]) (fun j hj => by match j, hj with | 0, _ => rfl | 1, _ => rfl | 2, _ => rfl | 3, _ => rfl | 4, _ => rfl | 5, _ => rfl | 6, _ => rfl | 7, _ => rfl | 8, _ => rfl) ⟨Nat.le_of_ble_eq_true rfl, Nat.le_of_ble_eq_true rfl⟩ dX5_cut_203 hx1 (fun K1 hv1 zq1 oq1 hS => ?_)
                      have hf1 : ∀ y : Nat, y < H.size → K1[y]? = H[y]? := fun y hy => oq1 y (by omega)
                      refine lv_dup hx hb dX5_cut_206 rfl ?_
                      refine lv_iload hx hb dX5_cut_207 (lv_at hl 0 rfl) ?_
                      refine lv_aload hx hb dX5_cut_209 (lv_at hl 2 rfl) ?_
                      refine lv_iload_n hx hb dX5_cut_211 rfl (lv_at hl 5 rfl) ?_
                      refine lv_iload_n hx hb dX5_cut_212 rfl (lv_at hl 6 rfl) ?_
                      refine lv_iload hx hb dX5_cut_213 (lv_at hl 7 rfl) ?_
                      refine g_init (As := [.int (nI (np g)), .ref (wad w 2 (i)), .int a2, .int a3, .int a4]) (rest := [.ref (x1), .ref (wad w 5 (1))]) S hE hS (c_X2_init l z w ((gup g 3 (0) ((g 3 0) - (hd (nI s9))))) gm o x1 (.int 0) (.int 0) (.int 0) (.int 0) (.int 0) (.int 0) (.null) (.int 0) (.int 0) (np g) (i) (show i < nb g by omega) (a2) (a3) (a4)) (x_cwI 5 hts tw_447 tw_448 tw_19 tw_449 rfl rfl (by decide +kernel) ⟨Nat.le_of_ble_eq_true rfl, Nat.le_of_ble_eq_true rfl⟩ rfl) ⟨⟨(show zB z ≤ x1 by omega), hv1⟩, hW.kept hf1⟩ rfl hl.1 rfl (Nat.le_of_ble_eq_true rfl) dX5_cut_215 ⟨Nat.le_of_ble_eq_true rfl, Nat.le_of_ble_eq_true rfl⟩ (fun y _ (e9 : y = x1) => by omega) (fun K2 locs hv1 hz1 ho1 hS => ?_)
                      replace hf1 : ∀ y : Nat, y < H.size → K2[y]? = H[y]? := fun y hy => (ho1 y (by omega) (show ¬ y = x1 by omega)).trans (hf1 y hy)
                      refine x_addW (rest := []) (g := (gup g 3 (0) ((g 3 0) - (hd (nI s9))))) S hE hS hO9 hW (show H.size ≤ K2.size by omega) (1) (by first | omega | exact hi9) (k0 := 3) (ci := 3) rfl (by decide +kernel) rfl (fun j => ⟨_, rfl⟩) (fun k j hl _ => hf1 _ (hW.1 k j hl).lt) hv1 (by omega) (show np g ≤ 60 by omega) hl.1 (Nat.le_of_ble_eq_true rfl) dX5_cut_218 ⟨Nat.le_of_ble_eq_true rfl, Nat.le_of_ble_eq_true rfl⟩ ⟨Nat.le_of_ble_eq_true rfl, Nat.le_of_ble_eq_true rfl⟩ (fun K3 locs e1 cap1 f1 he1 hl51 hl61 hc1 hfo1 hfn1 hza1 hoa1 hS => ?_)
                      have hW9 := hW
                      have hlt5 : wad w 5 1 < H.size := (hW.lst (i := 1) (show 1 < 3 + 2 * nb g by omega)).lt
                      have hlt6 : 0 < np g → wad w 6 1 < H.size := fun h0 => (hW.arr (i := 1) (show 1 < 3 + 2 * nb g by omega) h0).lt
                      have hbl : wad w 2 i < H.size := (hW.bd (i := i) hi).lt
                      have hf3 : ∀ y : Nat, y < H.size → y ≠ wad w 5 1 → (0 < np g → y ≠ wad w 6 1) → K3[y]? = H[y]? := fun y hy h1 h2 => (hoa1 y (by omega) h1 h2).trans (hf1 y hy)
                      have hbk : K3[wad w 2 i]? = H[wad w 2 i]? := hf3 _ hbl (fun e => absurd (hW9.2.1 2 i 5 1 hi (show 1 < 3 + 2 * nb g by omega) e).1 (by decide)) (fun h0 e => absurd (hW9.2.1 2 i 6 1 hi ⟨(show 1 < 3 + 2 * nb g by omega), h0⟩ e).1 (by decide))
                      have hpk := hv1.kept (H1 := K3) (hoa1 x1 (by omega) (by omega) (fun h0 => by have := hlt6 h0; omega))
                      have he61 : e1 < K3.size := hl61.lt
                      refine lv_pop hx hb dX5_cut_221 rfl ?_
                      refine lv_aload hx hb dX5_cut_222 (lv_at hl 2 rfl) ?_
                      refine g_get S hE ((hW9.bd (i := i) hi).kept hbk) (C := RX0) (T := TX0) (N := 11) (v := .ref (wad w 5 (4 + 2 * i))) rfl inU0 10 (by decide) tw_311 (Or.inl rfl) rfl dX5_cut_224 ?_
                      obtain ⟨x2, hx2⟩ : ∃ x : Nat, K3.size = x := ⟨_, rfl⟩
                      refine g_new S hE hS (C := RX3) (T := TX3) (N := 2) (ci := 4) rfl inU3 tyX3 tyX3_ok tw_427 tw_473 tw_20 (fs := [.int 0, .int 0]) (fun j hj => by match j, hj with | 0, _ => rfl | 1, _ => rfl) ⟨Nat.le_of_ble_eq_true rfl, Nat.le_of_ble_eq_true rfl⟩ dX5_cut_227 hx2 (fun K4 hv2 zq2 oq2 hS => ?_)
                      refine lv_dup hx hb dX5_cut_230 rfl ?_
                      refine lv_iload_n hx hb dX5_cut_231 rfl (lv_at hl 5 rfl) ?_
                      refine lv_bipush (v := 30) hx hb dX5_cut_232 (by decide) ?_
                      refine lv_isub hx hb dX5_cut_234 ?_
                      refine lv_iload_n hx hb dX5_cut_235 rfl (lv_at hl 5 rfl) ?_
                      refine lv_iload_n hx hb dX5_cut_236 rfl (lv_at hl 6 rfl) ?_
                      refine lv_iadd hx hb dX5_cut_237 ?_
                      refine lv_bipush (v := 30) hx hb dX5_cut_238 (by decide) ?_
                      refine lv_iadd hx hb dX5_cut_240 ?_
                      refine g_init (As := [.int (a2 - 30), .int ((a2 + a3) + 30)]) (rest := [.ref (x2), .ref (wad w 5 (4 + 2 * i))]) S hE hS (c_X3_init l z x2 (.int 0) (.int 0) (a2 - 30) ((a2 + a3) + 30)) (x_cwI 2 hts tw_474 tw_475 tw_20 tw_476 rfl rfl (by decide +kernel) ⟨Nat.le_of_ble_eq_true rfl, Nat.le_of_ble_eq_true rfl⟩ rfl) ⟨(show zB z ≤ x2 by omega), hv2⟩ rfl hl.1 rfl (Nat.le_of_ble_eq_true rfl) dX5_cut_241 ⟨Nat.le_of_ble_eq_true rfl, Nat.le_of_ble_eq_true rfl⟩ (fun y _ (e9 : y = x2) => by omega) (fun K5 locs hv2 hz2 ho2 hS => ?_)
                      have hf5 : ∀ y : Nat, y < H.size → y ≠ wad w 5 1 → (0 < np g → y ≠ wad w 6 1) → K5[y]? = H[y]? := fun y hy h1 h2 => (ho2 y (by omega) (show ¬ y = x2 by omega)).trans ((oq2 y (by omega)).trans (hf3 y hy h1 h2))
                      have hk5 : ∀ y : Nat, y < x2 → K5[y]? = K3[y]? := fun y hy => (ho2 y (by omega) (show ¬ y = x2 by omega)).trans (oq2 y (by omega))
                      have hi9 : 4 + 2 * i < 3 + 2 * nb g := by omega
                      have hn9 : ll g (4 + 2 * i) ≤ 60 := by have q1 := (hW9.2.2.2 (4 + 2 * i) hi9).1; rw [ll_tk]; exact Nat.le_trans (tk_le g i) (by omega)
                      refine x_addW (rest := []) (g := (gup g 3 (0) ((g 3 0) - (hd (nI s9))))) S hE hS hO9 hW (show H.size ≤ K5.size by omega) (4 + 2 * i) (by first | omega | exact hi9) (k0 := 8) (ci := 4) rfl (by decide +kernel) (lk_t i) (fun j => ⟨_, rfl⟩) (fun k j hl hk => hf5 _ (hW9.1 k j hl).lt (fun e => by have := hW9.2.1 k j 5 1 hl (show 1 < 3 + 2 * nb g by omega) e; omega) (fun h0 e => by have := hW9.2.1 k j 6 1 hl ⟨(show 1 < 3 + 2 * nb g by omega), h0⟩ e; omega)) hv2 (by omega) hn9 hl.1 (Nat.le_of_ble_eq_true rfl) dX5_cut_244 ⟨Nat.le_of_ble_eq_true rfl, Nat.le_of_ble_eq_true rfl⟩ ⟨Nat.le_of_ble_eq_true rfl, Nat.le_of_ble_eq_true rfl⟩ (fun K6 locs e2 cap2 f2 he2 hl52 hl62 hc2 hfo2 hfn2 hza2 hoa2 hS => ?_)
                      have hltt5 : wad w 5 (4 + 2 * i) < H.size := (hW9.lst (i := 4 + 2 * i) hi9).lt
                      have hltt6 : 0 < ll g (4 + 2 * i) → wad w 6 (4 + 2 * i) < H.size := fun h0 => (hW9.arr (i := 4 + 2 * i) hi9 h0).lt
                      have n55 : wad w 5 1 ≠ wad w 5 (4 + 2 * i) := fun e => absurd (hW9.2.1 5 1 5 (4 + 2 * i) (show 1 < 3 + 2 * nb g by omega) hi9 e).2 (by omega)
                      have n56 : 0 < ll g (4 + 2 * i) → wad w 5 1 ≠ wad w 6 (4 + 2 * i) := fun h0 e => absurd (hW9.2.1 5 1 6 (4 + 2 * i) (show 1 < 3 + 2 * nb g by omega) ⟨hi9, h0⟩ e).1 (by decide)
                      have n65 : 0 < np g → wad w 6 1 ≠ wad w 5 (4 + 2 * i) := fun h0 e => absurd (hW9.2.1 6 1 5 (4 + 2 * i) ⟨(show 1 < 3 + 2 * nb g by omega), h0⟩ hi9 e).1 (by decide)
                      have n66 : 0 < np g → 0 < ll g (4 + 2 * i) → wad w 6 1 ≠ wad w 6 (4 + 2 * i) := fun h0 h1 e => absurd (hW9.2.1 6 1 6 (4 + 2 * i) ⟨(show 1 < 3 + 2 * nb g by omega), h0⟩ ⟨hi9, h1⟩ e).2 (by omega)
                      have ne5 : e1 ≠ wad w 5 (4 + 2 * i) := by rcases he1 with ⟨q1, q2⟩ | q1 <;> first | (rw [q1]; exact n65 q2) | omega
                      have ne6 : 0 < ll g (4 + 2 * i) → e1 ≠ wad w 6 (4 + 2 * i) := fun h0 => by have := hltt6 h0; rcases he1 with ⟨q1, q2⟩ | q1 <;> first | (rw [q1]; exact n66 q2 h0) | omega
                      have hWc := ww_cut (b := i) (f := a2) (l := a3) (wd := a4) (x := x1) (y := x2) hO9 hW9 hzz (show np g < 40 by omega) hi hx1.symm (by omega) ((hpk.kept (hk5 x1 (by omega))).kept (hoa2 x1 (by omega) (by omega) (fun h0 => by have := hltt6 h0; omega))) (hv2.kept (hoa2 x2 (by omega) (by omega) (fun h0 => by have := hltt6 h0; omega))) (he1.imp id (fun h => ⟨by omega, by omega⟩)) (he2.imp id (fun h => by omega)) ((hl51.kept (hk5 _ (by omega))).kept (hoa2 _ (show wad w 5 1 < K5.size by omega) n55 n56)) ((hl61.kept (hk5 _ (show e1 < x2 by omega))).kept (hoa2 _ (show e1 < K5.size by omega) ne5 ne6)) hc1 hfo1 hfn1 hl52 hl62 hc2 hfo2 hfn2 (fun y hy h1 h2 h3 h4 => (hoa2 y (by omega) h3 h4).trans (hf5 y hy h1 h2))
                      replace hW := hWc
                      rw [es9.symm, cst_eq] at hW
                      refine lv_pop hx hb dX5_cut_247 rfl ?_
                      refine lv_iload hx hb dX5_cut_248 (lv_at hl 0 rfl) ?_
                      have q77 : np g < 40 := by omega
                      have q107 : ¬ bWd g i < a4 := Int32.not_lt.mpr c_107_5
                      have q166 : ¬ g 3 0 < hd (g 6 i) := by rw [es9]; exact Int32.not_lt.mpr c_166_9
                      exact x_ret S hr hlocks hS hW (by simp [sp_cut, cutok_hrm, q107, q77, q166, h9, ti, c_30, c_42_1, c_55_2, c_97_4, c_122_6, c_137_8]) ⟨rfl, rfl, rfl⟩ ⟨Nat.le_of_ble_eq_true rfl, Nat.le_of_ble_eq_true rfl⟩ dX5_cut_250
                    · have q166 : g 3 0 < hd (g 6 i) := by rw [es9]; exact Int32.not_le.mp c_166_9
                      exact g_throw 63 154 67 xS _ 3 exS S hst hE hS hW (show (154, "the saw is not sharp enough") ∈ strL by decide +kernel) hl.1 hno hlocks dX5_cut_169 dX5_cut_172 dX5_cut_173 dX5_cut_175 dX5_cut_178 ⟨Nat.le_of_ble_eq_true rfl, Nat.le_of_ble_eq_true rfl, Nat.le_of_ble_eq_true rfl, Nat.le_of_ble_eq_true rfl⟩ ⟨Nat.le_of_ble_eq_true rfl, Nat.le_of_ble_eq_true rfl⟩ ⟨by simp [sp_cut, cutok_hrm, q166, h9, ti, c_30, c_42_1, c_55_2, c_77_3, c_97_4, c_107_5, c_122_6, c_137_8], by decide⟩ (by decide +kernel)
                  · have q122 : a5 = 0 := by simpa using c_122_6
                    exact g_throw 63 146 67 xS _ 3 exS S hst hE hS hW (show (146, "the part would have a knot that is not hidden") ∈ strL by decide +kernel) hl.1 hno hlocks dX5_cut_140 dX5_cut_143 dX5_cut_144 dX5_cut_146 dX5_cut_149 ⟨Nat.le_of_ble_eq_true rfl, Nat.le_of_ble_eq_true rfl, Nat.le_of_ble_eq_true rfl, Nat.le_of_ble_eq_true rfl⟩ ⟨Nat.le_of_ble_eq_true rfl, Nat.le_of_ble_eq_true rfl⟩ ⟨by simp [sp_cut, cutok_hrm, q122, h9, ti, c_30, c_42_1, c_55_2, c_77_3, c_97_4, c_107_5, c_137_8], by decide⟩ (by decide +kernel)
              · have q107 : bWd g i < a4 := Int32.not_le.mp c_107_5
                exact g_throw 63 144 67 xS _ 3 exS S hst hE hS hW (show (144, "the board has no room for it") ∈ strL by decide +kernel) hl.1 hno hlocks dX5_cut_110 dX5_cut_113 dX5_cut_114 dX5_cut_116 dX5_cut_119 ⟨Nat.le_of_ble_eq_true rfl, Nat.le_of_ble_eq_true rfl, Nat.le_of_ble_eq_true rfl, Nat.le_of_ble_eq_true rfl⟩ ⟨Nat.le_of_ble_eq_true rfl, Nat.le_of_ble_eq_true rfl⟩ ⟨by simp [sp_cut, cutok_hrm, q107, h9, ti, c_30, c_42_1, c_55_2, c_77_3, c_97_4], by decide⟩ (by decide +kernel)
          · have q77 : ¬ np g < 40 := by omega
            exact g_throw 63 135 67 xS _ 3 exS S hst hE hS hW (show (135, "there are 40 parts") ∈ strL by decide +kernel) hl.1 hno hlocks dX5_cut_80 dX5_cut_83 dX5_cut_84 dX5_cut_86 dX5_cut_89 ⟨Nat.le_of_ble_eq_true rfl, Nat.le_of_ble_eq_true rfl, Nat.le_of_ble_eq_true rfl, Nat.le_of_ble_eq_true rfl⟩ ⟨Nat.le_of_ble_eq_true rfl, Nat.le_of_ble_eq_true rfl⟩ ⟨by simp [sp_cut, cutok_hrm, q77, h9, ti, c_30, c_42_1, c_55_2], by decide⟩ (by decide +kernel)
        · exact g_throw 56 133 60 xA _ 2 exA S hst hE hS hW (show (133, "from, length or width is out of its range") ∈ strL by decide +kernel) hl.1 hno hlocks dX5_cut_58 dX5_cut_61 dX5_cut_62 dX5_cut_64 dX5_cut_67 ⟨Nat.le_of_ble_eq_true rfl, Nat.le_of_ble_eq_true rfl, Nat.le_of_ble_eq_true rfl, Nat.le_of_ble_eq_true rfl⟩ ⟨Nat.le_of_ble_eq_true rfl, Nat.le_of_ble_eq_true rfl⟩ ⟨by simp [sp_cut, h9, ti, c_30, c_42_1, c_55_2], by decide⟩ (by decide +kernel)
  · replace h9 : isB g a1 = false := by simpa using h9
    refine lv_aload_n hx hb dX5_cut_0 rfl (lv_at hl 0 rfl) ?_
    refine lv_iload_n hx hb dX5_cut_1 rfl (lv_at hl 1 rfl) ?_
    refine g_callVq (As := [.int a1]) (rest := []) S hE hS (c_findBoard_n l z w g gm o hO (a1) h9) (cwV 1 hts (gU_V tw_413 tw_415 tp_8 tw_1 tw_416) rfl rfl rfl (by decide +kernel) ⟨Nat.le_of_ble_eq_true rfl, Nat.le_of_ble_eq_true rfl⟩) (hE.recv hW.sh (q := (RX5, TX5, 8)) rfl) hW rfl hl.1 rfl (Nat.le_of_ble_eq_true rfl) dX5_cut_2 ⟨Nat.zero_le _, Nat.zero_le _⟩ ?_
    rw [show va_rf none = .null from rfl]
    refine lv_astoreN (lv' := [(6, .null), (0, .ref (wad w 0 (0))), (1, .int a1), (2, .int a2), (3, .int a3), (4, .int a4), (5, .int a5)]) hx hb dX5_cut_5 hl (by decide) rfl (fun ls hl => ?_)
    refine lv_aloadN hx hb dX5_cut_7 (lv_at hl 0 rfl) ?_
    refine lv_ifnonnullN hx hb dX5_cut_9 ?_
    exact g_throw 45 107 49 xI _ 1 exI S hst hE hS hW (show (107, "there is no such board") ∈ strL by decide +kernel) hl.1 hno hlocks dX5_cut_12 dX5_cut_15 dX5_cut_16 dX5_cut_18 dX5_cut_21 ⟨Nat.le_of_ble_eq_true rfl, Nat.le_of_ble_eq_true rfl, Nat.le_of_ble_eq_true rfl, Nat.le_of_ble_eq_true rfl⟩ ⟨Nat.le_of_ble_eq_true rfl, Nat.le_of_ble_eq_true rfl⟩ ⟨by simp [sp_cut, h9], by decide⟩ (by decide +kernel)
