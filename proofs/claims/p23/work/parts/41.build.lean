/-! ===== the shop, the calls that build ===== -/
set_option maxHeartbeats 4000000 in
set_option maxRecDepth 100000 in
/-- joint(kind, part, other, size, tongue) -/
theorem c_X5_joint (l : Launch) (z : ZE) (hst : l.stackTraces = false) (w : WG) (g gm : GS) (o : Nat → Int64) (hO : OKg g) (kd p9 q9 sz tg : Int32) : vx_Met l yX5_joint (.code yX5_joint cX5_joint 10 (some .int) :: wU) ({ frames := 7, cells := 2, slots := 109, locals := 191 }) (PE z [.ref (wad w 0 (0)), .int kd, .int p9, .int q9, .int sz, .int tg] (fun H => WW z w g gm o H)) (xQ z w gm o (sp_joint g kd p9 q9 sz tg)) (xX z w g gm o (sp_joint g kd p9 q9 sz tg) xI xA xS) 2 109 (zA z) := by
  refine vx_ofW (cc := cX5_joint) (maxL := 10) (ret := (some .int)) (by decide) rfl ?_
  intro p e s m args below meth c s₁ BD hml hno hv
  obtain ⟨rfl, hE, hW⟩ := hv
  have hts : ∀ w ∈ wU, w.before _ s = true := fun w h => atoms_spec (ws := .code yX5_joint cX5_joint 10 (some .int) :: wU) BD.pre w (List.mem_cons_of_mem _ h)
  have S : CallFix p m c cX5_joint 10 s ([.ref (wad w 0 (0)), .int kd, .int p9, .int q9, .int sz, .int tg] : List Value).toArray wU RX5 := ⟨BD.exec, BD.bytes, hml, findClass_of_methodNamed BD.named, hts⟩
  have hx := S.1
  have hb := S.2.1
  have hown := S.2.2.2.1
  have hr := BD.returns
  have hlocks := BD.notSynchronized
  have hS : va_S (zA z) s.heap s.heap [] := va_S.rf
  have hl := lv_entry ([.ref (wad w 0 (0)), .int kd, .int p9, .int q9, .int sz, .int tg]) (n := 10) (Nat.le_of_ble_eq_true rfl)
  rw [lg_entry_eq]
  generalize (lg_sl ([.ref (wad w 0 (0)), .int kd, .int p9, .int q9, .int sz, .int tg]) ++ List.replicate (10 - (lg_sl ([.ref (wad w 0 (0)), .int kd, .int p9, .int q9, .int sz, .int tg])).length) Slot.unset).toArray = ls at hl ⊢
  have hl : lv_has ls 10 [(0, .ref (wad w 0 (0))), (1, .int kd), (2, .int p9), (3, .int q9), (4, .int sz), (5, .int tg)] := hl
  have h20 := hO.l5
  have h40 := hO.l16
  have h30 := hO.l24
  by_cases h9 : isP g p9 = true
  · obtain ⟨i, hi, rfl⟩ := wi_lt (by omega) h9
    have ti : tN (nI i) = i := tNn (by omega)
    obtain ⟨s9, hs9, es9⟩ := hO.sp (hO.l17 hi)
    refine lv_aload_n hx hb dX5_joint_0 rfl (lv_at hl 0 rfl) ?_
    refine lv_iload_n hx hb dX5_joint_1 rfl (lv_at hl 2 rfl) ?_
    refine g_callVq (As := [.int (nI i)]) (rest := []) S hE hS (c_findPart_y l z w g gm o hO (i) (by omega)) (cwV 1 hts (gU_V tw_494 tw_496 tp_9 tw_1 tw_497) rfl rfl rfl (by decide +kernel) ⟨Nat.le_of_ble_eq_true rfl, Nat.le_of_ble_eq_true rfl⟩) (hE.recv hW.sh (q := (RX5, TX5, 8)) rfl) hW rfl hl.1 rfl (Nat.le_of_ble_eq_true rfl) dX5_joint_2 ⟨Nat.zero_le _, Nat.zero_le _⟩ ?_
    rw [show va_rf (some (wad w 3 (i))) = .ref (wad w 3 (i)) from rfl]
    refine lv_astore (lv' := [(6, .ref (wad w 3 (i))), (0, .ref (wad w 0 (0))), (1, .int kd), (2, .int (nI i)), (3, .int q9), (4, .int sz), (5, .int tg)]) hx hb dX5_joint_5 hl (by decide) rfl (fun ls hl => ?_)
    by_cases h8 : isP g q9 = true
    · obtain ⟨j, hj, rfl⟩ := wi_lt (by omega) h8
      have tj : tN (nI j) = j := tNn (by omega)
      refine lv_aload_n hx hb dX5_joint_7 rfl (lv_at hl 1 rfl) ?_
      refine lv_iload_n hx hb dX5_joint_8 rfl (lv_at hl 4 rfl) ?_
      refine g_callVq (As := [.int (nI j)]) (rest := []) S hE hS (c_findPart_y l z w g gm o hO (j) (by omega)) (cwV 1 hts (gU_V tw_494 tw_496 tp_9 tw_1 tw_497) rfl rfl rfl (by decide +kernel) ⟨Nat.le_of_ble_eq_true rfl, Nat.le_of_ble_eq_true rfl⟩) (hE.recv hW.sh (q := (RX5, TX5, 8)) rfl) hW rfl hl.1 rfl (Nat.le_of_ble_eq_true rfl) dX5_joint_9 ⟨Nat.zero_le _, Nat.zero_le _⟩ ?_
      rw [show va_rf (some (wad w 3 (j))) = .ref (wad w 3 (j)) from rfl]
      refine lv_astore (lv' := [(7, .ref (wad w 3 (j))), (6, .ref (wad w 3 (i))), (0, .ref (wad w 0 (0))), (1, .int kd), (2, .int (nI i)), (3, .int (nI j)), (4, .int sz), (5, .int tg)]) hx hb dX5_joint_12 hl (by decide) rfl (fun ls hl => ?_)
      refine lv_aload hx hb dX5_joint_14 (lv_at hl 1 rfl) ?_
      refine lv_ifnull hx hb dX5_joint_16 ?_
      refine lv_aload hx hb dX5_joint_19 (lv_at hl 0 rfl) ?_
      refine lv_ifnonnull (tgt := 34) hx hb dX5_joint_21 (by decide) ?_
      refine lv_iload_n hx hb dX5_joint_34 rfl (lv_at hl 3 rfl) ?_
      refine lv_iconst (v := 0) hx hb dX5_joint_35 (by decide) ?_
      refine lv_iconst (v := 2) hx hb dX5_joint_36 (by decide) ?_
      refine g_callS (As := [.int kd, .int 0, .int 2]) (rest := []) S hE hS (c_X5_isWithin l z (kd) (0) (2)) (cwS 3 hts (gU_S tw_158 tw_159 tw_1 tw_160) rfl rfl rfl (by decide +kernel) ⟨Nat.le_of_ble_eq_true rfl, Nat.le_of_ble_eq_true rfl⟩) trivial rfl hl.1 rfl (Nat.le_of_ble_eq_true rfl) dX5_joint_37 ⟨Nat.zero_le _, Nat.zero_le _⟩ ?_
      refine g_if_eq S (tgt := 65) dX5_joint_40 (by decide) (fun c_40 => ?_) (fun c_40 => ?_)
      · exact g_throw 56 203 60 xA _ 2 exA S hst hE hS hW (show (203, "kind, size or tongue is out of its range") ∈ strL by decide +kernel) hl.1 hno hlocks dX5_joint_65 dX5_joint_68 dX5_joint_69 dX5_joint_71 dX5_joint_74 ⟨Nat.le_of_ble_eq_true rfl, Nat.le_of_ble_eq_true rfl, Nat.le_of_ble_eq_true rfl, Nat.le_of_ble_eq_true rfl⟩ ⟨Nat.le_of_ble_eq_true rfl, Nat.le_of_ble_eq_true rfl⟩ ⟨by simp [sp_joint, h9, ti, h8, tj, c_40], by decide⟩ (by decide +kernel)
      · refine lv_iload hx hb dX5_joint_43 (lv_at hl 6 rfl) ?_
        refine lv_bipush (v := 10) hx hb dX5_joint_45 (by decide) ?_
        refine lv_sipush (v := 30000) hx hb dX5_joint_47 (by decide) ?_
        refine g_callS (As := [.int sz, .int 10, .int 30000]) (rest := []) S hE hS (c_X5_isWithin l z (sz) (10) (30000)) (cwS 3 hts (gU_S tw_158 tw_159 tw_1 tw_160) rfl rfl rfl (by decide +kernel) ⟨Nat.le_of_ble_eq_true rfl, Nat.le_of_ble_eq_true rfl⟩) trivial rfl hl.1 rfl (Nat.le_of_ble_eq_true rfl) dX5_joint_50 ⟨Nat.zero_le _, Nat.zero_le _⟩ ?_
        refine g_if_eq S (tgt := 65) dX5_joint_53 (by decide) (fun c_53_1 => ?_) (fun c_53_1 => ?_)
        · exact g_throw 56 203 60 xA _ 2 exA S hst hE hS hW (show (203, "kind, size or tongue is out of its range") ∈ strL by decide +kernel) hl.1 hno hlocks dX5_joint_65 dX5_joint_68 dX5_joint_69 dX5_joint_71 dX5_joint_74 ⟨Nat.le_of_ble_eq_true rfl, Nat.le_of_ble_eq_true rfl, Nat.le_of_ble_eq_true rfl, Nat.le_of_ble_eq_true rfl⟩ ⟨Nat.le_of_ble_eq_true rfl, Nat.le_of_ble_eq_true rfl⟩ ⟨by simp [sp_joint, h9, ti, h8, tj, c_40, c_53_1], by decide⟩ (by decide +kernel)
        · refine lv_iload_n hx hb dX5_joint_56 rfl (lv_at hl 3 rfl) ?_
          refine lv_iload hx hb dX5_joint_57 (lv_at hl 7 rfl) ?_
          refine g_callS (As := [.int kd, .int tg]) (rest := []) S hE hS (c_X5_isTongue l z (kd) (tg)) (cwS 2 hts (gU_S tw_504 tw_505 tw_1 tw_506) rfl rfl rfl (by decide +kernel) ⟨Nat.le_of_ble_eq_true rfl, Nat.le_of_ble_eq_true rfl⟩) trivial rfl hl.1 rfl (Nat.le_of_ble_eq_true rfl) dX5_joint_59 ⟨Nat.zero_le _, Nat.zero_le _⟩ ?_
          refine g_if_ne S (tgt := 75) dX5_joint_62 (by decide) (fun c_62_2 => ?_) (fun c_62_2 => ?_)
          · refine lv_iload_n hx hb dX5_joint_75 rfl (lv_at hl 4 rfl) ?_
            refine lv_iload_n hx hb dX5_joint_76 rfl (lv_at hl 5 rfl) ?_
            refine g_icmp_ne S (by omega) (by omega) (tgt := 90) dX5_joint_77 (by decide) (fun c_77_3 => ?_) (fun c_77_3 => ?_)
            · refine lv_aload_n hx hb dX5_joint_90 rfl (lv_at hl 2 rfl) ?_
              refine g_get S hE hW.sh (C := RX5) (T := TX5) (N := 8) (v := .ref (wad w 5 (2))) rfl inU5 2 (by decide) tw_62 (Or.inl rfl) rfl dX5_joint_91 ?_
              refine g_callV (As := []) (rest := []) S hE hS (c_sizeJ l z w g gm o) (cwV 0 hts (gU_V tw_209 tw_210 tw_211 tw_4 tw_212) rfl rfl rfl (by decide +kernel) ⟨Nat.le_of_ble_eq_true rfl, Nat.le_of_ble_eq_true rfl⟩) (hE.recv (hW.lst (i := 2) (show 2 < 3 + 2 * nb g by omega)) (q := (RJx4a65c, TJx4a65c, 3)) rfl) hW rfl hl.1 rfl (Nat.le_of_ble_eq_true rfl) dX5_joint_94 ⟨Nat.zero_le _, Nat.zero_le _⟩ ?_
              refine lv_bipush (v := 30) hx hb dX5_joint_97 (by decide) ?_
              rw [show (30 : Int32) = nI 30 from rfl]
              refine g_icmp_lt S (by omega) (by omega) (tgt := 112) dX5_joint_99 (by decide) (fun c_99_4 => ?_) (fun c_99_4 => ?_)
              · obtain ⟨k9, hk9, rfl⟩ := wi_nat (n := 2) (by decide) c_40
                refine lv_iload_n hx hb dX5_joint_112 rfl (lv_at hl 3 rfl) ?_
                refine lv_aload hx hb dX5_joint_113 (lv_at hl 1 rfl) ?_
                refine lv_iload hx hb dX5_joint_115 (lv_at hl 6 rfl) ?_
                refine lv_iload hx hb dX5_joint_117 (lv_at hl 7 rfl) ?_
                refine g_callS (As := [.int (nI k9), .ref (wad w 3 (i)), .int sz, .int tg]) (rest := []) S hE hS (c_X5_fits l z w g gm o hO (k9) (by omega) (i) (by omega) (sz) (tg)) (cwS 4 hts (gU_S tw_510 tw_511 tw_1 tw_512) rfl rfl rfl (by decide +kernel) ⟨Nat.le_of_ble_eq_true rfl, Nat.le_of_ble_eq_true rfl⟩) hW rfl hl.1 rfl (Nat.le_of_ble_eq_true rfl) dX5_joint_119 ⟨Nat.zero_le _, Nat.zero_le _⟩ ?_
                refine g_if_ne S (tgt := 135) dX5_joint_122 (by decide) (fun c_122_5 => ?_) (fun c_122_5 => ?_)
                · refine lv_aload hx hb dX5_joint_135 (lv_at hl 1 rfl) ?_
                  refine g_get S hE (hW.pt (i := i) (show i < np g by omega)) (C := RX2) (T := TX2) (N := 9) (v := .int (nI s9)) rfl inU2 0 (by decide) tw_316 (Or.inr tw_317) (by rw [← es9]; rfl) dX5_joint_137 ?_
                  refine g_callS (As := [.int (nI s9)]) (rest := []) S hE hS (c_X5_hardnessOf l z (s9) (by omega)) (cwS 1 hts (gU_S tw_442 tw_443 tw_1 tw_444) rfl rfl rfl (by decide +kernel) ⟨Nat.le_of_ble_eq_true rfl, Nat.le_of_ble_eq_true rfl⟩) trivial rfl hl.1 rfl (Nat.le_of_ble_eq_true rfl) dX5_joint_140 ⟨Nat.zero_le _, Nat.zero_le _⟩ ?_
                  refine lv_istore (lv' := [(8, .int (hd (nI s9))), (7, .ref (wad w 3 (j))), (6, .ref (wad w 3 (i))), (0, .ref (wad w 0 (0))), (1, .int (nI k9)), (2, .int (nI i)), (3, .int (nI j)), (4, .int sz), (5, .int tg)]) hx hb dX5_joint_143 hl (by decide) rfl (fun ls hl => ?_)
                  refine lv_aload_n hx hb dX5_joint_145 rfl (lv_at hl 3 rfl) ?_
                  refine g_get S hE hW.sh (C := RX5) (T := TX5) (N := 8) (v := .int (g 3 1)) rfl inU5 6 (by decide) tw_66 (Or.inl rfl) rfl dX5_joint_146 ?_
                  refine lv_iload hx hb dX5_joint_149 (lv_at hl 0 rfl) ?_
                  refine lv_icmp_ge (tgt := 164) hx hb dX5_joint_151 (by decide) (fun c_151_6 => ?_) (fun c_151_6 => ?_)
                  · refine lv_aload_n hx hb dX5_joint_164 rfl (lv_at hl 3 rfl) ?_
                    refine lv_dup hx hb dX5_joint_165 rfl ?_
                    refine g_get S hE hW.sh (C := RX5) (T := TX5) (N := 8) (v := .int (g 3 1)) rfl inU5 6 (by decide) tw_66 (Or.inl rfl) rfl dX5_joint_166 ?_
                    refine lv_iload hx hb dX5_joint_169 (lv_at hl 0 rfl) ?_
                    refine lv_isub hx hb dX5_joint_171 ?_
                    refine g_put S hE hS hW.sh (hW.2.2.1 0 0 rfl) (C := RX5) (T := TX5) (N := 8) rfl inU5 tyX5 tyX5_ok nmX5 6 (by decide) tw_66 (Or.inl rfl) (Or.inl rfl) (v := .int ((g 3 1) - (hd (nI s9)))) rfl rfl (Nat.le_of_ble_eq_true rfl) dX5_joint_172 (fun H locs he oq _ hS => ?_)
                    replace hW := hW.us31 he oq
                    refine lv_aload_n hx hb dX5_joint_175 rfl (lv_at hl 3 rfl) ?_
                    refine g_get S hE hW.sh (C := RX5) (T := TX5) (N := 8) (v := .ref (wad w 5 (2))) rfl inU5 2 (by decide) tw_62 (Or.inl rfl) rfl dX5_joint_176 ?_
                    refine g_callV (As := []) (rest := []) S hE hS (c_sizeJ l z w ((gup g 3 (1) ((g 3 1) - (hd (nI s9))))) gm o) (cwV 0 hts (gU_V tw_209 tw_210 tw_211 tw_4 tw_212) rfl rfl rfl (by decide +kernel) ⟨Nat.le_of_ble_eq_true rfl, Nat.le_of_ble_eq_true rfl⟩) (hE.recv (hW.lst (i := 2) (show 2 < 3 + 2 * nb g by omega)) (q := (RJx4a65c, TJx4a65c, 3)) rfl) hW rfl hl.1 rfl (Nat.le_of_ble_eq_true rfl) dX5_joint_179 ⟨Nat.zero_le _, Nat.zero_le _⟩ ?_
                    rw [show nj ((gup g 3 (1) ((g 3 1) - (hd (nI s9))))) = nj g from rfl]
                    refine lv_istore (lv' := [(9, .int (nI (nj g))), (8, .int (hd (nI s9))), (7, .ref (wad w 3 (j))), (6, .ref (wad w 3 (i))), (0, .ref (wad w 0 (0))), (1, .int (nI k9)), (2, .int (nI i)), (3, .int (nI j)), (4, .int sz), (5, .int tg)]) hx hb dX5_joint_182 hl (by decide) rfl (fun ls hl => ?_)
                    have hO9 : OKg (gup g 3 (1) ((g 3 1) - (hd (nI s9)))) := hO
                    refine lv_aload_n hx hb dX5_joint_184 rfl (lv_at hl 4 rfl) ?_
                    refine g_get S hE hW.sh (C := RX5) (T := TX5) (N := 8) (v := .ref (wad w 5 (2))) rfl inU5 2 (by decide) tw_62 (Or.inl rfl) rfl dX5_joint_185 ?_
                    have hzz : zB z ≤ H.size := Nat.le_trans hE.2.2.2.2.1 hS.1
                    obtain ⟨x1, hx1⟩ : ∃ x : Nat, H.size = x := ⟨_, rfl⟩
                    refine g_new S hE hS (C := RX1) (T := TX1) (N := 9) (ci := 2) rfl inU1 tyX1 tyX1_ok tw_251 tw_518 tw_21 (fs := [.int 0, .null, .null, .int 0, .int 0, .int 0, .int 0, .int 0, .int 0]) (fun j hj => by match j, hj with | 0, _ => rfl | 1, _ => rfl | 2, _ => rfl | 3, _ => rfl | 4, _ => rfl | 5, _ => rfl | 6, _ => rfl | 7, _ => rfl | 8, _ => rfl) ⟨Nat.le_of_ble_eq_true rfl, Nat.le_of_ble_eq_true rfl⟩ dX5_joint_188 hx1 (fun K1 hv1 zq1 oq1 hS => ?_)
                    have hf1 : ∀ y : Nat, y < H.size → K1[y]? = H[y]? := fun y hy => oq1 y (by omega)
                    refine lv_dup hx hb dX5_joint_191 rfl ?_
                    refine lv_iload_n hx hb dX5_joint_192 rfl (lv_at hl 5 rfl) ?_
                    refine lv_aload hx hb dX5_joint_193 (lv_at hl 3 rfl) ?_
                    refine lv_aload hx hb dX5_joint_195 (lv_at hl 2 rfl) ?_
                    refine lv_iload hx hb dX5_joint_197 (lv_at hl 8 rfl) ?_
                    refine lv_iload hx hb dX5_joint_199 (lv_at hl 9 rfl) ?_
                    refine g_init (As := [.int (nI k9), .ref (wad w 3 (i)), .ref (wad w 3 (j)), .int sz, .int tg]) (rest := [.ref (x1), .ref (wad w 5 (2))]) S hE hS (c_X1_init l z x1 (.int 0) (.null) (.null) (.int 0) (.int 0) (.int 0) (.int 0) (.int 0) (.int 0) (nI k9) (sz) (tg) (wad w 3 (i)) (wad w 3 (j))) (x_cwI 5 hts tw_519 tw_520 tw_21 tw_521 rfl rfl (by decide +kernel) ⟨Nat.le_of_ble_eq_true rfl, Nat.le_of_ble_eq_true rfl⟩ rfl) ⟨(show zB z ≤ x1 by omega), hv1⟩ rfl hl.1 rfl (Nat.le_of_ble_eq_true rfl) dX5_joint_201 ⟨Nat.le_of_ble_eq_true rfl, Nat.le_of_ble_eq_true rfl⟩ (fun y _ (e9 : y = x1) => by omega) (fun K2 locs hv1 hz1 ho1 hS => ?_)
                    replace hf1 : ∀ y : Nat, y < H.size → K2[y]? = H[y]? := fun y hy => (ho1 y (by omega) (show ¬ y = x1 by omega)).trans (hf1 y hy)
                    refine x_addW (rest := []) (g := (gup g 3 (1) ((g 3 1) - (hd (nI s9))))) S hE hS hO9 hW (show H.size ≤ K2.size by omega) (2) (by first | omega | exact hi9) (k0 := 4) (ci := 2) rfl (by decide +kernel) rfl (fun j => ⟨_, rfl⟩) (fun k j hl _ => hf1 _ (hW.1 k j hl).lt) hv1 (by omega) (show nj g ≤ 60 by omega) hl.1 (Nat.le_of_ble_eq_true rfl) dX5_joint_204 ⟨Nat.le_of_ble_eq_true rfl, Nat.le_of_ble_eq_true rfl⟩ ⟨Nat.le_of_ble_eq_true rfl, Nat.le_of_ble_eq_true rfl⟩ (fun K3 locs e1 cap1 f1 he1 hl51 hl61 hc1 hfo1 hfn1 hza1 hoa1 hS => ?_)
                    have hW9 := hW
                    have hlt5 : wad w 5 (2) < H.size := (hW.lst (i := 2) (by omega)).lt
                    have hlt6 : 0 < nj g → wad w 6 (2) < H.size := fun h0 => (hW.arr (i := 2) (by omega) h0).lt
                    replace hW := ww_joint (kd := nI k9) (sz := sz) (tg := tg) hO9 hW9 hzz (show nj g < 30 by omega) hi hj hx1.symm (hv1.kept (hoa1 x1 (by omega) (by omega) (fun h0 => by have := hlt6 h0; omega))) (he1.imp id (fun h => by omega)) hl51 hl61 hc1 hfo1 hfn1 (fun y hy h1 h2 => (hoa1 y (by omega) h1 h2).trans (hf1 y hy))
                    rw [es9.symm, jst_eq] at hW
                    refine lv_pop hx hb dX5_joint_207 rfl ?_
                    refine lv_iload hx hb dX5_joint_208 (lv_at hl 0 rfl) ?_
                    have hij : ¬ nI i = nI j := fun q => c_77_3 ((nI_eq (by omega) (by omega)).mp q)
                    have q30 : ¬ nj g = 30 := by omega
                    exact x_ret S hr hlocks hS hW (by simp [sp_joint, hij, q30, es9, h9, ti, h8, tj, c_40, c_53_1, c_62_2, c_77_3, c_99_4, c_122_5, c_151_6]) ⟨rfl, rfl, rfl⟩ ⟨Nat.le_of_ble_eq_true rfl, Nat.le_of_ble_eq_true rfl⟩ dX5_joint_210
                  · have hij : ¬ nI i = nI j := fun q => c_77_3 ((nI_eq (by omega) (by omega)).mp q)
                    have q30 : ¬ nj g = 30 := by omega
                    exact g_throw 63 214 67 xS _ 3 exS S hst hE hS hW (show (214, "the chisel is not sharp enough") ∈ strL by decide +kernel) hl.1 hno hlocks dX5_joint_154 dX5_joint_157 dX5_joint_158 dX5_joint_160 dX5_joint_163 ⟨Nat.le_of_ble_eq_true rfl, Nat.le_of_ble_eq_true rfl, Nat.le_of_ble_eq_true rfl, Nat.le_of_ble_eq_true rfl⟩ ⟨Nat.le_of_ble_eq_true rfl, Nat.le_of_ble_eq_true rfl⟩ ⟨by simp [sp_joint, hij, q30, es9, h9, ti, h8, tj, c_40, c_53_1, c_62_2, c_77_3, c_99_4, c_122_5, c_151_6], by decide⟩ (by decide +kernel)
                · have hij : ¬ nI i = nI j := fun q => c_77_3 ((nI_eq (by omega) (by omega)).mp q)
                  have q30 : ¬ nj g = 30 := by omega
                  exact g_throw 63 211 67 xS _ 3 exS S hst hE hS hW (show (211, "the size does not fit") ∈ strL by decide +kernel) hl.1 hno hlocks dX5_joint_125 dX5_joint_128 dX5_joint_129 dX5_joint_131 dX5_joint_134 ⟨Nat.le_of_ble_eq_true rfl, Nat.le_of_ble_eq_true rfl, Nat.le_of_ble_eq_true rfl, Nat.le_of_ble_eq_true rfl⟩ ⟨Nat.le_of_ble_eq_true rfl, Nat.le_of_ble_eq_true rfl⟩ ⟨by simp [sp_joint, hij, q30, h9, ti, h8, tj, c_40, c_53_1, c_62_2, c_77_3, c_99_4, c_122_5], by decide⟩ (by decide +kernel)
              · have hij : ¬ nI i = nI j := fun q => c_77_3 ((nI_eq (by omega) (by omega)).mp q)
                have q30 : nj g = 30 := by omega
                exact g_throw 63 205 67 xS _ 3 exS S hst hE hS hW (show (205, "there are 30 joints") ∈ strL by decide +kernel) hl.1 hno hlocks dX5_joint_102 dX5_joint_105 dX5_joint_106 dX5_joint_108 dX5_joint_111 ⟨Nat.le_of_ble_eq_true rfl, Nat.le_of_ble_eq_true rfl, Nat.le_of_ble_eq_true rfl, Nat.le_of_ble_eq_true rfl⟩ ⟨Nat.le_of_ble_eq_true rfl, Nat.le_of_ble_eq_true rfl⟩ ⟨by simp [sp_joint, hij, q30, h9, ti, h8, tj, c_40, c_53_1, c_62_2, c_77_3, c_99_4], by decide⟩ (by decide +kernel)
            · obtain rfl : i = j := by omega
              exact g_throw 56 183 60 xA _ 2 exA S hst hE hS hW (show (183, "both parts are the same") ∈ strL by decide +kernel) hl.1 hno hlocks dX5_joint_80 dX5_joint_83 dX5_joint_84 dX5_joint_86 dX5_joint_89 ⟨Nat.le_of_ble_eq_true rfl, Nat.le_of_ble_eq_true rfl, Nat.le_of_ble_eq_true rfl, Nat.le_of_ble_eq_true rfl⟩ ⟨Nat.le_of_ble_eq_true rfl, Nat.le_of_ble_eq_true rfl⟩ ⟨by simp [sp_joint, h9], by decide⟩ (by decide +kernel)
          · exact g_throw 56 203 60 xA _ 2 exA S hst hE hS hW (show (203, "kind, size or tongue is out of its range") ∈ strL by decide +kernel) hl.1 hno hlocks dX5_joint_65 dX5_joint_68 dX5_joint_69 dX5_joint_71 dX5_joint_74 ⟨Nat.le_of_ble_eq_true rfl, Nat.le_of_ble_eq_true rfl, Nat.le_of_ble_eq_true rfl, Nat.le_of_ble_eq_true rfl⟩ ⟨Nat.le_of_ble_eq_true rfl, Nat.le_of_ble_eq_true rfl⟩ ⟨by simp [sp_joint, h9, ti, h8, tj, c_40, c_53_1, c_62_2], by decide⟩ (by decide +kernel)
    · replace h8 : isP g q9 = false := by simpa using h8
      refine lv_aload_n hx hb dX5_joint_7 rfl (lv_at hl 1 rfl) ?_
      refine lv_iload_n hx hb dX5_joint_8 rfl (lv_at hl 4 rfl) ?_
      refine g_callVq (As := [.int q9]) (rest := []) S hE hS (c_findPart_n l z w g gm o hO (q9) h8) (cwV 1 hts (gU_V tw_494 tw_496 tp_9 tw_1 tw_497) rfl rfl rfl (by decide +kernel) ⟨Nat.le_of_ble_eq_true rfl, Nat.le_of_ble_eq_true rfl⟩) (hE.recv hW.sh (q := (RX5, TX5, 8)) rfl) hW rfl hl.1 rfl (Nat.le_of_ble_eq_true rfl) dX5_joint_9 ⟨Nat.zero_le _, Nat.zero_le _⟩ ?_
      rw [show va_rf none = .null from rfl]
      refine lv_astoreN (lv' := [(7, .null), (6, .ref (wad w 3 (i))), (0, .ref (wad w 0 (0))), (1, .int kd), (2, .int (nI i)), (3, .int q9), (4, .int sz), (5, .int tg)]) hx hb dX5_joint_12 hl (by decide) rfl (fun ls hl => ?_)
      refine lv_aload hx hb dX5_joint_14 (lv_at hl 1 rfl) ?_
      refine lv_ifnull hx hb dX5_joint_16 ?_
      refine lv_aloadN hx hb dX5_joint_19 (lv_at hl 0 rfl) ?_
      refine lv_ifnonnullN hx hb dX5_joint_21 ?_
      exact g_throw 45 176 49 xI _ 1 exI S hst hE hS hW (show (176, "there is no such part") ∈ strL by decide +kernel) hl.1 hno hlocks dX5_joint_24 dX5_joint_27 dX5_joint_28 dX5_joint_30 dX5_joint_33 ⟨Nat.le_of_ble_eq_true rfl, Nat.le_of_ble_eq_true rfl, Nat.le_of_ble_eq_true rfl, Nat.le_of_ble_eq_true rfl⟩ ⟨Nat.le_of_ble_eq_true rfl, Nat.le_of_ble_eq_true rfl⟩ ⟨by simp [sp_joint, h9, ti, h8], by decide⟩ (by decide +kernel)
  · replace h9 : isP g p9 = false := by simpa using h9
    refine lv_aload_n hx hb dX5_joint_0 rfl (lv_at hl 0 rfl) ?_
    refine lv_iload_n hx hb dX5_joint_1 rfl (lv_at hl 2 rfl) ?_
    refine g_callVq (As := [.int p9]) (rest := []) S hE hS (c_findPart_n l z w g gm o hO (p9) h9) (cwV 1 hts (gU_V tw_494 tw_496 tp_9 tw_1 tw_497) rfl rfl rfl (by decide +kernel) ⟨Nat.le_of_ble_eq_true rfl, Nat.le_of_ble_eq_true rfl⟩) (hE.recv hW.sh (q := (RX5, TX5, 8)) rfl) hW rfl hl.1 rfl (Nat.le_of_ble_eq_true rfl) dX5_joint_2 ⟨Nat.zero_le _, Nat.zero_le _⟩ ?_
    rw [show va_rf none = .null from rfl]
    refine lv_astoreN (lv' := [(6, .null), (0, .ref (wad w 0 (0))), (1, .int kd), (2, .int p9), (3, .int q9), (4, .int sz), (5, .int tg)]) hx hb dX5_joint_5 hl (by decide) rfl (fun ls hl => ?_)
    by_cases h8 : isP g q9 = true
    · obtain ⟨j, hj, rfl⟩ := wi_lt (by omega) h8
      have tj : tN (nI j) = j := tNn (by omega)
      refine lv_aload_n hx hb dX5_joint_7 rfl (lv_at hl 1 rfl) ?_
      refine lv_iload_n hx hb dX5_joint_8 rfl (lv_at hl 4 rfl) ?_
      refine g_callVq (As := [.int (nI j)]) (rest := []) S hE hS (c_findPart_y l z w g gm o hO (j) (by omega)) (cwV 1 hts (gU_V tw_494 tw_496 tp_9 tw_1 tw_497) rfl rfl rfl (by decide +kernel) ⟨Nat.le_of_ble_eq_true rfl, Nat.le_of_ble_eq_true rfl⟩) (hE.recv hW.sh (q := (RX5, TX5, 8)) rfl) hW rfl hl.1 rfl (Nat.le_of_ble_eq_true rfl) dX5_joint_9 ⟨Nat.zero_le _, Nat.zero_le _⟩ ?_
      rw [show va_rf (some (wad w 3 (j))) = .ref (wad w 3 (j)) from rfl]
      refine lv_astore (lv' := [(7, .ref (wad w 3 (j))), (6, .null), (0, .ref (wad w 0 (0))), (1, .int kd), (2, .int p9), (3, .int (nI j)), (4, .int sz), (5, .int tg)]) hx hb dX5_joint_12 hl (by decide) rfl (fun ls hl => ?_)
      refine lv_aloadN hx hb dX5_joint_14 (lv_at hl 1 rfl) ?_
      refine lv_ifnullN (tgt := 24) hx hb dX5_joint_16 (by decide) ?_
      exact g_throw 45 176 49 xI _ 1 exI S hst hE hS hW (show (176, "there is no such part") ∈ strL by decide +kernel) hl.1 hno hlocks dX5_joint_24 dX5_joint_27 dX5_joint_28 dX5_joint_30 dX5_joint_33 ⟨Nat.le_of_ble_eq_true rfl, Nat.le_of_ble_eq_true rfl, Nat.le_of_ble_eq_true rfl, Nat.le_of_ble_eq_true rfl⟩ ⟨Nat.le_of_ble_eq_true rfl, Nat.le_of_ble_eq_true rfl⟩ ⟨by simp [sp_joint, h9, h8, tj], by decide⟩ (by decide +kernel)
    · replace h8 : isP g q9 = false := by simpa using h8
      refine lv_aload_n hx hb dX5_joint_7 rfl (lv_at hl 1 rfl) ?_
      refine lv_iload_n hx hb dX5_joint_8 rfl (lv_at hl 4 rfl) ?_
      refine g_callVq (As := [.int q9]) (rest := []) S hE hS (c_findPart_n l z w g gm o hO (q9) h8) (cwV 1 hts (gU_V tw_494 tw_496 tp_9 tw_1 tw_497) rfl rfl rfl (by decide +kernel) ⟨Nat.le_of_ble_eq_true rfl, Nat.le_of_ble_eq_true rfl⟩) (hE.recv hW.sh (q := (RX5, TX5, 8)) rfl) hW rfl hl.1 rfl (Nat.le_of_ble_eq_true rfl) dX5_joint_9 ⟨Nat.zero_le _, Nat.zero_le _⟩ ?_
      rw [show va_rf none = .null from rfl]
      refine lv_astoreN (lv' := [(7, .null), (6, .null), (0, .ref (wad w 0 (0))), (1, .int kd), (2, .int p9), (3, .int q9), (4, .int sz), (5, .int tg)]) hx hb dX5_joint_12 hl (by decide) rfl (fun ls hl => ?_)
      refine lv_aloadN hx hb dX5_joint_14 (lv_at hl 1 rfl) ?_
      refine lv_ifnullN (tgt := 24) hx hb dX5_joint_16 (by decide) ?_
      exact g_throw 45 176 49 xI _ 1 exI S hst hE hS hW (show (176, "there is no such part") ∈ strL by decide +kernel) hl.1 hno hlocks dX5_joint_24 dX5_joint_27 dX5_joint_28 dX5_joint_30 dX5_joint_33 ⟨Nat.le_of_ble_eq_true rfl, Nat.le_of_ble_eq_true rfl, Nat.le_of_ble_eq_true rfl, Nat.le_of_ble_eq_true rfl⟩ ⟨Nat.le_of_ble_eq_true rfl, Nat.le_of_ble_eq_true rfl⟩ ⟨by simp [sp_joint, h9, h8], by decide⟩ (by decide +kernel)
set_option maxHeartbeats 4000000 in
set_option maxRecDepth 100000 in
/-- board(species, flitch, place, width, length, moisture) -/
theorem c_X5_board (l : Launch) (z : ZE) (hst : l.stackTraces = false) (w : WG) (g gm : GS) (o : Nat → Int64) (hO : OKg g) (a1 a2 a3 a4 a5 a6 : Int32) : vx_Met l yX5_board (.code yX5_board cX5_board 8 (some .int) :: wU) ({ frames := 7, cells := 4, slots := 117, locals := 191 }) (PE z [.ref (wad w 0 (0)), .int a1, .int a2, .int a3, .int a4, .int a5, .int a6] (fun H => WW z w g gm o H)) (xQ z w gm o (sp_board g a1 a2 a3 a4 a5 a6)) (xX z w g gm o (sp_board g a1 a2 a3 a4 a5 a6) xA xS xI) 4 117 (zA z) := by
  refine vx_ofW (cc := cX5_board) (maxL := 8) (ret := (some .int)) (by decide) rfl ?_
  intro p e s m args below meth c s₁ BD hml hno hv
  obtain ⟨rfl, hE, hW⟩ := hv
  have hts : ∀ w ∈ wU, w.before _ s = true := fun w h => atoms_spec (ws := .code yX5_board cX5_board 8 (some .int) :: wU) BD.pre w (List.mem_cons_of_mem _ h)
  have S : CallFix p m c cX5_board 8 s ([.ref (wad w 0 (0)), .int a1, .int a2, .int a3, .int a4, .int a5, .int a6] : List Value).toArray wU RX5 := ⟨BD.exec, BD.bytes, hml, findClass_of_methodNamed BD.named, hts⟩
  have hx := S.1
  have hb := S.2.1
  have hown := S.2.2.2.1
  have hr := BD.returns
  have hlocks := BD.notSynchronized
  have hS : va_S (zA z) s.heap s.heap [] := va_S.rf
  have hl := lv_entry ([.ref (wad w 0 (0)), .int a1, .int a2, .int a3, .int a4, .int a5, .int a6]) (n := 8) (Nat.le_of_ble_eq_true rfl)
  rw [lg_entry_eq]
  generalize (lg_sl ([.ref (wad w 0 (0)), .int a1, .int a2, .int a3, .int a4, .int a5, .int a6]) ++ List.replicate (8 - (lg_sl ([.ref (wad w 0 (0)), .int a1, .int a2, .int a3, .int a4, .int a5, .int a6])).length) Slot.unset).toArray = ls at hl ⊢
  have hl : lv_has ls 8 [(0, .ref (wad w 0 (0))), (1, .int a1), (2, .int a2), (3, .int a3), (4, .int a4), (5, .int a5), (6, .int a6)] := hl
  have h20 := hO.l5
  have h40 := hO.l16
  have h30 := hO.l24
  refine lv_iload_n hx hb dX5_board_0 rfl (lv_at hl 1 rfl) ?_
  refine lv_iconst (v := 0) hx hb dX5_board_1 (by decide) ?_
  refine lv_iconst (v := 3) hx hb dX5_board_2 (by decide) ?_
  refine g_callS (As := [.int a1, .int 0, .int 3]) (rest := []) S hE hS (c_X5_isWithin l z (a1) (0) (3)) (cwS 3 hts (gU_S tw_158 tw_159 tw_1 tw_160) rfl rfl rfl (by decide +kernel) ⟨Nat.le_of_ble_eq_true rfl, Nat.le_of_ble_eq_true rfl⟩) trivial rfl hl.1 rfl (Nat.le_of_ble_eq_true rfl) dX5_board_3 ⟨Nat.zero_le _, Nat.zero_le _⟩ ?_
  refine g_if_eq S (tgt := 29) dX5_board_6 (by decide) (fun c_6 => ?_) (fun c_6 => ?_)
  · exact g_throw 56 80 60 xA _ 1 exA S hst hE hS hW (show (80, "species, flitch or place is out of its range") ∈ strL by decide +kernel) hl.1 hno hlocks dX5_board_29 dX5_board_32 dX5_board_33 dX5_board_35 dX5_board_38 ⟨Nat.le_of_ble_eq_true rfl, Nat.le_of_ble_eq_true rfl, Nat.le_of_ble_eq_true rfl, Nat.le_of_ble_eq_true rfl⟩ ⟨Nat.le_of_ble_eq_true rfl, Nat.le_of_ble_eq_true rfl⟩ ⟨by simp [sp_board, c_6], by decide⟩ (by decide +kernel)
  · refine lv_iload_n hx hb dX5_board_9 rfl (lv_at hl 2 rfl) ?_
    refine lv_iconst (v := 0) hx hb dX5_board_10 (by decide) ?_
    refine lv_bipush (v := 9) hx hb dX5_board_11 (by decide) ?_
    refine g_callS (As := [.int a2, .int 0, .int 9]) (rest := []) S hE hS (c_X5_isWithin l z (a2) (0) (9)) (cwS 3 hts (gU_S tw_158 tw_159 tw_1 tw_160) rfl rfl rfl (by decide +kernel) ⟨Nat.le_of_ble_eq_true rfl, Nat.le_of_ble_eq_true rfl⟩) trivial rfl hl.1 rfl (Nat.le_of_ble_eq_true rfl) dX5_board_13 ⟨Nat.zero_le _, Nat.zero_le _⟩ ?_
    refine g_if_eq S (tgt := 29) dX5_board_16 (by decide) (fun c_16_1 => ?_) (fun c_16_1 => ?_)
    · exact g_throw 56 80 60 xA _ 1 exA S hst hE hS hW (show (80, "species, flitch or place is out of its range") ∈ strL by decide +kernel) hl.1 hno hlocks dX5_board_29 dX5_board_32 dX5_board_33 dX5_board_35 dX5_board_38 ⟨Nat.le_of_ble_eq_true rfl, Nat.le_of_ble_eq_true rfl, Nat.le_of_ble_eq_true rfl, Nat.le_of_ble_eq_true rfl⟩ ⟨Nat.le_of_ble_eq_true rfl, Nat.le_of_ble_eq_true rfl⟩ ⟨by simp [sp_board, c_6, c_16_1], by decide⟩ (by decide +kernel)
    · refine lv_iload_n hx hb dX5_board_19 rfl (lv_at hl 3 rfl) ?_
      refine lv_iconst (v := 0) hx hb dX5_board_20 (by decide) ?_
      refine lv_bipush (v := 20) hx hb dX5_board_21 (by decide) ?_
      refine g_callS (As := [.int a3, .int 0, .int 20]) (rest := []) S hE hS (c_X5_isWithin l z (a3) (0) (20)) (cwS 3 hts (gU_S tw_158 tw_159 tw_1 tw_160) rfl rfl rfl (by decide +kernel) ⟨Nat.le_of_ble_eq_true rfl, Nat.le_of_ble_eq_true rfl⟩) trivial rfl hl.1 rfl (Nat.le_of_ble_eq_true rfl) dX5_board_23 ⟨Nat.zero_le _, Nat.zero_le _⟩ ?_
      refine g_if_ne S (tgt := 39) dX5_board_26 (by decide) (fun c_26_2 => ?_) (fun c_26_2 => ?_)
      · refine lv_iload hx hb dX5_board_39 (lv_at hl 4 rfl) ?_
        refine lv_bipush (v := 100) hx hb dX5_board_41 (by decide) ?_
        refine lv_sipush (v := 6000) hx hb dX5_board_43 (by decide) ?_
        refine g_callS (As := [.int a4, .int 100, .int 6000]) (rest := []) S hE hS (c_X5_isWithin l z (a4) (100) (6000)) (cwS 3 hts (gU_S tw_158 tw_159 tw_1 tw_160) rfl rfl rfl (by decide +kernel) ⟨Nat.le_of_ble_eq_true rfl, Nat.le_of_ble_eq_true rfl⟩) trivial rfl hl.1 rfl (Nat.le_of_ble_eq_true rfl) dX5_board_46 ⟨Nat.zero_le _, Nat.zero_le _⟩ ?_
        refine g_if_eq S (tgt := 78) dX5_board_49 (by decide) (fun c_49_3 => ?_) (fun c_49_3 => ?_)
        · exact g_throw 56 82 60 xA _ 1 exA S hst hE hS hW (show (82, "width, length or moisture is out of its range") ∈ strL by decide +kernel) hl.1 hno hlocks dX5_board_78 dX5_board_81 dX5_board_82 dX5_board_84 dX5_board_87 ⟨Nat.le_of_ble_eq_true rfl, Nat.le_of_ble_eq_true rfl, Nat.le_of_ble_eq_true rfl, Nat.le_of_ble_eq_true rfl⟩ ⟨Nat.le_of_ble_eq_true rfl, Nat.le_of_ble_eq_true rfl⟩ ⟨by simp [sp_board, c_6, c_16_1, c_26_2, c_49_3], by decide⟩ (by decide +kernel)
        · refine lv_iload hx hb dX5_board_52 (lv_at hl 5 rfl) ?_
          refine lv_bipush (v := 100) hx hb dX5_board_54 (by decide) ?_
          refine lv_sipush (v := 30000) hx hb dX5_board_56 (by decide) ?_
          refine g_callS (As := [.int a5, .int 100, .int 30000]) (rest := []) S hE hS (c_X5_isWithin l z (a5) (100) (30000)) (cwS 3 hts (gU_S tw_158 tw_159 tw_1 tw_160) rfl rfl rfl (by decide +kernel) ⟨Nat.le_of_ble_eq_true rfl, Nat.le_of_ble_eq_true rfl⟩) trivial rfl hl.1 rfl (Nat.le_of_ble_eq_true rfl) dX5_board_59 ⟨Nat.zero_le _, Nat.zero_le _⟩ ?_
          refine g_if_eq S (tgt := 78) dX5_board_62 (by decide) (fun c_62_4 => ?_) (fun c_62_4 => ?_)
          · exact g_throw 56 82 60 xA _ 1 exA S hst hE hS hW (show (82, "width, length or moisture is out of its range") ∈ strL by decide +kernel) hl.1 hno hlocks dX5_board_78 dX5_board_81 dX5_board_82 dX5_board_84 dX5_board_87 ⟨Nat.le_of_ble_eq_true rfl, Nat.le_of_ble_eq_true rfl, Nat.le_of_ble_eq_true rfl, Nat.le_of_ble_eq_true rfl⟩ ⟨Nat.le_of_ble_eq_true rfl, Nat.le_of_ble_eq_true rfl⟩ ⟨by simp [sp_board, c_6, c_16_1, c_26_2, c_49_3, c_62_4], by decide⟩ (by decide +kernel)
          · refine lv_iload hx hb dX5_board_65 (lv_at hl 6 rfl) ?_
            refine lv_bipush (v := 40) hx hb dX5_board_67 (by decide) ?_
            refine lv_sipush (v := 300) hx hb dX5_board_69 (by decide) ?_
            refine g_callS (As := [.int a6, .int 40, .int 300]) (rest := []) S hE hS (c_X5_isWithin l z (a6) (40) (300)) (cwS 3 hts (gU_S tw_158 tw_159 tw_1 tw_160) rfl rfl rfl (by decide +kernel) ⟨Nat.le_of_ble_eq_true rfl, Nat.le_of_ble_eq_true rfl⟩) trivial rfl hl.1 rfl (Nat.le_of_ble_eq_true rfl) dX5_board_72 ⟨Nat.zero_le _, Nat.zero_le _⟩ ?_
            refine g_if_ne S (tgt := 88) dX5_board_75 (by decide) (fun c_75_5 => ?_) (fun c_75_5 => ?_)
            · refine lv_aload_n hx hb dX5_board_88 rfl (lv_at hl 0 rfl) ?_
              refine g_get S hE hW.sh (C := RX5) (T := TX5) (N := 8) (v := .ref (wad w 5 (0))) rfl inU5 0 (by decide) tw_60 (Or.inl rfl) rfl dX5_board_89 ?_
              refine g_callV (As := []) (rest := []) S hE hS (c_sizeB l z w g gm o) (cwV 0 hts (gU_V tw_209 tw_210 tw_211 tw_4 tw_212) rfl rfl rfl (by decide +kernel) ⟨Nat.le_of_ble_eq_true rfl, Nat.le_of_ble_eq_true rfl⟩) (hE.recv (hW.lst (i := 0) (show 0 < 3 + 2 * nb g by omega)) (q := (RJx4a65c, TJx4a65c, 3)) rfl) hW rfl hl.1 rfl (Nat.le_of_ble_eq_true rfl) dX5_board_92 ⟨Nat.zero_le _, Nat.zero_le _⟩ ?_
              refine lv_bipush (v := 20) hx hb dX5_board_95 (by decide) ?_
              rw [show (20 : Int32) = nI 20 from rfl]
              refine g_icmp_lt S (by omega) (by omega) (tgt := 110) dX5_board_97 (by decide) (fun c_97_6 => ?_) (fun c_97_6 => ?_)
              · refine lv_aload_n hx hb dX5_board_110 rfl (lv_at hl 0 rfl) ?_
                refine lv_iload_n hx hb dX5_board_111 rfl (lv_at hl 1 rfl) ?_
                refine lv_iload_n hx hb dX5_board_112 rfl (lv_at hl 2 rfl) ?_
                refine lv_iload_n hx hb dX5_board_113 rfl (lv_at hl 3 rfl) ?_
                refine g_callV (As := [.int a1, .int a2, .int a3]) (rest := []) S hE hS (c_X5_suitsFlitch l z w g gm o hO (a1) (a2) (a3)) (cwV 3 hts (gU_V tw_286 tw_288 tp_4 tw_1 tw_289) rfl rfl rfl (by decide +kernel) ⟨Nat.le_of_ble_eq_true rfl, Nat.le_of_ble_eq_true rfl⟩) (hE.recv hW.sh (q := (RX5, TX5, 8)) rfl) hW rfl hl.1 rfl (Nat.le_of_ble_eq_true rfl) dX5_board_114 ⟨Nat.zero_le _, Nat.zero_le _⟩ ?_
                refine g_if_ne S (tgt := 130) dX5_board_117 (by decide) (fun c_117_7 => ?_) (fun c_117_7 => ?_)
                · refine lv_aload_n hx hb dX5_board_130 rfl (lv_at hl 0 rfl) ?_
                  refine g_get S hE hW.sh (C := RX5) (T := TX5) (N := 8) (v := .ref (wad w 5 (0))) rfl inU5 0 (by decide) tw_60 (Or.inl rfl) rfl dX5_board_131 ?_
                  refine g_callV (As := []) (rest := []) S hE hS (c_sizeB l z w g gm o) (cwV 0 hts (gU_V tw_209 tw_210 tw_211 tw_4 tw_212) rfl rfl rfl (by decide +kernel) ⟨Nat.le_of_ble_eq_true rfl, Nat.le_of_ble_eq_true rfl⟩) (hE.recv (hW.lst (i := 0) (show 0 < 3 + 2 * nb g by omega)) (q := (RJx4a65c, TJx4a65c, 3)) rfl) hW rfl hl.1 rfl (Nat.le_of_ble_eq_true rfl) dX5_board_134 ⟨Nat.zero_le _, Nat.zero_le _⟩ ?_
                  refine lv_istore (lv' := [(7, .int (nI (nb g))), (0, .ref (wad w 0 (0))), (1, .int a1), (2, .int a2), (3, .int a3), (4, .int a4), (5, .int a5), (6, .int a6)]) hx hb dX5_board_137 hl (by decide) rfl (fun ls hl => ?_)
                  have hO9 : OKg g := hO
                  refine lv_aload_n hx hb dX5_board_139 rfl (lv_at hl 1 rfl) ?_
                  refine g_get S hE hW.sh (C := RX5) (T := TX5) (N := 8) (v := .ref (wad w 5 (0))) rfl inU5 0 (by decide) tw_60 (Or.inl rfl) rfl dX5_board_140 ?_
                  have hzz : zB z ≤ s.heap.size := Nat.le_trans hE.2.2.2.2.1 hS.1
                  obtain ⟨x1, hx1⟩ : ∃ x : Nat, s.heap.size = x := ⟨_, rfl⟩
                  refine g_new S hE hS (C := RX0) (T := TX0) (N := 11) (ci := 1) rfl inU0 tyX0 tyX0_ok tw_227 tw_291 tw_14 (fs := [.int 0, .int 0, .int 0, .int 0, .int 0, .int 0, .int 0, .int 0, .int 0, .null, .null]) (fun j hj => by match j, hj with | 0, _ => rfl | 1, _ => rfl | 2, _ => rfl | 3, _ => rfl | 4, _ => rfl | 5, _ => rfl | 6, _ => rfl | 7, _ => rfl | 8, _ => rfl | 9, _ => rfl | 10, _ => rfl) ⟨Nat.le_of_ble_eq_true rfl, Nat.le_of_ble_eq_true rfl⟩ dX5_board_143 hx1 (fun K1 hv1 zq1 oq1 hS => ?_)
                  have hf1 : ∀ y : Nat, y < s.heap.size → K1[y]? = s.heap[y]? := fun y hy => oq1 y (by omega)
                  refine lv_dup hx hb dX5_board_146 rfl ?_
                  refine lv_iload hx hb dX5_board_147 (lv_at hl 0 rfl) ?_
                  refine lv_iload_n hx hb dX5_board_149 rfl (lv_at hl 2 rfl) ?_
                  refine lv_iload_n hx hb dX5_board_150 rfl (lv_at hl 3 rfl) ?_
                  refine lv_iload_n hx hb dX5_board_151 rfl (lv_at hl 4 rfl) ?_
                  refine lv_iload hx hb dX5_board_152 (lv_at hl 5 rfl) ?_
                  refine lv_iload hx hb dX5_board_154 (lv_at hl 6 rfl) ?_
                  refine lv_iload hx hb dX5_board_156 (lv_at hl 7 rfl) ?_
                  refine g_init (As := [.int (nI (nb g)), .int a1, .int a2, .int a3, .int a4, .int a5, .int a6]) (rest := [.ref (x1), .ref (wad w 5 (0))]) S hE hS (c_X0_init l z x1 (x1 + 1) (.int 0) (.int 0) (.int 0) (.int 0) (.int 0) (.int 0) (.int 0) (.int 0) (.int 0) (.null) (.null) (nb g) (a1) (a2) (a3) (a4) (a5) (a6)) (x_cwI 7 hts tw_292 tw_293 tw_14 tw_294 rfl rfl (by decide +kernel) ⟨Nat.le_of_ble_eq_true rfl, Nat.le_of_ble_eq_true rfl⟩ rfl) ⟨zq1, (show zB z ≤ x1 by omega), hv1⟩ rfl hl.1 rfl (Nat.le_of_ble_eq_true rfl) dX5_board_158 ⟨Nat.le_of_ble_eq_true rfl, Nat.le_of_ble_eq_true rfl⟩ (fun y _ (e9 : y = x1) => by omega) (fun K2 locs hv1 hz1 ho1 hS => ?_)
                  obtain ⟨q1, q2, hq12, hv1, hk1, hk2⟩ := hv1
                  replace hf1 : ∀ y : Nat, y < s.heap.size → K2[y]? = s.heap[y]? := fun y hy => (ho1 y (by omega) (show ¬ y = x1 by omega)).trans (hf1 y hy)
                  refine x_addW (rest := []) (g := g) S hE hS hO9 hW (show s.heap.size ≤ K2.size by omega) (0) (by first | omega | exact hi9) (k0 := 2) (ci := 1) rfl (by decide +kernel) rfl (fun j => ⟨_, rfl⟩) (fun k j hl _ => hf1 _ (hW.1 k j hl).lt) hv1 (by omega) (show nb g ≤ 60 by omega) hl.1 (Nat.le_of_ble_eq_true rfl) dX5_board_161 ⟨Nat.le_of_ble_eq_true rfl, Nat.le_of_ble_eq_true rfl⟩ ⟨Nat.le_of_ble_eq_true rfl, Nat.le_of_ble_eq_true rfl⟩ (fun K3 locs e1 cap1 f1 he1 hl51 hl61 hc1 hfo1 hfn1 hza1 hoa1 hS => ?_)
                  have hW9 := hW
                  have hlt5 : wad w 5 (0) < s.heap.size := (hW.lst (i := 0) (by omega)).lt
                  have hlt6 : 0 < nb g → wad w 6 (0) < s.heap.size := fun h0 => (hW.arr (i := 0) (by omega) h0).lt
                  have hq1 := hk1.lt
                  have hq2 := hk2.lt
                  have hq1 : q1 < K2.size := hq1
                  have hq2 : q2 < K2.size := hq2
                  replace hW := ww_board (sp := a1) (fl := a2) (pl := a3) (wd := a4) (le := a5) (mo9 := a6) hO9 hW9 hzz (show nb g < 20 by omega) hx1.symm (show s.heap.size + 1 ≤ q1 by omega) hq12.2 (hv1.kept (hoa1 x1 (by omega) (by omega) (fun h0 => by have := hlt6 h0; omega))) (hk1.kept (hoa1 q1 (by omega) (by omega) (fun h0 => by have := hlt6 h0; omega))) (hk2.kept (hoa1 q2 (by omega) (by omega) (fun h0 => by have := hlt6 h0; omega))) (he1.imp id (fun h => by omega)) hl51 hl61 hc1 hfo1 hfn1 (fun y hy h1 h2 => (hoa1 y (by omega) h1 h2).trans (hf1 y hy))
                  refine lv_pop hx hb dX5_board_164 rfl ?_
                  refine lv_iload hx hb dX5_board_165 (lv_at hl 0 rfl) ?_
                  have q20 : ¬ nb g = 20 := by omega
                  have q7 : anyN (nb g) (clash g a2 a3 a1) = false := by simpa using c_117_7
                  exact x_ret S hr hlocks hS hW (by simp [sp_board, q20, q7, c_6, c_16_1, c_26_2, c_49_3, c_62_4, c_75_5, c_97_6]) ⟨rfl, rfl, rfl⟩ ⟨Nat.le_of_ble_eq_true rfl, Nat.le_of_ble_eq_true rfl⟩ dX5_board_167
                · have q20 : ¬ nb g = 20 := by omega
                  have q7 : anyN (nb g) (clash g a2 a3 a1) = true := by simpa using c_117_7
                  exact g_throw 63 92 67 xS _ 2 exS S hst hE hS hW (show (92, "the flitch has that place, or is of another species") ∈ strL by decide +kernel) hl.1 hno hlocks dX5_board_120 dX5_board_123 dX5_board_124 dX5_board_126 dX5_board_129 ⟨Nat.le_of_ble_eq_true rfl, Nat.le_of_ble_eq_true rfl, Nat.le_of_ble_eq_true rfl, Nat.le_of_ble_eq_true rfl⟩ ⟨Nat.le_of_ble_eq_true rfl, Nat.le_of_ble_eq_true rfl⟩ ⟨by simp [sp_board, q20, q7, c_6, c_16_1, c_26_2, c_49_3, c_62_4, c_75_5, c_97_6], by decide⟩ (by decide +kernel)
              · have q20 : nb g = 20 := by omega
                exact g_throw 63 87 67 xS _ 2 exS S hst hE hS hW (show (87, "there are 20 boards") ∈ strL by decide +kernel) hl.1 hno hlocks dX5_board_100 dX5_board_103 dX5_board_104 dX5_board_106 dX5_board_109 ⟨Nat.le_of_ble_eq_true rfl, Nat.le_of_ble_eq_true rfl, Nat.le_of_ble_eq_true rfl, Nat.le_of_ble_eq_true rfl⟩ ⟨Nat.le_of_ble_eq_true rfl, Nat.le_of_ble_eq_true rfl⟩ ⟨by simp [sp_board, q20, c_6, c_16_1, c_26_2, c_49_3, c_62_4, c_75_5, c_97_6], by decide⟩ (by decide +kernel)
            · exact g_throw 56 82 60 xA _ 1 exA S hst hE hS hW (show (82, "width, length or moisture is out of its range") ∈ strL by decide +kernel) hl.1 hno hlocks dX5_board_78 dX5_board_81 dX5_board_82 dX5_board_84 dX5_board_87 ⟨Nat.le_of_ble_eq_true rfl, Nat.le_of_ble_eq_true rfl, Nat.le_of_ble_eq_true rfl, Nat.le_of_ble_eq_true rfl⟩ ⟨Nat.le_of_ble_eq_true rfl, Nat.le_of_ble_eq_true rfl⟩ ⟨by simp [sp_board, c_6, c_16_1, c_26_2, c_49_3, c_62_4, c_75_5], by decide⟩ (by decide +kernel)
      · exact g_throw 56 80 60 xA _ 1 exA S hst hE hS hW (show (80, "species, flitch or place is out of its range") ∈ strL by decide +kernel) hl.1 hno hlocks dX5_board_29 dX5_board_32 dX5_board_33 dX5_board_35 dX5_board_38 ⟨Nat.le_of_ble_eq_true rfl, Nat.le_of_ble_eq_true rfl, Nat.le_of_ble_eq_true rfl, Nat.le_of_ble_eq_true rfl⟩ ⟨Nat.le_of_ble_eq_true rfl, Nat.le_of_ble_eq_true rfl⟩ ⟨by simp [sp_board, c_6, c_16_1, c_26_2], by decide⟩ (by decide +kernel)
