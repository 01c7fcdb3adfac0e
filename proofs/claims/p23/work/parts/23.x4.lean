/-! ===== the shop, the calls that build nothing, second part ===== -/
theorem ll_kn {g : GS} {i : Nat} : ll g (3 + 2 * i) = kn g i := by
  unfold ll; rw [if_neg (by omega), if_neg (by omega), if_neg (by omega), if_pos (by omega), show (3 + 2 * i - 3) / 2 = i by omega]
theorem rp_2 {g : GS} (hO : OKg g) {i : Nat} (hi : i < nj g) (h9 : isJ g (nI i) = true) (hb : ¬ g 32 i = 0) (h2 : g 25 i = 2) : sp_repair g (nI i) = (0, wAt g (jp g i) (g 22 (jp g i)) + g 29 i, gup (gup (gup (gup g 28 i (wAt g (jp g i) (g 22 (jp g i)) + g 29 i)) 31 i 1) 32 i 0) 33 i (g 22 (jp g i))) := by
  have t : tN (nI i) = i := tNn (by have := hO.l24; omega)
  have h31 : g 31 i = 1 := (hO.br hi).elim (fun h => absurd h hb) (fun h => h.2)
  simp only [sp_repair, h9, if_true, t, if_neg hb, rsz, if_pos h2]
  congr 2
  funext a b
  by_cases e : b = i
  · subst e
    by_cases e1 : a = 28
    · subst e1; simp [gup]
    · by_cases e2 : a = 31
      · subst e2; simp [gup, h31]
      · by_cases e3 : a = 32
        · subst e3; simp [gup]
        · by_cases e4 : a = 33
          · subst e4; simp [gup]
          · simp [gup, e1, e2, e3, e4]
  · simp [gup, e]
theorem rp_n {g : GS} (hO : OKg g) {i : Nat} (hi : i < nj g) (h9 : isJ g (nI i) = true) (hb : ¬ g 32 i = 0) (h2 : ¬ g 25 i = 2) : sp_repair g (nI i) = (0, g 28 i, gup (gup (gup g 31 i 1) 32 i 0) 33 i (g 22 (jp g i))) := by
  have t : tN (nI i) = i := tNn (by have := hO.l24; omega)
  have h31 : g 31 i = 1 := (hO.br hi).elim (fun h => absurd h hb) (fun h => h.2)
  simp only [sp_repair, h9, if_true, t, if_neg hb, rsz, if_neg h2]
  congr 2
  funext a b
  by_cases e : b = i
  · subst e
    by_cases e1 : a = 28
    · subst e1; simp [gup]
    · by_cases e2 : a = 31
      · subst e2; simp [gup, h31]
      · by_cases e3 : a = 32
        · subst e3; simp [gup]
        · by_cases e4 : a = 33
          · subst e4; simp [gup]
          · simp [gup, e1, e2, e3, e4]
  · simp [gup, e]
set_option maxHeartbeats 4000000 in
set_option maxRecDepth 100000 in
/-- ofBoard(number, what) -/
theorem c_X5_ofBoard (l : Launch) (z : ZE) (hst : l.stackTraces = false) (w : WG) (g gm : GS) (o : Nat → Int64) (hO : OKg g) (a b : Int32) : vx_Met l yX5_ofBoard (.code yX5_ofBoard cX5_ofBoard 4 (some .int) :: wU) ({ frames := 6, cells := 1, slots := 6, locals := 90 }) (PE z [.ref (wad w 0 (0)), .int a, .int b] (fun H => WW z w g gm o H)) (xQ z w gm o (sp_ofBoard g a b)) (xX z w g gm o (sp_ofBoard g a b) xI xA xI) 1 6 (zA z) := by
  refine vx_ofW (cc := cX5_ofBoard) (maxL := 4) (ret := (some .int)) (by decide) rfl ?_
  intro p e s m args below meth c s₁ BD hml hno hv
  obtain ⟨rfl, hE, hW⟩ := hv
  have hts : ∀ w ∈ wU, w.before _ s = true := fun w h => atoms_spec (ws := .code yX5_ofBoard cX5_ofBoard 4 (some .int) :: wU) BD.pre w (List.mem_cons_of_mem _ h)
  have S : CallFix p m c cX5_ofBoard 4 s ([.ref (wad w 0 (0)), .int a, .int b] : List Value).toArray wU RX5 := ⟨BD.exec, BD.bytes, hml, findClass_of_methodNamed BD.named, hts⟩
  have hx := S.1
  have hb := S.2.1
  have hown := S.2.2.2.1
  have hr := BD.returns
  have hlocks := BD.notSynchronized
  have hS : va_S (zA z) s.heap s.heap [] := va_S.rf
  have hl := lv_entry ([.ref (wad w 0 (0)), .int a, .int b]) (n := 4) (Nat.le_of_ble_eq_true rfl)
  rw [lg_entry_eq]
  generalize (lg_sl ([.ref (wad w 0 (0)), .int a, .int b]) ++ List.replicate (4 - (lg_sl ([.ref (wad w 0 (0)), .int a, .int b])).length) Slot.unset).toArray = ls at hl ⊢
  have hl : lv_has ls 4 [(0, .ref (wad w 0 (0))), (1, .int a), (2, .int b)] := hl
  have h20 := hO.l5
  have h40 := hO.l16
  have h30 := hO.l24
  by_cases h9 : isB g a = true
  · obtain ⟨i, hi, rfl⟩ := wi_lt (by omega) h9
    have ti : tN (nI i) = i := tNn (by omega)
    refine lv_aload_n hx hb dX5_ofBoard_0 rfl (lv_at hl 0 rfl) ?_
    refine lv_iload_n hx hb dX5_ofBoard_1 rfl (lv_at hl 1 rfl) ?_
    refine g_callVq (As := [.int (nI i)]) (rest := []) S hE hS (c_findBoard_y l z w g gm o hO (i) (by omega)) (cwV 1 hts (gU_V tw_413 tw_415 tp_8 tw_1 tw_416) rfl rfl rfl (by decide +kernel) ⟨Nat.le_of_ble_eq_true rfl, Nat.le_of_ble_eq_true rfl⟩) (hE.recv hW.sh (q := (RX5, TX5, 8)) rfl) hW rfl hl.1 rfl (Nat.le_of_ble_eq_true rfl) dX5_ofBoard_2 ⟨Nat.zero_le _, Nat.zero_le _⟩ ?_
    rw [show va_rf (some (wad w 2 (i))) = .ref (wad w 2 (i)) from rfl]
    refine lv_astore_n (lv' := [(3, .ref (wad w 2 (i))), (0, .ref (wad w 0 (0))), (1, .int (nI i)), (2, .int b)]) hx hb dX5_ofBoard_5 rfl hl (by decide) rfl (fun ls hl => ?_)
    refine lv_aload_n hx hb dX5_ofBoard_6 rfl (lv_at hl 0 rfl) ?_
    refine lv_ifnonnull (tgt := 20) hx hb dX5_ofBoard_7 (by decide) ?_
    by_cases hw9 : wi b 0 2 = true
    · obtain ⟨k9, hk9, rfl⟩ := wi_nat (n := 2) (by decide) hw9
      rcases (show k9 = 0 ∨ k9 = 1 ∨ k9 = 2 by omega) with rfl | rfl | rfl
      · refine lv_iload_n hx hb dX5_ofBoard_20 rfl (lv_at hl 3 rfl) ?_
        refine lv_tableIn (tgt := 48) hx hb dX5_ofBoard_21 (by decide) (by decide) rfl (by decide) ?_
        refine lv_aload_n hx hb dX5_ofBoard_48 rfl (lv_at hl 0 rfl) ?_
        refine g_get S hE (hW.bd (i := i) (by omega)) (C := RX0) (T := TX0) (N := 11) (v := .int (g 12 i)) rfl inU0 3 (by decide) tw_325 (Or.inr tw_321) rfl dX5_ofBoard_49 ?_
        exact x_ret S hr hlocks hS hW (by simp [sp_ofBoard, ll_kn, h9, ti, show wi (0 : Int32) 0 2 = true from by decide, show nI 0 = (0 : Int32) from rfl]) wsm.rf ⟨Nat.le_of_ble_eq_true rfl, Nat.le_of_ble_eq_true rfl⟩ dX5_ofBoard_52
      · refine lv_iload_n hx hb dX5_ofBoard_20 rfl (lv_at hl 3 rfl) ?_
        refine lv_tableIn (tgt := 53) hx hb dX5_ofBoard_21 (by decide) (by decide) rfl (by decide) ?_
        refine lv_aload_n hx hb dX5_ofBoard_53 rfl (lv_at hl 0 rfl) ?_
        refine g_callU (As := []) (rest := []) S hE hS (c_wNowB l z w g gm o hO (i) (by omega)) (va_cwU (y := yX4_widthNow) (x := ⟨"DovetailRow$Board", "widthNow", "()I"⟩) (C := "DovetailRow$Board") (owner := "DovetailRow$Wood") 0 hts (gU_U tw_432 tw_433 tw_435 tw_436 tw_13 tw_437) rfl rfl rfl rfl (by decide +kernel) ⟨Nat.le_of_ble_eq_true rfl, Nat.le_of_ble_eq_true rfl⟩) (hE.recv (hW.bd (i := i) (by omega)) (q := (RX0, TX0, 11)) rfl) hW rfl hl.1 rfl (Nat.le_of_ble_eq_true rfl) dX5_ofBoard_54 ⟨Nat.zero_le _, Nat.zero_le _⟩ ?_
        exact x_ret S hr hlocks hS hW (by simp [sp_ofBoard, ll_kn, h9, ti, show wi (1 : Int32) 0 2 = true from by decide, show nI 1 = (1 : Int32) from rfl]) wsm.rf ⟨Nat.le_of_ble_eq_true rfl, Nat.le_of_ble_eq_true rfl⟩ dX5_ofBoard_57
      · refine lv_iload_n hx hb dX5_ofBoard_20 rfl (lv_at hl 3 rfl) ?_
        refine lv_tableIn (tgt := 58) hx hb dX5_ofBoard_21 (by decide) (by decide) rfl (by decide) ?_
        refine lv_aload_n hx hb dX5_ofBoard_58 rfl (lv_at hl 0 rfl) ?_
        refine g_get S hE (hW.bd (i := i) (by omega)) (C := RX0) (T := TX0) (N := 11) (v := .ref (wad w 5 (3 + 2 * i))) rfl inU0 9 (by decide) tw_309 (Or.inl rfl) rfl dX5_ofBoard_59 ?_
        refine g_callV (As := []) (rest := []) S hE hS (c_Jx4a65c_size_8abf5 l z w g gm o (3 + 2 * i) (by omega)) (cwV 0 hts (gU_V tw_209 tw_210 tw_211 tw_4 tw_212) rfl rfl rfl (by decide +kernel) ⟨Nat.le_of_ble_eq_true rfl, Nat.le_of_ble_eq_true rfl⟩) (hE.recv (hW.lst (i := 3 + 2 * i) (by omega)) (q := (RJx4a65c, TJx4a65c, 3)) rfl) hW rfl hl.1 rfl (Nat.le_of_ble_eq_true rfl) dX5_ofBoard_62 ⟨Nat.zero_le _, Nat.zero_le _⟩ ?_
        exact x_ret S hr hlocks hS hW (by simp [sp_ofBoard, ll_kn, h9, ti, show wi (2 : Int32) 0 2 = true from by decide, show nI 2 = (2 : Int32) from rfl]) wsm.rf ⟨Nat.le_of_ble_eq_true rfl, Nat.le_of_ble_eq_true rfl⟩ dX5_ofBoard_65
    · replace hw9 : wi b 0 2 = false := by simpa using hw9
      refine lv_iload_n hx hb dX5_ofBoard_20 rfl (lv_at hl 3 rfl) ?_
      refine lv_tableOut (tgt := 66) hx hb dX5_ofBoard_21 (tb_out (by decide) hw9) (by decide) ?_
      exact g_throwW 56 297 60 xA _ 2 exA S hst hE hS hW (show (297, "what is out of its range") ∈ strL by decide +kernel) hl.1 hno hlocks dX5_ofBoard_66 dX5_ofBoard_69 dX5_ofBoard_70 dX5_ofBoard_73 dX5_ofBoard_76 ⟨Nat.le_of_ble_eq_true rfl, Nat.le_of_ble_eq_true rfl, Nat.le_of_ble_eq_true rfl, Nat.le_of_ble_eq_true rfl⟩ ⟨Nat.le_of_ble_eq_true rfl, Nat.le_of_ble_eq_true rfl⟩ ⟨by simp [sp_ofBoard, h9, ti, hw9], by decide⟩ (by decide +kernel)
  · replace h9 : isB g a = false := by simpa using h9
    refine lv_aload_n hx hb dX5_ofBoard_0 rfl (lv_at hl 0 rfl) ?_
    refine lv_iload_n hx hb dX5_ofBoard_1 rfl (lv_at hl 1 rfl) ?_
    refine g_callVq (As := [.int a]) (rest := []) S hE hS (c_findBoard_n l z w g gm o hO (a) h9) (cwV 1 hts (gU_V tw_413 tw_415 tp_8 tw_1 tw_416) rfl rfl rfl (by decide +kernel) ⟨Nat.le_of_ble_eq_true rfl, Nat.le_of_ble_eq_true rfl⟩) (hE.recv hW.sh (q := (RX5, TX5, 8)) rfl) hW rfl hl.1 rfl (Nat.le_of_ble_eq_true rfl) dX5_ofBoard_2 ⟨Nat.zero_le _, Nat.zero_le _⟩ ?_
    rw [show va_rf none = .null from rfl]
    refine lv_astore_nN (lv' := [(3, .null), (0, .ref (wad w 0 (0))), (1, .int a), (2, .int b)]) hx hb dX5_ofBoard_5 rfl hl (by decide) rfl (fun ls hl => ?_)
    refine lv_aload_nN hx hb dX5_ofBoard_6 rfl (lv_at hl 0 rfl) ?_
    refine lv_ifnonnullN hx hb dX5_ofBoard_7 ?_
    exact g_throw 45 107 49 xI _ 1 exI S hst hE hS hW (show (107, "there is no such board") ∈ strL by decide +kernel) hl.1 hno hlocks dX5_ofBoard_10 dX5_ofBoard_13 dX5_ofBoard_14 dX5_ofBoard_16 dX5_ofBoard_19 ⟨Nat.le_of_ble_eq_true rfl, Nat.le_of_ble_eq_true rfl, Nat.le_of_ble_eq_true rfl, Nat.le_of_ble_eq_true rfl⟩ ⟨Nat.le_of_ble_eq_true rfl, Nat.le_of_ble_eq_true rfl⟩ ⟨by simp [sp_ofBoard, h9], by decide⟩ (by decide +kernel)
set_option maxHeartbeats 4000000 in
set_option maxRecDepth 100000 in
/-- ofPart(number, what) -/
theorem c_X5_ofPart (l : Launch) (z : ZE) (hst : l.stackTraces = false) (w : WG) (g gm : GS) (o : Nat → Int64) (hO : OKg g) (a b : Int32) : vx_Met l yX5_ofPart (.code yX5_ofPart cX5_ofPart 4 (some .int) :: wU) ({ frames := 6, cells := 1, slots := 6, locals := 90 }) (PE z [.ref (wad w 0 (0)), .int a, .int b] (fun H => WW z w g gm o H)) (xQ z w gm o (sp_ofPart g a b)) (xX z w g gm o (sp_ofPart g a b) xI xA xI) 1 6 (zA z) := by
  refine vx_ofW (cc := cX5_ofPart) (maxL := 4) (ret := (some .int)) (by decide) rfl ?_
  intro p e s m args below meth c s₁ BD hml hno hv
  obtain ⟨rfl, hE, hW⟩ := hv
  have hts : ∀ w ∈ wU, w.before _ s = true := fun w h => atoms_spec (ws := .code yX5_ofPart cX5_ofPart 4 (some .int) :: wU) BD.pre w (List.mem_cons_of_mem _ h)
  have S : CallFix p m c cX5_ofPart 4 s ([.ref (wad w 0 (0)), .int a, .int b] : List Value).toArray wU RX5 := ⟨BD.exec, BD.bytes, hml, findClass_of_methodNamed BD.named, hts⟩
  have hx := S.1
  have hb := S.2.1
  have hown := S.2.2.2.1
  have hr := BD.returns
  have hlocks := BD.notSynchronized
  have hS : va_S (zA z) s.heap s.heap [] := va_S.rf
  have hl := lv_entry ([.ref (wad w 0 (0)), .int a, .int b]) (n := 4) (Nat.le_of_ble_eq_true rfl)
  rw [lg_entry_eq]
  generalize (lg_sl ([.ref (wad w 0 (0)), .int a, .int b]) ++ List.replicate (4 - (lg_sl ([.ref (wad w 0 (0)), .int a, .int b])).length) Slot.unset).toArray = ls at hl ⊢
  have hl : lv_has ls 4 [(0, .ref (wad w 0 (0))), (1, .int a), (2, .int b)] := hl
  have h20 := hO.l5
  have h40 := hO.l16
  have h30 := hO.l24
  by_cases h9 : isP g a = true
  · obtain ⟨i, hi, rfl⟩ := wi_lt (by omega) h9
    have ti : tN (nI i) = i := tNn (by omega)
    have q17 := hO.l17 hi
    refine lv_aload_n hx hb dX5_ofPart_0 rfl (lv_at hl 0 rfl) ?_
    refine lv_iload_n hx hb dX5_ofPart_1 rfl (lv_at hl 1 rfl) ?_
    refine g_callVq (As := [.int (nI i)]) (rest := []) S hE hS (c_findPart_y l z w g gm o hO (i) (by omega)) (cwV 1 hts (gU_V tw_494 tw_496 tp_9 tw_1 tw_497) rfl rfl rfl (by decide +kernel) ⟨Nat.le_of_ble_eq_true rfl, Nat.le_of_ble_eq_true rfl⟩) (hE.recv hW.sh (q := (RX5, TX5, 8)) rfl) hW rfl hl.1 rfl (Nat.le_of_ble_eq_true rfl) dX5_ofPart_2 ⟨Nat.zero_le _, Nat.zero_le _⟩ ?_
    rw [show va_rf (some (wad w 3 (i))) = .ref (wad w 3 (i)) from rfl]
    refine lv_astore_n (lv' := [(3, .ref (wad w 3 (i))), (0, .ref (wad w 0 (0))), (1, .int (nI i)), (2, .int b)]) hx hb dX5_ofPart_5 rfl hl (by decide) rfl (fun ls hl => ?_)
    refine lv_aload_n hx hb dX5_ofPart_6 rfl (lv_at hl 0 rfl) ?_
    refine lv_ifnonnull (tgt := 20) hx hb dX5_ofPart_7 (by decide) ?_
    by_cases hw9 : wi b 0 4 = true
    · obtain ⟨k9, hk9, rfl⟩ := wi_nat (n := 4) (by decide) hw9
      rcases (show k9 = 0 ∨ k9 = 1 ∨ k9 = 2 ∨ k9 = 3 ∨ k9 = 4 by omega) with rfl | rfl | rfl | rfl | rfl
      · refine lv_iload_n hx hb dX5_ofPart_20 rfl (lv_at hl 3 rfl) ?_
        refine lv_tableIn (tgt := 56) hx hb dX5_ofPart_21 (by decide) (by decide) rfl (by decide) ?_
        refine lv_aload_n hx hb dX5_ofPart_56 rfl (lv_at hl 0 rfl) ?_
        refine g_get S hE (hW.pt (i := i) (by omega)) (C := RX2) (T := TX2) (N := 9) (v := .ref (wad w 2 (pb g i))) rfl inU2 6 (by decide) tw_454 (Or.inl rfl) rfl dX5_ofPart_57 ?_
        refine g_get S hE (hW.bd (i := pb g i) (by omega)) (C := RX0) (T := TX0) (N := 11) (v := .int (nI (pb g i))) rfl inU0 5 (by decide) tw_302 (Or.inl rfl) rfl dX5_ofPart_60 ?_
        exact x_ret S hr hlocks hS hW (by simp [sp_ofPart, h9, ti, show wi (0 : Int32) 0 4 = true from by decide, show nI 0 = (0 : Int32) from rfl]) wsm.rf ⟨Nat.le_of_ble_eq_true rfl, Nat.le_of_ble_eq_true rfl⟩ dX5_ofPart_63
      · refine lv_iload_n hx hb dX5_ofPart_20 rfl (lv_at hl 3 rfl) ?_
        refine lv_tableIn (tgt := 64) hx hb dX5_ofPart_21 (by decide) (by decide) rfl (by decide) ?_
        refine lv_aload_n hx hb dX5_ofPart_64 rfl (lv_at hl 0 rfl) ?_
        refine g_callU (As := []) (rest := []) S hE hS (c_wNowP l z w g gm o hO (i) (by omega)) (va_cwU (y := yX4_widthNow) (x := ⟨"DovetailRow$Part", "widthNow", "()I"⟩) (C := "DovetailRow$Part") (owner := "DovetailRow$Wood") 0 hts (gU_U tw_513 tw_514 tw_515 tw_436 tw_13 tw_437) rfl rfl rfl rfl (by decide +kernel) ⟨Nat.le_of_ble_eq_true rfl, Nat.le_of_ble_eq_true rfl⟩) (hE.recv (hW.pt (i := i) (by omega)) (q := (RX2, TX2, 9)) rfl) hW rfl hl.1 rfl (Nat.le_of_ble_eq_true rfl) dX5_ofPart_65 ⟨Nat.zero_le _, Nat.zero_le _⟩ ?_
        exact x_ret S hr hlocks hS hW (by simp [sp_ofPart, h9, ti, show wi (1 : Int32) 0 4 = true from by decide, show nI 1 = (1 : Int32) from rfl]) wsm.rf ⟨Nat.le_of_ble_eq_true rfl, Nat.le_of_ble_eq_true rfl⟩ dX5_ofPart_68
      · refine lv_iload_n hx hb dX5_ofPart_20 rfl (lv_at hl 3 rfl) ?_
        refine lv_tableIn (tgt := 69) hx hb dX5_ofPart_21 (by decide) (by decide) rfl (by decide) ?_
        refine lv_aload_n hx hb dX5_ofPart_69 rfl (lv_at hl 0 rfl) ?_
        refine g_get S hE (hW.pt (i := i) (by omega)) (C := RX2) (T := TX2) (N := 9) (v := .int (g 22 i)) rfl inU2 3 (by decide) tw_326 (Or.inr tw_324) rfl dX5_ofPart_70 ?_
        exact x_ret S hr hlocks hS hW (by simp [sp_ofPart, h9, ti, show wi (2 : Int32) 0 4 = true from by decide, show nI 2 = (2 : Int32) from rfl]) wsm.rf ⟨Nat.le_of_ble_eq_true rfl, Nat.le_of_ble_eq_true rfl⟩ dX5_ofPart_73
      · refine lv_iload_n hx hb dX5_ofPart_20 rfl (lv_at hl 3 rfl) ?_
        refine lv_tableIn (tgt := 74) hx hb dX5_ofPart_21 (by decide) (by decide) rfl (by decide) ?_
        refine lv_aload_n hx hb dX5_ofPart_74 rfl (lv_at hl 0 rfl) ?_
        refine g_get S hE (hW.pt (i := i) (by omega)) (C := RX2) (T := TX2) (N := 9) (v := .int (g 23 i)) rfl inU2 4 (by decide) tw_328 (Or.inr tw_329) rfl dX5_ofPart_75 ?_
        exact x_ret S hr hlocks hS hW (by simp [sp_ofPart, h9, ti, show wi (3 : Int32) 0 4 = true from by decide, show nI 3 = (3 : Int32) from rfl]) wsm.rf ⟨Nat.le_of_ble_eq_true rfl, Nat.le_of_ble_eq_true rfl⟩ dX5_ofPart_78
      · refine lv_iload_n hx hb dX5_ofPart_20 rfl (lv_at hl 3 rfl) ?_
        refine lv_tableIn (tgt := 79) hx hb dX5_ofPart_21 (by decide) (by decide) rfl (by decide) ?_
        refine lv_aload_n hx hb dX5_ofPart_79 rfl (lv_at hl 0 rfl) ?_
        refine g_get S hE (hW.pt (i := i) (by omega)) (C := RX2) (T := TX2) (N := 9) (v := .int (g 18 i)) rfl inU2 7 (by decide) tw_456 (Or.inl rfl) rfl dX5_ofPart_80 ?_
        exact x_ret S hr hlocks hS hW (by simp [sp_ofPart, h9, ti, show wi (4 : Int32) 0 4 = true from by decide, show nI 4 = (4 : Int32) from rfl]) wsm.rf ⟨Nat.le_of_ble_eq_true rfl, Nat.le_of_ble_eq_true rfl⟩ dX5_ofPart_83
    · replace hw9 : wi b 0 4 = false := by simpa using hw9
      refine lv_iload_n hx hb dX5_ofPart_20 rfl (lv_at hl 3 rfl) ?_
      refine lv_tableOut (tgt := 84) hx hb dX5_ofPart_21 (tb_out (by decide) hw9) (by decide) ?_
      exact g_throwW 56 297 60 xA _ 2 exA S hst hE hS hW (show (297, "what is out of its range") ∈ strL by decide +kernel) hl.1 hno hlocks dX5_ofPart_84 dX5_ofPart_87 dX5_ofPart_88 dX5_ofPart_91 dX5_ofPart_94 ⟨Nat.le_of_ble_eq_true rfl, Nat.le_of_ble_eq_true rfl, Nat.le_of_ble_eq_true rfl, Nat.le_of_ble_eq_true rfl⟩ ⟨Nat.le_of_ble_eq_true rfl, Nat.le_of_ble_eq_true rfl⟩ ⟨by simp [sp_ofPart, h9, ti, hw9], by decide⟩ (by decide +kernel)
  · replace h9 : isP g a = false := by simpa using h9
    refine lv_aload_n hx hb dX5_ofPart_0 rfl (lv_at hl 0 rfl) ?_
    refine lv_iload_n hx hb dX5_ofPart_1 rfl (lv_at hl 1 rfl) ?_
    refine g_callVq (As := [.int a]) (rest := []) S hE hS (c_findPart_n l z w g gm o hO (a) h9) (cwV 1 hts (gU_V tw_494 tw_496 tp_9 tw_1 tw_497) rfl rfl rfl (by decide +kernel) ⟨Nat.le_of_ble_eq_true rfl, Nat.le_of_ble_eq_true rfl⟩) (hE.recv hW.sh (q := (RX5, TX5, 8)) rfl) hW rfl hl.1 rfl (Nat.le_of_ble_eq_true rfl) dX5_ofPart_2 ⟨Nat.zero_le _, Nat.zero_le _⟩ ?_
    rw [show va_rf none = .null from rfl]
    refine lv_astore_nN (lv' := [(3, .null), (0, .ref (wad w 0 (0))), (1, .int a), (2, .int b)]) hx hb dX5_ofPart_5 rfl hl (by decide) rfl (fun ls hl => ?_)
    refine lv_aload_nN hx hb dX5_ofPart_6 rfl (lv_at hl 0 rfl) ?_
    refine lv_ifnonnullN hx hb dX5_ofPart_7 ?_
    exact g_throw 45 176 49 xI _ 1 exI S hst hE hS hW (show (176, "there is no such part") ∈ strL by decide +kernel) hl.1 hno hlocks dX5_ofPart_10 dX5_ofPart_13 dX5_ofPart_14 dX5_ofPart_16 dX5_ofPart_19 ⟨Nat.le_of_ble_eq_true rfl, Nat.le_of_ble_eq_true rfl, Nat.le_of_ble_eq_true rfl, Nat.le_of_ble_eq_true rfl⟩ ⟨Nat.le_of_ble_eq_true rfl, Nat.le_of_ble_eq_true rfl⟩ ⟨by simp [sp_ofPart, h9], by decide⟩ (by decide +kernel)
set_option maxHeartbeats 4000000 in
set_option maxRecDepth 100000 in
/-- ofJoint(number, what) -/
theorem c_X5_ofJoint (l : Launch) (z : ZE) (hst : l.stackTraces = false) (w : WG) (g gm : GS) (o : Nat → Int64) (hO : OKg g) (a b : Int32) : vx_Met l yX5_ofJoint (.code yX5_ofJoint cX5_ofJoint 4 (some .int) :: wU) ({ frames := 6, cells := 1, slots := 6, locals := 103 }) (PE z [.ref (wad w 0 (0)), .int a, .int b] (fun H => WW z w g gm o H)) (xQ z w gm o (sp_ofJoint g a b)) (xX z w g gm o (sp_ofJoint g a b) xI xA xI) 1 6 (zA z) := by
  refine vx_ofW (cc := cX5_ofJoint) (maxL := 4) (ret := (some .int)) (by decide) rfl ?_
  intro p e s m args below meth c s₁ BD hml hno hv
  obtain ⟨rfl, hE, hW⟩ := hv
  have hts : ∀ w ∈ wU, w.before _ s = true := fun w h => atoms_spec (ws := .code yX5_ofJoint cX5_ofJoint 4 (some .int) :: wU) BD.pre w (List.mem_cons_of_mem _ h)
  have S : CallFix p m c cX5_ofJoint 4 s ([.ref (wad w 0 (0)), .int a, .int b] : List Value).toArray wU RX5 := ⟨BD.exec, BD.bytes, hml, findClass_of_methodNamed BD.named, hts⟩
  have hx := S.1
  have hb := S.2.1
  have hown := S.2.2.2.1
  have hr := BD.returns
  have hlocks := BD.notSynchronized
  have hS : va_S (zA z) s.heap s.heap [] := va_S.rf
  have hl := lv_entry ([.ref (wad w 0 (0)), .int a, .int b]) (n := 4) (Nat.le_of_ble_eq_true rfl)
  rw [lg_entry_eq]
  generalize (lg_sl ([.ref (wad w 0 (0)), .int a, .int b]) ++ List.replicate (4 - (lg_sl ([.ref (wad w 0 (0)), .int a, .int b])).length) Slot.unset).toArray = ls at hl ⊢
  have hl : lv_has ls 4 [(0, .ref (wad w 0 (0))), (1, .int a), (2, .int b)] := hl
  have h20 := hO.l5
  have h40 := hO.l16
  have h30 := hO.l24
  by_cases h9 : isJ g a = true
  · obtain ⟨i, hi, rfl⟩ := wi_lt (by omega) h9
    have ti : tN (nI i) = i := tNn (by omega)
    have q26 := hO.l26 hi
    have q27 := hO.l27 hi
    refine lv_aload_n hx hb dX5_ofJoint_0 rfl (lv_at hl 0 rfl) ?_
    refine lv_iload_n hx hb dX5_ofJoint_1 rfl (lv_at hl 1 rfl) ?_
    refine g_callVq (As := [.int (nI i)]) (rest := []) S hE hS (c_findJoint_y l z w g gm o hO (i) (by omega)) (cwV 1 hts (gU_V tw_588 tw_590 tp_11 tw_1 tw_591) rfl rfl rfl (by decide +kernel) ⟨Nat.le_of_ble_eq_true rfl, Nat.le_of_ble_eq_true rfl⟩) (hE.recv hW.sh (q := (RX5, TX5, 8)) rfl) hW rfl hl.1 rfl (Nat.le_of_ble_eq_true rfl) dX5_ofJoint_2 ⟨Nat.zero_le _, Nat.zero_le _⟩ ?_
    rw [show va_rf (some (wad w 4 (i))) = .ref (wad w 4 (i)) from rfl]
    refine lv_astore_n (lv' := [(3, .ref (wad w 4 (i))), (0, .ref (wad w 0 (0))), (1, .int (nI i)), (2, .int b)]) hx hb dX5_ofJoint_5 rfl hl (by decide) rfl (fun ls hl => ?_)
    refine lv_aload_n hx hb dX5_ofJoint_6 rfl (lv_at hl 0 rfl) ?_
    refine lv_ifnonnull (tgt := 20) hx hb dX5_ofJoint_7 (by decide) ?_
    by_cases hw9 : wi b 0 4 = true
    · obtain ⟨k9, hk9, rfl⟩ := wi_nat (n := 4) (by decide) hw9
      rcases (show k9 = 0 ∨ k9 = 1 ∨ k9 = 2 ∨ k9 = 3 ∨ k9 = 4 by omega) with rfl | rfl | rfl | rfl | rfl
      · refine lv_iload_n hx hb dX5_ofJoint_20 rfl (lv_at hl 3 rfl) ?_
        refine lv_tableIn (tgt := 56) hx hb dX5_ofJoint_21 (by decide) (by decide) rfl (by decide) ?_
        refine lv_aload_n hx hb dX5_ofJoint_56 rfl (lv_at hl 0 rfl) ?_
        refine g_callV (As := []) (rest := []) S hE hS (c_X1_state l z w g gm o hO (i) (by omega)) (cwV 0 hts (gU_V tw_593 tw_594 tw_595 tw_21 tw_596) rfl rfl rfl (by decide +kernel) ⟨Nat.le_of_ble_eq_true rfl, Nat.le_of_ble_eq_true rfl⟩) (hE.recv (hW.jt (i := i) (by omega)) (q := (RX1, TX1, 9)) rfl) hW rfl hl.1 rfl (Nat.le_of_ble_eq_true rfl) dX5_ofJoint_57 ⟨Nat.zero_le _, Nat.zero_le _⟩ ?_
        exact x_ret S hr hlocks hS hW (by simp [sp_ofJoint, h9, ti, show wi (0 : Int32) 0 4 = true from by decide, show nI 0 = (0 : Int32) from rfl]) wsm.rf ⟨Nat.le_of_ble_eq_true rfl, Nat.le_of_ble_eq_true rfl⟩ dX5_ofJoint_60
      · refine lv_iload_n hx hb dX5_ofJoint_20 rfl (lv_at hl 3 rfl) ?_
        refine lv_tableIn (tgt := 61) hx hb dX5_ofJoint_21 (by decide) (by decide) rfl (by decide) ?_
        refine lv_aload_n hx hb dX5_ofJoint_61 rfl (lv_at hl 0 rfl) ?_
        refine g_get S hE (hW.jt (i := i) (by omega)) (C := RX1) (T := TX1) (N := 9) (v := .int (g 28 i)) rfl inU1 4 (by decide) tw_532 (Or.inl rfl) rfl dX5_ofJoint_62 ?_
        exact x_ret S hr hlocks hS hW (by simp [sp_ofJoint, h9, ti, show wi (1 : Int32) 0 4 = true from by decide, show nI 1 = (1 : Int32) from rfl]) wsm.rf ⟨Nat.le_of_ble_eq_true rfl, Nat.le_of_ble_eq_true rfl⟩ dX5_ofJoint_65
      · refine lv_iload_n hx hb dX5_ofJoint_20 rfl (lv_at hl 3 rfl) ?_
        refine lv_tableIn (tgt := 66) hx hb dX5_ofJoint_21 (by decide) (by decide) rfl (by decide) ?_
        refine lv_aload_n hx hb dX5_ofJoint_66 rfl (lv_at hl 0 rfl) ?_
        refine g_get S hE (hW.jt (i := i) (by omega)) (C := RX1) (T := TX1) (N := 9) (v := .int (g 30 i)) rfl inU1 5 (by decide) tw_534 (Or.inl rfl) rfl dX5_ofJoint_67 ?_
        exact x_ret S hr hlocks hS hW (by simp [sp_ofJoint, h9, ti, show wi (2 : Int32) 0 4 = true from by decide, show nI 2 = (2 : Int32) from rfl]) wsm.rf ⟨Nat.le_of_ble_eq_true rfl, Nat.le_of_ble_eq_true rfl⟩ dX5_ofJoint_70
      · refine lv_iload_n hx hb dX5_ofJoint_20 rfl (lv_at hl 3 rfl) ?_
        refine lv_tableIn (tgt := 71) hx hb dX5_ofJoint_21 (by decide) (by decide) rfl (by decide) ?_
        refine lv_aload_n hx hb dX5_ofJoint_71 rfl (lv_at hl 0 rfl) ?_
        refine g_get S hE (hW.jt (i := i) (by omega)) (C := RX1) (T := TX1) (N := 9) (v := .ref (wad w 3 (jp g i))) rfl inU1 1 (by decide) tw_526 (Or.inl rfl) rfl dX5_ofJoint_72 ?_
        refine g_get S hE (hW.pt (i := jp g i) (by omega)) (C := RX2) (T := TX2) (N := 9) (v := .int (nI (jp g i))) rfl inU2 5 (by decide) tw_452 (Or.inl rfl) rfl dX5_ofJoint_75 ?_
        exact x_ret S hr hlocks hS hW (by simp [sp_ofJoint, h9, ti, show wi (3 : Int32) 0 4 = true from by decide, show nI 3 = (3 : Int32) from rfl]) wsm.rf ⟨Nat.le_of_ble_eq_true rfl, Nat.le_of_ble_eq_true rfl⟩ dX5_ofJoint_78
      · refine lv_iload_n hx hb dX5_ofJoint_20 rfl (lv_at hl 3 rfl) ?_
        refine lv_tableIn (tgt := 79) hx hb dX5_ofJoint_21 (by decide) (by decide) rfl (by decide) ?_
        refine lv_aload_n hx hb dX5_ofJoint_79 rfl (lv_at hl 0 rfl) ?_
        refine g_get S hE (hW.jt (i := i) (by omega)) (C := RX1) (T := TX1) (N := 9) (v := .ref (wad w 3 (jo g i))) rfl inU1 2 (by decide) tw_528 (Or.inl rfl) rfl dX5_ofJoint_80 ?_
        refine g_get S hE (hW.pt (i := jo g i) (by omega)) (C := RX2) (T := TX2) (N := 9) (v := .int (nI (jo g i))) rfl inU2 5 (by decide) tw_452 (Or.inl rfl) rfl dX5_ofJoint_83 ?_
        exact x_ret S hr hlocks hS hW (by simp [sp_ofJoint, h9, ti, show wi (4 : Int32) 0 4 = true from by decide, show nI 4 = (4 : Int32) from rfl]) wsm.rf ⟨Nat.le_of_ble_eq_true rfl, Nat.le_of_ble_eq_true rfl⟩ dX5_ofJoint_86
    · replace hw9 : wi b 0 4 = false := by simpa using hw9
      refine lv_iload_n hx hb dX5_ofJoint_20 rfl (lv_at hl 3 rfl) ?_
      refine lv_tableOut (tgt := 87) hx hb dX5_ofJoint_21 (tb_out (by decide) hw9) (by decide) ?_
      exact g_throwW 56 297 60 xA _ 2 exA S hst hE hS hW (show (297, "what is out of its range") ∈ strL by decide +kernel) hl.1 hno hlocks dX5_ofJoint_87 dX5_ofJoint_90 dX5_ofJoint_91 dX5_ofJoint_94 dX5_ofJoint_97 ⟨Nat.le_of_ble_eq_true rfl, Nat.le_of_ble_eq_true rfl, Nat.le_of_ble_eq_true rfl, Nat.le_of_ble_eq_true rfl⟩ ⟨Nat.le_of_ble_eq_true rfl, Nat.le_of_ble_eq_true rfl⟩ ⟨by simp [sp_ofJoint, h9, ti, hw9], by decide⟩ (by decide +kernel)
  · replace h9 : isJ g a = false := by simpa using h9
    refine lv_aload_n hx hb dX5_ofJoint_0 rfl (lv_at hl 0 rfl) ?_
    refine lv_iload_n hx hb dX5_ofJoint_1 rfl (lv_at hl 1 rfl) ?_
    refine g_callVq (As := [.int a]) (rest := []) S hE hS (c_findJoint_n l z w g gm o hO (a) h9) (cwV 1 hts (gU_V tw_588 tw_590 tp_11 tw_1 tw_591) rfl rfl rfl (by decide +kernel) ⟨Nat.le_of_ble_eq_true rfl, Nat.le_of_ble_eq_true rfl⟩) (hE.recv hW.sh (q := (RX5, TX5, 8)) rfl) hW rfl hl.1 rfl (Nat.le_of_ble_eq_true rfl) dX5_ofJoint_2 ⟨Nat.zero_le _, Nat.zero_le _⟩ ?_
    rw [show va_rf none = .null from rfl]
    refine lv_astore_nN (lv' := [(3, .null), (0, .ref (wad w 0 (0))), (1, .int a), (2, .int b)]) hx hb dX5_ofJoint_5 rfl hl (by decide) rfl (fun ls hl => ?_)
    refine lv_aload_nN hx hb dX5_ofJoint_6 rfl (lv_at hl 0 rfl) ?_
    refine lv_ifnonnullN hx hb dX5_ofJoint_7 ?_
    exact g_throw 45 225 49 xI _ 1 exI S hst hE hS hW (show (225, "there is no such joint") ∈ strL by decide +kernel) hl.1 hno hlocks dX5_ofJoint_10 dX5_ofJoint_13 dX5_ofJoint_14 dX5_ofJoint_16 dX5_ofJoint_19 ⟨Nat.le_of_ble_eq_true rfl, Nat.le_of_ble_eq_true rfl, Nat.le_of_ble_eq_true rfl, Nat.le_of_ble_eq_true rfl⟩ ⟨Nat.le_of_ble_eq_true rfl, Nat.le_of_ble_eq_true rfl⟩ ⟨by simp [sp_ofJoint, h9], by decide⟩ (by decide +kernel)
set_option maxHeartbeats 4000000 in
set_option maxRecDepth 100000 in
/-- Joint.hold() -/
theorem c_X1_hold (l : Launch) (z : ZE) (w : WG) (g gm : GS) (o : Nat → Int64) (j : Nat) (hj : j < nj g) (hjp : jp g j < np g) : Met l yX1_hold (.code yX1_hold cX1_hold 1 none :: wU) ({ frames := 0, cells := 0, slots := 0, locals := 0 }) (PE z [.ref (wad w 4 (j))] (fun H => WW z w g gm o H)) (xQv z w (gup (gup (gup g 31 j 1) 32 j 0) 33 j (g 22 (jp g j))) gm o) 0 0 (zA z) := by
  refine Met.ofW (cc := cX1_hold) (maxL := 1) (ret := none) (by decide) rfl ?_
  intro p e s m args below meth c s₁ BD hml hv
  obtain ⟨rfl, hE, hW⟩ := hv
  have hts : ∀ w ∈ wU, w.before _ s = true := fun w h => atoms_spec (ws := .code yX1_hold cX1_hold 1 none :: wU) BD.pre w (List.mem_cons_of_mem _ h)
  have S : CallFix p m c cX1_hold 1 s ([.ref (wad w 4 (j))] : List Value).toArray wU RX1 := ⟨BD.exec, BD.bytes, hml, findClass_of_methodNamed BD.named, hts⟩
  have hx := S.1
  have hb := S.2.1
  have hown := S.2.2.2.1
  have hr := BD.returns
  have hlocks := BD.notSynchronized
  have hS : va_S (zA z) s.heap s.heap [] := va_S.rf
  have hl := lv_entry ([.ref (wad w 4 (j))]) (n := 1) (Nat.le_of_ble_eq_true rfl)
  rw [lg_entry_eq]
  generalize (lg_sl ([.ref (wad w 4 (j))]) ++ List.replicate (1 - (lg_sl ([.ref (wad w 4 (j))])).length) Slot.unset).toArray = ls at hl ⊢
  have hl : lv_has ls 1 [(0, .ref (wad w 4 (j)))] := hl
  refine lv_aload_n hx hb dX1_hold_0 rfl (lv_at hl 0 rfl) ?_
  refine lv_iconst (v := 1) hx hb dX1_hold_1 (by decide) ?_
  refine g_put S hE hS (hW.jt (i := j) (show j < nj g by omega)) (hW.2.2.1 4 (j) (show j < nj g by omega)) (C := RX1) (T := TX1) (N := 9) rfl inU1 tyX1 tyX1_ok nmX1 6 (by decide) tw_535 (Or.inl rfl) (Or.inl rfl) (v := .int 1) rfl rfl (Nat.le_of_ble_eq_true rfl) dX1_hold_2 (fun H locs he oq _ hS => ?_)
  replace hW := hW.uj31 (i := j) (show j < nj g by omega) he oq
  refine lv_aload_n hx hb dX1_hold_5 rfl (lv_at hl 0 rfl) ?_
  refine lv_iconst (v := 0) hx hb dX1_hold_6 (by decide) ?_
  refine g_put S hE hS (hW.jt (i := j) (show j < nj g by omega)) (hW.2.2.1 4 (j) (show j < nj g by omega)) (C := RX1) (T := TX1) (N := 9) rfl inU1 tyX1 tyX1_ok nmX1 7 (by decide) tw_537 (Or.inl rfl) (Or.inl rfl) (v := .int 0) rfl rfl (Nat.le_of_ble_eq_true rfl) dX1_hold_7 (fun H locs he oq _ hS => ?_)
  replace hW := hW.uj32 (i := j) (show j < nj g by omega) he oq
  refine lv_aload_n hx hb dX1_hold_10 rfl (lv_at hl 0 rfl) ?_
  refine lv_aload_n hx hb dX1_hold_11 rfl (lv_at hl 0 rfl) ?_
  refine g_get S hE (hW.jt (i := j) (show j < nj g by omega)) (C := RX1) (T := TX1) (N := 9) (v := .ref (wad w 3 (jp g j))) rfl inU1 1 (by decide) tw_525 (Or.inl rfl) rfl dX1_hold_12 ?_
  refine g_get S hE (hW.pt (i := jp g j) (show jp g j < np g by omega)) (C := RX2) (T := TX2) (N := 9) (v := .int (g 22 (jp g j))) rfl inU2 3 (by decide) tw_323 (Or.inr tw_324) rfl dX1_hold_15 ?_
  refine g_put S hE hS (hW.jt (i := j) (show j < nj g by omega)) (hW.2.2.1 4 (j) (show j < nj g by omega)) (C := RX1) (T := TX1) (N := 9) rfl inU1 tyX1 tyX1_ok nmX1 8 (by decide) tw_539 (Or.inl rfl) (Or.inl rfl) (v := .int (g 22 (jp g j))) rfl rfl (Nat.le_of_ble_eq_true rfl) dX1_hold_18 (fun H locs he oq _ hS => ?_)
  replace hW := hW.uj33 (i := j) (show j < nj g by omega) he oq
  exact x_vret S hr hlocks hS hW dX1_hold_21
set_option maxHeartbeats 4000000 in
set_option maxRecDepth 100000 in
/-- repair(joint) -/
theorem c_X5_repair (l : Launch) (z : ZE) (hst : l.stackTraces = false) (w : WG) (g gm : GS) (o : Nat → Int64) (hO : OKg g) (a : Int32) : vx_Met l yX5_repair (.code yX5_repair cX5_repair 3 (some .int) :: wU) ({ frames := 6, cells := 1, slots := 6, locals := 90 }) (PE z [.ref (wad w 0 (0)), .int a] (fun H => WW z w g gm o H)) (xQ z w gm o (sp_repair g a)) (xX z w g gm o (sp_repair g a) xI xS xI) 1 6 (zA z) := by
  refine vx_ofW (cc := cX5_repair) (maxL := 3) (ret := (some .int)) (by decide) rfl ?_
  intro p e s m args below meth c s₁ BD hml hno hv
  obtain ⟨rfl, hE, hW⟩ := hv
  have hts : ∀ w ∈ wU, w.before _ s = true := fun w h => atoms_spec (ws := .code yX5_repair cX5_repair 3 (some .int) :: wU) BD.pre w (List.mem_cons_of_mem _ h)
  have S : CallFix p m c cX5_repair 3 s ([.ref (wad w 0 (0)), .int a] : List Value).toArray wU RX5 := ⟨BD.exec, BD.bytes, hml, findClass_of_methodNamed BD.named, hts⟩
  have hx := S.1
  have hb := S.2.1
  have hown := S.2.2.2.1
  have hr := BD.returns
  have hlocks := BD.notSynchronized
  have hS : va_S (zA z) s.heap s.heap [] := va_S.rf
  have hl := lv_entry ([.ref (wad w 0 (0)), .int a]) (n := 3) (Nat.le_of_ble_eq_true rfl)
  rw [lg_entry_eq]
  generalize (lg_sl ([.ref (wad w 0 (0)), .int a]) ++ List.replicate (3 - (lg_sl ([.ref (wad w 0 (0)), .int a])).length) Slot.unset).toArray = ls at hl ⊢
  have hl : lv_has ls 3 [(0, .ref (wad w 0 (0))), (1, .int a)] := hl
  have h20 := hO.l5
  have h40 := hO.l16
  have h30 := hO.l24
  by_cases h9 : isJ g a = true
  · obtain ⟨i, hi, rfl⟩ := wi_lt (by omega) h9
    have ti : tN (nI i) = i := tNn (by omega)
    have q26 := hO.l26 hi
    refine lv_aload_n hx hb dX5_repair_0 rfl (lv_at hl 0 rfl) ?_
    refine lv_iload_n hx hb dX5_repair_1 rfl (lv_at hl 1 rfl) ?_
    refine g_callVq (As := [.int (nI i)]) (rest := []) S hE hS (c_findJoint_y l z w g gm o hO (i) (by omega)) (cwV 1 hts (gU_V tw_588 tw_590 tp_11 tw_1 tw_591) rfl rfl rfl (by decide +kernel) ⟨Nat.le_of_ble_eq_true rfl, Nat.le_of_ble_eq_true rfl⟩) (hE.recv hW.sh (q := (RX5, TX5, 8)) rfl) hW rfl hl.1 rfl (Nat.le_of_ble_eq_true rfl) dX5_repair_2 ⟨Nat.zero_le _, Nat.zero_le _⟩ ?_
    rw [show va_rf (some (wad w 4 (i))) = .ref (wad w 4 (i)) from rfl]
    refine lv_astore_n (lv' := [(2, .ref (wad w 4 (i))), (0, .ref (wad w 0 (0))), (1, .int (nI i))]) hx hb dX5_repair_5 rfl hl (by decide) rfl (fun ls hl => ?_)
    refine lv_aload_n hx hb dX5_repair_6 rfl (lv_at hl 0 rfl) ?_
    refine lv_ifnonnull (tgt := 20) hx hb dX5_repair_7 (by decide) ?_
    refine lv_aload_n hx hb dX5_repair_20 rfl (lv_at hl 0 rfl) ?_
    refine g_get S hE (hW.jt (i := i) (by omega)) (C := RX1) (T := TX1) (N := 9) (v := .int (g 32 i)) rfl inU1 7 (by decide) tw_538 (Or.inl rfl) rfl dX5_repair_21 ?_
    refine lv_if_ne (tgt := 38) hx hb dX5_repair_24 (by decide) (fun c_24 => ?_) (fun c_24 => ?_)
    · refine lv_aload_n hx hb dX5_repair_38 rfl (lv_at hl 0 rfl) ?_
      refine g_get S hE (hW.jt (i := i) (by omega)) (C := RX1) (T := TX1) (N := 9) (v := .int (g 25 i)) rfl inU1 0 (by decide) tw_524 (Or.inl rfl) rfl dX5_repair_39 ?_
      refine lv_iconst (v := 2) hx hb dX5_repair_42 (by decide) ?_
      refine lv_icmp_ne (tgt := 62) hx hb dX5_repair_43 (by decide) (fun c_43_1 => ?_) (fun c_43_1 => ?_)
      · refine lv_aload_n hx hb dX5_repair_62 rfl (lv_at hl 0 rfl) ?_
        refine x_callv (As := []) (rest := []) S hE hS (c_X1_hold l z w g gm o (i) (show i < nj g by omega) (show jp g i < np g by omega)) (cwV 0 hts (gU_V tw_630 tw_631 tw_632 tw_21 tw_633) rfl rfl rfl (by decide +kernel) ⟨Nat.le_of_ble_eq_true rfl, Nat.le_of_ble_eq_true rfl⟩) (hE.recv (hW.jt (i := i) (show i < nj g by omega)) (q := (RX1, TX1, 9)) rfl) hW rfl hl.1 rfl (Nat.le_of_ble_eq_true rfl) dX5_repair_63 ⟨Nat.zero_le _, Nat.zero_le _⟩ (fun H locs hW hS => ?_)
        refine lv_aload_n hx hb dX5_repair_66 rfl (lv_at hl 0 rfl) ?_
        refine g_get S hE (hW.jt (i := i) (show i < nj g by omega)) (C := RX1) (T := TX1) (N := 9) (v := .int (g 28 i)) rfl inU1 4 (by decide) tw_532 (Or.inl rfl) rfl dX5_repair_67 ?_
        exact x_ret S hr hlocks hS hW (rp_n hO hi h9 c_24 c_43_1) wsm.rf ⟨Nat.le_of_ble_eq_true rfl, Nat.le_of_ble_eq_true rfl⟩ dX5_repair_70
      · refine lv_aload_n hx hb dX5_repair_46 rfl (lv_at hl 0 rfl) ?_
        refine lv_aload_n hx hb dX5_repair_47 rfl (lv_at hl 0 rfl) ?_
        refine g_get S hE (hW.jt (i := i) (by omega)) (C := RX1) (T := TX1) (N := 9) (v := .ref (wad w 3 (jp g i))) rfl inU1 1 (by decide) tw_526 (Or.inl rfl) rfl dX5_repair_48 ?_
        refine g_callU (As := []) (rest := [.ref (wad w 4 (i))]) S hE hS (c_wNowP l z w g gm o hO (jp g i) (by omega)) (va_cwU (y := yX4_widthNow) (x := ⟨"DovetailRow$Part", "widthNow", "()I"⟩) (C := "DovetailRow$Part") (owner := "DovetailRow$Wood") 0 hts (gU_U tw_513 tw_514 tw_515 tw_436 tw_13 tw_437) rfl rfl rfl rfl (by decide +kernel) ⟨Nat.le_of_ble_eq_true rfl, Nat.le_of_ble_eq_true rfl⟩) (hE.recv (hW.pt (i := jp g i) (by omega)) (q := (RX2, TX2, 9)) rfl) hW rfl hl.1 rfl (Nat.le_of_ble_eq_true rfl) dX5_repair_51 ⟨Nat.zero_le _, Nat.zero_le _⟩ ?_
        refine lv_aload_n hx hb dX5_repair_54 rfl (lv_at hl 0 rfl) ?_
        refine g_get S hE (hW.jt (i := i) (by omega)) (C := RX1) (T := TX1) (N := 9) (v := .int (g 29 i)) rfl inU1 3 (by decide) tw_530 (Or.inl rfl) rfl dX5_repair_55 ?_
        refine lv_iadd hx hb dX5_repair_58 ?_
        refine g_put S hE hS (hW.jt (i := i) (show i < nj g by omega)) (hW.2.2.1 4 (i) (show i < nj g by omega)) (C := RX1) (T := TX1) (N := 9) rfl inU1 tyX1 tyX1_ok nmX1 4 (by decide) tw_532 (Or.inl rfl) (Or.inl rfl) (v := .int ((wAt g (jp g i) (g 22 (jp g i))) + (g 29 i))) rfl rfl (Nat.le_of_ble_eq_true rfl) dX5_repair_59 (fun H locs he oq _ hS => ?_)
        replace hW := hW.uj28 (i := i) (show i < nj g by omega) he oq
        refine lv_aload_n hx hb dX5_repair_62 rfl (lv_at hl 0 rfl) ?_
        refine x_callv (As := []) (rest := []) S hE hS (c_X1_hold l z w (gup g 28 (i) ((wAt g (jp g i) (g 22 (jp g i))) + (g 29 i))) gm o (i) (show i < nj g by omega) (show jp g i < np g by omega)) (cwV 0 hts (gU_V tw_630 tw_631 tw_632 tw_21 tw_633) rfl rfl rfl (by decide +kernel) ⟨Nat.le_of_ble_eq_true rfl, Nat.le_of_ble_eq_true rfl⟩) (hE.recv (hW.jt (i := i) (show i < nj g by omega)) (q := (RX1, TX1, 9)) rfl) hW rfl hl.1 rfl (Nat.le_of_ble_eq_true rfl) dX5_repair_63 ⟨Nat.zero_le _, Nat.zero_le _⟩ (fun H locs hW hS => ?_)
        refine lv_aload_n hx hb dX5_repair_66 rfl (lv_at hl 0 rfl) ?_
        refine g_get S hE (hW.jt (i := i) (show i < nj g by omega)) (C := RX1) (T := TX1) (N := 9) (v := .int ((wAt g (jp g i) (g 22 (jp g i))) + (g 29 i))) rfl inU1 4 (by decide) tw_532 (Or.inl rfl) (by simp [gup]) dX5_repair_67 ?_
        exact x_ret S hr hlocks hS hW (rp_2 hO hi h9 c_24 c_43_1) wsm.rf ⟨Nat.le_of_ble_eq_true rfl, Nat.le_of_ble_eq_true rfl⟩ dX5_repair_70
    · exact g_throwW 63 269 67 xS _ 2 exS S hst hE hS hW (show (269, "the joint is not broken") ∈ strL by decide +kernel) hl.1 hno hlocks dX5_repair_27 dX5_repair_30 dX5_repair_31 dX5_repair_34 dX5_repair_37 ⟨Nat.le_of_ble_eq_true rfl, Nat.le_of_ble_eq_true rfl, Nat.le_of_ble_eq_true rfl, Nat.le_of_ble_eq_true rfl⟩ ⟨Nat.le_of_ble_eq_true rfl, Nat.le_of_ble_eq_true rfl⟩ ⟨by simp [sp_repair, h9, ti, c_24], by decide⟩ (by decide +kernel)
  · replace h9 : isJ g a = false := by simpa using h9
    refine lv_aload_n hx hb dX5_repair_0 rfl (lv_at hl 0 rfl) ?_
    refine lv_iload_n hx hb dX5_repair_1 rfl (lv_at hl 1 rfl) ?_
    refine g_callVq (As := [.int a]) (rest := []) S hE hS (c_findJoint_n l z w g gm o hO (a) h9) (cwV 1 hts (gU_V tw_588 tw_590 tp_11 tw_1 tw_591) rfl rfl rfl (by decide +kernel) ⟨Nat.le_of_ble_eq_true rfl, Nat.le_of_ble_eq_true rfl⟩) (hE.recv hW.sh (q := (RX5, TX5, 8)) rfl) hW rfl hl.1 rfl (Nat.le_of_ble_eq_true rfl) dX5_repair_2 ⟨Nat.zero_le _, Nat.zero_le _⟩ ?_
    rw [show va_rf none = .null from rfl]
    refine lv_astore_nN (lv' := [(2, .null), (0, .ref (wad w 0 (0))), (1, .int a)]) hx hb dX5_repair_5 rfl hl (by decide) rfl (fun ls hl => ?_)
    refine lv_aload_nN hx hb dX5_repair_6 rfl (lv_at hl 0 rfl) ?_
    refine lv_ifnonnullN hx hb dX5_repair_7 ?_
    exact g_throw 45 225 49 xI _ 1 exI S hst hE hS hW (show (225, "there is no such joint") ∈ strL by decide +kernel) hl.1 hno hlocks dX5_repair_10 dX5_repair_13 dX5_repair_14 dX5_repair_16 dX5_repair_19 ⟨Nat.le_of_ble_eq_true rfl, Nat.le_of_ble_eq_true rfl, Nat.le_of_ble_eq_true rfl, Nat.le_of_ble_eq_true rfl⟩ ⟨Nat.le_of_ble_eq_true rfl, Nat.le_of_ble_eq_true rfl⟩ ⟨by simp [sp_repair, h9], by decide⟩ (by decide +kernel)
