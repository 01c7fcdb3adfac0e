/-! ===== the law from its entry ===== -/
set_option maxHeartbeats 4000000 in
set_option maxRecDepth 100000 in
/-- THE LAW, from its entry -/
theorem whole_start {p : Program} {e : Env} {s : State} {m : MethodId} {below : List Frame} {meth : Method} {c : Code} (l : Launch) (hflags : l.flags = flags0) {b L : Nat} {xs : Nat → Int32} (hL : L ≤ 260) (C0 : lw_At p s m meth c b L xs) : W p l e room_1 s m #[Value.ref b] below meth c s.heap [] 0 0 (lw_Z below #[Value.ref b] s) (entryFrame m ([Value.ref b] : List Value).toArray 26) := by
  have hst : l.stackTraces = false := by unfold Launch.stackTraces; rw [hflags]; decide
  obtain ⟨hx, hb, hr, hml, hown, hts0, hX, hbl, hlocks, hgv⟩ := id C0
  have hts : ∀ w ∈ wU, w.before #[Value.ref b] s = true := fun w h => hts0 w (wU_tbl w h)
  obtain ⟨z, hz, hE⟩ := ev_start hts0 hgv
  have S : CallFix p m c cL_law 26 s #[Value.ref b] wU RL := ⟨hx, hb, hml, hown, hts⟩
  have hS : va_S (zA z) s.heap s.heap [] := va_S.rf
  have hbz : b < zB z := by rw [hz]; exact hbl
  have hbA : ¬ zA z b := fun q => by have q2 : zB z ≤ b := q; omega
  have hl := lv_entry ([.ref b]) (n := 26) (Nat.le_of_ble_eq_true rfl)
  rw [lg_entry_eq]
  generalize (lg_sl ([.ref b]) ++ List.replicate (26 - (lg_sl ([.ref b])).length) Slot.unset).toArray = ls at hl ⊢
  have hl : lv_has ls 26 [(0, .ref b)] := hl
  obtain ⟨q, hq⟩ : ∃ x : Nat, s.heap.size = x := ⟨_, rfl⟩
  refine g_new S hE hS (C := RX5) (T := TX5) (N := 8) (ci := 5) rfl inU5 tyX5 tyX5_ok tw_23 tw_24 tw_1 (fs := [.null, .null, .null, .null, .int 0, .int 0, .int 0, .int 0]) (fun j hj => by match j, hj with | 0, _ => rfl | 1, _ => rfl | 2, _ => rfl | 3, _ => rfl | 4, _ => rfl | 5, _ => rfl | 6, _ => rfl | 7, _ => rfl) ⟨Nat.le_of_ble_eq_true rfl, Nat.le_of_ble_eq_true rfl⟩ dL_law_0 hq (fun H hv zq oq hS => ?_)
  refine lv_dup hx hb dL_law_3 rfl ?_
  refine g_init (As := []) (rest := [.ref q]) S hE hS (c_X5_init l z q (q + 1) .null .null .null .null (.int 0) (.int 0) (.int 0) (.int 0)) (x_cwI 0 hts tw_25 tw_26 tw_1 tw_27 rfl rfl (by decide +kernel) ⟨Nat.le_of_ble_eq_true rfl, Nat.le_of_ble_eq_true rfl⟩ rfl) ⟨zq, ⟨by omega, by omega⟩, hv⟩ rfl hl.1 rfl (Nat.le_of_ble_eq_true rfl) dL_law_4 ⟨Nat.le_of_ble_eq_true rfl, Nat.le_of_ble_eq_true rfl⟩ (fun y _ (e9 : y = q) => by omega) (fun H2 locs hB hz2 ho2 hS => ?_)
  obtain ⟨q1, q2, q3, q4, hq14, hsh, hl1, hl2, hl3, hai⟩ := hB
  refine lv_astore_n (lv' := [(1, .ref q), (0, .ref b)]) hx hb dL_law_7 rfl hl (by decide) rfl (fun ls hl => ?_)
  have h4 : q4 < H2.size := hai.lt
  obtain ⟨md, hmd⟩ : ∃ x : Nat, H2.size = x := ⟨_, rfl⟩
  obtain ⟨qa, hqa⟩ : ∃ f : Nat → Nat, ∀ i, f i = md + i := ⟨fun i => md + i, fun _ => rfl⟩
  refine lv_bipush (v := nI 12) hx hb dL_law_8 (by decide) ?_
  refine g_newI (N := 12) S hE hS tw_85 (by decide) ⟨Nat.le_of_ble_eq_true rfl, Nat.le_of_ble_eq_true rfl⟩ dL_law_10 (show H2.size = qa 0 by rw [hqa]; omega) (fun A0 hv0 zv0 ov0 hS => ?_)
  rw [hqa] at zv0
  refine lv_astore_n (lv' := [(2, .ref (qa 0)), (1, .ref q), (0, .ref b)]) hx hb dL_law_12 rfl hl (by decide) rfl (fun ls hl => ?_)
  refine lv_iconst (v := nI 3) hx hb dL_law_13 (by decide) ?_
  refine g_newI (N := 3) S hE hS tw_85 (by decide) ⟨Nat.le_of_ble_eq_true rfl, Nat.le_of_ble_eq_true rfl⟩ dL_law_14 (show A0.size = qa 1 by rw [hqa]; omega) (fun A1 hv1 zv1 ov1 hS => ?_)
  rw [hqa] at zv1
  refine lv_astore_n (lv' := [(3, .ref (qa 1)), (2, .ref (qa 0)), (1, .ref q), (0, .ref b)]) hx hb dL_law_16 rfl hl (by decide) rfl (fun ls hl => ?_)
  refine lv_bipush (v := nI 6) hx hb dL_law_17 (by decide) ?_
  refine g_newI (N := 6) S hE hS tw_85 (by decide) ⟨Nat.le_of_ble_eq_true rfl, Nat.le_of_ble_eq_true rfl⟩ dL_law_19 (show A1.size = qa 2 by rw [hqa]; omega) (fun A2 hv2 zv2 ov2 hS => ?_)
  rw [hqa] at zv2
  refine lv_astore (lv' := [(4, .ref (qa 2)), (3, .ref (qa 1)), (2, .ref (qa 0)), (1, .ref q), (0, .ref b)]) hx hb dL_law_21 hl (by decide) rfl (fun ls hl => ?_)
  refine lv_bipush (v := nI 6) hx hb dL_law_23 (by decide) ?_
  refine g_newI (N := 6) S hE hS tw_85 (by decide) ⟨Nat.le_of_ble_eq_true rfl, Nat.le_of_ble_eq_true rfl⟩ dL_law_25 (show A2.size = qa 3 by rw [hqa]; omega) (fun A3 hv3 zv3 ov3 hS => ?_)
  rw [hqa] at zv3
  refine lv_astore (lv' := [(5, .ref (qa 3)), (4, .ref (qa 2)), (3, .ref (qa 1)), (2, .ref (qa 0)), (1, .ref q), (0, .ref b)]) hx hb dL_law_27 hl (by decide) rfl (fun ls hl => ?_)
  refine lv_bipush (v := nI 6) hx hb dL_law_29 (by decide) ?_
  refine g_newI (N := 6) S hE hS tw_85 (by decide) ⟨Nat.le_of_ble_eq_true rfl, Nat.le_of_ble_eq_true rfl⟩ dL_law_31 (show A3.size = qa 4 by rw [hqa]; omega) (fun A4 hv4 zv4 ov4 hS => ?_)
  rw [hqa] at zv4
  refine lv_astore (lv' := [(6, .ref (qa 4)), (5, .ref (qa 3)), (4, .ref (qa 2)), (3, .ref (qa 1)), (2, .ref (qa 0)), (1, .ref q), (0, .ref b)]) hx hb dL_law_33 hl (by decide) rfl (fun ls hl => ?_)
  refine lv_bipush (v := nI 6) hx hb dL_law_35 (by decide) ?_
  refine g_newI (N := 6) S hE hS tw_85 (by decide) ⟨Nat.le_of_ble_eq_true rfl, Nat.le_of_ble_eq_true rfl⟩ dL_law_37 (show A4.size = qa 5 by rw [hqa]; omega) (fun A5 hv5 zv5 ov5 hS => ?_)
  rw [hqa] at zv5
  refine lv_astore (lv' := [(7, .ref (qa 5)), (6, .ref (qa 4)), (5, .ref (qa 3)), (4, .ref (qa 2)), (3, .ref (qa 1)), (2, .ref (qa 0)), (1, .ref q), (0, .ref b)]) hx hb dL_law_39 hl (by decide) rfl (fun ls hl => ?_)
  refine lv_bipush (v := nI 60) hx hb dL_law_41 (by decide) ?_
  refine g_newI (N := 60) S hE hS tw_85 (by decide) ⟨Nat.le_of_ble_eq_true rfl, Nat.le_of_ble_eq_true rfl⟩ dL_law_43 (show A5.size = qa 6 by rw [hqa]; omega) (fun A6 hv6 zv6 ov6 hS => ?_)
  rw [hqa] at zv6
  refine lv_astore (lv' := [(8, .ref (qa 6)), (7, .ref (qa 5)), (6, .ref (qa 4)), (5, .ref (qa 3)), (4, .ref (qa 2)), (3, .ref (qa 1)), (2, .ref (qa 0)), (1, .ref q), (0, .ref b)]) hx hb dL_law_45 hl (by decide) rfl (fun ls hl => ?_)
  refine lv_bipush (v := nI 12) hx hb dL_law_47 (by decide) ?_
  refine g_newI (N := 12) S hE hS tw_85 (by decide) ⟨Nat.le_of_ble_eq_true rfl, Nat.le_of_ble_eq_true rfl⟩ dL_law_49 (show A6.size = qa 7 by rw [hqa]; omega) (fun A7 hv7 zv7 ov7 hS => ?_)
  rw [hqa] at zv7
  refine lv_astore (lv' := [(9, .ref (qa 7)), (8, .ref (qa 6)), (7, .ref (qa 5)), (6, .ref (qa 4)), (5, .ref (qa 3)), (4, .ref (qa 2)), (3, .ref (qa 1)), (2, .ref (qa 0)), (1, .ref q), (0, .ref b)]) hx hb dL_law_51 hl (by decide) rfl (fun ls hl => ?_)
  refine lv_bipush (v := nI 6) hx hb dL_law_53 (by decide) ?_
  refine g_newI (N := 6) S hE hS tw_85 (by decide) ⟨Nat.le_of_ble_eq_true rfl, Nat.le_of_ble_eq_true rfl⟩ dL_law_55 (show A7.size = qa 8 by rw [hqa]; omega) (fun A8 hv8 zv8 ov8 hS => ?_)
  rw [hqa] at zv8
  refine lv_astore (lv' := [(10, .ref (qa 8)), (9, .ref (qa 7)), (8, .ref (qa 6)), (7, .ref (qa 5)), (6, .ref (qa 4)), (5, .ref (qa 3)), (4, .ref (qa 2)), (3, .ref (qa 1)), (2, .ref (qa 0)), (1, .ref q), (0, .ref b)]) hx hb dL_law_57 hl (by decide) rfl (fun ls hl => ?_)
  refine lv_bipush (v := nI 12) hx hb dL_law_59 (by decide) ?_
  refine g_newI (N := 12) S hE hS tw_85 (by decide) ⟨Nat.le_of_ble_eq_true rfl, Nat.le_of_ble_eq_true rfl⟩ dL_law_61 (show A8.size = qa 9 by rw [hqa]; omega) (fun A9 hv9 zv9 ov9 hS => ?_)
  rw [hqa] at zv9
  refine lv_astore (lv' := [(11, .ref (qa 9)), (10, .ref (qa 8)), (9, .ref (qa 7)), (8, .ref (qa 6)), (7, .ref (qa 5)), (6, .ref (qa 4)), (5, .ref (qa 3)), (4, .ref (qa 2)), (3, .ref (qa 1)), (2, .ref (qa 0)), (1, .ref q), (0, .ref b)]) hx hb dL_law_63 hl (by decide) rfl (fun ls hl => ?_)
  refine lv_iconst (v := 1) hx hb dL_law_65 (by decide) ?_
  refine lv_istore (lv' := [(12, .int 1), (11, .ref (qa 9)), (10, .ref (qa 8)), (9, .ref (qa 7)), (8, .ref (qa 6)), (7, .ref (qa 5)), (6, .ref (qa 4)), (5, .ref (qa 3)), (4, .ref (qa 2)), (3, .ref (qa 1)), (2, .ref (qa 0)), (1, .ref q), (0, .ref b)]) hx hb dL_law_66 hl (by decide) rfl (fun ls hl => ?_)
  refine lv_iconst (v := nI 0) hx hb dL_law_68 (by decide) ?_
  refine lv_istore (lv' := [(13, .int (nI 0)), (12, .int 1), (11, .ref (qa 9)), (10, .ref (qa 8)), (9, .ref (qa 7)), (8, .ref (qa 6)), (7, .ref (qa 5)), (6, .ref (qa 4)), (5, .ref (qa 3)), (4, .ref (qa 2)), (3, .ref (qa 1)), (2, .ref (qa 0)), (1, .ref q), (0, .ref b)]) hx hb dL_law_69 hl (by decide) rfl (fun ls hl => ?_)
  have k9 : ∀ y : Nat, y < md + 9 → A9[y]? = A8[y]? := fun y hy => ov9 y (by rw [hqa]; exact hy)
  have k8 : ∀ y : Nat, y < md + 8 → A9[y]? = A7[y]? := fun y hy => (k9 y (by omega)).trans (ov8 y (by rw [hqa]; exact hy))
  have k7 : ∀ y : Nat, y < md + 7 → A9[y]? = A6[y]? := fun y hy => (k8 y (by omega)).trans (ov7 y (by rw [hqa]; exact hy))
  have k6 : ∀ y : Nat, y < md + 6 → A9[y]? = A5[y]? := fun y hy => (k7 y (by omega)).trans (ov6 y (by rw [hqa]; exact hy))
  have k5 : ∀ y : Nat, y < md + 5 → A9[y]? = A4[y]? := fun y hy => (k6 y (by omega)).trans (ov5 y (by rw [hqa]; exact hy))
  have k4 : ∀ y : Nat, y < md + 4 → A9[y]? = A3[y]? := fun y hy => (k5 y (by omega)).trans (ov4 y (by rw [hqa]; exact hy))
  have k3 : ∀ y : Nat, y < md + 3 → A9[y]? = A2[y]? := fun y hy => (k4 y (by omega)).trans (ov3 y (by rw [hqa]; exact hy))
  have k2 : ∀ y : Nat, y < md + 2 → A9[y]? = A1[y]? := fun y hy => (k3 y (by omega)).trans (ov2 y (by rw [hqa]; exact hy))
  have k1 : ∀ y : Nat, y < md + 1 → A9[y]? = A0[y]? := fun y hy => (k2 y (by omega)).trans (ov1 y (by rw [hqa]; exact hy))
  have k0 : ∀ y : Nat, y < md + 0 → A9[y]? = H2[y]? := fun y hy => (k1 y (by omega)).trans (ov0 y (by rw [hqa]; exact hy))
  have hI : LI z q qa g00 (fun _ _ => 0) A9 := by
    refine ww_init (q := q) (l0 := q1) (l1 := q2) (l2 := q3) (ai := q4) (md := md) (by omega) (by omega) (by omega) (by omega) (by omega) (by omega) hqa (hsh.kept (k0 q (by omega))) (hl1.kept (k0 q1 (by omega))) (hl2.kept (k0 q2 (by omega))) (hl3.kept (k0 q3 (by omega))) (hai.kept (k0 q4 (by omega))) (fun i hi => ?_)
    rcases (show i = 0 ∨ i = 1 ∨ i = 2 ∨ i = 3 ∨ i = 4 ∨ i = 5 ∨ i = 6 ∨ i = 7 ∨ i = 8 ∨ i = 9 by omega) with rfl | rfl | rfl | rfl | rfl | rfl | rfl | rfl | rfl | rfl
    · exact hv0.kept (k1 (qa 0) (by rw [hqa]; omega))
    · exact hv1.kept (k2 (qa 1) (by rw [hqa]; omega))
    · exact hv2.kept (k3 (qa 2) (by rw [hqa]; omega))
    · exact hv3.kept (k4 (qa 3) (by rw [hqa]; omega))
    · exact hv4.kept (k5 (qa 4) (by rw [hqa]; omega))
    · exact hv5.kept (k6 (qa 5) (by rw [hqa]; omega))
    · exact hv6.kept (k7 (qa 6) (by rw [hqa]; omega))
    · exact hv7.kept (k8 (qa 7) (by rw [hqa]; omega))
    · exact hv8.kept (k9 (qa 8) (by rw [hqa]; omega))
    · exact hv9
  refine W.widen (k := 15) (n := 158) (Nat.le_of_ble_eq_true rfl) (Nat.le_of_ble_eq_true rfl) ?_
  refine law_71 l hst S hE (fun _ _ _ _ => rfl) hI hS (lv_sub hl [13, 12, 11, 10, 9, 8, 7, 6, 5, 4, 3, 2, 1, 0] rfl) ⟨Nat.le_of_ble_eq_true rfl, Nat.le_of_ble_eq_true rfl⟩ (fun gm H locs ls hw hz1 hW hS hl => ?_)
  refine lv_iconst (v := nI 0) hx hb dL_law_90 (by decide) ?_
  refine lv_istore (lv' := [(13, .int (nI 0)), (0, .ref b), (1, .ref q), (2, .ref (qa 0)), (3, .ref (qa 1)), (4, .ref (qa 2)), (5, .ref (qa 3)), (6, .ref (qa 4)), (7, .ref (qa 5)), (8, .ref (qa 6)), (9, .ref (qa 7)), (10, .ref (qa 8)), (11, .ref (qa 9)), (12, .int 1)]) hx hb dL_law_91 hl (by decide) rfl (fun ls hl => ?_)
  refine law_93 l hst S hE hX hbl hbA hbz hL ib00 hw hz1 hW hS (lv_sub hl [1, 2, 3, 4, 5, 6, 7, 8, 9, 10, 11, 12, 13, 0] rfl) ⟨Nat.le_of_ble_eq_true rfl, Nat.le_of_ble_eq_true rfl⟩ (fun g gm H locs ls hIB hw h1 hz2 hW hS hl => ?_)
  refine lv_iconst (v := nI 0) hx hb dL_law_164 (by decide) ?_
  refine lv_istore (lv' := [(13, .int (nI 0)), (0, .ref b), (1, .ref q), (2, .ref (qa 0)), (3, .ref (qa 1)), (4, .ref (qa 2)), (5, .ref (qa 3)), (6, .ref (qa 4)), (7, .ref (qa 5)), (8, .ref (qa 6)), (9, .ref (qa 7)), (10, .ref (qa 8)), (11, .ref (qa 9)), (12, .int 1)]) hx hb dL_law_165 hl (by decide) rfl (fun ls hl => ?_)
  refine law_167 l hst S hE hX hbl hbA hbz hL (ib_ic hIB) hw h1 hz2 hW hS (lv_sub hl [1, 2, 3, 4, 5, 6, 7, 8, 9, 10, 11, 12, 13, 0] rfl) ⟨Nat.le_of_ble_eq_true rfl, Nat.le_of_ble_eq_true rfl⟩ (fun g gm H locs ls hB hA hmo hnj hW hS hl => ?_)
  refine lv_iconst (v := nI (nj g)) hx hb dL_law_278 (by rw [hnj]; decide) ?_
  refine lv_istore (lv' := [(13, .int (nI (nj g))), (0, .ref b), (1, .ref q), (2, .ref (qa 0)), (3, .ref (qa 1)), (4, .ref (qa 2)), (5, .ref (qa 3)), (6, .ref (qa 4)), (7, .ref (qa 5)), (8, .ref (qa 6)), (9, .ref (qa 7)), (10, .ref (qa 8)), (11, .ref (qa 9)), (12, .int 1)]) hx hb dL_law_279 hl (by decide) rfl (fun ls hl => ?_)
  refine lv_iconst (v := nI (mo g)) hx hb dL_law_281 (by rw [hmo]; decide) ?_
  refine lv_istore (lv' := [(14, .int (nI (mo g))), (13, .int (nI (nj g))), (0, .ref b), (1, .ref q), (2, .ref (qa 0)), (3, .ref (qa 1)), (4, .ref (qa 2)), (5, .ref (qa 3)), (6, .ref (qa 4)), (7, .ref (qa 5)), (8, .ref (qa 6)), (9, .ref (qa 7)), (10, .ref (qa 8)), (11, .ref (qa 9)), (12, .int 1)]) hx hb dL_law_282 hl (by decide) rfl (fun ls hl => ?_)
  refine lv_iconst (v := nI 0) hx hb dL_law_284 (by decide) ?_
  refine lv_istore (lv' := [(15, .int (nI 0)), (14, .int (nI (mo g))), (13, .int (nI (nj g))), (0, .ref b), (1, .ref q), (2, .ref (qa 0)), (3, .ref (qa 1)), (4, .ref (qa 2)), (5, .ref (qa 3)), (6, .ref (qa 4)), (7, .ref (qa 5)), (8, .ref (qa 6)), (9, .ref (qa 7)), (10, .ref (qa 8)), (11, .ref (qa 9)), (12, .int 1)]) hx hb dL_law_285 hl (by decide) rfl (fun ls hl => ?_)
  refine law_287 l hst S hE hX hbl hbA hbz hL hB hA (by omega) hW hS (lv_sub hl [3, 4, 5, 6, 7, 8, 9, 10, 11, 12, 13, 14, 15, 2, 1, 0] rfl) ⟨Nat.le_of_ble_eq_true rfl, Nat.le_of_ble_eq_true rfl⟩ (fun H locs ls hS hl => ?_)
  refine lv_iload hx hb dL_law_1814 (lv_at hl 0 rfl) ?_
  refine va_forget (fun q hq => by have q2 : zB z ≤ q.base := hS.2.2 q hq; omega) ?_
  refine W.widen (k := 665204) (n := 7106157) (Nat.le_of_ble_eq_true rfl) (Nat.le_of_ble_eq_true rfl) ?_
  exact lw_ret hx hb hr hlocks dL_law_1816
