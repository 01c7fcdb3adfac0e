/-! ===== the law's cases ===== -/
set_option maxHeartbeats 4000000 in
set_option maxRecDepth 100000 in
/-- the case of weather -/
theorem law_weather (l : Launch) (hst : l.stackTraces = false) {p : Program} {e : Env} {s : State} {m : MethodId} {args : Array Value} {below : List Frame} {meth : Method} {c : Code} {H : Heap} {locs : List Loc} {cells slots : Nat} {Q : State → Prop} {ls : Array Slot} {z : ZE} {b L qx qm qo : Nat} {xs : Nat → Int32} (S : CallFix p m c cL_law 7 s args wU RL) (hE : EV z s s.heap) (hX : va_X b L xs s s.heap) (hbl : b < s.heap.size) (hbA : ¬ zA z b) (hL : L ≤ 3584) (n : Nat) (hn : 7 * n + 7 ≤ L) (hS : va_S (zA z) s.heap H locs) (hI : LI z qx qm qo H) (hl : lv_has ls 7 [(0, .ref b), (1, .ref qx), (2, .ref qm), (3, .ref qo), (4, .int (nI (7 * n)))]) (hf : cells + 4 ≤ room_1.cells ∧ slots + 211 ≤ room_1.slots)
    (kk : ∀ (H1 : Heap) (locs1 : List Loc) (ls : Array Slot), LI z qx qm qo H1 → va_S (zA z) s.heap H1 locs1 → lv_has ls 7 [(0, .ref b), (1, .ref qx), (2, .ref qm), (3, .ref qo), (4, .int (nI (7 * n)))] → W p l e room_1 s m args below meth c H1 locs1 (cells + 4) (slots + 211) Q (F0 m 1507 ls [])) : W p l e room_1 s m args below meth c H locs cells slots Q (F0 m 136 ls []) := by
  have hts := S.2.2.2.2
  have hx := S.1
  have hb := S.2.1
  obtain ⟨w, g, o, t, A, B, hq, hO, hM⟩ := hI
  have hM0 := hM
  obtain ⟨gm, hW, hsim, hgt, hgA, hgB⟩ := hM
  obtain ⟨a1, ha1⟩ : ∃ y : Int32, y = xa xs n 1 := ⟨_, rfl⟩
  obtain ⟨a2, ha2⟩ : ∃ y : Int32, y = xa xs n 2 := ⟨_, rfl⟩
  refine lv_aload_n hx hb dL_law_136 rfl (lv_at hl 1 rfl) ?_
  refine x_arg (k := 1) S hX hbl hbA hS (lv_at hl 0 rfl) (lv_at hl 4 rfl) hL hn (by decide) (by decide) dL_law_137 dL_law_138 dL_law_140 dL_law_141 dL_law_142 ?_
  rw [← ha1]
  refine x_arg (k := 2) S hX hbl hbA hS (lv_at hl 0 rfl) (lv_at hl 4 rfl) hL hn (by decide) (by decide) dL_law_143 dL_law_144 dL_law_146 dL_law_147 dL_law_148 ?_
  rw [← ha2]
  refine lv_aload_n hx hb dL_law_149 rfl (lv_at hl 3 rfl) ?_
  refine x_lcall (As := [.ref (wad w 0 0), .int a1, .int a2, .ref (wad w 11 0)]) (rest := []) (sp := sp_weather g a1 a2) S hE hS hW (c_L_weather l z hst w g gm o hO a1 a2) (vx_cwSW 4 hts (gU_w tw_91 tw_92 tw_0 tw_93) rfl rfl rfl (by decide +kernel) ⟨Nat.le_of_ble_eq_true rfl, Nat.le_of_ble_eq_true rfl⟩) rfl hl.1 (by rw [hq.1, hq.2.2]; rfl) (Nat.le_of_ble_eq_true rfl) dL_law_150 ⟨Nat.le_trans (Nat.add_le_add_left (show 1 ≤ 4 by decide) _) hf.1, Nat.le_trans (Nat.add_le_add_left (show 6 ≤ 211 by decide) _) hf.2⟩ (fun r w9 o9 H locs hr hs ho hW hS => ?_)
  have hq9 : wad w9 0 0 = qx ∧ wad w9 9 0 = qm ∧ wad w9 11 0 = qo := ⟨hs.1.trans hq.1, hs.2.1.trans hq.2.1, hs.2.2.trans hq.2.2⟩
  refine lv_istore (lv' := [(5, .int r), (0, .ref b), (1, .ref qx), (2, .ref qm), (3, .ref qo), (4, .int (nI (7 * n)))]) hx hb dL_law_153 hl (by decide) rfl (fun ls hl => ?_)
  refine lv_aload_n hx hb dL_law_155 rfl (lv_at hl 3 rfl) ?_
  refine x_arg (k := 1) S hX hbl hbA hS (lv_at hl 1 rfl) (lv_at hl 5 rfl) hL hn (by decide) (by decide) dL_law_156 dL_law_157 dL_law_159 dL_law_160 dL_law_161 ?_
  rw [← ha1]
  refine x_arg (k := 2) S hX hbl hbA hS (lv_at hl 1 rfl) (lv_at hl 5 rfl) hL hn (by decide) (by decide) dL_law_162 dL_law_163 dL_law_165 dL_law_166 dL_law_167 ?_
  rw [← ha2]
  have hM1 : MW z w9 (sp_weather g a1 a2).2.2 o9 g t A B H := ⟨gm, hW, hsim, hgt, hgA, hgB⟩
  refine x_mcall (As := [.int a1, .int a2]) (rest := []) (sp := sp_weather g a1 a2) S hE hS hM1 (c_X6_weather l z w9 (sp_weather g a1 a2).2.2 g o9 t A B hO a1 a2) (cwV 2 hts (gU_V tw_854 tw_855 tw_856 tw_6 tw_857) rfl rfl rfl (by decide +kernel) ⟨Nat.le_of_ble_eq_true rfl, Nat.le_of_ble_eq_true rfl⟩) rfl hl.1 (by rw [hq9.2.1]; rfl) (Nat.le_of_ble_eq_true rfl) dL_law_168 ⟨Nat.le_trans (Nat.add_le_add_left (show 1 ≤ 4 by decide) _) hf.1, Nat.le_trans (Nat.add_le_add_left (show 6 ≤ 211 by decide) _) hf.2⟩ (fun rm g2 t2 A2 B2 H locs hRR hM2 hS => ?_)
  refine W.widen (k := cells + 4) (n := slots + 211) (Nat.add_le_add_left (by decide) _) (Nat.add_le_add_left (by decide) _) ?_
  exact x_tail (n := n) (sp := sp_weather g a1 a2) (o := o) S hE hS hl hq9 hM2 (ok_weather hO a1 a2) hr hRR ho hf dL_law_171 dL_law_173 dL_law_174 dL_law_177 dL_law_179 dL_law_184 dL_law_186 dL_law_189 dL_law_190 dL_law_191 dL_law_192 dL_law_194 dL_law_195 dL_law_196 dL_law_201 (by decide) (fun ls hI hl => kk H locs ls hI hS hl)
set_option maxHeartbeats 4000000 in
set_option maxRecDepth 100000 in
/-- the case of pass -/
theorem law_pass (l : Launch) (hst : l.stackTraces = false) {p : Program} {e : Env} {s : State} {m : MethodId} {args : Array Value} {below : List Frame} {meth : Method} {c : Code} {H : Heap} {locs : List Loc} {cells slots : Nat} {Q : State → Prop} {ls : Array Slot} {z : ZE} {b L qx qm qo : Nat} {xs : Nat → Int32} (S : CallFix p m c cL_law 7 s args wU RL) (hE : EV z s s.heap) (hX : va_X b L xs s s.heap) (hbl : b < s.heap.size) (hbA : ¬ zA z b) (hL : L ≤ 3584) (n : Nat) (hn : 7 * n + 7 ≤ L) (hS : va_S (zA z) s.heap H locs) (hI : LI z qx qm qo H) (hl : lv_has ls 7 [(0, .ref b), (1, .ref qx), (2, .ref qm), (3, .ref qo), (4, .int (nI (7 * n)))]) (hf : cells + 4 ≤ room_1.cells ∧ slots + 211 ≤ room_1.slots)
    (kk : ∀ (H1 : Heap) (locs1 : List Loc) (ls : Array Slot), LI z qx qm qo H1 → va_S (zA z) s.heap H1 locs1 → lv_has ls 7 [(0, .ref b), (1, .ref qx), (2, .ref qm), (3, .ref qo), (4, .int (nI (7 * n)))] → W p l e room_1 s m args below meth c H1 locs1 (cells + 4) (slots + 211) Q (F0 m 1507 ls [])) : W p l e room_1 s m args below meth c H locs cells slots Q (F0 m 204 ls []) := by
  have hts := S.2.2.2.2
  have hx := S.1
  have hb := S.2.1
  obtain ⟨w, g, o, t, A, B, hq, hO, hM⟩ := hI
  have hM0 := hM
  obtain ⟨gm, hW, hsim, hgt, hgA, hgB⟩ := hM
  obtain ⟨a1, ha1⟩ : ∃ y : Int32, y = xa xs n 1 := ⟨_, rfl⟩
  refine lv_aload_n hx hb dL_law_204 rfl (lv_at hl 1 rfl) ?_
  refine x_arg (k := 1) S hX hbl hbA hS (lv_at hl 0 rfl) (lv_at hl 4 rfl) hL hn (by decide) (by decide) dL_law_205 dL_law_206 dL_law_208 dL_law_209 dL_law_210 ?_
  rw [← ha1]
  refine lv_aload_n hx hb dL_law_211 rfl (lv_at hl 3 rfl) ?_
  refine x_lcall (As := [.ref (wad w 0 0), .int a1, .ref (wad w 11 0)]) (rest := []) (sp := sp_pass g a1) S hE hS hW (c_L_pass l z hst w g gm o hO a1) (vx_cwSW 3 hts (gU_w tw_187 tw_188 tw_0 tw_189) rfl rfl rfl (by decide +kernel) ⟨Nat.le_of_ble_eq_true rfl, Nat.le_of_ble_eq_true rfl⟩) rfl hl.1 (by rw [hq.1, hq.2.2]; rfl) (Nat.le_of_ble_eq_true rfl) dL_law_212 ⟨Nat.le_trans (Nat.add_le_add_left (show 1 ≤ 4 by decide) _) hf.1, Nat.le_trans (Nat.add_le_add_left (show 6 ≤ 211 by decide) _) hf.2⟩ (fun r w9 o9 H locs hr hs ho hW hS => ?_)
  have hq9 : wad w9 0 0 = qx ∧ wad w9 9 0 = qm ∧ wad w9 11 0 = qo := ⟨hs.1.trans hq.1, hs.2.1.trans hq.2.1, hs.2.2.trans hq.2.2⟩
  refine lv_istore (lv' := [(5, .int r), (0, .ref b), (1, .ref qx), (2, .ref qm), (3, .ref qo), (4, .int (nI (7 * n)))]) hx hb dL_law_215 hl (by decide) rfl (fun ls hl => ?_)
  refine lv_aload_n hx hb dL_law_217 rfl (lv_at hl 3 rfl) ?_
  refine x_arg (k := 1) S hX hbl hbA hS (lv_at hl 1 rfl) (lv_at hl 5 rfl) hL hn (by decide) (by decide) dL_law_218 dL_law_219 dL_law_221 dL_law_222 dL_law_223 ?_
  rw [← ha1]
  have hM1 : MW z w9 (sp_pass g a1).2.2 o9 g t A B H := ⟨gm, hW, hsim, hgt, hgA, hgB⟩
  refine x_mcall (As := [.int a1]) (rest := []) (sp := sp_pass g a1) S hE hS hM1 (c_X6_pass l z w9 (sp_pass g a1).2.2 g o9 t A B hO a1) (cwV 1 hts (gU_V tw_866 tw_867 tw_868 tw_6 tw_869) rfl rfl rfl (by decide +kernel) ⟨Nat.le_of_ble_eq_true rfl, Nat.le_of_ble_eq_true rfl⟩) rfl hl.1 (by rw [hq9.2.1]; rfl) (Nat.le_of_ble_eq_true rfl) dL_law_224 ⟨Nat.le_trans (Nat.add_le_add_left (show 1 ≤ 4 by decide) _) hf.1, Nat.le_trans (Nat.add_le_add_left (show 6 ≤ 211 by decide) _) hf.2⟩ (fun rm g2 t2 A2 B2 H locs hRR hM2 hS => ?_)
  refine W.widen (k := cells + 4) (n := slots + 211) (Nat.add_le_add_left (by decide) _) (Nat.add_le_add_left (by decide) _) ?_
  exact x_tail (n := n) (sp := sp_pass g a1) (o := o) S hE hS hl hq9 hM2 (ok_pass hO a1) hr hRR ho hf dL_law_227 dL_law_229 dL_law_230 dL_law_233 dL_law_235 dL_law_240 dL_law_242 dL_law_245 dL_law_246 dL_law_247 dL_law_248 dL_law_250 dL_law_251 dL_law_252 dL_law_257 (by decide) (fun ls hI hl => kk H locs ls hI hS hl)
set_option maxHeartbeats 4000000 in
set_option maxRecDepth 100000 in
/-- the case of board -/
theorem law_board (l : Launch) (hst : l.stackTraces = false) {p : Program} {e : Env} {s : State} {m : MethodId} {args : Array Value} {below : List Frame} {meth : Method} {c : Code} {H : Heap} {locs : List Loc} {cells slots : Nat} {Q : State → Prop} {ls : Array Slot} {z : ZE} {b L qx qm qo : Nat} {xs : Nat → Int32} (S : CallFix p m c cL_law 7 s args wU RL) (hE : EV z s s.heap) (hX : va_X b L xs s s.heap) (hbl : b < s.heap.size) (hbA : ¬ zA z b) (hL : L ≤ 3584) (n : Nat) (hn : 7 * n + 7 ≤ L) (hS : va_S (zA z) s.heap H locs) (hI : LI z qx qm qo H) (hl : lv_has ls 7 [(0, .ref b), (1, .ref qx), (2, .ref qm), (3, .ref qo), (4, .int (nI (7 * n)))]) (hf : cells + 4 ≤ room_1.cells ∧ slots + 211 ≤ room_1.slots)
    (kk : ∀ (H1 : Heap) (locs1 : List Loc) (ls : Array Slot), LI z qx qm qo H1 → va_S (zA z) s.heap H1 locs1 → lv_has ls 7 [(0, .ref b), (1, .ref qx), (2, .ref qm), (3, .ref qo), (4, .int (nI (7 * n)))] → W p l e room_1 s m args below meth c H1 locs1 (cells + 4) (slots + 211) Q (F0 m 1507 ls [])) : W p l e room_1 s m args below meth c H locs cells slots Q (F0 m 260 ls []) := by
  have hts := S.2.2.2.2
  have hx := S.1
  have hb := S.2.1
  obtain ⟨w, g, o, t, A, B, hq, hO, hM⟩ := hI
  have hM0 := hM
  obtain ⟨gm, hW, hsim, hgt, hgA, hgB⟩ := hM
  obtain ⟨a1, ha1⟩ : ∃ y : Int32, y = xa xs n 1 := ⟨_, rfl⟩
  obtain ⟨a2, ha2⟩ : ∃ y : Int32, y = xa xs n 2 := ⟨_, rfl⟩
  obtain ⟨a3, ha3⟩ : ∃ y : Int32, y = xa xs n 3 := ⟨_, rfl⟩
  obtain ⟨a4, ha4⟩ : ∃ y : Int32, y = xa xs n 4 := ⟨_, rfl⟩
  obtain ⟨a5, ha5⟩ : ∃ y : Int32, y = xa xs n 5 := ⟨_, rfl⟩
  obtain ⟨a6, ha6⟩ : ∃ y : Int32, y = xa xs n 6 := ⟨_, rfl⟩
  refine lv_aload_n hx hb dL_law_260 rfl (lv_at hl 1 rfl) ?_
  refine x_arg (k := 1) S hX hbl hbA hS (lv_at hl 0 rfl) (lv_at hl 4 rfl) hL hn (by decide) (by decide) dL_law_261 dL_law_262 dL_law_264 dL_law_265 dL_law_266 ?_
  rw [← ha1]
  refine x_arg (k := 2) S hX hbl hbA hS (lv_at hl 0 rfl) (lv_at hl 4 rfl) hL hn (by decide) (by decide) dL_law_267 dL_law_268 dL_law_270 dL_law_271 dL_law_272 ?_
  rw [← ha2]
  refine x_arg (k := 3) S hX hbl hbA hS (lv_at hl 0 rfl) (lv_at hl 4 rfl) hL hn (by decide) (by decide) dL_law_273 dL_law_274 dL_law_276 dL_law_277 dL_law_278 ?_
  rw [← ha3]
  refine x_arg (k := 4) S hX hbl hbA hS (lv_at hl 0 rfl) (lv_at hl 4 rfl) hL hn (by decide) (by decide) dL_law_279 dL_law_280 dL_law_282 dL_law_283 dL_law_284 ?_
  rw [← ha4]
  refine x_arg (k := 5) S hX hbl hbA hS (lv_at hl 0 rfl) (lv_at hl 4 rfl) hL hn (by decide) (by decide) dL_law_285 dL_law_286 dL_law_288 dL_law_289 dL_law_290 ?_
  rw [← ha5]
  refine x_arg6 (k := 6) S hX hbl hbA hS (lv_at hl 0 rfl) (lv_at hl 4 rfl) hL hn (by decide) (by decide) dL_law_291 dL_law_292 dL_law_294 dL_law_296 dL_law_297 ?_
  rw [← ha6]
  refine lv_aload_n hx hb dL_law_298 rfl (lv_at hl 3 rfl) ?_
  refine x_lcall (As := [.ref (wad w 0 0), .int a1, .int a2, .int a3, .int a4, .int a5, .int a6, .ref (wad w 11 0)]) (rest := []) (sp := sp_board g a1 a2 a3 a4 a5 a6) S hE hS hW (c_L_board l z hst w g gm o hO a1 a2 a3 a4 a5 a6) (vx_cwSW 8 hts (gU_w tw_293 tw_294 tw_0 tw_295) rfl rfl rfl (by decide +kernel) ⟨Nat.le_of_ble_eq_true rfl, Nat.le_of_ble_eq_true rfl⟩) rfl hl.1 (by rw [hq.1, hq.2.2]; rfl) (Nat.le_of_ble_eq_true rfl) dL_law_299 ⟨Nat.le_trans (Nat.add_le_add_left (show 4 ≤ 4 by decide) _) hf.1, Nat.le_trans (Nat.add_le_add_left (show 117 ≤ 211 by decide) _) hf.2⟩ (fun r w9 o9 H locs hr hs ho hW hS => ?_)
  have hq9 : wad w9 0 0 = qx ∧ wad w9 9 0 = qm ∧ wad w9 11 0 = qo := ⟨hs.1.trans hq.1, hs.2.1.trans hq.2.1, hs.2.2.trans hq.2.2⟩
  refine lv_istore (lv' := [(5, .int r), (0, .ref b), (1, .ref qx), (2, .ref qm), (3, .ref qo), (4, .int (nI (7 * n)))]) hx hb dL_law_302 hl (by decide) rfl (fun ls hl => ?_)
  refine lv_aload_n hx hb dL_law_304 rfl (lv_at hl 3 rfl) ?_
  refine x_arg (k := 1) S hX hbl hbA hS (lv_at hl 1 rfl) (lv_at hl 5 rfl) hL hn (by decide) (by decide) dL_law_305 dL_law_306 dL_law_308 dL_law_309 dL_law_310 ?_
  rw [← ha1]
  refine x_arg (k := 2) S hX hbl hbA hS (lv_at hl 1 rfl) (lv_at hl 5 rfl) hL hn (by decide) (by decide) dL_law_311 dL_law_312 dL_law_314 dL_law_315 dL_law_316 ?_
  rw [← ha2]
  refine x_arg (k := 3) S hX hbl hbA hS (lv_at hl 1 rfl) (lv_at hl 5 rfl) hL hn (by decide) (by decide) dL_law_317 dL_law_318 dL_law_320 dL_law_321 dL_law_322 ?_
  rw [← ha3]
  refine x_arg (k := 4) S hX hbl hbA hS (lv_at hl 1 rfl) (lv_at hl 5 rfl) hL hn (by decide) (by decide) dL_law_323 dL_law_324 dL_law_326 dL_law_327 dL_law_328 ?_
  rw [← ha4]
  refine x_arg (k := 5) S hX hbl hbA hS (lv_at hl 1 rfl) (lv_at hl 5 rfl) hL hn (by decide) (by decide) dL_law_329 dL_law_330 dL_law_332 dL_law_333 dL_law_334 ?_
  rw [← ha5]
  refine x_arg6 (k := 6) S hX hbl hbA hS (lv_at hl 1 rfl) (lv_at hl 5 rfl) hL hn (by decide) (by decide) dL_law_335 dL_law_336 dL_law_338 dL_law_340 dL_law_341 ?_
  rw [← ha6]
  have hM1 : MW z w9 (sp_board g a1 a2 a3 a4 a5 a6).2.2 o9 g t A B H := ⟨gm, hW, hsim, hgt, hgA, hgB⟩
  refine x_mcall (As := [.int a1, .int a2, .int a3, .int a4, .int a5, .int a6]) (rest := []) (sp := sp_board g a1 a2 a3 a4 a5 a6) S hE hS hM1 (c_X6_board l z w9 (sp_board g a1 a2 a3 a4 a5 a6).2.2 g o9 t A B hO a1 a2 a3 a4 a5 a6) (cwV 6 hts (gU_V tw_894 tw_895 tw_896 tw_6 tw_897) rfl rfl rfl (by decide +kernel) ⟨Nat.le_of_ble_eq_true rfl, Nat.le_of_ble_eq_true rfl⟩) rfl hl.1 (by rw [hq9.2.1]; rfl) (Nat.le_of_ble_eq_true rfl) dL_law_342 ⟨Nat.le_trans (Nat.add_le_add_left (show 4 ≤ 4 by decide) _) hf.1, Nat.le_trans (Nat.add_le_add_left (show 117 ≤ 211 by decide) _) hf.2⟩ (fun rm g2 t2 A2 B2 H locs hRR hM2 hS => ?_)
  refine W.widen (k := cells + 4) (n := slots + 211) (Nat.add_le_add_left (by decide) _) (Nat.add_le_add_left (by decide) _) ?_
  exact x_tail (n := n) (sp := sp_board g a1 a2 a3 a4 a5 a6) (o := o) S hE hS hl hq9 hM2 (ok_board hO a1 a2 a3 a4 a5 a6) hr hRR ho hf dL_law_345 dL_law_347 dL_law_348 dL_law_351 dL_law_353 dL_law_358 dL_law_360 dL_law_363 dL_law_364 dL_law_365 dL_law_366 dL_law_368 dL_law_369 dL_law_370 dL_law_375 (by decide) (fun ls hI hl => kk H locs ls hI hS hl)
set_option maxHeartbeats 4000000 in
set_option maxRecDepth 100000 in
/-- the case of knot -/
theorem law_knot (l : Launch) (hst : l.stackTraces = false) {p : Program} {e : Env} {s : State} {m : MethodId} {args : Array Value} {below : List Frame} {meth : Method} {c : Code} {H : Heap} {locs : List Loc} {cells slots : Nat} {Q : State → Prop} {ls : Array Slot} {z : ZE} {b L qx qm qo : Nat} {xs : Nat → Int32} (S : CallFix p m c cL_law 7 s args wU RL) (hE : EV z s s.heap) (hX : va_X b L xs s s.heap) (hbl : b < s.heap.size) (hbA : ¬ zA z b) (hL : L ≤ 3584) (n : Nat) (hn : 7 * n + 7 ≤ L) (hS : va_S (zA z) s.heap H locs) (hI : LI z qx qm qo H) (hl : lv_has ls 7 [(0, .ref b), (1, .ref qx), (2, .ref qm), (3, .ref qo), (4, .int (nI (7 * n)))]) (hf : cells + 4 ≤ room_1.cells ∧ slots + 211 ≤ room_1.slots)
    (kk : ∀ (H1 : Heap) (locs1 : List Loc) (ls : Array Slot), LI z qx qm qo H1 → va_S (zA z) s.heap H1 locs1 → lv_has ls 7 [(0, .ref b), (1, .ref qx), (2, .ref qm), (3, .ref qo), (4, .int (nI (7 * n)))] → W p l e room_1 s m args below meth c H1 locs1 (cells + 4) (slots + 211) Q (F0 m 1507 ls [])) : W p l e room_1 s m args below meth c H locs cells slots Q (F0 m 378 ls []) := by
  have hts := S.2.2.2.2
  have hx := S.1
  have hb := S.2.1
  obtain ⟨w, g, o, t, A, B, hq, hO, hM⟩ := hI
  have hM0 := hM
  obtain ⟨gm, hW, hsim, hgt, hgA, hgB⟩ := hM
  obtain ⟨a1, ha1⟩ : ∃ y : Int32, y = xa xs n 1 := ⟨_, rfl⟩
  obtain ⟨a2, ha2⟩ : ∃ y : Int32, y = xa xs n 2 := ⟨_, rfl⟩
  obtain ⟨a3, ha3⟩ : ∃ y : Int32, y = xa xs n 3 := ⟨_, rfl⟩
  refine lv_aload_n hx hb dL_law_378 rfl (lv_at hl 1 rfl) ?_
  refine x_arg (k := 1) S hX hbl hbA hS (lv_at hl 0 rfl) (lv_at hl 4 rfl) hL hn (by decide) (by decide) dL_law_379 dL_law_380 dL_law_382 dL_law_383 dL_law_384 ?_
  rw [← ha1]
  refine x_arg (k := 2) S hX hbl hbA hS (lv_at hl 0 rfl) (lv_at hl 4 rfl) hL hn (by decide) (by decide) dL_law_385 dL_law_386 dL_law_388 dL_law_389 dL_law_390 ?_
  rw [← ha2]
  refine x_arg (k := 3) S hX hbl hbA hS (lv_at hl 0 rfl) (lv_at hl 4 rfl) hL hn (by decide) (by decide) dL_law_391 dL_law_392 dL_law_394 dL_law_395 dL_law_396 ?_
  rw [← ha3]
  refine lv_aload_n hx hb dL_law_397 rfl (lv_at hl 3 rfl) ?_
  refine x_lcall (As := [.ref (wad w 0 0), .int a1, .int a2, .int a3, .ref (wad w 11 0)]) (rest := []) (sp := sp_knot g a1 a2 a3) S hE hS hW (c_L_knot l z hst w g gm o hO a1 a2 a3) (vx_cwSW 5 hts (gU_w tw_428 tw_429 tw_0 tw_430) rfl rfl rfl (by decide +kernel) ⟨Nat.le_of_ble_eq_true rfl, Nat.le_of_ble_eq_true rfl⟩) rfl hl.1 (by rw [hq.1, hq.2.2]; rfl) (Nat.le_of_ble_eq_true rfl) dL_law_398 ⟨Nat.le_trans (Nat.add_le_add_left (show 2 ≤ 4 by decide) _) hf.1, Nat.le_trans (Nat.add_le_add_left (show 102 ≤ 211 by decide) _) hf.2⟩ (fun r w9 o9 H locs hr hs ho hW hS => ?_)
  have hq9 : wad w9 0 0 = qx ∧ wad w9 9 0 = qm ∧ wad w9 11 0 = qo := ⟨hs.1.trans hq.1, hs.2.1.trans hq.2.1, hs.2.2.trans hq.2.2⟩
  refine lv_istore (lv' := [(5, .int r), (0, .ref b), (1, .ref qx), (2, .ref qm), (3, .ref qo), (4, .int (nI (7 * n)))]) hx hb dL_law_401 hl (by decide) rfl (fun ls hl => ?_)
  refine lv_aload_n hx hb dL_law_403 rfl (lv_at hl 3 rfl) ?_
  refine x_arg (k := 1) S hX hbl hbA hS (lv_at hl 1 rfl) (lv_at hl 5 rfl) hL hn (by decide) (by decide) dL_law_404 dL_law_405 dL_law_407 dL_law_408 dL_law_409 ?_
  rw [← ha1]
  refine x_arg (k := 2) S hX hbl hbA hS (lv_at hl 1 rfl) (lv_at hl 5 rfl) hL hn (by decide) (by decide) dL_law_410 dL_law_411 dL_law_413 dL_law_414 dL_law_415 ?_
  rw [← ha2]
  refine x_arg (k := 3) S hX hbl hbA hS (lv_at hl 1 rfl) (lv_at hl 5 rfl) hL hn (by decide) (by decide) dL_law_416 dL_law_417 dL_law_419 dL_law_420 dL_law_421 ?_
  rw [← ha3]
  have hM1 : MW z w9 (sp_knot g a1 a2 a3).2.2 o9 g t A B H := ⟨gm, hW, hsim, hgt, hgA, hgB⟩
  refine x_mcall (As := [.int a1, .int a2, .int a3]) (rest := []) (sp := sp_knot g a1 a2 a3) S hE hS hM1 (c_X6_knot l z w9 (sp_knot g a1 a2 a3).2.2 g o9 t A B hO a1 a2 a3) (cwV 3 hts (gU_V tw_898 tw_899 tw_900 tw_6 tw_901) rfl rfl rfl (by decide +kernel) ⟨Nat.le_of_ble_eq_true rfl, Nat.le_of_ble_eq_true rfl⟩) rfl hl.1 (by rw [hq9.2.1]; rfl) (Nat.le_of_ble_eq_true rfl) dL_law_422 ⟨Nat.le_trans (Nat.add_le_add_left (show 2 ≤ 4 by decide) _) hf.1, Nat.le_trans (Nat.add_le_add_left (show 102 ≤ 211 by decide) _) hf.2⟩ (fun rm g2 t2 A2 B2 H locs hRR hM2 hS => ?_)
  refine W.widen (k := cells + 4) (n := slots + 211) (Nat.add_le_add_left (by decide) _) (Nat.add_le_add_left (by decide) _) ?_
  exact x_tail (n := n) (sp := sp_knot g a1 a2 a3) (o := o) S hE hS hl hq9 hM2 (ok_knot hO a1 a2 a3) hr hRR ho hf dL_law_425 dL_law_427 dL_law_428 dL_law_431 dL_law_433 dL_law_438 dL_law_440 dL_law_443 dL_law_444 dL_law_445 dL_law_446 dL_law_448 dL_law_449 dL_law_450 dL_law_455 (by decide) (fun ls hI hl => kk H locs ls hI hS hl)
set_option maxHeartbeats 4000000 in
set_option maxRecDepth 100000 in
/-- the case of cut -/
theorem law_cut (l : Launch) (hst : l.stackTraces = false) {p : Program} {e : Env} {s : State} {m : MethodId} {args : Array Value} {below : List Frame} {meth : Method} {c : Code} {H : Heap} {locs : List Loc} {cells slots : Nat} {Q : State → Prop} {ls : Array Slot} {z : ZE} {b L qx qm qo : Nat} {xs : Nat → Int32} (S : CallFix p m c cL_law 7 s args wU RL) (hE : EV z s s.heap) (hX : va_X b L xs s s.heap) (hbl : b < s.heap.size) (hbA : ¬ zA z b) (hL : L ≤ 3584) (n : Nat) (hn : 7 * n + 7 ≤ L) (hS : va_S (zA z) s.heap H locs) (hI : LI z qx qm qo H) (hl : lv_has ls 7 [(0, .ref b), (1, .ref qx), (2, .ref qm), (3, .ref qo), (4, .int (nI (7 * n)))]) (hf : cells + 4 ≤ room_1.cells ∧ slots + 211 ≤ room_1.slots)
    (kk : ∀ (H1 : Heap) (locs1 : List Loc) (ls : Array Slot), LI z qx qm qo H1 → va_S (zA z) s.heap H1 locs1 → lv_has ls 7 [(0, .ref b), (1, .ref qx), (2, .ref qm), (3, .ref qo), (4, .int (nI (7 * n)))] → W p l e room_1 s m args below meth c H1 locs1 (cells + 4) (slots + 211) Q (F0 m 1507 ls [])) : W p l e room_1 s m args below meth c H locs cells slots Q (F0 m 458 ls []) := by
  have hts := S.2.2.2.2
  have hx := S.1
  have hb := S.2.1
  obtain ⟨w, g, o, t, A, B, hq, hO, hM⟩ := hI
  have hM0 := hM
  obtain ⟨gm, hW, hsim, hgt, hgA, hgB⟩ := hM
  obtain ⟨a1, ha1⟩ : ∃ y : Int32, y = xa xs n 1 := ⟨_, rfl⟩
  obtain ⟨a2, ha2⟩ : ∃ y : Int32, y = xa xs n 2 := ⟨_, rfl⟩
  obtain ⟨a3, ha3⟩ : ∃ y : Int32, y = xa xs n 3 := ⟨_, rfl⟩
  obtain ⟨a4, ha4⟩ : ∃ y : Int32, y = xa xs n 4 := ⟨_, rfl⟩
  obtain ⟨a5, ha5⟩ : ∃ y : Int32, y = xa xs n 5 := ⟨_, rfl⟩
  refine lv_aload_n hx hb dL_law_458 rfl (lv_at hl 1 rfl) ?_
  refine x_arg (k := 1) S hX hbl hbA hS (lv_at hl 0 rfl) (lv_at hl 4 rfl) hL hn (by decide) (by decide) dL_law_459 dL_law_460 dL_law_462 dL_law_463 dL_law_464 ?_
  rw [← ha1]
  refine x_arg (k := 2) S hX hbl hbA hS (lv_at hl 0 rfl) (lv_at hl 4 rfl) hL hn (by decide) (by decide) dL_law_465 dL_law_466 dL_law_468 dL_law_469 dL_law_470 ?_
  rw [← ha2]
  refine x_arg (k := 3) S hX hbl hbA hS (lv_at hl 0 rfl) (lv_at hl 4 rfl) hL hn (by decide) (by decide) dL_law_471 dL_law_472 dL_law_474 dL_law_475 dL_law_476 ?_
  rw [← ha3]
  refine x_arg (k := 4) S hX hbl hbA hS (lv_at hl 0 rfl) (lv_at hl 4 rfl) hL hn (by decide) (by decide) dL_law_477 dL_law_478 dL_law_480 dL_law_481 dL_law_482 ?_
  rw [← ha4]
  refine x_arg (k := 5) S hX hbl hbA hS (lv_at hl 0 rfl) (lv_at hl 4 rfl) hL hn (by decide) (by decide) dL_law_483 dL_law_484 dL_law_486 dL_law_487 dL_law_488 ?_
  rw [← ha5]
  refine lv_if_eq (tgt := 496) hx hb dL_law_489 (by decide) (fun hz9 => ?_) (fun hz9 => ?_)
  · refine lv_iconst (v := 0) hx hb dL_law_496 (by decide) ?_
    refine lv_aload_n hx hb dL_law_497 rfl (lv_at hl 3 rfl) ?_
    refine x_lcall (As := [.ref (wad w 0 0), .int a1, .int a2, .int a3, .int a4, .int 0, .ref (wad w 11 0)]) (rest := []) (sp := sp_cut g a1 a2 a3 a4 0) S hE hS hW (c_L_cut l z hst w g gm o hO a1 a2 a3 a4 0) (vx_cwSW 7 hts (gU_w tw_464 tw_465 tw_0 tw_466) rfl rfl rfl (by decide +kernel) ⟨Nat.le_of_ble_eq_true rfl, Nat.le_of_ble_eq_true rfl⟩) rfl hl.1 (by rw [hq.1, hq.2.2]; rfl) (Nat.le_of_ble_eq_true rfl) dL_law_498 ⟨Nat.le_trans (Nat.add_le_add_left (show 4 ≤ 4 by decide) _) hf.1, Nat.le_trans (Nat.add_le_add_left (show 211 ≤ 211 by decide) _) hf.2⟩ (fun r w9 o9 H locs hr hs ho hW hS => ?_)
    have hq9 : wad w9 0 0 = qx ∧ wad w9 9 0 = qm ∧ wad w9 11 0 = qo := ⟨hs.1.trans hq.1, hs.2.1.trans hq.2.1, hs.2.2.trans hq.2.2⟩
    refine lv_istore (lv' := [(5, .int r), (0, .ref b), (1, .ref qx), (2, .ref qm), (3, .ref qo), (4, .int (nI (7 * n)))]) hx hb dL_law_501 hl (by decide) rfl (fun ls hl => ?_)
    refine lv_aload_n hx hb dL_law_503 rfl (lv_at hl 3 rfl) ?_
    refine x_arg (k := 1) S hX hbl hbA hS (lv_at hl 1 rfl) (lv_at hl 5 rfl) hL hn (by decide) (by decide) dL_law_504 dL_law_505 dL_law_507 dL_law_508 dL_law_509 ?_
    rw [← ha1]
    refine x_arg (k := 2) S hX hbl hbA hS (lv_at hl 1 rfl) (lv_at hl 5 rfl) hL hn (by decide) (by decide) dL_law_510 dL_law_511 dL_law_513 dL_law_514 dL_law_515 ?_
    rw [← ha2]
    refine x_arg (k := 3) S hX hbl hbA hS (lv_at hl 1 rfl) (lv_at hl 5 rfl) hL hn (by decide) (by decide) dL_law_516 dL_law_517 dL_law_519 dL_law_520 dL_law_521 ?_
    rw [← ha3]
    refine x_arg (k := 4) S hX hbl hbA hS (lv_at hl 1 rfl) (lv_at hl 5 rfl) hL hn (by decide) (by decide) dL_law_522 dL_law_523 dL_law_525 dL_law_526 dL_law_527 ?_
    rw [← ha4]
    refine x_arg (k := 5) S hX hbl hbA hS (lv_at hl 1 rfl) (lv_at hl 5 rfl) hL hn (by decide) (by decide) dL_law_528 dL_law_529 dL_law_531 dL_law_532 dL_law_533 ?_
    rw [← ha5]
    refine lv_if_eq (tgt := 541) hx hb dL_law_534 (by decide) (fun _ => ?_) (fun q => absurd hz9 q)
    refine lv_iconst (v := 0) hx hb dL_law_541 (by decide) ?_
    have hM1 : MW z w9 (sp_cut g a1 a2 a3 a4 0).2.2 o9 g t A B H := ⟨gm, hW, hsim, hgt, hgA, hgB⟩
    refine x_mcall (As := [.int a1, .int a2, .int a3, .int a4, .int 0]) (rest := []) (sp := sp_cut g a1 a2 a3 a4 0) S hE hS hM1 (c_X6_cut l z w9 (sp_cut g a1 a2 a3 a4 0).2.2 g o9 t A B hO a1 a2 a3 a4 0) (cwV 5 hts (gU_V tw_910 tw_911 tw_912 tw_6 tw_913) rfl rfl rfl (by decide +kernel) ⟨Nat.le_of_ble_eq_true rfl, Nat.le_of_ble_eq_true rfl⟩) rfl hl.1 (by rw [hq9.2.1]; rfl) (Nat.le_of_ble_eq_true rfl) dL_law_542 ⟨Nat.le_trans (Nat.add_le_add_left (show 4 ≤ 4 by decide) _) hf.1, Nat.le_trans (Nat.add_le_add_left (show 211 ≤ 211 by decide) _) hf.2⟩ (fun rm g2 t2 A2 B2 H locs hRR hM2 hS => ?_)
    refine W.widen (k := cells + 4) (n := slots + 211) (Nat.add_le_add_left (by decide) _) (Nat.add_le_add_left (by decide) _) ?_
    exact x_tail (n := n) (sp := sp_cut g a1 a2 a3 a4 0) (o := o) S hE hS hl hq9 hM2 (ok_cut hO a1 a2 a3 a4 0) hr hRR ho hf dL_law_545 dL_law_547 dL_law_548 dL_law_551 dL_law_553 dL_law_558 dL_law_560 dL_law_563 dL_law_564 dL_law_565 dL_law_566 dL_law_568 dL_law_569 dL_law_570 dL_law_575 (by decide) (fun ls hI hl => kk H locs ls hI hS hl)
  · refine lv_iconst (v := 1) hx hb dL_law_492 (by decide) ?_
    refine lv_goto (tgt := 497) hx hb dL_law_493 (by decide) ?_
    refine lv_aload_n hx hb dL_law_497 rfl (lv_at hl 3 rfl) ?_
    refine x_lcall (As := [.ref (wad w 0 0), .int a1, .int a2, .int a3, .int a4, .int 1, .ref (wad w 11 0)]) (rest := []) (sp := sp_cut g a1 a2 a3 a4 1) S hE hS hW (c_L_cut l z hst w g gm o hO a1 a2 a3 a4 1) (vx_cwSW 7 hts (gU_w tw_464 tw_465 tw_0 tw_466) rfl rfl rfl (by decide +kernel) ⟨Nat.le_of_ble_eq_true rfl, Nat.le_of_ble_eq_true rfl⟩) rfl hl.1 (by rw [hq.1, hq.2.2]; rfl) (Nat.le_of_ble_eq_true rfl) dL_law_498 ⟨Nat.le_trans (Nat.add_le_add_left (show 4 ≤ 4 by decide) _) hf.1, Nat.le_trans (Nat.add_le_add_left (show 211 ≤ 211 by decide) _) hf.2⟩ (fun r w9 o9 H locs hr hs ho hW hS => ?_)
    have hq9 : wad w9 0 0 = qx ∧ wad w9 9 0 = qm ∧ wad w9 11 0 = qo := ⟨hs.1.trans hq.1, hs.2.1.trans hq.2.1, hs.2.2.trans hq.2.2⟩
    refine lv_istore (lv' := [(5, .int r), (0, .ref b), (1, .ref qx), (2, .ref qm), (3, .ref qo), (4, .int (nI (7 * n)))]) hx hb dL_law_501 hl (by decide) rfl (fun ls hl => ?_)
    refine lv_aload_n hx hb dL_law_503 rfl (lv_at hl 3 rfl) ?_
    refine x_arg (k := 1) S hX hbl hbA hS (lv_at hl 1 rfl) (lv_at hl 5 rfl) hL hn (by decide) (by decide) dL_law_504 dL_law_505 dL_law_507 dL_law_508 dL_law_509 ?_
    rw [← ha1]
    refine x_arg (k := 2) S hX hbl hbA hS (lv_at hl 1 rfl) (lv_at hl 5 rfl) hL hn (by decide) (by decide) dL_law_510 dL_law_511 dL_law_513 dL_law_514 dL_law_515 ?_
    rw [← ha2]
    refine x_arg (k := 3) S hX hbl hbA hS (lv_at hl 1 rfl) (lv_at hl 5 rfl) hL hn (by decide) (by decide) dL_law_516 dL_law_517 dL_law_519 dL_law_520 dL_law_521 ?_
    rw [← ha3]
    refine x_arg (k := 4) S hX hbl hbA hS (lv_at hl 1 rfl) (lv_at hl 5 rfl) hL hn (by decide) (by decide) dL_law_522 dL_law_523 dL_law_525 dL_law_526 dL_law_527 ?_
    rw [← ha4]
    refine x_arg (k := 5) S hX hbl hbA hS (lv_at hl 1 rfl) (lv_at hl 5 rfl) hL hn (by decide) (by decide) dL_law_528 dL_law_529 dL_law_531 dL_law_532 dL_law_533 ?_
    rw [← ha5]
    refine lv_if_eq (tgt := 541) hx hb dL_law_534 (by decide) (fun q => absurd q hz9) (fun _ => ?_)
    refine lv_iconst (v := 1) hx hb dL_law_537 (by decide) ?_
    refine lv_goto (tgt := 542) hx hb dL_law_538 (by decide) ?_
    have hM1 : MW z w9 (sp_cut g a1 a2 a3 a4 1).2.2 o9 g t A B H := ⟨gm, hW, hsim, hgt, hgA, hgB⟩
    refine x_mcall (As := [.int a1, .int a2, .int a3, .int a4, .int 1]) (rest := []) (sp := sp_cut g a1 a2 a3 a4 1) S hE hS hM1 (c_X6_cut l z w9 (sp_cut g a1 a2 a3 a4 1).2.2 g o9 t A B hO a1 a2 a3 a4 1) (cwV 5 hts (gU_V tw_910 tw_911 tw_912 tw_6 tw_913) rfl rfl rfl (by decide +kernel) ⟨Nat.le_of_ble_eq_true rfl, Nat.le_of_ble_eq_true rfl⟩) rfl hl.1 (by rw [hq9.2.1]; rfl) (Nat.le_of_ble_eq_true rfl) dL_law_542 ⟨Nat.le_trans (Nat.add_le_add_left (show 4 ≤ 4 by decide) _) hf.1, Nat.le_trans (Nat.add_le_add_left (show 211 ≤ 211 by decide) _) hf.2⟩ (fun rm g2 t2 A2 B2 H locs hRR hM2 hS => ?_)
    refine W.widen (k := cells + 4) (n := slots + 211) (Nat.add_le_add_left (by decide) _) (Nat.add_le_add_left (by decide) _) ?_
    exact x_tail (n := n) (sp := sp_cut g a1 a2 a3 a4 1) (o := o) S hE hS hl hq9 hM2 (ok_cut hO a1 a2 a3 a4 1) hr hRR ho hf dL_law_545 dL_law_547 dL_law_548 dL_law_551 dL_law_553 dL_law_558 dL_law_560 dL_law_563 dL_law_564 dL_law_565 dL_law_566 dL_law_568 dL_law_569 dL_law_570 dL_law_575 (by decide) (fun ls hI hl => kk H locs ls hI hS hl)
set_option maxHeartbeats 4000000 in
set_option maxRecDepth 100000 in
/-- the case of sharpen -/
theorem law_sharpen (l : Launch) (hst : l.stackTraces = false) {p : Program} {e : Env} {s : State} {m : MethodId} {args : Array Value} {below : List Frame} {meth : Method} {c : Code} {H : Heap} {locs : List Loc} {cells slots : Nat} {Q : State → Prop} {ls : Array Slot} {z : ZE} {b L qx qm qo : Nat} {xs : Nat → Int32} (S : CallFix p m c cL_law 7 s args wU RL) (hE : EV z s s.heap) (hX : va_X b L xs s s.heap) (hbl : b < s.heap.size) (hbA : ¬ zA z b) (hL : L ≤ 3584) (n : Nat) (hn : 7 * n + 7 ≤ L) (hS : va_S (zA z) s.heap H locs) (hI : LI z qx qm qo H) (hl : lv_has ls 7 [(0, .ref b), (1, .ref qx), (2, .ref qm), (3, .ref qo), (4, .int (nI (7 * n)))]) (hf : cells + 4 ≤ room_1.cells ∧ slots + 211 ≤ room_1.slots)
    (kk : ∀ (H1 : Heap) (locs1 : List Loc) (ls : Array Slot), LI z qx qm qo H1 → va_S (zA z) s.heap H1 locs1 → lv_has ls 7 [(0, .ref b), (1, .ref qx), (2, .ref qm), (3, .ref qo), (4, .int (nI (7 * n)))] → W p l e room_1 s m args below meth c H1 locs1 (cells + 4) (slots + 211) Q (F0 m 1507 ls [])) : W p l e room_1 s m args below meth c H locs cells slots Q (F0 m 578 ls []) := by
  have hts := S.2.2.2.2
  have hx := S.1
  have hb := S.2.1
  obtain ⟨w, g, o, t, A, B, hq, hO, hM⟩ := hI
  have hM0 := hM
  obtain ⟨gm, hW, hsim, hgt, hgA, hgB⟩ := hM
  obtain ⟨a1, ha1⟩ : ∃ y : Int32, y = xa xs n 1 := ⟨_, rfl⟩
  refine lv_aload_n hx hb dL_law_578 rfl (lv_at hl 1 rfl) ?_
  refine x_arg (k := 1) S hX hbl hbA hS (lv_at hl 0 rfl) (lv_at hl 4 rfl) hL hn (by decide) (by decide) dL_law_579 dL_law_580 dL_law_582 dL_law_583 dL_law_584 ?_
  rw [← ha1]
  refine lv_aload_n hx hb dL_law_585 rfl (lv_at hl 3 rfl) ?_
  refine x_lcall (As := [.ref (wad w 0 0), .int a1, .ref (wad w 11 0)]) (rest := []) (sp := sp_sharpen g a1) S hE hS hW (c_L_sharpen l z hst w g gm o hO a1) (vx_cwSW 3 hts (gU_w tw_518 tw_519 tw_0 tw_520) rfl rfl rfl (by decide +kernel) ⟨Nat.le_of_ble_eq_true rfl, Nat.le_of_ble_eq_true rfl⟩) rfl hl.1 (by rw [hq.1, hq.2.2]; rfl) (Nat.le_of_ble_eq_true rfl) dL_law_586 ⟨Nat.le_trans (Nat.add_le_add_left (show 1 ≤ 4 by decide) _) hf.1, Nat.le_trans (Nat.add_le_add_left (show 6 ≤ 211 by decide) _) hf.2⟩ (fun r w9 o9 H locs hr hs ho hW hS => ?_)
  have hq9 : wad w9 0 0 = qx ∧ wad w9 9 0 = qm ∧ wad w9 11 0 = qo := ⟨hs.1.trans hq.1, hs.2.1.trans hq.2.1, hs.2.2.trans hq.2.2⟩
  refine lv_istore (lv' := [(5, .int r), (0, .ref b), (1, .ref qx), (2, .ref qm), (3, .ref qo), (4, .int (nI (7 * n)))]) hx hb dL_law_589 hl (by decide) rfl (fun ls hl => ?_)
  refine lv_aload_n hx hb dL_law_591 rfl (lv_at hl 3 rfl) ?_
  refine x_arg (k := 1) S hX hbl hbA hS (lv_at hl 1 rfl) (lv_at hl 5 rfl) hL hn (by decide) (by decide) dL_law_592 dL_law_593 dL_law_595 dL_law_596 dL_law_597 ?_
  rw [← ha1]
  have hM1 : MW z w9 (sp_sharpen g a1).2.2 o9 g t A B H := ⟨gm, hW, hsim, hgt, hgA, hgB⟩
  refine x_mcall (As := [.int a1]) (rest := []) (sp := sp_sharpen g a1) S hE hS hM1 (c_X6_sharpen l z w9 (sp_sharpen g a1).2.2 g o9 t A B hO a1) (cwV 1 hts (gU_V tw_926 tw_927 tw_928 tw_6 tw_929) rfl rfl rfl (by decide +kernel) ⟨Nat.le_of_ble_eq_true rfl, Nat.le_of_ble_eq_true rfl⟩) rfl hl.1 (by rw [hq9.2.1]; rfl) (Nat.le_of_ble_eq_true rfl) dL_law_598 ⟨Nat.le_trans (Nat.add_le_add_left (show 1 ≤ 4 by decide) _) hf.1, Nat.le_trans (Nat.add_le_add_left (show 6 ≤ 211 by decide) _) hf.2⟩ (fun rm g2 t2 A2 B2 H locs hRR hM2 hS => ?_)
  refine W.widen (k := cells + 4) (n := slots + 211) (Nat.add_le_add_left (by decide) _) (Nat.add_le_add_left (by decide) _) ?_
  exact x_tail (n := n) (sp := sp_sharpen g a1) (o := o) S hE hS hl hq9 hM2 (ok_sharpen hO a1) hr hRR ho hf dL_law_601 dL_law_603 dL_law_604 dL_law_607 dL_law_609 dL_law_614 dL_law_616 dL_law_619 dL_law_620 dL_law_621 dL_law_622 dL_law_624 dL_law_625 dL_law_626 dL_law_631 (by decide) (fun ls hI hl => kk H locs ls hI hS hl)
set_option maxHeartbeats 4000000 in
set_option maxRecDepth 100000 in
/-- the case of clearFrom -/
theorem law_clearFrom (l : Launch) (hst : l.stackTraces = false) {p : Program} {e : Env} {s : State} {m : MethodId} {args : Array Value} {below : List Frame} {meth : Method} {c : Code} {H : Heap} {locs : List Loc} {cells slots : Nat} {Q : State → Prop} {ls : Array Slot} {z : ZE} {b L qx qm qo : Nat} {xs : Nat → Int32} (S : CallFix p m c cL_law 7 s args wU RL) (hE : EV z s s.heap) (hX : va_X b L xs s s.heap) (hbl : b < s.heap.size) (hbA : ¬ zA z b) (hL : L ≤ 3584) (n : Nat) (hn : 7 * n + 7 ≤ L) (hS : va_S (zA z) s.heap H locs) (hI : LI z qx qm qo H) (hl : lv_has ls 7 [(0, .ref b), (1, .ref qx), (2, .ref qm), (3, .ref qo), (4, .int (nI (7 * n)))]) (hf : cells + 4 ≤ room_1.cells ∧ slots + 211 ≤ room_1.slots)
    (kk : ∀ (H1 : Heap) (locs1 : List Loc) (ls : Array Slot), LI z qx qm qo H1 → va_S (zA z) s.heap H1 locs1 → lv_has ls 7 [(0, .ref b), (1, .ref qx), (2, .ref qm), (3, .ref qo), (4, .int (nI (7 * n)))] → W p l e room_1 s m args below meth c H1 locs1 (cells + 4) (slots + 211) Q (F0 m 1507 ls [])) : W p l e room_1 s m args below meth c H locs cells slots Q (F0 m 634 ls []) := by
  have hts := S.2.2.2.2
  have hx := S.1
  have hb := S.2.1
  obtain ⟨w, g, o, t, A, B, hq, hO, hM⟩ := hI
  have hM0 := hM
  obtain ⟨gm, hW, hsim, hgt, hgA, hgB⟩ := hM
  obtain ⟨a1, ha1⟩ : ∃ y : Int32, y = xa xs n 1 := ⟨_, rfl⟩
  obtain ⟨a2, ha2⟩ : ∃ y : Int32, y = xa xs n 2 := ⟨_, rfl⟩
  refine lv_aload_n hx hb dL_law_634 rfl (lv_at hl 1 rfl) ?_
  refine x_arg (k := 1) S hX hbl hbA hS (lv_at hl 0 rfl) (lv_at hl 4 rfl) hL hn (by decide) (by decide) dL_law_635 dL_law_636 dL_law_638 dL_law_639 dL_law_640 ?_
  rw [← ha1]
  refine x_arg (k := 2) S hX hbl hbA hS (lv_at hl 0 rfl) (lv_at hl 4 rfl) hL hn (by decide) (by decide) dL_law_641 dL_law_642 dL_law_644 dL_law_645 dL_law_646 ?_
  rw [← ha2]
  refine lv_aload_n hx hb dL_law_647 rfl (lv_at hl 3 rfl) ?_
  refine x_lcall (As := [.ref (wad w 0 0), .int a1, .int a2, .ref (wad w 11 0)]) (rest := []) (sp := sp_clearFrom g a1 a2) S hE hS hW (c_L_clearFrom l z hst w g gm o hO a1 a2) (vx_cwSW 4 hts (gU_w tw_526 tw_527 tw_0 tw_528) rfl rfl rfl (by decide +kernel) ⟨Nat.le_of_ble_eq_true rfl, Nat.le_of_ble_eq_true rfl⟩) rfl hl.1 (by rw [hq.1, hq.2.2]; rfl) (Nat.le_of_ble_eq_true rfl) dL_law_648 ⟨Nat.le_trans (Nat.add_le_add_left (show 1 ≤ 4 by decide) _) hf.1, Nat.le_trans (Nat.add_le_add_left (show 6 ≤ 211 by decide) _) hf.2⟩ (fun r w9 o9 H locs hr hs ho hW hS => ?_)
  have hq9 : wad w9 0 0 = qx ∧ wad w9 9 0 = qm ∧ wad w9 11 0 = qo := ⟨hs.1.trans hq.1, hs.2.1.trans hq.2.1, hs.2.2.trans hq.2.2⟩
  refine lv_istore (lv' := [(5, .int r), (0, .ref b), (1, .ref qx), (2, .ref qm), (3, .ref qo), (4, .int (nI (7 * n)))]) hx hb dL_law_651 hl (by decide) rfl (fun ls hl => ?_)
  refine lv_aload_n hx hb dL_law_653 rfl (lv_at hl 3 rfl) ?_
  refine x_arg (k := 1) S hX hbl hbA hS (lv_at hl 1 rfl) (lv_at hl 5 rfl) hL hn (by decide) (by decide) dL_law_654 dL_law_655 dL_law_657 dL_law_658 dL_law_659 ?_
  rw [← ha1]
  refine x_arg (k := 2) S hX hbl hbA hS (lv_at hl 1 rfl) (lv_at hl 5 rfl) hL hn (by decide) (by decide) dL_law_660 dL_law_661 dL_law_663 dL_law_664 dL_law_665 ?_
  rw [← ha2]
  have hM1 : MW z w9 (sp_clearFrom g a1 a2).2.2 o9 g t A B H := ⟨gm, hW, hsim, hgt, hgA, hgB⟩
  refine x_mcall (As := [.int a1, .int a2]) (rest := []) (sp := sp_clearFrom g a1 a2) S hE hS hM1 (c_X6_clearFrom l z w9 (sp_clearFrom g a1 a2).2.2 g o9 t A B hO a1 a2) (cwV 2 hts (gU_V tw_930 tw_931 tw_932 tw_6 tw_933) rfl rfl rfl (by decide +kernel) ⟨Nat.le_of_ble_eq_true rfl, Nat.le_of_ble_eq_true rfl⟩) rfl hl.1 (by rw [hq9.2.1]; rfl) (Nat.le_of_ble_eq_true rfl) dL_law_666 ⟨Nat.le_trans (Nat.add_le_add_left (show 1 ≤ 4 by decide) _) hf.1, Nat.le_trans (Nat.add_le_add_left (show 6 ≤ 211 by decide) _) hf.2⟩ (fun rm g2 t2 A2 B2 H locs hRR hM2 hS => ?_)
  refine W.widen (k := cells + 4) (n := slots + 211) (Nat.add_le_add_left (by decide) _) (Nat.add_le_add_left (by decide) _) ?_
  exact x_tail (n := n) (sp := sp_clearFrom g a1 a2) (o := o) S hE hS hl hq9 hM2 (ok_clearFrom hO a1 a2) hr hRR ho hf dL_law_669 dL_law_671 dL_law_672 dL_law_675 dL_law_677 dL_law_682 dL_law_684 dL_law_687 dL_law_688 dL_law_689 dL_law_690 dL_law_692 dL_law_693 dL_law_694 dL_law_699 (by decide) (fun ls hI hl => kk H locs ls hI hS hl)
set_option maxHeartbeats 4000000 in
set_option maxRecDepth 100000 in
/-- the case of coat -/
theorem law_coat (l : Launch) (hst : l.stackTraces = false) {p : Program} {e : Env} {s : State} {m : MethodId} {args : Array Value} {below : List Frame} {meth : Method} {c : Code} {H : Heap} {locs : List Loc} {cells slots : Nat} {Q : State → Prop} {ls : Array Slot} {z : ZE} {b L qx qm qo : Nat} {xs : Nat → Int32} (S : CallFix p m c cL_law 7 s args wU RL) (hE : EV z s s.heap) (hX : va_X b L xs s s.heap) (hbl : b < s.heap.size) (hbA : ¬ zA z b) (hL : L ≤ 3584) (n : Nat) (hn : 7 * n + 7 ≤ L) (hS : va_S (zA z) s.heap H locs) (hI : LI z qx qm qo H) (hl : lv_has ls 7 [(0, .ref b), (1, .ref qx), (2, .ref qm), (3, .ref qo), (4, .int (nI (7 * n)))]) (hf : cells + 4 ≤ room_1.cells ∧ slots + 211 ≤ room_1.slots)
    (kk : ∀ (H1 : Heap) (locs1 : List Loc) (ls : Array Slot), LI z qx qm qo H1 → va_S (zA z) s.heap H1 locs1 → lv_has ls 7 [(0, .ref b), (1, .ref qx), (2, .ref qm), (3, .ref qo), (4, .int (nI (7 * n)))] → W p l e room_1 s m args below meth c H1 locs1 (cells + 4) (slots + 211) Q (F0 m 1507 ls [])) : W p l e room_1 s m args below meth c H locs cells slots Q (F0 m 702 ls []) := by
  have hts := S.2.2.2.2
  have hx := S.1
  have hb := S.2.1
  obtain ⟨w, g, o, t, A, B, hq, hO, hM⟩ := hI
  have hM0 := hM
  obtain ⟨gm, hW, hsim, hgt, hgA, hgB⟩ := hM
  obtain ⟨a1, ha1⟩ : ∃ y : Int32, y = xa xs n 1 := ⟨_, rfl⟩
  refine lv_aload_n hx hb dL_law_702 rfl (lv_at hl 1 rfl) ?_
  refine x_arg (k := 1) S hX hbl hbA hS (lv_at hl 0 rfl) (lv_at hl 4 rfl) hL hn (by decide) (by decide) dL_law_703 dL_law_704 dL_law_706 dL_law_707 dL_law_708 ?_
  rw [← ha1]
  refine lv_aload_n hx hb dL_law_709 rfl (lv_at hl 3 rfl) ?_
  refine x_lcall (As := [.ref (wad w 0 0), .int a1, .ref (wad w 11 0)]) (rest := []) (sp := sp_coat g a1) S hE hS hW (c_L_coat l z hst w g gm o hO a1) (vx_cwSW 3 hts (gU_w tw_542 tw_543 tw_0 tw_544) rfl rfl rfl (by decide +kernel) ⟨Nat.le_of_ble_eq_true rfl, Nat.le_of_ble_eq_true rfl⟩) rfl hl.1 (by rw [hq.1, hq.2.2]; rfl) (Nat.le_of_ble_eq_true rfl) dL_law_710 ⟨Nat.le_trans (Nat.add_le_add_left (show 1 ≤ 4 by decide) _) hf.1, Nat.le_trans (Nat.add_le_add_left (show 6 ≤ 211 by decide) _) hf.2⟩ (fun r w9 o9 H locs hr hs ho hW hS => ?_)
  have hq9 : wad w9 0 0 = qx ∧ wad w9 9 0 = qm ∧ wad w9 11 0 = qo := ⟨hs.1.trans hq.1, hs.2.1.trans hq.2.1, hs.2.2.trans hq.2.2⟩
  refine lv_istore (lv' := [(5, .int r), (0, .ref b), (1, .ref qx), (2, .ref qm), (3, .ref qo), (4, .int (nI (7 * n)))]) hx hb dL_law_713 hl (by decide) rfl (fun ls hl => ?_)
  refine lv_aload_n hx hb dL_law_715 rfl (lv_at hl 3 rfl) ?_
  refine x_arg (k := 1) S hX hbl hbA hS (lv_at hl 1 rfl) (lv_at hl 5 rfl) hL hn (by decide) (by decide) dL_law_716 dL_law_717 dL_law_719 dL_law_720 dL_law_721 ?_
  rw [← ha1]
  have hM1 : MW z w9 (sp_coat g a1).2.2 o9 g t A B H := ⟨gm, hW, hsim, hgt, hgA, hgB⟩
  refine x_mcall (As := [.int a1]) (rest := []) (sp := sp_coat g a1) S hE hS hM1 (c_X6_coat l z w9 (sp_coat g a1).2.2 g o9 t A B hO a1) (cwV 1 hts (gU_V tw_934 tw_935 tw_936 tw_6 tw_937) rfl rfl rfl (by decide +kernel) ⟨Nat.le_of_ble_eq_true rfl, Nat.le_of_ble_eq_true rfl⟩) rfl hl.1 (by rw [hq9.2.1]; rfl) (Nat.le_of_ble_eq_true rfl) dL_law_722 ⟨Nat.le_trans (Nat.add_le_add_left (show 1 ≤ 4 by decide) _) hf.1, Nat.le_trans (Nat.add_le_add_left (show 6 ≤ 211 by decide) _) hf.2⟩ (fun rm g2 t2 A2 B2 H locs hRR hM2 hS => ?_)
  refine W.widen (k := cells + 4) (n := slots + 211) (Nat.add_le_add_left (by decide) _) (Nat.add_le_add_left (by decide) _) ?_
  exact x_tail (n := n) (sp := sp_coat g a1) (o := o) S hE hS hl hq9 hM2 (ok_coat hO a1) hr hRR ho hf dL_law_725 dL_law_727 dL_law_728 dL_law_731 dL_law_733 dL_law_738 dL_law_740 dL_law_743 dL_law_744 dL_law_745 dL_law_746 dL_law_748 dL_law_749 dL_law_750 dL_law_755 (by decide) (fun ls hI hl => kk H locs ls hI hS hl)
set_option maxHeartbeats 4000000 in
set_option maxRecDepth 100000 in
/-- the case of match -/
theorem law_match (l : Launch) (hst : l.stackTraces = false) {p : Program} {e : Env} {s : State} {m : MethodId} {args : Array Value} {below : List Frame} {meth : Method} {c : Code} {H : Heap} {locs : List Loc} {cells slots : Nat} {Q : State → Prop} {ls : Array Slot} {z : ZE} {b L qx qm qo : Nat} {xs : Nat → Int32} (S : CallFix p m c cL_law 7 s args wU RL) (hE : EV z s s.heap) (hX : va_X b L xs s s.heap) (hbl : b < s.heap.size) (hbA : ¬ zA z b) (hL : L ≤ 3584) (n : Nat) (hn : 7 * n + 7 ≤ L) (hS : va_S (zA z) s.heap H locs) (hI : LI z qx qm qo H) (hl : lv_has ls 7 [(0, .ref b), (1, .ref qx), (2, .ref qm), (3, .ref qo), (4, .int (nI (7 * n)))]) (hf : cells + 4 ≤ room_1.cells ∧ slots + 211 ≤ room_1.slots)
    (kk : ∀ (H1 : Heap) (locs1 : List Loc) (ls : Array Slot), LI z qx qm qo H1 → va_S (zA z) s.heap H1 locs1 → lv_has ls 7 [(0, .ref b), (1, .ref qx), (2, .ref qm), (3, .ref qo), (4, .int (nI (7 * n)))] → W p l e room_1 s m args below meth c H1 locs1 (cells + 4) (slots + 211) Q (F0 m 1507 ls [])) : W p l e room_1 s m args below meth c H locs cells slots Q (F0 m 758 ls []) := by
  have hts := S.2.2.2.2
  have hx := S.1
  have hb := S.2.1
  obtain ⟨w, g, o, t, A, B, hq, hO, hM⟩ := hI
  have hM0 := hM
  obtain ⟨gm, hW, hsim, hgt, hgA, hgB⟩ := hM
  obtain ⟨a1, ha1⟩ : ∃ y : Int32, y = xa xs n 1 := ⟨_, rfl⟩
  obtain ⟨a2, ha2⟩ : ∃ y : Int32, y = xa xs n 2 := ⟨_, rfl⟩
  refine lv_aload_n hx hb dL_law_758 rfl (lv_at hl 1 rfl) ?_
  refine x_arg (k := 1) S hX hbl hbA hS (lv_at hl 0 rfl) (lv_at hl 4 rfl) hL hn (by decide) (by decide) dL_law_759 dL_law_760 dL_law_762 dL_law_763 dL_law_764 ?_
  rw [← ha1]
  refine x_arg (k := 2) S hX hbl hbA hS (lv_at hl 0 rfl) (lv_at hl 4 rfl) hL hn (by decide) (by decide) dL_law_765 dL_law_766 dL_law_768 dL_law_769 dL_law_770 ?_
  rw [← ha2]
  refine lv_aload_n hx hb dL_law_771 rfl (lv_at hl 3 rfl) ?_
  refine x_lcall (As := [.ref (wad w 0 0), .int a1, .int a2, .ref (wad w 11 0)]) (rest := []) (sp := sp_match g a1 a2) S hE hS hW (c_L_match l z hst w g gm o hO a1 a2) (vx_cwSW 4 hts (gU_w tw_555 tw_556 tw_0 tw_557) rfl rfl rfl (by decide +kernel) ⟨Nat.le_of_ble_eq_true rfl, Nat.le_of_ble_eq_true rfl⟩) rfl hl.1 (by rw [hq.1, hq.2.2]; rfl) (Nat.le_of_ble_eq_true rfl) dL_law_772 ⟨Nat.le_trans (Nat.add_le_add_left (show 1 ≤ 4 by decide) _) hf.1, Nat.le_trans (Nat.add_le_add_left (show 6 ≤ 211 by decide) _) hf.2⟩ (fun r w9 o9 H locs hr hs ho hW hS => ?_)
  have hq9 : wad w9 0 0 = qx ∧ wad w9 9 0 = qm ∧ wad w9 11 0 = qo := ⟨hs.1.trans hq.1, hs.2.1.trans hq.2.1, hs.2.2.trans hq.2.2⟩
  refine lv_istore (lv' := [(5, .int r), (0, .ref b), (1, .ref qx), (2, .ref qm), (3, .ref qo), (4, .int (nI (7 * n)))]) hx hb dL_law_775 hl (by decide) rfl (fun ls hl => ?_)
  refine lv_aload_n hx hb dL_law_777 rfl (lv_at hl 3 rfl) ?_
  refine x_arg (k := 1) S hX hbl hbA hS (lv_at hl 1 rfl) (lv_at hl 5 rfl) hL hn (by decide) (by decide) dL_law_778 dL_law_779 dL_law_781 dL_law_782 dL_law_783 ?_
  rw [← ha1]
  refine x_arg (k := 2) S hX hbl hbA hS (lv_at hl 1 rfl) (lv_at hl 5 rfl) hL hn (by decide) (by decide) dL_law_784 dL_law_785 dL_law_787 dL_law_788 dL_law_789 ?_
  rw [← ha2]
  have hM1 : MW z w9 (sp_match g a1 a2).2.2 o9 g t A B H := ⟨gm, hW, hsim, hgt, hgA, hgB⟩
  refine x_mcall (As := [.int a1, .int a2]) (rest := []) (sp := sp_match g a1 a2) S hE hS hM1 (c_X6_match l z w9 (sp_match g a1 a2).2.2 g o9 t A B hO a1 a2) (cwV 2 hts (gU_V tw_942 tw_943 tw_944 tw_6 tw_945) rfl rfl rfl (by decide +kernel) ⟨Nat.le_of_ble_eq_true rfl, Nat.le_of_ble_eq_true rfl⟩) rfl hl.1 (by rw [hq9.2.1]; rfl) (Nat.le_of_ble_eq_true rfl) dL_law_790 ⟨Nat.le_trans (Nat.add_le_add_left (show 1 ≤ 4 by decide) _) hf.1, Nat.le_trans (Nat.add_le_add_left (show 6 ≤ 211 by decide) _) hf.2⟩ (fun rm g2 t2 A2 B2 H locs hRR hM2 hS => ?_)
  refine W.widen (k := cells + 4) (n := slots + 211) (Nat.add_le_add_left (by decide) _) (Nat.add_le_add_left (by decide) _) ?_
  exact x_tail (n := n) (sp := sp_match g a1 a2) (o := o) S hE hS hl hq9 hM2 (ok_match hO a1 a2) hr hRR ho hf dL_law_793 dL_law_795 dL_law_796 dL_law_799 dL_law_801 dL_law_806 dL_law_808 dL_law_811 dL_law_812 dL_law_813 dL_law_814 dL_law_816 dL_law_817 dL_law_818 dL_law_823 (by decide) (fun ls hI hl => kk H locs ls hI hS hl)
set_option maxHeartbeats 4000000 in
set_option maxRecDepth 100000 in
/-- the case of joint -/
theorem law_joint (l : Launch) (hst : l.stackTraces = false) {p : Program} {e : Env} {s : State} {m : MethodId} {args : Array Value} {below : List Frame} {meth : Method} {c : Code} {H : Heap} {locs : List Loc} {cells slots : Nat} {Q : State → Prop} {ls : Array Slot} {z : ZE} {b L qx qm qo : Nat} {xs : Nat → Int32} (S : CallFix p m c cL_law 7 s args wU RL) (hE : EV z s s.heap) (hX : va_X b L xs s s.heap) (hbl : b < s.heap.size) (hbA : ¬ zA z b) (hL : L ≤ 3584) (n : Nat) (hn : 7 * n + 7 ≤ L) (hS : va_S (zA z) s.heap H locs) (hI : LI z qx qm qo H) (hl : lv_has ls 7 [(0, .ref b), (1, .ref qx), (2, .ref qm), (3, .ref qo), (4, .int (nI (7 * n)))]) (hf : cells + 4 ≤ room_1.cells ∧ slots + 211 ≤ room_1.slots)
    (kk : ∀ (H1 : Heap) (locs1 : List Loc) (ls : Array Slot), LI z qx qm qo H1 → va_S (zA z) s.heap H1 locs1 → lv_has ls 7 [(0, .ref b), (1, .ref qx), (2, .ref qm), (3, .ref qo), (4, .int (nI (7 * n)))] → W p l e room_1 s m args below meth c H1 locs1 (cells + 4) (slots + 211) Q (F0 m 1507 ls [])) : W p l e room_1 s m args below meth c H locs cells slots Q (F0 m 826 ls []) := by
  have hts := S.2.2.2.2
  have hx := S.1
  have hb := S.2.1
  obtain ⟨w, g, o, t, A, B, hq, hO, hM⟩ := hI
  have hM0 := hM
  obtain ⟨gm, hW, hsim, hgt, hgA, hgB⟩ := hM
  obtain ⟨a1, ha1⟩ : ∃ y : Int32, y = xa xs n 1 := ⟨_, rfl⟩
  obtain ⟨a2, ha2⟩ : ∃ y : Int32, y = xa xs n 2 := ⟨_, rfl⟩
  obtain ⟨a3, ha3⟩ : ∃ y : Int32, y = xa xs n 3 := ⟨_, rfl⟩
  obtain ⟨a4, ha4⟩ : ∃ y : Int32, y = xa xs n 4 := ⟨_, rfl⟩
  obtain ⟨a5, ha5⟩ : ∃ y : Int32, y = xa xs n 5 := ⟨_, rfl⟩
  refine lv_aload_n hx hb dL_law_826 rfl (lv_at hl 1 rfl) ?_
  refine x_arg (k := 1) S hX hbl hbA hS (lv_at hl 0 rfl) (lv_at hl 4 rfl) hL hn (by decide) (by decide) dL_law_827 dL_law_828 dL_law_830 dL_law_831 dL_law_832 ?_
  rw [← ha1]
  refine x_arg (k := 2) S hX hbl hbA hS (lv_at hl 0 rfl) (lv_at hl 4 rfl) hL hn (by decide) (by decide) dL_law_833 dL_law_834 dL_law_836 dL_law_837 dL_law_838 ?_
  rw [← ha2]
  refine x_arg (k := 3) S hX hbl hbA hS (lv_at hl 0 rfl) (lv_at hl 4 rfl) hL hn (by decide) (by decide) dL_law_839 dL_law_840 dL_law_842 dL_law_843 dL_law_844 ?_
  rw [← ha3]
  refine x_arg (k := 4) S hX hbl hbA hS (lv_at hl 0 rfl) (lv_at hl 4 rfl) hL hn (by decide) (by decide) dL_law_845 dL_law_846 dL_law_848 dL_law_849 dL_law_850 ?_
  rw [← ha4]
  refine x_arg (k := 5) S hX hbl hbA hS (lv_at hl 0 rfl) (lv_at hl 4 rfl) hL hn (by decide) (by decide) dL_law_851 dL_law_852 dL_law_854 dL_law_855 dL_law_856 ?_
  rw [← ha5]
  refine lv_aload_n hx hb dL_law_857 rfl (lv_at hl 3 rfl) ?_
  refine x_lcall (As := [.ref (wad w 0 0), .int a1, .int a2, .int a3, .int a4, .int a5, .ref (wad w 11 0)]) (rest := []) (sp := sp_joint g a1 a2 a3 a4 a5) S hE hS hW (c_L_joint l z hst w g gm o hO a1 a2 a3 a4 a5) (vx_cwSW 7 hts (gU_w tw_564 tw_565 tw_0 tw_566) rfl rfl rfl (by decide +kernel) ⟨Nat.le_of_ble_eq_true rfl, Nat.le_of_ble_eq_true rfl⟩) rfl hl.1 (by rw [hq.1, hq.2.2]; rfl) (Nat.le_of_ble_eq_true rfl) dL_law_858 ⟨Nat.le_trans (Nat.add_le_add_left (show 2 ≤ 4 by decide) _) hf.1, Nat.le_trans (Nat.add_le_add_left (show 109 ≤ 211 by decide) _) hf.2⟩ (fun r w9 o9 H locs hr hs ho hW hS => ?_)
  have hq9 : wad w9 0 0 = qx ∧ wad w9 9 0 = qm ∧ wad w9 11 0 = qo := ⟨hs.1.trans hq.1, hs.2.1.trans hq.2.1, hs.2.2.trans hq.2.2⟩
  refine lv_istore (lv' := [(5, .int r), (0, .ref b), (1, .ref qx), (2, .ref qm), (3, .ref qo), (4, .int (nI (7 * n)))]) hx hb dL_law_861 hl (by decide) rfl (fun ls hl => ?_)
  refine lv_aload_n hx hb dL_law_863 rfl (lv_at hl 3 rfl) ?_
  refine x_arg (k := 1) S hX hbl hbA hS (lv_at hl 1 rfl) (lv_at hl 5 rfl) hL hn (by decide) (by decide) dL_law_864 dL_law_865 dL_law_867 dL_law_868 dL_law_869 ?_
  rw [← ha1]
  refine x_arg (k := 2) S hX hbl hbA hS (lv_at hl 1 rfl) (lv_at hl 5 rfl) hL hn (by decide) (by decide) dL_law_870 dL_law_871 dL_law_873 dL_law_874 dL_law_875 ?_
  rw [← ha2]
  refine x_arg (k := 3) S hX hbl hbA hS (lv_at hl 1 rfl) (lv_at hl 5 rfl) hL hn (by decide) (by decide) dL_law_876 dL_law_877 dL_law_879 dL_law_880 dL_law_881 ?_
  rw [← ha3]
  refine x_arg (k := 4) S hX hbl hbA hS (lv_at hl 1 rfl) (lv_at hl 5 rfl) hL hn (by decide) (by decide) dL_law_882 dL_law_883 dL_law_885 dL_law_886 dL_law_887 ?_
  rw [← ha4]
  refine x_arg (k := 5) S hX hbl hbA hS (lv_at hl 1 rfl) (lv_at hl 5 rfl) hL hn (by decide) (by decide) dL_law_888 dL_law_889 dL_law_891 dL_law_892 dL_law_893 ?_
  rw [← ha5]
  have hM1 : MW z w9 (sp_joint g a1 a2 a3 a4 a5).2.2 o9 g t A B H := ⟨gm, hW, hsim, hgt, hgA, hgB⟩
  refine x_mcall (As := [.int a1, .int a2, .int a3, .int a4, .int a5]) (rest := []) (sp := sp_joint g a1 a2 a3 a4 a5) S hE hS hM1 (c_X6_joint l z w9 (sp_joint g a1 a2 a3 a4 a5).2.2 g o9 t A B hO a1 a2 a3 a4 a5) (cwV 5 hts (gU_V tw_946 tw_947 tw_948 tw_6 tw_949) rfl rfl rfl (by decide +kernel) ⟨Nat.le_of_ble_eq_true rfl, Nat.le_of_ble_eq_true rfl⟩) rfl hl.1 (by rw [hq9.2.1]; rfl) (Nat.le_of_ble_eq_true rfl) dL_law_894 ⟨Nat.le_trans (Nat.add_le_add_left (show 2 ≤ 4 by decide) _) hf.1, Nat.le_trans (Nat.add_le_add_left (show 109 ≤ 211 by decide) _) hf.2⟩ (fun rm g2 t2 A2 B2 H locs hRR hM2 hS => ?_)
  refine W.widen (k := cells + 4) (n := slots + 211) (Nat.add_le_add_left (by decide) _) (Nat.add_le_add_left (by decide) _) ?_
  exact x_tail (n := n) (sp := sp_joint g a1 a2 a3 a4 a5) (o := o) S hE hS hl hq9 hM2 (ok_joint hO a1 a2 a3 a4 a5) hr hRR ho hf dL_law_897 dL_law_899 dL_law_900 dL_law_903 dL_law_905 dL_law_910 dL_law_912 dL_law_915 dL_law_916 dL_law_917 dL_law_918 dL_law_920 dL_law_921 dL_law_922 dL_law_927 (by decide) (fun ls hI hl => kk H locs ls hI hS hl)
set_option maxHeartbeats 4000000 in
set_option maxRecDepth 100000 in
/-- the case of need -/
theorem law_need (l : Launch) (hst : l.stackTraces = false) {p : Program} {e : Env} {s : State} {m : MethodId} {args : Array Value} {below : List Frame} {meth : Method} {c : Code} {H : Heap} {locs : List Loc} {cells slots : Nat} {Q : State → Prop} {ls : Array Slot} {z : ZE} {b L qx qm qo : Nat} {xs : Nat → Int32} (S : CallFix p m c cL_law 7 s args wU RL) (hE : EV z s s.heap) (hX : va_X b L xs s s.heap) (hbl : b < s.heap.size) (hbA : ¬ zA z b) (hL : L ≤ 3584) (n : Nat) (hn : 7 * n + 7 ≤ L) (hS : va_S (zA z) s.heap H locs) (hI : LI z qx qm qo H) (hl : lv_has ls 7 [(0, .ref b), (1, .ref qx), (2, .ref qm), (3, .ref qo), (4, .int (nI (7 * n)))]) (hf : cells + 4 ≤ room_1.cells ∧ slots + 211 ≤ room_1.slots)
    (kk : ∀ (H1 : Heap) (locs1 : List Loc) (ls : Array Slot), LI z qx qm qo H1 → va_S (zA z) s.heap H1 locs1 → lv_has ls 7 [(0, .ref b), (1, .ref qx), (2, .ref qm), (3, .ref qo), (4, .int (nI (7 * n)))] → W p l e room_1 s m args below meth c H1 locs1 (cells + 4) (slots + 211) Q (F0 m 1507 ls [])) : W p l e room_1 s m args below meth c H locs cells slots Q (F0 m 930 ls []) := by
  have hts := S.2.2.2.2
  have hx := S.1
  have hb := S.2.1
  obtain ⟨w, g, o, t, A, B, hq, hO, hM⟩ := hI
  have hM0 := hM
  obtain ⟨gm, hW, hsim, hgt, hgA, hgB⟩ := hM
  obtain ⟨a1, ha1⟩ : ∃ y : Int32, y = xa xs n 1 := ⟨_, rfl⟩
  obtain ⟨a2, ha2⟩ : ∃ y : Int32, y = xa xs n 2 := ⟨_, rfl⟩
  refine lv_aload_n hx hb dL_law_930 rfl (lv_at hl 1 rfl) ?_
  refine x_arg (k := 1) S hX hbl hbA hS (lv_at hl 0 rfl) (lv_at hl 4 rfl) hL hn (by decide) (by decide) dL_law_931 dL_law_932 dL_law_934 dL_law_935 dL_law_936 ?_
  rw [← ha1]
  refine x_arg (k := 2) S hX hbl hbA hS (lv_at hl 0 rfl) (lv_at hl 4 rfl) hL hn (by decide) (by decide) dL_law_937 dL_law_938 dL_law_940 dL_law_941 dL_law_942 ?_
  rw [← ha2]
  refine lv_aload_n hx hb dL_law_943 rfl (lv_at hl 3 rfl) ?_
  refine x_lcall (As := [.ref (wad w 0 0), .int a1, .int a2, .ref (wad w 11 0)]) (rest := []) (sp := sp_need g a1 a2) S hE hS hW (c_L_need l z hst w g gm o hO a1 a2) (vx_cwSW 4 hts (gU_w tw_625 tw_626 tw_0 tw_627) rfl rfl rfl (by decide +kernel) ⟨Nat.le_of_ble_eq_true rfl, Nat.le_of_ble_eq_true rfl⟩) rfl hl.1 (by rw [hq.1, hq.2.2]; rfl) (Nat.le_of_ble_eq_true rfl) dL_law_944 ⟨Nat.le_trans (Nat.add_le_add_left (show 1 ≤ 4 by decide) _) hf.1, Nat.le_trans (Nat.add_le_add_left (show 6 ≤ 211 by decide) _) hf.2⟩ (fun r w9 o9 H locs hr hs ho hW hS => ?_)
  have hq9 : wad w9 0 0 = qx ∧ wad w9 9 0 = qm ∧ wad w9 11 0 = qo := ⟨hs.1.trans hq.1, hs.2.1.trans hq.2.1, hs.2.2.trans hq.2.2⟩
  refine lv_istore (lv' := [(5, .int r), (0, .ref b), (1, .ref qx), (2, .ref qm), (3, .ref qo), (4, .int (nI (7 * n)))]) hx hb dL_law_947 hl (by decide) rfl (fun ls hl => ?_)
  refine lv_aload_n hx hb dL_law_949 rfl (lv_at hl 3 rfl) ?_
  refine x_arg (k := 1) S hX hbl hbA hS (lv_at hl 1 rfl) (lv_at hl 5 rfl) hL hn (by decide) (by decide) dL_law_950 dL_law_951 dL_law_953 dL_law_954 dL_law_955 ?_
  rw [← ha1]
  refine x_arg (k := 2) S hX hbl hbA hS (lv_at hl 1 rfl) (lv_at hl 5 rfl) hL hn (by decide) (by decide) dL_law_956 dL_law_957 dL_law_959 dL_law_960 dL_law_961 ?_
  rw [← ha2]
  have hM1 : MW z w9 (sp_need g a1 a2).2.2 o9 g t A B H := ⟨gm, hW, hsim, hgt, hgA, hgB⟩
  refine x_mcall (As := [.int a1, .int a2]) (rest := []) (sp := sp_need g a1 a2) S hE hS hM1 (c_X6_need l z w9 (sp_need g a1 a2).2.2 g o9 t A B hO a1 a2) (cwV 2 hts (gU_V tw_954 tw_955 tw_956 tw_6 tw_957) rfl rfl rfl (by decide +kernel) ⟨Nat.le_of_ble_eq_true rfl, Nat.le_of_ble_eq_true rfl⟩) rfl hl.1 (by rw [hq9.2.1]; rfl) (Nat.le_of_ble_eq_true rfl) dL_law_962 ⟨Nat.le_trans (Nat.add_le_add_left (show 1 ≤ 4 by decide) _) hf.1, Nat.le_trans (Nat.add_le_add_left (show 6 ≤ 211 by decide) _) hf.2⟩ (fun rm g2 t2 A2 B2 H locs hRR hM2 hS => ?_)
  refine W.widen (k := cells + 4) (n := slots + 211) (Nat.add_le_add_left (by decide) _) (Nat.add_le_add_left (by decide) _) ?_
  exact x_tail (n := n) (sp := sp_need g a1 a2) (o := o) S hE hS hl hq9 hM2 (ok_need hO a1 a2) hr hRR ho hf dL_law_965 dL_law_967 dL_law_968 dL_law_971 dL_law_973 dL_law_978 dL_law_980 dL_law_983 dL_law_984 dL_law_985 dL_law_986 dL_law_988 dL_law_989 dL_law_990 dL_law_995 (by decide) (fun ls hI hl => kk H locs ls hI hS hl)
set_option maxHeartbeats 4000000 in
set_option maxRecDepth 100000 in
/-- the case of clamps -/
theorem law_clamps (l : Launch) (hst : l.stackTraces = false) {p : Program} {e : Env} {s : State} {m : MethodId} {args : Array Value} {below : List Frame} {meth : Method} {c : Code} {H : Heap} {locs : List Loc} {cells slots : Nat} {Q : State → Prop} {ls : Array Slot} {z : ZE} {b L qx qm qo : Nat} {xs : Nat → Int32} (S : CallFix p m c cL_law 7 s args wU RL) (hE : EV z s s.heap) (hX : va_X b L xs s s.heap) (hbl : b < s.heap.size) (hbA : ¬ zA z b) (hL : L ≤ 3584) (n : Nat) (hn : 7 * n + 7 ≤ L) (hS : va_S (zA z) s.heap H locs) (hI : LI z qx qm qo H) (hl : lv_has ls 7 [(0, .ref b), (1, .ref qx), (2, .ref qm), (3, .ref qo), (4, .int (nI (7 * n)))]) (hf : cells + 4 ≤ room_1.cells ∧ slots + 211 ≤ room_1.slots)
    (kk : ∀ (H1 : Heap) (locs1 : List Loc) (ls : Array Slot), LI z qx qm qo H1 → va_S (zA z) s.heap H1 locs1 → lv_has ls 7 [(0, .ref b), (1, .ref qx), (2, .ref qm), (3, .ref qo), (4, .int (nI (7 * n)))] → W p l e room_1 s m args below meth c H1 locs1 (cells + 4) (slots + 211) Q (F0 m 1507 ls [])) : W p l e room_1 s m args below meth c H locs cells slots Q (F0 m 998 ls []) := by
  have hts := S.2.2.2.2
  have hx := S.1
  have hb := S.2.1
  obtain ⟨w, g, o, t, A, B, hq, hO, hM⟩ := hI
  have hM0 := hM
  obtain ⟨gm, hW, hsim, hgt, hgA, hgB⟩ := hM
  obtain ⟨a1, ha1⟩ : ∃ y : Int32, y = xa xs n 1 := ⟨_, rfl⟩
  refine lv_aload_n hx hb dL_law_998 rfl (lv_at hl 1 rfl) ?_
  refine x_arg (k := 1) S hX hbl hbA hS (lv_at hl 0 rfl) (lv_at hl 4 rfl) hL hn (by decide) (by decide) dL_law_999 dL_law_1000 dL_law_1002 dL_law_1003 dL_law_1004 ?_
  rw [← ha1]
  refine lv_aload_n hx hb dL_law_1005 rfl (lv_at hl 3 rfl) ?_
  refine x_lcall (As := [.ref (wad w 0 0), .int a1, .ref (wad w 11 0)]) (rest := []) (sp := sp_clamps g a1) S hE hS hW (c_L_clamps l z hst w g gm o hO a1) (vx_cwSW 3 hts (gU_w tw_639 tw_640 tw_0 tw_641) rfl rfl rfl (by decide +kernel) ⟨Nat.le_of_ble_eq_true rfl, Nat.le_of_ble_eq_true rfl⟩) rfl hl.1 (by rw [hq.1, hq.2.2]; rfl) (Nat.le_of_ble_eq_true rfl) dL_law_1006 ⟨Nat.le_trans (Nat.add_le_add_left (show 1 ≤ 4 by decide) _) hf.1, Nat.le_trans (Nat.add_le_add_left (show 6 ≤ 211 by decide) _) hf.2⟩ (fun r w9 o9 H locs hr hs ho hW hS => ?_)
  have hq9 : wad w9 0 0 = qx ∧ wad w9 9 0 = qm ∧ wad w9 11 0 = qo := ⟨hs.1.trans hq.1, hs.2.1.trans hq.2.1, hs.2.2.trans hq.2.2⟩
  refine lv_istore (lv' := [(5, .int r), (0, .ref b), (1, .ref qx), (2, .ref qm), (3, .ref qo), (4, .int (nI (7 * n)))]) hx hb dL_law_1009 hl (by decide) rfl (fun ls hl => ?_)
  refine lv_aload_n hx hb dL_law_1011 rfl (lv_at hl 3 rfl) ?_
  refine x_arg (k := 1) S hX hbl hbA hS (lv_at hl 1 rfl) (lv_at hl 5 rfl) hL hn (by decide) (by decide) dL_law_1012 dL_law_1013 dL_law_1015 dL_law_1016 dL_law_1017 ?_
  rw [← ha1]
  have hM1 : MW z w9 (sp_clamps g a1).2.2 o9 g t A B H := ⟨gm, hW, hsim, hgt, hgA, hgB⟩
  refine x_mcall (As := [.int a1]) (rest := []) (sp := sp_clamps g a1) S hE hS hM1 (c_X6_clamps l z w9 (sp_clamps g a1).2.2 g o9 t A B hO a1) (cwV 1 hts (gU_V tw_962 tw_963 tw_964 tw_6 tw_965) rfl rfl rfl (by decide +kernel) ⟨Nat.le_of_ble_eq_true rfl, Nat.le_of_ble_eq_true rfl⟩) rfl hl.1 (by rw [hq9.2.1]; rfl) (Nat.le_of_ble_eq_true rfl) dL_law_1018 ⟨Nat.le_trans (Nat.add_le_add_left (show 1 ≤ 4 by decide) _) hf.1, Nat.le_trans (Nat.add_le_add_left (show 6 ≤ 211 by decide) _) hf.2⟩ (fun rm g2 t2 A2 B2 H locs hRR hM2 hS => ?_)
  refine W.widen (k := cells + 4) (n := slots + 211) (Nat.add_le_add_left (by decide) _) (Nat.add_le_add_left (by decide) _) ?_
  exact x_tail (n := n) (sp := sp_clamps g a1) (o := o) S hE hS hl hq9 hM2 (ok_clamps hO a1) hr hRR ho hf dL_law_1021 dL_law_1023 dL_law_1024 dL_law_1027 dL_law_1029 dL_law_1034 dL_law_1036 dL_law_1039 dL_law_1040 dL_law_1041 dL_law_1042 dL_law_1044 dL_law_1045 dL_law_1046 dL_law_1051 (by decide) (fun ls hI hl => kk H locs ls hI hS hl)
set_option maxHeartbeats 4000000 in
set_option maxRecDepth 100000 in
/-- the case of glue -/
theorem law_glue (l : Launch) (hst : l.stackTraces = false) {p : Program} {e : Env} {s : State} {m : MethodId} {args : Array Value} {below : List Frame} {meth : Method} {c : Code} {H : Heap} {locs : List Loc} {cells slots : Nat} {Q : State → Prop} {ls : Array Slot} {z : ZE} {b L qx qm qo : Nat} {xs : Nat → Int32} (S : CallFix p m c cL_law 7 s args wU RL) (hE : EV z s s.heap) (hX : va_X b L xs s s.heap) (hbl : b < s.heap.size) (hbA : ¬ zA z b) (hL : L ≤ 3584) (n : Nat) (hn : 7 * n + 7 ≤ L) (hS : va_S (zA z) s.heap H locs) (hI : LI z qx qm qo H) (hl : lv_has ls 7 [(0, .ref b), (1, .ref qx), (2, .ref qm), (3, .ref qo), (4, .int (nI (7 * n)))]) (hf : cells + 4 ≤ room_1.cells ∧ slots + 211 ≤ room_1.slots)
    (kk : ∀ (H1 : Heap) (locs1 : List Loc) (ls : Array Slot), LI z qx qm qo H1 → va_S (zA z) s.heap H1 locs1 → lv_has ls 7 [(0, .ref b), (1, .ref qx), (2, .ref qm), (3, .ref qo), (4, .int (nI (7 * n)))] → W p l e room_1 s m args below meth c H1 locs1 (cells + 4) (slots + 211) Q (F0 m 1507 ls [])) : W p l e room_1 s m args below meth c H locs cells slots Q (F0 m 1054 ls []) := by
  have hts := S.2.2.2.2
  have hx := S.1
  have hb := S.2.1
  obtain ⟨w, g, o, t, A, B, hq, hO, hM⟩ := hI
  have hM0 := hM
  obtain ⟨gm, hW, hsim, hgt, hgA, hgB⟩ := hM
  obtain ⟨a1, ha1⟩ : ∃ y : Int32, y = xa xs n 1 := ⟨_, rfl⟩
  refine lv_aload_n hx hb dL_law_1054 rfl (lv_at hl 1 rfl) ?_
  refine x_arg (k := 1) S hX hbl hbA hS (lv_at hl 0 rfl) (lv_at hl 4 rfl) hL hn (by decide) (by decide) dL_law_1055 dL_law_1056 dL_law_1058 dL_law_1059 dL_law_1060 ?_
  rw [← ha1]
  refine lv_aload_n hx hb dL_law_1061 rfl (lv_at hl 3 rfl) ?_
  refine x_lcall (As := [.ref (wad w 0 0), .int a1, .ref (wad w 11 0)]) (rest := []) (sp := sp_glue g a1) S hE hS hW (c_L_glue l z hst w g gm o hO a1) (vx_cwSW 3 hts (gU_w tw_647 tw_648 tw_0 tw_649) rfl rfl rfl (by decide +kernel) ⟨Nat.le_of_ble_eq_true rfl, Nat.le_of_ble_eq_true rfl⟩) rfl hl.1 (by rw [hq.1, hq.2.2]; rfl) (Nat.le_of_ble_eq_true rfl) dL_law_1062 ⟨Nat.le_trans (Nat.add_le_add_left (show 1 ≤ 4 by decide) _) hf.1, Nat.le_trans (Nat.add_le_add_left (show 6 ≤ 211 by decide) _) hf.2⟩ (fun r w9 o9 H locs hr hs ho hW hS => ?_)
  have hq9 : wad w9 0 0 = qx ∧ wad w9 9 0 = qm ∧ wad w9 11 0 = qo := ⟨hs.1.trans hq.1, hs.2.1.trans hq.2.1, hs.2.2.trans hq.2.2⟩
  refine lv_istore (lv' := [(5, .int r), (0, .ref b), (1, .ref qx), (2, .ref qm), (3, .ref qo), (4, .int (nI (7 * n)))]) hx hb dL_law_1065 hl (by decide) rfl (fun ls hl => ?_)
  refine lv_aload_n hx hb dL_law_1067 rfl (lv_at hl 3 rfl) ?_
  refine x_arg (k := 1) S hX hbl hbA hS (lv_at hl 1 rfl) (lv_at hl 5 rfl) hL hn (by decide) (by decide) dL_law_1068 dL_law_1069 dL_law_1071 dL_law_1072 dL_law_1073 ?_
  rw [← ha1]
  have hM1 : MW z w9 (sp_glue g a1).2.2 o9 g t A B H := ⟨gm, hW, hsim, hgt, hgA, hgB⟩
  refine x_mcall (As := [.int a1]) (rest := []) (sp := sp_glue g a1) S hE hS hM1 (c_X6_glue l z w9 (sp_glue g a1).2.2 g o9 t A B hO a1) (cwV 1 hts (gU_V tw_966 tw_967 tw_968 tw_6 tw_969) rfl rfl rfl (by decide +kernel) ⟨Nat.le_of_ble_eq_true rfl, Nat.le_of_ble_eq_true rfl⟩) rfl hl.1 (by rw [hq9.2.1]; rfl) (Nat.le_of_ble_eq_true rfl) dL_law_1074 ⟨Nat.le_trans (Nat.add_le_add_left (show 1 ≤ 4 by decide) _) hf.1, Nat.le_trans (Nat.add_le_add_left (show 6 ≤ 211 by decide) _) hf.2⟩ (fun rm g2 t2 A2 B2 H locs hRR hM2 hS => ?_)
  refine W.widen (k := cells + 4) (n := slots + 211) (Nat.add_le_add_left (by decide) _) (Nat.add_le_add_left (by decide) _) ?_
  exact x_tail (n := n) (sp := sp_glue g a1) (o := o) S hE hS hl hq9 hM2 (ok_glue hO a1) hr hRR ho hf dL_law_1077 dL_law_1079 dL_law_1080 dL_law_1083 dL_law_1085 dL_law_1090 dL_law_1092 dL_law_1095 dL_law_1096 dL_law_1097 dL_law_1098 dL_law_1100 dL_law_1101 dL_law_1102 dL_law_1107 (by decide) (fun ls hI hl => kk H locs ls hI hS hl)
set_option maxHeartbeats 4000000 in
set_option maxRecDepth 100000 in
/-- the case of repair -/
theorem law_repair (l : Launch) (hst : l.stackTraces = false) {p : Program} {e : Env} {s : State} {m : MethodId} {args : Array Value} {below : List Frame} {meth : Method} {c : Code} {H : Heap} {locs : List Loc} {cells slots : Nat} {Q : State → Prop} {ls : Array Slot} {z : ZE} {b L qx qm qo : Nat} {xs : Nat → Int32} (S : CallFix p m c cL_law 7 s args wU RL) (hE : EV z s s.heap) (hX : va_X b L xs s s.heap) (hbl : b < s.heap.size) (hbA : ¬ zA z b) (hL : L ≤ 3584) (n : Nat) (hn : 7 * n + 7 ≤ L) (hS : va_S (zA z) s.heap H locs) (hI : LI z qx qm qo H) (hl : lv_has ls 7 [(0, .ref b), (1, .ref qx), (2, .ref qm), (3, .ref qo), (4, .int (nI (7 * n)))]) (hf : cells + 4 ≤ room_1.cells ∧ slots + 211 ≤ room_1.slots)
    (kk : ∀ (H1 : Heap) (locs1 : List Loc) (ls : Array Slot), LI z qx qm qo H1 → va_S (zA z) s.heap H1 locs1 → lv_has ls 7 [(0, .ref b), (1, .ref qx), (2, .ref qm), (3, .ref qo), (4, .int (nI (7 * n)))] → W p l e room_1 s m args below meth c H1 locs1 (cells + 4) (slots + 211) Q (F0 m 1507 ls [])) : W p l e room_1 s m args below meth c H locs cells slots Q (F0 m 1110 ls []) := by
  have hts := S.2.2.2.2
  have hx := S.1
  have hb := S.2.1
  obtain ⟨w, g, o, t, A, B, hq, hO, hM⟩ := hI
  have hM0 := hM
  obtain ⟨gm, hW, hsim, hgt, hgA, hgB⟩ := hM
  obtain ⟨a1, ha1⟩ : ∃ y : Int32, y = xa xs n 1 := ⟨_, rfl⟩
  refine lv_aload_n hx hb dL_law_1110 rfl (lv_at hl 1 rfl) ?_
  refine x_arg (k := 1) S hX hbl hbA hS (lv_at hl 0 rfl) (lv_at hl 4 rfl) hL hn (by decide) (by decide) dL_law_1111 dL_law_1112 dL_law_1114 dL_law_1115 dL_law_1116 ?_
  rw [← ha1]
  refine lv_aload_n hx hb dL_law_1117 rfl (lv_at hl 3 rfl) ?_
  refine x_lcall (As := [.ref (wad w 0 0), .int a1, .ref (wad w 11 0)]) (rest := []) (sp := sp_repair g a1) S hE hS hW (c_L_repair l z hst w g gm o hO a1) (vx_cwSW 3 hts (gU_w tw_676 tw_677 tw_0 tw_678) rfl rfl rfl (by decide +kernel) ⟨Nat.le_of_ble_eq_true rfl, Nat.le_of_ble_eq_true rfl⟩) rfl hl.1 (by rw [hq.1, hq.2.2]; rfl) (Nat.le_of_ble_eq_true rfl) dL_law_1118 ⟨Nat.le_trans (Nat.add_le_add_left (show 1 ≤ 4 by decide) _) hf.1, Nat.le_trans (Nat.add_le_add_left (show 6 ≤ 211 by decide) _) hf.2⟩ (fun r w9 o9 H locs hr hs ho hW hS => ?_)
  have hq9 : wad w9 0 0 = qx ∧ wad w9 9 0 = qm ∧ wad w9 11 0 = qo := ⟨hs.1.trans hq.1, hs.2.1.trans hq.2.1, hs.2.2.trans hq.2.2⟩
  refine lv_istore (lv' := [(5, .int r), (0, .ref b), (1, .ref qx), (2, .ref qm), (3, .ref qo), (4, .int (nI (7 * n)))]) hx hb dL_law_1121 hl (by decide) rfl (fun ls hl => ?_)
  refine lv_aload_n hx hb dL_law_1123 rfl (lv_at hl 3 rfl) ?_
  refine x_arg (k := 1) S hX hbl hbA hS (lv_at hl 1 rfl) (lv_at hl 5 rfl) hL hn (by decide) (by decide) dL_law_1124 dL_law_1125 dL_law_1127 dL_law_1128 dL_law_1129 ?_
  rw [← ha1]
  have hM1 : MW z w9 (sp_repair g a1).2.2 o9 g t A B H := ⟨gm, hW, hsim, hgt, hgA, hgB⟩
  refine x_mcall (As := [.int a1]) (rest := []) (sp := sp_repair g a1) S hE hS hM1 (c_X6_repair l z w9 (sp_repair g a1).2.2 g o9 t A B hO a1) (cwV 1 hts (gU_V tw_970 tw_971 tw_972 tw_6 tw_973) rfl rfl rfl (by decide +kernel) ⟨Nat.le_of_ble_eq_true rfl, Nat.le_of_ble_eq_true rfl⟩) rfl hl.1 (by rw [hq9.2.1]; rfl) (Nat.le_of_ble_eq_true rfl) dL_law_1130 ⟨Nat.le_trans (Nat.add_le_add_left (show 1 ≤ 4 by decide) _) hf.1, Nat.le_trans (Nat.add_le_add_left (show 6 ≤ 211 by decide) _) hf.2⟩ (fun rm g2 t2 A2 B2 H locs hRR hM2 hS => ?_)
  refine W.widen (k := cells + 4) (n := slots + 211) (Nat.add_le_add_left (by decide) _) (Nat.add_le_add_left (by decide) _) ?_
  exact x_tail (n := n) (sp := sp_repair g a1) (o := o) S hE hS hl hq9 hM2 (ok_repair hO a1) hr hRR ho hf dL_law_1133 dL_law_1135 dL_law_1136 dL_law_1139 dL_law_1141 dL_law_1146 dL_law_1148 dL_law_1151 dL_law_1152 dL_law_1153 dL_law_1154 dL_law_1156 dL_law_1157 dL_law_1158 dL_law_1163 (by decide) (fun ls hI hl => kk H locs ls hI hS hl)
set_option maxHeartbeats 4000000 in
set_option maxRecDepth 100000 in
/-- the case of through -/
theorem law_through (l : Launch) (hst : l.stackTraces = false) {p : Program} {e : Env} {s : State} {m : MethodId} {args : Array Value} {below : List Frame} {meth : Method} {c : Code} {H : Heap} {locs : List Loc} {cells slots : Nat} {Q : State → Prop} {ls : Array Slot} {z : ZE} {b L qx qm qo : Nat} {xs : Nat → Int32} (S : CallFix p m c cL_law 7 s args wU RL) (hE : EV z s s.heap) (hX : va_X b L xs s s.heap) (hbl : b < s.heap.size) (hbA : ¬ zA z b) (hL : L ≤ 3584) (n : Nat) (hn : 7 * n + 7 ≤ L) (hS : va_S (zA z) s.heap H locs) (hI : LI z qx qm qo H) (hl : lv_has ls 7 [(0, .ref b), (1, .ref qx), (2, .ref qm), (3, .ref qo), (4, .int (nI (7 * n)))]) (hf : cells + 4 ≤ room_1.cells ∧ slots + 211 ≤ room_1.slots)
    (kk : ∀ (H1 : Heap) (locs1 : List Loc) (ls : Array Slot), LI z qx qm qo H1 → va_S (zA z) s.heap H1 locs1 → lv_has ls 7 [(0, .ref b), (1, .ref qx), (2, .ref qm), (3, .ref qo), (4, .int (nI (7 * n)))] → W p l e room_1 s m args below meth c H1 locs1 (cells + 4) (slots + 211) Q (F0 m 1507 ls [])) : W p l e room_1 s m args below meth c H locs cells slots Q (F0 m 1166 ls []) := by
  have hts := S.2.2.2.2
  have hx := S.1
  have hb := S.2.1
  obtain ⟨w, g, o, t, A, B, hq, hO, hM⟩ := hI
  have hM0 := hM
  obtain ⟨gm, hW, hsim, hgt, hgA, hgB⟩ := hM
  obtain ⟨a1, ha1⟩ : ∃ y : Int32, y = xa xs n 1 := ⟨_, rfl⟩
  refine lv_aload_n hx hb dL_law_1166 rfl (lv_at hl 1 rfl) ?_
  refine x_arg (k := 1) S hX hbl hbA hS (lv_at hl 0 rfl) (lv_at hl 4 rfl) hL hn (by decide) (by decide) dL_law_1167 dL_law_1168 dL_law_1170 dL_law_1171 dL_law_1172 ?_
  rw [← ha1]
  refine lv_aload_n hx hb dL_law_1173 rfl (lv_at hl 3 rfl) ?_
  refine x_lcall (As := [.ref (wad w 0 0), .int a1, .ref (wad w 11 0)]) (rest := []) (sp := sp_through g a1) S hE hS hW (c_L_through l z hst w g gm o hO a1) (vx_cwSW 3 hts (gU_w tw_684 tw_685 tw_0 tw_686) rfl rfl rfl (by decide +kernel) ⟨Nat.le_of_ble_eq_true rfl, Nat.le_of_ble_eq_true rfl⟩) rfl hl.1 (by rw [hq.1, hq.2.2]; rfl) (Nat.le_of_ble_eq_true rfl) dL_law_1174 ⟨Nat.le_trans (Nat.add_le_add_left (show 1 ≤ 4 by decide) _) hf.1, Nat.le_trans (Nat.add_le_add_left (show 6 ≤ 211 by decide) _) hf.2⟩ (fun r w9 o9 H locs hr hs ho hW hS => ?_)
  have hq9 : wad w9 0 0 = qx ∧ wad w9 9 0 = qm ∧ wad w9 11 0 = qo := ⟨hs.1.trans hq.1, hs.2.1.trans hq.2.1, hs.2.2.trans hq.2.2⟩
  refine lv_istore (lv' := [(5, .int r), (0, .ref b), (1, .ref qx), (2, .ref qm), (3, .ref qo), (4, .int (nI (7 * n)))]) hx hb dL_law_1177 hl (by decide) rfl (fun ls hl => ?_)
  refine lv_aload_n hx hb dL_law_1179 rfl (lv_at hl 3 rfl) ?_
  refine x_arg (k := 1) S hX hbl hbA hS (lv_at hl 1 rfl) (lv_at hl 5 rfl) hL hn (by decide) (by decide) dL_law_1180 dL_law_1181 dL_law_1183 dL_law_1184 dL_law_1185 ?_
  rw [← ha1]
  have hM1 : MW z w9 (sp_through g a1).2.2 o9 g t A B H := ⟨gm, hW, hsim, hgt, hgA, hgB⟩
  refine x_mcall (As := [.int a1]) (rest := []) (sp := sp_through g a1) S hE hS hM1 (c_X6_through l z w9 (sp_through g a1).2.2 g o9 t A B hO a1) (cwV 1 hts (gU_V tw_974 tw_975 tw_976 tw_6 tw_977) rfl rfl rfl (by decide +kernel) ⟨Nat.le_of_ble_eq_true rfl, Nat.le_of_ble_eq_true rfl⟩) rfl hl.1 (by rw [hq9.2.1]; rfl) (Nat.le_of_ble_eq_true rfl) dL_law_1186 ⟨Nat.le_trans (Nat.add_le_add_left (show 1 ≤ 4 by decide) _) hf.1, Nat.le_trans (Nat.add_le_add_left (show 6 ≤ 211 by decide) _) hf.2⟩ (fun rm g2 t2 A2 B2 H locs hRR hM2 hS => ?_)
  refine W.widen (k := cells + 4) (n := slots + 211) (Nat.add_le_add_left (by decide) _) (Nat.add_le_add_left (by decide) _) ?_
  exact x_tail (n := n) (sp := sp_through g a1) (o := o) S hE hS hl hq9 hM2 (ok_through hO a1) hr hRR ho hf dL_law_1189 dL_law_1191 dL_law_1192 dL_law_1195 dL_law_1197 dL_law_1202 dL_law_1204 dL_law_1207 dL_law_1208 dL_law_1209 dL_law_1210 dL_law_1212 dL_law_1213 dL_law_1214 dL_law_1219 (by decide) (fun ls hI hl => kk H locs ls hI hS hl)
set_option maxHeartbeats 4000000 in
set_option maxRecDepth 100000 in
/-- the case of breaksIn -/
theorem law_breaksIn (l : Launch) (hst : l.stackTraces = false) {p : Program} {e : Env} {s : State} {m : MethodId} {args : Array Value} {below : List Frame} {meth : Method} {c : Code} {H : Heap} {locs : List Loc} {cells slots : Nat} {Q : State → Prop} {ls : Array Slot} {z : ZE} {b L qx qm qo : Nat} {xs : Nat → Int32} (S : CallFix p m c cL_law 7 s args wU RL) (hE : EV z s s.heap) (hX : va_X b L xs s s.heap) (hbl : b < s.heap.size) (hbA : ¬ zA z b) (hL : L ≤ 3584) (n : Nat) (hn : 7 * n + 7 ≤ L) (hS : va_S (zA z) s.heap H locs) (hI : LI z qx qm qo H) (hl : lv_has ls 7 [(0, .ref b), (1, .ref qx), (2, .ref qm), (3, .ref qo), (4, .int (nI (7 * n)))]) (hf : cells + 4 ≤ room_1.cells ∧ slots + 211 ≤ room_1.slots)
    (kk : ∀ (H1 : Heap) (locs1 : List Loc) (ls : Array Slot), LI z qx qm qo H1 → va_S (zA z) s.heap H1 locs1 → lv_has ls 7 [(0, .ref b), (1, .ref qx), (2, .ref qm), (3, .ref qo), (4, .int (nI (7 * n)))] → W p l e room_1 s m args below meth c H1 locs1 (cells + 4) (slots + 211) Q (F0 m 1507 ls [])) : W p l e room_1 s m args below meth c H locs cells slots Q (F0 m 1222 ls []) := by
  have hts := S.2.2.2.2
  have hx := S.1
  have hb := S.2.1
  obtain ⟨w, g, o, t, A, B, hq, hO, hM⟩ := hI
  have hM0 := hM
  obtain ⟨gm, hW, hsim, hgt, hgA, hgB⟩ := hM
  obtain ⟨a1, ha1⟩ : ∃ y : Int32, y = xa xs n 1 := ⟨_, rfl⟩
  obtain ⟨a2, ha2⟩ : ∃ y : Int32, y = xa xs n 2 := ⟨_, rfl⟩
  refine lv_aload_n hx hb dL_law_1222 rfl (lv_at hl 1 rfl) ?_
  refine x_arg (k := 1) S hX hbl hbA hS (lv_at hl 0 rfl) (lv_at hl 4 rfl) hL hn (by decide) (by decide) dL_law_1223 dL_law_1224 dL_law_1226 dL_law_1227 dL_law_1228 ?_
  rw [← ha1]
  refine x_arg (k := 2) S hX hbl hbA hS (lv_at hl 0 rfl) (lv_at hl 4 rfl) hL hn (by decide) (by decide) dL_law_1229 dL_law_1230 dL_law_1232 dL_law_1233 dL_law_1234 ?_
  rw [← ha2]
  refine lv_aload_n hx hb dL_law_1235 rfl (lv_at hl 3 rfl) ?_
  refine x_lcall (As := [.ref (wad w 0 0), .int a1, .int a2, .ref (wad w 11 0)]) (rest := []) (sp := sp_breaksIn g a1 a2) S hE hS hW (c_L_breaksIn l z hst w g gm o hO a1 a2) (vx_cwSW 4 hts (gU_w tw_699 tw_700 tw_0 tw_701) rfl rfl rfl (by decide +kernel) ⟨Nat.le_of_ble_eq_true rfl, Nat.le_of_ble_eq_true rfl⟩) rfl hl.1 (by rw [hq.1, hq.2.2]; rfl) (Nat.le_of_ble_eq_true rfl) dL_law_1236 ⟨Nat.le_trans (Nat.add_le_add_left (show 1 ≤ 4 by decide) _) hf.1, Nat.le_trans (Nat.add_le_add_left (show 6 ≤ 211 by decide) _) hf.2⟩ (fun r w9 o9 H locs hr hs ho hW hS => ?_)
  have hq9 : wad w9 0 0 = qx ∧ wad w9 9 0 = qm ∧ wad w9 11 0 = qo := ⟨hs.1.trans hq.1, hs.2.1.trans hq.2.1, hs.2.2.trans hq.2.2⟩
  refine lv_istore (lv' := [(5, .int r), (0, .ref b), (1, .ref qx), (2, .ref qm), (3, .ref qo), (4, .int (nI (7 * n)))]) hx hb dL_law_1239 hl (by decide) rfl (fun ls hl => ?_)
  refine lv_aload_n hx hb dL_law_1241 rfl (lv_at hl 3 rfl) ?_
  refine x_arg (k := 1) S hX hbl hbA hS (lv_at hl 1 rfl) (lv_at hl 5 rfl) hL hn (by decide) (by decide) dL_law_1242 dL_law_1243 dL_law_1245 dL_law_1246 dL_law_1247 ?_
  rw [← ha1]
  refine x_arg (k := 2) S hX hbl hbA hS (lv_at hl 1 rfl) (lv_at hl 5 rfl) hL hn (by decide) (by decide) dL_law_1248 dL_law_1249 dL_law_1251 dL_law_1252 dL_law_1253 ?_
  rw [← ha2]
  have hM1 : MW z w9 (sp_breaksIn g a1 a2).2.2 o9 g t A B H := ⟨gm, hW, hsim, hgt, hgA, hgB⟩
  refine x_mcall (As := [.int a1, .int a2]) (rest := []) (sp := sp_breaksIn g a1 a2) S hE hS hM1 (c_X6_breaksIn l z w9 (sp_breaksIn g a1 a2).2.2 g o9 t A B hO a1 a2) (cwV 2 hts (gU_V tw_982 tw_983 tw_984 tw_6 tw_985) rfl rfl rfl (by decide +kernel) ⟨Nat.le_of_ble_eq_true rfl, Nat.le_of_ble_eq_true rfl⟩) rfl hl.1 (by rw [hq9.2.1]; rfl) (Nat.le_of_ble_eq_true rfl) dL_law_1254 ⟨Nat.le_trans (Nat.add_le_add_left (show 1 ≤ 4 by decide) _) hf.1, Nat.le_trans (Nat.add_le_add_left (show 6 ≤ 211 by decide) _) hf.2⟩ (fun rm g2 t2 A2 B2 H locs hRR hM2 hS => ?_)
  refine W.widen (k := cells + 4) (n := slots + 211) (Nat.add_le_add_left (by decide) _) (Nat.add_le_add_left (by decide) _) ?_
  exact x_tail (n := n) (sp := sp_breaksIn g a1 a2) (o := o) S hE hS hl hq9 hM2 (ok_breaksIn hO a1 a2) hr hRR ho hf dL_law_1257 dL_law_1259 dL_law_1260 dL_law_1263 dL_law_1265 dL_law_1270 dL_law_1272 dL_law_1275 dL_law_1276 dL_law_1277 dL_law_1278 dL_law_1280 dL_law_1281 dL_law_1282 dL_law_1287 (by decide) (fun ls hI hl => kk H locs ls hI hS hl)
set_option maxHeartbeats 4000000 in
set_option maxRecDepth 100000 in
/-- the case of month -/
theorem law_month (l : Launch) (hst : l.stackTraces = false) {p : Program} {e : Env} {s : State} {m : MethodId} {args : Array Value} {below : List Frame} {meth : Method} {c : Code} {H : Heap} {locs : List Loc} {cells slots : Nat} {Q : State → Prop} {ls : Array Slot} {z : ZE} {b L qx qm qo : Nat} {xs : Nat → Int32} (S : CallFix p m c cL_law 7 s args wU RL) (hE : EV z s s.heap) (hX : va_X b L xs s s.heap) (hbl : b < s.heap.size) (hbA : ¬ zA z b) (hL : L ≤ 3584) (n : Nat) (hn : 7 * n + 7 ≤ L) (hS : va_S (zA z) s.heap H locs) (hI : LI z qx qm qo H) (hl : lv_has ls 7 [(0, .ref b), (1, .ref qx), (2, .ref qm), (3, .ref qo), (4, .int (nI (7 * n)))]) (hf : cells + 4 ≤ room_1.cells ∧ slots + 211 ≤ room_1.slots)
    (kk : ∀ (H1 : Heap) (locs1 : List Loc) (ls : Array Slot), LI z qx qm qo H1 → va_S (zA z) s.heap H1 locs1 → lv_has ls 7 [(0, .ref b), (1, .ref qx), (2, .ref qm), (3, .ref qo), (4, .int (nI (7 * n)))] → W p l e room_1 s m args below meth c H1 locs1 (cells + 4) (slots + 211) Q (F0 m 1507 ls [])) : W p l e room_1 s m args below meth c H locs cells slots Q (F0 m 1290 ls []) := by
  have hts := S.2.2.2.2
  have hx := S.1
  have hb := S.2.1
  obtain ⟨w, g, o, t, A, B, hq, hO, hM⟩ := hI
  have hM0 := hM
  obtain ⟨gm, hW, hsim, hgt, hgA, hgB⟩ := hM
  refine lv_aload_n hx hb dL_law_1290 rfl (lv_at hl 1 rfl) ?_
  refine g_callV (As := []) (rest := []) S hE hS (c_X5_month l z w g gm o hO) (cwV 0 hts (gU_V tw_87 tw_88 tw_89 tw_1 tw_90) rfl rfl rfl (by decide +kernel) ⟨Nat.le_of_ble_eq_true rfl, Nat.le_of_ble_eq_true rfl⟩) (hE.recv hW.sh (q := (RX5, TX5, 8)) rfl) hW rfl hl.1 (by rw [hq.1]; rfl) (Nat.le_of_ble_eq_true rfl) dL_law_1291 ⟨Nat.le_trans (Nat.le_add_right _ _) hf.1, Nat.le_trans (Nat.le_add_right _ _) hf.2⟩ ?_
  refine lv_aload_n hx hb dL_law_1294 rfl (lv_at hl 2 rfl) ?_
  refine x_mcall (As := []) (rest := [.int (nI (mo g))]) S hE hS hM0 (c_X6_month l z w g g o t A B hO) (cwV 0 hts (gU_V tw_986 tw_987 tw_988 tw_6 tw_989) rfl rfl rfl (by decide +kernel) ⟨Nat.le_of_ble_eq_true rfl, Nat.le_of_ble_eq_true rfl⟩) rfl hl.1 (by rw [hq.2.1]; rfl) (Nat.le_of_ble_eq_true rfl) dL_law_1295 ⟨Nat.le_trans (Nat.le_add_right _ _) hf.1, Nat.le_trans (Nat.le_add_right _ _) hf.2⟩ (fun r g2 t2 A2 B2 H locs hRR hM2 hS => ?_)
  obtain ⟨h1, h2, h3⟩ := hRR
  have hr9 : nI (mo g) = r := (h3 rfl).symm
  refine lv_icmp_eq (tgt := 1507) hx hb dL_law_1298 (by decide) (fun _ => ?_) (fun q => absurd hr9 q)
  refine W.widen (Nat.le_add_right _ 4) (Nat.le_add_right _ 211) ?_
  exact kk H locs ls ⟨w, g, o, t2, A2, B2, hq, hO, by rw [show g2 = g from h2] at hM2; exact hM2⟩ hS hl
set_option maxHeartbeats 4000000 in
set_option maxRecDepth 100000 in
/-- the case of ofBoard -/
theorem law_ofBoard (l : Launch) (hst : l.stackTraces = false) {p : Program} {e : Env} {s : State} {m : MethodId} {args : Array Value} {below : List Frame} {meth : Method} {c : Code} {H : Heap} {locs : List Loc} {cells slots : Nat} {Q : State → Prop} {ls : Array Slot} {z : ZE} {b L qx qm qo : Nat} {xs : Nat → Int32} (S : CallFix p m c cL_law 7 s args wU RL) (hE : EV z s s.heap) (hX : va_X b L xs s s.heap) (hbl : b < s.heap.size) (hbA : ¬ zA z b) (hL : L ≤ 3584) (n : Nat) (hn : 7 * n + 7 ≤ L) (hS : va_S (zA z) s.heap H locs) (hI : LI z qx qm qo H) (hl : lv_has ls 7 [(0, .ref b), (1, .ref qx), (2, .ref qm), (3, .ref qo), (4, .int (nI (7 * n)))]) (hf : cells + 4 ≤ room_1.cells ∧ slots + 211 ≤ room_1.slots)
    (kk : ∀ (H1 : Heap) (locs1 : List Loc) (ls : Array Slot), LI z qx qm qo H1 → va_S (zA z) s.heap H1 locs1 → lv_has ls 7 [(0, .ref b), (1, .ref qx), (2, .ref qm), (3, .ref qo), (4, .int (nI (7 * n)))] → W p l e room_1 s m args below meth c H1 locs1 (cells + 4) (slots + 211) Q (F0 m 1507 ls [])) : W p l e room_1 s m args below meth c H locs cells slots Q (F0 m 1303 ls []) := by
  have hts := S.2.2.2.2
  have hx := S.1
  have hb := S.2.1
  obtain ⟨w, g, o, t, A, B, hq, hO, hM⟩ := hI
  have hM0 := hM
  obtain ⟨gm, hW, hsim, hgt, hgA, hgB⟩ := hM
  obtain ⟨a1, ha1⟩ : ∃ y : Int32, y = xa xs n 1 := ⟨_, rfl⟩
  obtain ⟨a2, ha2⟩ : ∃ y : Int32, y = xa xs n 2 := ⟨_, rfl⟩
  refine lv_aload_n hx hb dL_law_1303 rfl (lv_at hl 1 rfl) ?_
  refine x_arg (k := 1) S hX hbl hbA hS (lv_at hl 0 rfl) (lv_at hl 4 rfl) hL hn (by decide) (by decide) dL_law_1304 dL_law_1305 dL_law_1307 dL_law_1308 dL_law_1309 ?_
  rw [← ha1]
  refine x_arg (k := 2) S hX hbl hbA hS (lv_at hl 0 rfl) (lv_at hl 4 rfl) hL hn (by decide) (by decide) dL_law_1310 dL_law_1311 dL_law_1313 dL_law_1314 dL_law_1315 ?_
  rw [← ha2]
  refine lv_aload_n hx hb dL_law_1316 rfl (lv_at hl 3 rfl) ?_
  refine x_lcall (As := [.ref (wad w 0 0), .int a1, .int a2, .ref (wad w 11 0)]) (rest := []) (sp := sp_ofBoard g a1 a2) S hE hS hW (c_L_ofBoard l z hst w g gm o hO a1 a2) (vx_cwSW 4 hts (gU_w tw_707 tw_708 tw_0 tw_709) rfl rfl rfl (by decide +kernel) ⟨Nat.le_of_ble_eq_true rfl, Nat.le_of_ble_eq_true rfl⟩) rfl hl.1 (by rw [hq.1, hq.2.2]; rfl) (Nat.le_of_ble_eq_true rfl) dL_law_1317 ⟨Nat.le_trans (Nat.add_le_add_left (show 1 ≤ 4 by decide) _) hf.1, Nat.le_trans (Nat.add_le_add_left (show 6 ≤ 211 by decide) _) hf.2⟩ (fun r w9 o9 H locs hr hs ho hW hS => ?_)
  have hq9 : wad w9 0 0 = qx ∧ wad w9 9 0 = qm ∧ wad w9 11 0 = qo := ⟨hs.1.trans hq.1, hs.2.1.trans hq.2.1, hs.2.2.trans hq.2.2⟩
  refine lv_istore (lv' := [(5, .int r), (0, .ref b), (1, .ref qx), (2, .ref qm), (3, .ref qo), (4, .int (nI (7 * n)))]) hx hb dL_law_1320 hl (by decide) rfl (fun ls hl => ?_)
  refine lv_aload_n hx hb dL_law_1322 rfl (lv_at hl 3 rfl) ?_
  refine x_arg (k := 1) S hX hbl hbA hS (lv_at hl 1 rfl) (lv_at hl 5 rfl) hL hn (by decide) (by decide) dL_law_1323 dL_law_1324 dL_law_1326 dL_law_1327 dL_law_1328 ?_
  rw [← ha1]
  refine x_arg (k := 2) S hX hbl hbA hS (lv_at hl 1 rfl) (lv_at hl 5 rfl) hL hn (by decide) (by decide) dL_law_1329 dL_law_1330 dL_law_1332 dL_law_1333 dL_law_1334 ?_
  rw [← ha2]
  have hM1 : MW z w9 (sp_ofBoard g a1 a2).2.2 o9 g t A B H := ⟨gm, hW, hsim, hgt, hgA, hgB⟩
  refine x_mcall (As := [.int a1, .int a2]) (rest := []) (sp := sp_ofBoard g a1 a2) S hE hS hM1 (c_X6_ofBoard l z w9 (sp_ofBoard g a1 a2).2.2 g o9 t A B hO a1 a2) (cwV 2 hts (gU_V tw_990 tw_991 tw_992 tw_6 tw_993) rfl rfl rfl (by decide +kernel) ⟨Nat.le_of_ble_eq_true rfl, Nat.le_of_ble_eq_true rfl⟩) rfl hl.1 (by rw [hq9.2.1]; rfl) (Nat.le_of_ble_eq_true rfl) dL_law_1335 ⟨Nat.le_trans (Nat.add_le_add_left (show 1 ≤ 4 by decide) _) hf.1, Nat.le_trans (Nat.add_le_add_left (show 6 ≤ 211 by decide) _) hf.2⟩ (fun rm g2 t2 A2 B2 H locs hRR hM2 hS => ?_)
  refine W.widen (k := cells + 4) (n := slots + 211) (Nat.add_le_add_left (by decide) _) (Nat.add_le_add_left (by decide) _) ?_
  exact x_tail (n := n) (sp := sp_ofBoard g a1 a2) (o := o) S hE hS hl hq9 hM2 (ok_ofBoard hO a1 a2) hr hRR ho hf dL_law_1338 dL_law_1340 dL_law_1341 dL_law_1344 dL_law_1346 dL_law_1351 dL_law_1353 dL_law_1356 dL_law_1357 dL_law_1358 dL_law_1359 dL_law_1361 dL_law_1362 dL_law_1363 dL_law_1368 (by decide) (fun ls hI hl => kk H locs ls hI hS hl)
set_option maxHeartbeats 4000000 in
set_option maxRecDepth 100000 in
/-- the case of ofPart -/
theorem law_ofPart (l : Launch) (hst : l.stackTraces = false) {p : Program} {e : Env} {s : State} {m : MethodId} {args : Array Value} {below : List Frame} {meth : Method} {c : Code} {H : Heap} {locs : List Loc} {cells slots : Nat} {Q : State → Prop} {ls : Array Slot} {z : ZE} {b L qx qm qo : Nat} {xs : Nat → Int32} (S : CallFix p m c cL_law 7 s args wU RL) (hE : EV z s s.heap) (hX : va_X b L xs s s.heap) (hbl : b < s.heap.size) (hbA : ¬ zA z b) (hL : L ≤ 3584) (n : Nat) (hn : 7 * n + 7 ≤ L) (hS : va_S (zA z) s.heap H locs) (hI : LI z qx qm qo H) (hl : lv_has ls 7 [(0, .ref b), (1, .ref qx), (2, .ref qm), (3, .ref qo), (4, .int (nI (7 * n)))]) (hf : cells + 4 ≤ room_1.cells ∧ slots + 211 ≤ room_1.slots)
    (kk : ∀ (H1 : Heap) (locs1 : List Loc) (ls : Array Slot), LI z qx qm qo H1 → va_S (zA z) s.heap H1 locs1 → lv_has ls 7 [(0, .ref b), (1, .ref qx), (2, .ref qm), (3, .ref qo), (4, .int (nI (7 * n)))] → W p l e room_1 s m args below meth c H1 locs1 (cells + 4) (slots + 211) Q (F0 m 1507 ls [])) : W p l e room_1 s m args below meth c H locs cells slots Q (F0 m 1371 ls []) := by
  have hts := S.2.2.2.2
  have hx := S.1
  have hb := S.2.1
  obtain ⟨w, g, o, t, A, B, hq, hO, hM⟩ := hI
  have hM0 := hM
  obtain ⟨gm, hW, hsim, hgt, hgA, hgB⟩ := hM
  obtain ⟨a1, ha1⟩ : ∃ y : Int32, y = xa xs n 1 := ⟨_, rfl⟩
  obtain ⟨a2, ha2⟩ : ∃ y : Int32, y = xa xs n 2 := ⟨_, rfl⟩
  refine lv_aload_n hx hb dL_law_1371 rfl (lv_at hl 1 rfl) ?_
  refine x_arg (k := 1) S hX hbl hbA hS (lv_at hl 0 rfl) (lv_at hl 4 rfl) hL hn (by decide) (by decide) dL_law_1372 dL_law_1373 dL_law_1375 dL_law_1376 dL_law_1377 ?_
  rw [← ha1]
  refine x_arg (k := 2) S hX hbl hbA hS (lv_at hl 0 rfl) (lv_at hl 4 rfl) hL hn (by decide) (by decide) dL_law_1378 dL_law_1379 dL_law_1381 dL_law_1382 dL_law_1383 ?_
  rw [← ha2]
  refine lv_aload_n hx hb dL_law_1384 rfl (lv_at hl 3 rfl) ?_
  refine x_lcall (As := [.ref (wad w 0 0), .int a1, .int a2, .ref (wad w 11 0)]) (rest := []) (sp := sp_ofPart g a1 a2) S hE hS hW (c_L_ofPart l z hst w g gm o hO a1 a2) (vx_cwSW 4 hts (gU_w tw_715 tw_716 tw_0 tw_717) rfl rfl rfl (by decide +kernel) ⟨Nat.le_of_ble_eq_true rfl, Nat.le_of_ble_eq_true rfl⟩) rfl hl.1 (by rw [hq.1, hq.2.2]; rfl) (Nat.le_of_ble_eq_true rfl) dL_law_1385 ⟨Nat.le_trans (Nat.add_le_add_left (show 1 ≤ 4 by decide) _) hf.1, Nat.le_trans (Nat.add_le_add_left (show 6 ≤ 211 by decide) _) hf.2⟩ (fun r w9 o9 H locs hr hs ho hW hS => ?_)
  have hq9 : wad w9 0 0 = qx ∧ wad w9 9 0 = qm ∧ wad w9 11 0 = qo := ⟨hs.1.trans hq.1, hs.2.1.trans hq.2.1, hs.2.2.trans hq.2.2⟩
  refine lv_istore (lv' := [(5, .int r), (0, .ref b), (1, .ref qx), (2, .ref qm), (3, .ref qo), (4, .int (nI (7 * n)))]) hx hb dL_law_1388 hl (by decide) rfl (fun ls hl => ?_)
  refine lv_aload_n hx hb dL_law_1390 rfl (lv_at hl 3 rfl) ?_
  refine x_arg (k := 1) S hX hbl hbA hS (lv_at hl 1 rfl) (lv_at hl 5 rfl) hL hn (by decide) (by decide) dL_law_1391 dL_law_1392 dL_law_1394 dL_law_1395 dL_law_1396 ?_
  rw [← ha1]
  refine x_arg (k := 2) S hX hbl hbA hS (lv_at hl 1 rfl) (lv_at hl 5 rfl) hL hn (by decide) (by decide) dL_law_1397 dL_law_1398 dL_law_1400 dL_law_1401 dL_law_1402 ?_
  rw [← ha2]
  have hM1 : MW z w9 (sp_ofPart g a1 a2).2.2 o9 g t A B H := ⟨gm, hW, hsim, hgt, hgA, hgB⟩
  refine x_mcall (As := [.int a1, .int a2]) (rest := []) (sp := sp_ofPart g a1 a2) S hE hS hM1 (c_X6_ofPart l z w9 (sp_ofPart g a1 a2).2.2 g o9 t A B hO a1 a2) (cwV 2 hts (gU_V tw_994 tw_995 tw_996 tw_6 tw_997) rfl rfl rfl (by decide +kernel) ⟨Nat.le_of_ble_eq_true rfl, Nat.le_of_ble_eq_true rfl⟩) rfl hl.1 (by rw [hq9.2.1]; rfl) (Nat.le_of_ble_eq_true rfl) dL_law_1403 ⟨Nat.le_trans (Nat.add_le_add_left (show 1 ≤ 4 by decide) _) hf.1, Nat.le_trans (Nat.add_le_add_left (show 6 ≤ 211 by decide) _) hf.2⟩ (fun rm g2 t2 A2 B2 H locs hRR hM2 hS => ?_)
  refine W.widen (k := cells + 4) (n := slots + 211) (Nat.add_le_add_left (by decide) _) (Nat.add_le_add_left (by decide) _) ?_
  exact x_tail (n := n) (sp := sp_ofPart g a1 a2) (o := o) S hE hS hl hq9 hM2 (ok_ofPart hO a1 a2) hr hRR ho hf dL_law_1406 dL_law_1408 dL_law_1409 dL_law_1412 dL_law_1414 dL_law_1419 dL_law_1421 dL_law_1424 dL_law_1425 dL_law_1426 dL_law_1427 dL_law_1429 dL_law_1430 dL_law_1431 dL_law_1436 (by decide) (fun ls hI hl => kk H locs ls hI hS hl)
set_option maxHeartbeats 4000000 in
set_option maxRecDepth 100000 in
/-- the case of ofJoint -/
theorem law_ofJoint (l : Launch) (hst : l.stackTraces = false) {p : Program} {e : Env} {s : State} {m : MethodId} {args : Array Value} {below : List Frame} {meth : Method} {c : Code} {H : Heap} {locs : List Loc} {cells slots : Nat} {Q : State → Prop} {ls : Array Slot} {z : ZE} {b L qx qm qo : Nat} {xs : Nat → Int32} (S : CallFix p m c cL_law 7 s args wU RL) (hE : EV z s s.heap) (hX : va_X b L xs s s.heap) (hbl : b < s.heap.size) (hbA : ¬ zA z b) (hL : L ≤ 3584) (n : Nat) (hn : 7 * n + 7 ≤ L) (hS : va_S (zA z) s.heap H locs) (hI : LI z qx qm qo H) (hl : lv_has ls 7 [(0, .ref b), (1, .ref qx), (2, .ref qm), (3, .ref qo), (4, .int (nI (7 * n)))]) (hf : cells + 4 ≤ room_1.cells ∧ slots + 211 ≤ room_1.slots)
    (kk : ∀ (H1 : Heap) (locs1 : List Loc) (ls : Array Slot), LI z qx qm qo H1 → va_S (zA z) s.heap H1 locs1 → lv_has ls 7 [(0, .ref b), (1, .ref qx), (2, .ref qm), (3, .ref qo), (4, .int (nI (7 * n)))] → W p l e room_1 s m args below meth c H1 locs1 (cells + 4) (slots + 211) Q (F0 m 1507 ls [])) : W p l e room_1 s m args below meth c H locs cells slots Q (F0 m 1439 ls []) := by
  have hts := S.2.2.2.2
  have hx := S.1
  have hb := S.2.1
  obtain ⟨w, g, o, t, A, B, hq, hO, hM⟩ := hI
  have hM0 := hM
  obtain ⟨gm, hW, hsim, hgt, hgA, hgB⟩ := hM
  obtain ⟨a1, ha1⟩ : ∃ y : Int32, y = xa xs n 1 := ⟨_, rfl⟩
  obtain ⟨a2, ha2⟩ : ∃ y : Int32, y = xa xs n 2 := ⟨_, rfl⟩
  refine lv_aload_n hx hb dL_law_1439 rfl (lv_at hl 1 rfl) ?_
  refine x_arg (k := 1) S hX hbl hbA hS (lv_at hl 0 rfl) (lv_at hl 4 rfl) hL hn (by decide) (by decide) dL_law_1440 dL_law_1441 dL_law_1443 dL_law_1444 dL_law_1445 ?_
  rw [← ha1]
  refine x_arg (k := 2) S hX hbl hbA hS (lv_at hl 0 rfl) (lv_at hl 4 rfl) hL hn (by decide) (by decide) dL_law_1446 dL_law_1447 dL_law_1449 dL_law_1450 dL_law_1451 ?_
  rw [← ha2]
  refine lv_aload_n hx hb dL_law_1452 rfl (lv_at hl 3 rfl) ?_
  refine x_lcall (As := [.ref (wad w 0 0), .int a1, .int a2, .ref (wad w 11 0)]) (rest := []) (sp := sp_ofJoint g a1 a2) S hE hS hW (c_L_ofJoint l z hst w g gm o hO a1 a2) (vx_cwSW 4 hts (gU_w tw_722 tw_723 tw_0 tw_724) rfl rfl rfl (by decide +kernel) ⟨Nat.le_of_ble_eq_true rfl, Nat.le_of_ble_eq_true rfl⟩) rfl hl.1 (by rw [hq.1, hq.2.2]; rfl) (Nat.le_of_ble_eq_true rfl) dL_law_1453 ⟨Nat.le_trans (Nat.add_le_add_left (show 1 ≤ 4 by decide) _) hf.1, Nat.le_trans (Nat.add_le_add_left (show 6 ≤ 211 by decide) _) hf.2⟩ (fun r w9 o9 H locs hr hs ho hW hS => ?_)
  have hq9 : wad w9 0 0 = qx ∧ wad w9 9 0 = qm ∧ wad w9 11 0 = qo := ⟨hs.1.trans hq.1, hs.2.1.trans hq.2.1, hs.2.2.trans hq.2.2⟩
  refine lv_istore (lv' := [(5, .int r), (0, .ref b), (1, .ref qx), (2, .ref qm), (3, .ref qo), (4, .int (nI (7 * n)))]) hx hb dL_law_1456 hl (by decide) rfl (fun ls hl => ?_)
  refine lv_aload_n hx hb dL_law_1458 rfl (lv_at hl 3 rfl) ?_
  refine x_arg (k := 1) S hX hbl hbA hS (lv_at hl 1 rfl) (lv_at hl 5 rfl) hL hn (by decide) (by decide) dL_law_1459 dL_law_1460 dL_law_1462 dL_law_1463 dL_law_1464 ?_
  rw [← ha1]
  refine x_arg (k := 2) S hX hbl hbA hS (lv_at hl 1 rfl) (lv_at hl 5 rfl) hL hn (by decide) (by decide) dL_law_1465 dL_law_1466 dL_law_1468 dL_law_1469 dL_law_1470 ?_
  rw [← ha2]
  have hM1 : MW z w9 (sp_ofJoint g a1 a2).2.2 o9 g t A B H := ⟨gm, hW, hsim, hgt, hgA, hgB⟩
  refine x_mcall (As := [.int a1, .int a2]) (rest := []) (sp := sp_ofJoint g a1 a2) S hE hS hM1 (c_X6_ofJoint l z w9 (sp_ofJoint g a1 a2).2.2 g o9 t A B hO a1 a2) (cwV 2 hts (gU_V tw_998 tw_999 tw_1000 tw_6 tw_1001) rfl rfl rfl (by decide +kernel) ⟨Nat.le_of_ble_eq_true rfl, Nat.le_of_ble_eq_true rfl⟩) rfl hl.1 (by rw [hq9.2.1]; rfl) (Nat.le_of_ble_eq_true rfl) dL_law_1471 ⟨Nat.le_trans (Nat.add_le_add_left (show 1 ≤ 4 by decide) _) hf.1, Nat.le_trans (Nat.add_le_add_left (show 6 ≤ 211 by decide) _) hf.2⟩ (fun rm g2 t2 A2 B2 H locs hRR hM2 hS => ?_)
  refine W.widen (k := cells + 4) (n := slots + 211) (Nat.add_le_add_left (by decide) _) (Nat.add_le_add_left (by decide) _) ?_
  exact x_tail (n := n) (sp := sp_ofJoint g a1 a2) (o := o) S hE hS hl hq9 hM2 (ok_ofJoint hO a1 a2) hr hRR ho hf dL_law_1474 dL_law_1476 dL_law_1477 dL_law_1480 dL_law_1482 dL_law_1487 dL_law_1489 dL_law_1492 dL_law_1493 dL_law_1494 dL_law_1495 dL_law_1497 dL_law_1498 dL_law_1499 dL_law_1504 (by decide) (fun ls hI hl => kk H locs ls hI hS hl)
