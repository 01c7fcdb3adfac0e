/-! ===== the reference's own rows: its fields and arrays, by the state g, what is thrown (t), and the two arrays that it looks ahead with (A, B) ===== -/
section GMW
variable {p : Program} {l : Launch} {e : Env} {R : Room} {s : State} {m : MethodId} {args : Array Value} {below : List Frame} {meth : Method} {c : Code} {H : Heap} {locs : List Loc} {cells slots : Nat} {Q : State → Prop}
variable {cc : ByteArray} {pc nL : Nat} {ls : Array Slot} {rest stk : List Value} {z : ZE} {own : String} {w : WG} {g1 g : GS} {o : Nat → Int64} {t : Int32} {A B : Nat → Int32}
/-- the classes' layouts are among the words -/
theorem inU0 : ∀ w ∈ u_ws RX0 TX0 11, w ∈ wU := by
  intro w hw
  simp only [u_ws, List.range, List.range.loop, List.map, List.mem_cons, List.not_mem_nil, or_false] at hw
  rcases hw with rfl | rfl | rfl | rfl | rfl | rfl | rfl | rfl | rfl | rfl | rfl
  · exact tw_342
  · exact tw_344
  · exact tw_346
  · exact tw_348
  · exact tw_350
  · exact tw_330
  · exact tw_332
  · exact tw_334
  · exact tw_336
  · exact tw_338
  · exact tw_340
theorem inU1 : ∀ w ∈ u_ws RX1 TX1 9, w ∈ wU := by
  intro w hw
  simp only [u_ws, List.range, List.range.loop, List.map, List.mem_cons, List.not_mem_nil, or_false] at hw
  rcases hw with rfl | rfl | rfl | rfl | rfl | rfl | rfl | rfl | rfl
  · exact tw_540
  · exact tw_542
  · exact tw_544
  · exact tw_546
  · exact tw_548
  · exact tw_550
  · exact tw_552
  · exact tw_554
  · exact tw_556
theorem inU2 : ∀ w ∈ u_ws RX2 TX2 9, w ∈ wU := by
  intro w hw
  simp only [u_ws, List.range, List.range.loop, List.map, List.mem_cons, List.not_mem_nil, or_false] at hw
  rcases hw with rfl | rfl | rfl | rfl | rfl | rfl | rfl | rfl | rfl
  · exact tw_467
  · exact tw_468
  · exact tw_469
  · exact tw_470
  · exact tw_471
  · exact tw_459
  · exact tw_461
  · exact tw_463
  · exact tw_465
theorem inU3 : ∀ w ∈ u_ws RX3 TX3 2, w ∈ wU := by
  intro w hw
  simp only [u_ws, List.range, List.range.loop, List.map, List.mem_cons, List.not_mem_nil, or_false] at hw
  rcases hw with rfl | rfl
  · exact tw_480
  · exact tw_482
theorem inU5 : ∀ w ∈ u_ws RX5 TX5 8, w ∈ wU := by
  intro w hw
  simp only [u_ws, List.range, List.range.loop, List.map, List.mem_cons, List.not_mem_nil, or_false] at hw
  rcases hw with rfl | rfl | rfl | rfl | rfl | rfl | rfl | rfl
  · exact tw_68
  · exact tw_70
  · exact tw_72
  · exact tw_74
  · exact tw_76
  · exact tw_78
  · exact tw_80
  · exact tw_82
theorem inUL : ∀ w ∈ u_ws RJx4a65c TJx4a65c 3, w ∈ wU := by
  intro w hw
  simp only [u_ws, List.range, List.range.loop, List.map, List.mem_cons, List.not_mem_nil, or_false] at hw
  rcases hw with rfl | rfl | rfl
  · exact tw_54
  · exact tw_50
  · exact tw_52
end GMW
