abbrev nmE : List String := ["java/lang/RuntimeException", "java/lang/Exception"]
abbrev xI : String := "java/lang/IndexOutOfBoundsException"
abbrev xA : String := "java/lang/IllegalArgumentException"
abbrev xS : String := "java/lang/IllegalStateException"
theorem thr_b1 : ∀ w ∈ (vx_atS RX5 49 xI nmE).filter (fun w => !goodWord w), w ∈ [Cond.castable xI xI] := by decide +kernel
theorem thr_g1 : ∀ w ∈ (vx_atS RX5 49 xI nmE).filter goodWord, w ∈ lw_tbl := by decide +kernel
theorem thr_b2 : ((vx_atS RX5 49 xI nmE).filter (fun w => !goodWord w)).length = 1 := by decide +kernel
theorem thr_b3 : ((vx_atS RX5 49 xI nmE).filter (fun w => !goodWord w)).length = 2 := by decide +kernel
theorem thr_b4 : ((vx_atS RX5 49 xI nmE).filter (fun w => !goodWord w)).length = 3 := by decide +kernel
theorem thr_b5 : ((vx_atS RX5 49 xI nmE).filter (fun w => !goodWord w)).length = 4 := by decide +kernel
theorem thr_f : Bundle.fit xI = true := by decide +kernel
theorem thr_n : ∀ n ∈ nmE, Bundle.fit n = true := by decide +kernel
