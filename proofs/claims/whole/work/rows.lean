section
-- ===== PART A: goes FIRST, ahead of the names: the tables' words, and 'selects' of the private methods out of them =====
/-- a private method of a class that the tables say can be made, by its rows of tables_1 -/
def lw_okq (q : MethodName × Nat) : Prop := (q.1.cls ≠ "java/lang/invoke/MethodHandle" ∧ q.1.cls ≠ "java/lang/invoke/VarHandle") ∧ Cond.instantiable q.1.cls q.2 ∈ tables_1 ∧ Cond.privateMethod q.1 ∈ tables_1 ∧ Cond.instanceMethod q.1 ∈ tables_1
theorem lw_p0 : lw_okq (⟨"java/lang/Throwable", "fillInStackTrace", "(I)Ljava/lang/Throwable;"⟩, 6) := ⟨⟨by decide +kernel, by decide +kernel⟩, List.mem_of_getElem? (i := 139) (by decide +kernel), List.mem_of_getElem? (i := 137) (by decide +kernel), List.mem_of_getElem? (i := 138) (by decide +kernel)⟩
theorem lw_p1 : lw_okq (⟨"DovetailRow", "airIn", "(I)I"⟩, 8) := ⟨⟨by decide +kernel, by decide +kernel⟩, List.mem_of_getElem? (i := 25) (by decide +kernel), List.mem_of_getElem? (i := 213) (by decide +kernel), List.mem_of_getElem? (i := 214) (by decide +kernel)⟩
theorem lw_p2 : lw_okq (⟨"DovetailRow", "moistenAll", "(I)V"⟩, 8) := ⟨⟨by decide +kernel, by decide +kernel⟩, List.mem_of_getElem? (i := 25) (by decide +kernel), List.mem_of_getElem? (i := 220) (by decide +kernel), List.mem_of_getElem? (i := 221) (by decide +kernel)⟩
theorem lw_p3 : lw_okq (⟨"DovetailRow", "breakJoints", "()I"⟩, 8) := ⟨⟨by decide +kernel, by decide +kernel⟩, List.mem_of_getElem? (i := 25) (by decide +kernel), List.mem_of_getElem? (i := 262) (by decide +kernel), List.mem_of_getElem? (i := 263) (by decide +kernel)⟩
theorem lw_p4 : lw_okq (⟨"DovetailRow", "suitsFlitch", "(III)Z"⟩, 8) := ⟨⟨by decide +kernel, by decide +kernel⟩, List.mem_of_getElem? (i := 25) (by decide +kernel), List.mem_of_getElem? (i := 304) (by decide +kernel), List.mem_of_getElem? (i := 305) (by decide +kernel)⟩
theorem lw_p5 : lw_okq (⟨"java/util/ArrayList", "add", "(Ljava/lang/Object;[Ljava/lang/Object;I)V"⟩, 3) := ⟨⟨by decide +kernel, by decide +kernel⟩, List.mem_of_getElem? (i := 33) (by decide +kernel), List.mem_of_getElem? (i := 376) (by decide +kernel), List.mem_of_getElem? (i := 377) (by decide +kernel)⟩
theorem lw_p6 : lw_okq (⟨"java/util/ArrayList", "grow", "()[Ljava/lang/Object;"⟩, 3) := ⟨⟨by decide +kernel, by decide +kernel⟩, List.mem_of_getElem? (i := 33) (by decide +kernel), List.mem_of_getElem? (i := 380) (by decide +kernel), List.mem_of_getElem? (i := 381) (by decide +kernel)⟩
theorem lw_p7 : lw_okq (⟨"java/util/ArrayList", "grow", "(I)[Ljava/lang/Object;"⟩, 3) := ⟨⟨by decide +kernel, by decide +kernel⟩, List.mem_of_getElem? (i := 33) (by decide +kernel), List.mem_of_getElem? (i := 384) (by decide +kernel), List.mem_of_getElem? (i := 385) (by decide +kernel)⟩
theorem lw_p8 : lw_okq (⟨"DovetailRow", "findBoard", "(I)LDovetailRow$Board;"⟩, 8) := ⟨⟨by decide +kernel, by decide +kernel⟩, List.mem_of_getElem? (i := 25) (by decide +kernel), List.mem_of_getElem? (i := 436) (by decide +kernel), List.mem_of_getElem? (i := 437) (by decide +kernel)⟩
theorem lw_p9 : lw_okq (⟨"DovetailRow", "findPart", "(I)LDovetailRow$Part;"⟩, 8) := ⟨⟨by decide +kernel, by decide +kernel⟩, List.mem_of_getElem? (i := 25) (by decide +kernel), List.mem_of_getElem? (i := 550) (by decide +kernel), List.mem_of_getElem? (i := 551) (by decide +kernel)⟩
theorem lw_p10 : lw_okq (⟨"DovetailRow", "findJoint", "(I)LDovetailRow$Joint;"⟩, 8) := ⟨⟨by decide +kernel, by decide +kernel⟩, List.mem_of_getElem? (i := 25) (by decide +kernel), List.mem_of_getElem? (i := 633) (by decide +kernel), List.mem_of_getElem? (i := 634) (by decide +kernel)⟩
theorem lw_p11 : lw_okq (⟨"DovetailRow", "canBeGlued", "(I)Z"⟩, 8) := ⟨⟨by decide +kernel, by decide +kernel⟩, List.mem_of_getElem? (i := 25) (by decide +kernel), List.mem_of_getElem? (i := 656) (by decide +kernel), List.mem_of_getElem? (i := 657) (by decide +kernel)⟩
theorem lw_p12 : lw_okq (⟨"DovetailRow", "minutesOf", "(I)I"⟩, 8) := ⟨⟨by decide +kernel, by decide +kernel⟩, List.mem_of_getElem? (i := 25) (by decide +kernel), List.mem_of_getElem? (i := 664) (by decide +kernel), List.mem_of_getElem? (i := 665) (by decide +kernel)⟩
theorem lw_p13 : lw_okq (⟨"DovetailRow", "clampsOf", "(I)I"⟩, 8) := ⟨⟨by decide +kernel, by decide +kernel⟩, List.mem_of_getElem? (i := 25) (by decide +kernel), List.mem_of_getElem? (i := 668) (by decide +kernel), List.mem_of_getElem? (i := 669) (by decide +kernel)⟩
theorem lw_p14 : lw_okq (⟨"DovetailRow", "monthOfBreak", "(LDovetailRow$Joint;I)I"⟩, 8) := ⟨⟨by decide +kernel, by decide +kernel⟩, List.mem_of_getElem? (i := 25) (by decide +kernel), List.mem_of_getElem? (i := 692) (by decide +kernel), List.mem_of_getElem? (i := 693) (by decide +kernel)⟩
theorem lw_p15 : lw_okq (⟨"DovetailRowModel", "between", "(III)Z"⟩, 36) := ⟨⟨by decide +kernel, by decide +kernel⟩, List.mem_of_getElem? (i := 735) (by decide +kernel), List.mem_of_getElem? (i := 859) (by decide +kernel), List.mem_of_getElem? (i := 860) (by decide +kernel)⟩
def lw_privs_1 : List (MethodName × Nat) := [(⟨"java/lang/Throwable", "fillInStackTrace", "(I)Ljava/lang/Throwable;"⟩, 6), (⟨"DovetailRow", "airIn", "(I)I"⟩, 8), (⟨"DovetailRow", "moistenAll", "(I)V"⟩, 8), (⟨"DovetailRow", "breakJoints", "()I"⟩, 8), (⟨"DovetailRow", "suitsFlitch", "(III)Z"⟩, 8), (⟨"java/util/ArrayList", "add", "(Ljava/lang/Object;[Ljava/lang/Object;I)V"⟩, 3), (⟨"java/util/ArrayList", "grow", "()[Ljava/lang/Object;"⟩, 3), (⟨"java/util/ArrayList", "grow", "(I)[Ljava/lang/Object;"⟩, 3), (⟨"DovetailRow", "findBoard", "(I)LDovetailRow$Board;"⟩, 8), (⟨"DovetailRow", "findPart", "(I)LDovetailRow$Part;"⟩, 8), (⟨"DovetailRow", "findJoint", "(I)LDovetailRow$Joint;"⟩, 8), (⟨"DovetailRow", "canBeGlued", "(I)Z"⟩, 8), (⟨"DovetailRow", "minutesOf", "(I)I"⟩, 8), (⟨"DovetailRow", "clampsOf", "(I)I"⟩, 8), (⟨"DovetailRow", "monthOfBreak", "(LDovetailRow$Joint;I)I"⟩, 8), (⟨"DovetailRowModel", "between", "(III)Z"⟩, 36)]
theorem lw_r1 : ∀ q ∈ lw_privs_1, lw_okq q := List.forall_mem_cons.mpr ⟨lw_p0, List.forall_mem_cons.mpr ⟨lw_p1, List.forall_mem_cons.mpr ⟨lw_p2, List.forall_mem_cons.mpr ⟨lw_p3, List.forall_mem_cons.mpr ⟨lw_p4, List.forall_mem_cons.mpr ⟨lw_p5, List.forall_mem_cons.mpr ⟨lw_p6, List.forall_mem_cons.mpr ⟨lw_p7, List.forall_mem_cons.mpr ⟨lw_p8, List.forall_mem_cons.mpr ⟨lw_p9, List.forall_mem_cons.mpr ⟨lw_p10, List.forall_mem_cons.mpr ⟨lw_p11, List.forall_mem_cons.mpr ⟨lw_p12, List.forall_mem_cons.mpr ⟨lw_p13, List.forall_mem_cons.mpr ⟨lw_p14, List.forall_mem_cons.mpr ⟨lw_p15, fun _ h => absurd h List.not_mem_nil⟩⟩⟩⟩⟩⟩⟩⟩⟩⟩⟩⟩⟩⟩⟩⟩
theorem lw_p16 : lw_okq (⟨"DovetailRowModel", "isMoisture", "(I)Z"⟩, 36) := ⟨⟨by decide +kernel, by decide +kernel⟩, List.mem_of_getElem? (i := 735) (by decide +kernel), List.mem_of_getElem? (i := 863) (by decide +kernel), List.mem_of_getElem? (i := 864) (by decide +kernel)⟩
theorem lw_p17 : lw_okq (⟨"DovetailRowModel", "behind", "(III)I"⟩, 36) := ⟨⟨by decide +kernel, by decide +kernel⟩, List.mem_of_getElem? (i := 735) (by decide +kernel), List.mem_of_getElem? (i := 871) (by decide +kernel), List.mem_of_getElem? (i := 872) (by decide +kernel)⟩
theorem lw_p18 : lw_okq (⟨"DovetailRowModel", "wouldBreak", "(II)Z"⟩, 36) := ⟨⟨by decide +kernel, by decide +kernel⟩, List.mem_of_getElem? (i := 735) (by decide +kernel), List.mem_of_getElem? (i := 875) (by decide +kernel), List.mem_of_getElem? (i := 876) (by decide +kernel)⟩
theorem lw_p19 : lw_okq (⟨"DovetailRowModel", "speciesOf", "(I)I"⟩, 36) := ⟨⟨by decide +kernel, by decide +kernel⟩, List.mem_of_getElem? (i := 735) (by decide +kernel), List.mem_of_getElem? (i := 879) (by decide +kernel), List.mem_of_getElem? (i := 880) (by decide +kernel)⟩
theorem lw_p20 : lw_okq (⟨"DovetailRowModel", "moved", "(III)I"⟩, 36) := ⟨⟨by decide +kernel, by decide +kernel⟩, List.mem_of_getElem? (i := 735) (by decide +kernel), List.mem_of_getElem? (i := 883) (by decide +kernel), List.mem_of_getElem? (i := 884) (by decide +kernel)⟩
theorem lw_p21 : lw_okq (⟨"DovetailRowModel", "moves", "(I)I"⟩, 36) := ⟨⟨by decide +kernel, by decide +kernel⟩, List.mem_of_getElem? (i := 735) (by decide +kernel), List.mem_of_getElem? (i := 887) (by decide +kernel), List.mem_of_getElem? (i := 888) (by decide +kernel)⟩
theorem lw_p22 : lw_okq (⟨"DovetailRowModel", "widthAt", "(II)I"⟩, 36) := ⟨⟨by decide +kernel, by decide +kernel⟩, List.mem_of_getElem? (i := 735) (by decide +kernel), List.mem_of_getElem? (i := 891) (by decide +kernel), List.mem_of_getElem? (i := 892) (by decide +kernel)⟩
theorem lw_p23 : lw_okq (⟨"DovetailRowModel", "isBoard", "(I)Z"⟩, 36) := ⟨⟨by decide +kernel, by decide +kernel⟩, List.mem_of_getElem? (i := 735) (by decide +kernel), List.mem_of_getElem? (i := 903) (by decide +kernel), List.mem_of_getElem? (i := 904) (by decide +kernel)⟩
theorem lw_p24 : lw_okq (⟨"DovetailRowModel", "isTaken", "(III)Z"⟩, 36) := ⟨⟨by decide +kernel, by decide +kernel⟩, List.mem_of_getElem? (i := 735) (by decide +kernel), List.mem_of_getElem? (i := 907) (by decide +kernel), List.mem_of_getElem? (i := 908) (by decide +kernel)⟩
theorem lw_p25 : lw_okq (⟨"DovetailRowModel", "boardWidth", "(I)I"⟩, 36) := ⟨⟨by decide +kernel, by decide +kernel⟩, List.mem_of_getElem? (i := 735) (by decide +kernel), List.mem_of_getElem? (i := 915) (by decide +kernel), List.mem_of_getElem? (i := 916) (by decide +kernel)⟩
theorem lw_p26 : lw_okq (⟨"DovetailRowModel", "hasKnot", "(III)Z"⟩, 36) := ⟨⟨by decide +kernel, by decide +kernel⟩, List.mem_of_getElem? (i := 735) (by decide +kernel), List.mem_of_getElem? (i := 919) (by decide +kernel), List.mem_of_getElem? (i := 920) (by decide +kernel)⟩
theorem lw_p27 : lw_okq (⟨"DovetailRowModel", "hardness", "(I)I"⟩, 36) := ⟨⟨by decide +kernel, by decide +kernel⟩, List.mem_of_getElem? (i := 735) (by decide +kernel), List.mem_of_getElem? (i := 923) (by decide +kernel), List.mem_of_getElem? (i := 924) (by decide +kernel)⟩
theorem lw_p28 : lw_okq (⟨"DovetailRowModel", "isPart", "(I)Z"⟩, 36) := ⟨⟨by decide +kernel, by decide +kernel⟩, List.mem_of_getElem? (i := 735) (by decide +kernel), List.mem_of_getElem? (i := 939) (by decide +kernel), List.mem_of_getElem? (i := 940) (by decide +kernel)⟩
theorem lw_p29 : lw_okq (⟨"DovetailRowModel", "fits", "(IIII)Z"⟩, 36) := ⟨⟨by decide +kernel, by decide +kernel⟩, List.mem_of_getElem? (i := 735) (by decide +kernel), List.mem_of_getElem? (i := 951) (by decide +kernel), List.mem_of_getElem? (i := 952) (by decide +kernel)⟩
theorem lw_p30 : lw_okq (⟨"DovetailRowModel", "isJoint", "(I)Z"⟩, 36) := ⟨⟨by decide +kernel, by decide +kernel⟩, List.mem_of_getElem? (i := 735) (by decide +kernel), List.mem_of_getElem? (i := 959) (by decide +kernel), List.mem_of_getElem? (i := 960) (by decide +kernel)⟩
theorem lw_p31 : lw_okq (⟨"DovetailRowModel", "lookAhead", "(I)V"⟩, 36) := ⟨⟨by decide +kernel, by decide +kernel⟩, List.mem_of_getElem? (i := 735) (by decide +kernel), List.mem_of_getElem? (i := 979) (by decide +kernel), List.mem_of_getElem? (i := 980) (by decide +kernel)⟩
def lw_privs_2 : List (MethodName × Nat) := [(⟨"DovetailRowModel", "isMoisture", "(I)Z"⟩, 36), (⟨"DovetailRowModel", "behind", "(III)I"⟩, 36), (⟨"DovetailRowModel", "wouldBreak", "(II)Z"⟩, 36), (⟨"DovetailRowModel", "speciesOf", "(I)I"⟩, 36), (⟨"DovetailRowModel", "moved", "(III)I"⟩, 36), (⟨"DovetailRowModel", "moves", "(I)I"⟩, 36), (⟨"DovetailRowModel", "widthAt", "(II)I"⟩, 36), (⟨"DovetailRowModel", "isBoard", "(I)Z"⟩, 36), (⟨"DovetailRowModel", "isTaken", "(III)Z"⟩, 36), (⟨"DovetailRowModel", "boardWidth", "(I)I"⟩, 36), (⟨"DovetailRowModel", "hasKnot", "(III)Z"⟩, 36), (⟨"DovetailRowModel", "hardness", "(I)I"⟩, 36), (⟨"DovetailRowModel", "isPart", "(I)Z"⟩, 36), (⟨"DovetailRowModel", "fits", "(IIII)Z"⟩, 36), (⟨"DovetailRowModel", "isJoint", "(I)Z"⟩, 36), (⟨"DovetailRowModel", "lookAhead", "(I)V"⟩, 36)]
theorem lw_r2 : ∀ q ∈ lw_privs_2, lw_okq q := List.forall_mem_cons.mpr ⟨lw_p16, List.forall_mem_cons.mpr ⟨lw_p17, List.forall_mem_cons.mpr ⟨lw_p18, List.forall_mem_cons.mpr ⟨lw_p19, List.forall_mem_cons.mpr ⟨lw_p20, List.forall_mem_cons.mpr ⟨lw_p21, List.forall_mem_cons.mpr ⟨lw_p22, List.forall_mem_cons.mpr ⟨lw_p23, List.forall_mem_cons.mpr ⟨lw_p24, List.forall_mem_cons.mpr ⟨lw_p25, List.forall_mem_cons.mpr ⟨lw_p26, List.forall_mem_cons.mpr ⟨lw_p27, List.forall_mem_cons.mpr ⟨lw_p28, List.forall_mem_cons.mpr ⟨lw_p29, List.forall_mem_cons.mpr ⟨lw_p30, List.forall_mem_cons.mpr ⟨lw_p31, fun _ h => absurd h List.not_mem_nil⟩⟩⟩⟩⟩⟩⟩⟩⟩⟩⟩⟩⟩⟩⟩⟩
theorem lw_p32 : lw_okq (⟨"DovetailRowModel", "stateOf", "(I)I"⟩, 36) := ⟨⟨by decide +kernel, by decide +kernel⟩, List.mem_of_getElem? (i := 735) (by decide +kernel), List.mem_of_getElem? (i := 1003) (by decide +kernel), List.mem_of_getElem? (i := 1004) (by decide +kernel)⟩
def lw_privs_3 : List (MethodName × Nat) := [(⟨"DovetailRowModel", "stateOf", "(I)I"⟩, 36)]
theorem lw_r3 : ∀ q ∈ lw_privs_3, lw_okq q := List.forall_mem_cons.mpr ⟨lw_p32, fun _ h => absurd h List.not_mem_nil⟩
def lw_privs : List (MethodName × Nat) := lw_privs_1 ++ (lw_privs_2 ++ (lw_privs_3))
def lw_tbl : List Cond := k2_sels lw_privs ++ tables_1
theorem lw_privs_ok : ∀ q ∈ lw_privs, lw_okq q := by
  show ∀ q ∈ lw_privs_1 ++ (lw_privs_2 ++ (lw_privs_3)), lw_okq q
  exact List.forall_mem_append.mpr ⟨lw_r1, List.forall_mem_append.mpr ⟨lw_r2, lw_r3⟩⟩
-- ===== end of PART A; then your names; then what follows =====
/-! ===== BEGIN words of one list among another's, by their places ===== -/
theorem goodIn_r {big : List Cond} (ws : List Cond) (ps : List Nat) (hp : ws = ps.filterMap (fun i => big[i]?)) (h : ws.all goodWord = true) : GoodIn big ws := by
  intro w hw
  have h1 := List.all_eq_true.mp h w hw
  rw [hp] at hw
  obtain ⟨i, -, hi⟩ := List.mem_filterMap.mp hw
  have hm : w ∈ big := by first | exact List.mem_of_getElem? hi | exact List.getElem?_mem hi
  exact ⟨hm, good_of_word h1⟩
theorem goodIn_app {big a b : List Cond} (ha : GoodIn big a) (hb : GoodIn big b) : GoodIn big (a ++ b) := fun w h => (List.mem_append.mp h).elim (ha w) (hb w)
theorem goodIn_ca {big a b : List Cond} {c : Cond} (ha : GoodIn big (c :: a)) (hb : GoodIn big b) : GoodIn big (c :: (a ++ b)) := fun w h => (List.mem_cons.mp h).elim (fun e => ha w (List.mem_cons.mpr (Or.inl e))) (fun h => (List.mem_append.mp h).elim (fun h => ha w (List.mem_cons.mpr (Or.inr h))) (hb w))
theorem goodIn_sub {big ws : List Cond} (hm : ∀ w ∈ ws, w ∈ big) (h : ws.all goodWord = true) : GoodIn big ws := fun w hw => ⟨hm w hw, good_of_word (List.all_eq_true.mp h w hw)⟩
/-! ===== END ===== -/

/-! ===== BEGIN exceptions that leave a method, and their catching by the caller (launches without stack traces) ===== -/
section VXA
/-! The laws vx_back, vx_callV, vx_callS, vx_callSW, vx_throw0, vx_throwS follow proofs of the library, with one case more: JvmDerived/Free/Laws.lean (Back.of_free), Shelf42/LK1.lean (callV, callS), Shelf/KitTraced.lean (throwNew0V, throwNewS). -/
/-- where a method has thrown q: the class by its name, the cell, what was written, the world -/
def vx_T (XC : String → State → State → Prop) (st : State) (q : Addr) (t : State) (mc ms : Nat) (free : Addr → Prop) : Prop :=
  ∃ (E : String) (ce : Cell) (L : List Loc), XC E st t ∧ t.heap[q]? = some ce ∧ ce.vm = .none ∧ st.vm.findClass E = some ce.cls ∧ st.WarmedH t.vm ∧ st.sameButNew ({ t with vm := st.vm } : State) L mc ms ∧ ∀ z ∈ L, free z.base
def vx_Q (Qc : Array Value → State → Outcome → State → Prop) (XC : String → State → State → Prop) (mc ms : Nat) (free : Addr → Prop) : Array Value → State → Outcome → State → Prop := fun a st o t =>
  (Qc a st o t ∧ ∃ L, FrameEnd st o t L mc ms ∧ ∀ q ∈ L, free q.base) ∨ ∃ q, o = .threw q ∧ vx_T XC st q t mc ms free
/-- a callee that returns or throws -/
def vx_Met (l : Launch) (y : MethodName) (ws : List Cond) (rm : Room) (Pc : Array Value → State → Prop) (Qc : Array Value → State → Outcome → State → Prop) (XC : String → State → State → Prop) (mc ms : Nat) (free : Addr → Prop) : Prop :=
  MetFree l y (headSpec ws rm) Pc (fun _ _ _ _ _ => True) (vx_Q Qc XC mc ms free)
def vx_Post (XC : String → State → State → Prop) (mc ms : Nat) (free : Addr → Prop) : Pt → Array Value → Addr → Pt → Prop := fun A a q B =>
  ∃ (g : JFrame) (mk : MethodId) (t : State) (L : List Loc) (E : String) (ce : Cell), B.U.heap = t.heap ∧ B.U.vm = t.vm ∧ XC E (A.U.calling g mk a) t ∧ t.heap[q]? = some ce ∧ ce.vm = .none ∧ A.U.vm.findClass E = some ce.cls ∧ B.locs = A.locs ++ L ∧ (∀ z ∈ L, free z.base) ∧ B.cells = A.cells + mc ∧ B.slots = A.slots + ms
def vx_Back (l : Launch) (R : Room) (p : Program) (e : Env) (below : List Frame) (s : State) (sargs : Array Value) (y : MethodName) (len W9 : Nat)
    (Pre : Pt → Array Value → Prop) (Post : Pt → Array Value → Option Value → Pt → Prop) (PostX : Pt → Array Value → Addr → Pt → Prop) : Prop :=
  ∀ (m : MethodId) (meth : Method) (c : Code) (A : Pt) (g : JFrame) (ig : Instr) (mk : MethodId) (a : Array Value),
    Stand p l e R s m sargs below meth c A.U A.locs A.cells A.slots → g.method = m → g.locals.size = c.maxLocals → decode c.code g.pc = .ok (ig, len) →
    2 * g.monitorRoom + (g.stack.map fun v => v.category).sum ≤ W9 → A.U.methodNamed? y = some mk → Pre A a →
    (∃ (v : Option Value) (B : Pt), Stand p l e R s m sargs below meth c B.U B.locs B.cells B.slots ∧ Post A a v B ∧
      Steps p.tables e below (doInvoke e (A.U.setTop g) [] mk a).1 (B.U.setTop { g with pc := g.pc + len, stack := v.toList ++ g.stack })) ∨
    (∃ (q : Addr) (B : Pt), Stand p l e R s m sargs below meth c B.U B.locs B.cells B.slots ∧ PostX A a q B ∧
      Steps p.tables e below (doInvoke e (A.U.setTop g) [] mk a).1 ((B.U.setTop g).pushFrame (.throwing q)))
section Payer
variable {l : Launch} {R : Room} {p : Program} {e : Env} {below : List Frame} {s : State} {sargs : Array Value} {y : MethodName} {len W9 : Nat}
theorem vx_back {ws : List Cond} {rm : Room} {Pc : Array Value → State → Prop} {Qc : Array Value → State → Outcome → State → Prop} {XC : String → State → State → Prop} {mc ms : Nat} {free : Addr → Prop} {bytes : ByteArray} {maxL : Nat} {ret : Option FieldType}
    (hM : vx_Met l y ws rm Pc Qc XC mc ms free) (hblind : FrameBlind Pc) (hrc : rm.cells = mc) (hrs : rm.slots = ms)
    (hframes : rm.frames + 1 ≤ R.frames) (hlocals : W9 + (maxL + 11) + rm.locals ≤ R.locals)
    (hws : ∀ w ∈ ws, ∀ a' U, s.WarmedH U.vm → w.before a' U = true) (hcode : Cond.code y bytes maxL ret ∈ ws) (hinit : ∀ a' U, s.WarmedH U.vm → (Cond.initialized y.cls).before a' U = true) :
    vx_Back l R p e below s sargs y len W9 (PreOf R mc ms Pc) (PostOf Qc mc ms free) (vx_Post XC mc ms free) := by
  intro m meth c A g ig mk a X hg hsize hdg hW hn hp
  have h1 : (headSpec ws rm).pre.before a A.U = true := atoms_intro fun w hw => hws w hw _ _ X.warmed
  have h2 : (Cond.code y bytes maxL ret).before a A.U = true := hws _ hcode _ _ X.warmed
  have h3 : (Cond.initialized y.cls).before a A.U = true := hinit _ _ X.warmed
  have h4 : A.cells + (headSpec ws rm).room.cells ≤ R.cells := by rw [show (headSpec ws rm).room.cells = mc from hrc]; exact hp.1
  have h5 : A.slots + (headSpec ws rm).room.slots ≤ R.slots := by rw [show (headSpec ws rm).room.slots = ms from hrs]; exact hp.2.1
  have hPc : Pc a (A.U.calling g mk a) := hblind _ _ _ _ hp.2.2
  obtain ⟨U, Ls, c0, s0⟩ := A
  dsimp only [Pt.U, Pt.locs, Pt.cells, Pt.slots] at h1 h2 h3 h4 h5 X hn hPc ⊢
  obtain ⟨methY, cY, hmY, hcY, -, hlY, -, -, -, -⟩ := Cond.code_spec hn h2
  obtain ⟨kY, hkY, -⟩ := className_of_methodNamed hn
  have hinitY : kY.init = .initialized := Cond.initialized_spec (findClass_of_methodNamed hn) hkY h3
  have h : At U g.method c below := by rw [hg]; exact X.here
  have hlocals9 : W9 + (maxL + 11) + (headSpec ws rm).room.locals ≤ R.locals := hlocals
  have happ : (headSpec ws rm).appliesLoose y e.platform (U.calling g mk a) = true :=
    Spec.appliesLoose_calling (g := g) h hdg hn hkY hinitY
      (X.room_calling (g := g) (R' := (headSpec ws rm).room) hsize hmY hcY hframes (by rw [hlY]; omega) h4 h5) h1
  obtain ⟨mid, hmid⟩ := h.above
  have hfr : (U.setTop g).frames = (.java g :: mid) ++ below := by rw [State.frames_setTop' g h.top, hmid]; rfl
  obtain ⟨o, s₂, hsteps, -, hend, hq⟩ := Steps.callFree hM p X.admits X.cas X.clock (acts := []) hfr happ hPc trivial
  have hq' : vx_Q Qc XC mc ms free a (U.calling g mk a) o s₂ := hq
  rw [State.frames_setTop' g h.top] at hend
  obtain ⟨g₀, hg0⟩ := Option.isSome_iff_exists.mp h.top
  obtain ⟨r, hr⟩ := State.topJava?_eq_some.mp hg0
  have hr' : (({ U with heap := s₂.heap, slotsUsed := s₂.slotsUsed } : State).setVm s₂.vm).frames = .java g₀ :: r := hr
  rcases hq' with ⟨hqc, L, hfe, hL⟩ | ⟨q, rfl, E, ce, L, hx, hce, hcv, hcl, hW₂, hsm, hL⟩
  · obtain ⟨⟨v, rfl⟩, hW₂, e2, q2, q3, q4, q5, q6⟩ := id hfe
    have e3 : s₂ = ({ (U.calling g mk a).setFrames s₂.frames with heap := s₂.heap, slotsUsed := s₂.slotsUsed } : State).setVm s₂.vm := by
      have : s₂ = ({ s₂ with vm := (U.calling g mk a).vm } : State).setVm s₂.vm := rfl
      rw [e2] at this
      exact this
    obtain ⟨c₂, i₂, len₂, hc₂, hd₂, hf₂⟩ := hend
    have hW' : U.WarmedH s₂.vm := hW₂
    have hcc : c₂ = c := by
      have h1 : s₂.code? g.method = U.code? g.method := by
        rw [State.code?_eq, State.code?_eq, hW'.alike.method?]
      exact Option.some.inj (hc₂.symm.trans (h1.trans h.code))
    subst hcc
    have hlen : len₂ = len := by rw [hdg] at hd₂; cases hd₂; rfl
    subst hlen
    have hs₂ : s₂ = (({ U with heap := s₂.heap, slotsUsed := s₂.slotsUsed } : State).setVm s₂.vm).setTop { g with pc := g.pc + len₂, stack := v.toList ++ g.stack } := by
      refine e3.trans ?_
      rw [hf₂, State.calling_eq h.top, State.setFrames_setFrames, State.setTop_of_frames _ hr', hr]
      rfl
    have hsame : U.sameButNew ({ U with heap := s₂.heap, slotsUsed := s₂.slotsUsed } : State) L mc ms := by
      refine ⟨?_, q2, q3, q4, q5, q6⟩
      obtain ⟨t, ht, -⟩ := State.frames_cons hr
      show ({ U with heap := s₂.heap, slotsUsed := s₂.slotsUsed } : State) = { U.setFrames U.frames with heap := s₂.heap, slotsUsed := s₂.slotsUsed }
      rw [State.setFrames_self ht]
    subst hg
    refine Or.inl ⟨v, ⟨(({ U with heap := s₂.heap, slotsUsed := s₂.slotsUsed } : State).setVm s₂.vm), Ls ++ L, c0 + mc, s0 + ms⟩,
      ⟨X.admits, X.cas, X.clock, X.frames, X.room, X.hears, X.method, X.code, (X.here.setHeapUsed s₂.heap s₂.slotsUsed).setVm hW'.alike, X.tail, State.WarmedH.trans X.warmed hW', X.limits, X.bytes, X.same.trans (hsame.setVm s.vm)⟩,
      ⟨g, mk, s₂, L, rfl, rfl, hqc, rfl, hL, rfl, rfl⟩, ?_⟩
    show Steps p.tables e below _ ((({ U with heap := s₂.heap, slotsUsed := s₂.slotsUsed } : State).setVm s₂.vm).setTop { g with pc := g.pc + len₂, stack := v.toList ++ g.stack })
    rw [← hs₂]
    exact hsteps
  · obtain ⟨e2, q2, q3, q4, q5, q6⟩ := id hsm
    have e3 : s₂ = ({ (U.calling g mk a).setFrames s₂.frames with heap := s₂.heap, slotsUsed := s₂.slotsUsed } : State).setVm s₂.vm := by
      have : s₂ = ({ s₂ with vm := (U.calling g mk a).vm } : State).setVm s₂.vm := rfl
      rw [e2] at this
      exact this
    have hf₂ : s₂.frames = .throwing q :: .java g :: U.frames.tail := hend
    have hW' : U.WarmedH s₂.vm := hW₂
    have hs₂ : s₂ = ((({ U with heap := s₂.heap, slotsUsed := s₂.slotsUsed } : State).setVm s₂.vm).setTop g).pushFrame (.throwing q) := by
      refine e3.trans ?_
      rw [hf₂, State.calling_eq h.top, State.setFrames_setFrames, State.pushFrame, State.frames_setTop _ hr', State.setTop_of_frames _ hr', State.setFrames_setFrames, hr]
      rfl
    have hsame : U.sameButNew ({ U with heap := s₂.heap, slotsUsed := s₂.slotsUsed } : State) L mc ms := by
      refine ⟨?_, q2, q3, q4, q5, q6⟩
      obtain ⟨t, ht, -⟩ := State.frames_cons hr
      show ({ U with heap := s₂.heap, slotsUsed := s₂.slotsUsed } : State) = { U.setFrames U.frames with heap := s₂.heap, slotsUsed := s₂.slotsUsed }
      rw [State.setFrames_self ht]
    subst hg
    refine Or.inr ⟨q, ⟨(({ U with heap := s₂.heap, slotsUsed := s₂.slotsUsed } : State).setVm s₂.vm), Ls ++ L, c0 + mc, s0 + ms⟩,
      ⟨X.admits, X.cas, X.clock, X.frames, X.room, X.hears, X.method, X.code, (X.here.setHeapUsed s₂.heap s₂.slotsUsed).setVm hW'.alike, X.tail, State.WarmedH.trans X.warmed hW', X.limits, X.bytes, X.same.trans (hsame.setVm s.vm)⟩,
      ⟨g, mk, s₂, L, E, ce, rfl, rfl, hx, hce, hcv, hcl, rfl, hL, rfl, rfl⟩, ?_⟩
    show Steps p.tables e below _ (((({ U with heap := s₂.heap, slotsUsed := s₂.slotsUsed } : State).setVm s₂.vm).setTop g).pushFrame (.throwing q))
    rw [← hs₂]
    exact hsteps
end Payer
section Calls
variable {p : Program} {l : Launch} {e : Env} {R : Room} {s : State} {m : MethodId} {args : Array Value} {below : List Frame} {meth : Method} {c : Code} {T : State} {locs : List Loc} {cells slots : Nat}
theorem vx_callV (X : Stand p l e R s m args below meth c T locs cells slots) (hexec : p.tables.exec = Jvm.exec) {own C : String} {index : Nat} {y : MethodName} {bytes : ByteArray} {maxL : Nat} {ret : Option FieldType}
    (hown : s.vm.findClass own = some m.cls) (hlink : (Cond.methodLink own index y).before args s = true) (hinst : (Cond.instanceMethod y).before args s = true) (hsel : (Cond.selects C y y).before args s = true)
    (hcode : (Cond.code y bytes maxL ret).before args s = true) (hy : y.cls ≠ "java/lang/invoke/MethodHandle" ∧ y.cls ≠ "java/lang/invoke/VarHandle")
    {W9 : Nat} {Pre : Pt → Array Value → Prop} {Post : Pt → Array Value → Option Value → Pt → Prop} {PostX : Pt → Array Value → Addr → Pt → Prop} (hK : vx_Back l R p e below s args y 3 W9 Pre Post PostX)
    {b : Addr} {cellB : Cell} (hcell : T.heap[b]? = some cellB) (hobj : cellB.vm.isStatics = false) (hcls : s.vm.findClass C = some cellB.cls)
    {g : JFrame} (hg : g.method = m) (hsize : g.locals.size = c.maxLocals) {argsL rest : List Value} (hlen : ∀ sig, parseMethodDescriptor y.desc = some sig → argsL.length = sig.parameters.length)
    (hstack : g.stack = argsL.reverse ++ .ref b :: rest) (hW : 2 * g.monitorRoom + (rest.map fun v => v.category).sum ≤ W9) (hdg : decode c.code g.pc = .ok (.invokevirtual index, 3))
    (hpre : ∀ vm₁, s.WarmedH vm₁ → Pre ⟨T.setVm vm₁, locs, cells, slots⟩ (Value.ref b :: argsL).toArray) :
    (∃ (v : Option Value) (vm₁ : Vm) (B : Pt), s.WarmedH vm₁ ∧ Stand p l e R s m args below meth c B.U B.locs B.cells B.slots ∧ Post ⟨T.setVm vm₁, locs, cells, slots⟩ (Value.ref b :: argsL).toArray v B ∧
      ∀ target, Steps p.tables e below (B.U.setTop { g with pc := g.pc + 3, stack := v.toList ++ rest }) target → Steps p.tables e below (T.setTop g) target) ∨
    (∃ (q : Addr) (vm₁ : Vm) (B : Pt), s.WarmedH vm₁ ∧ Stand p l e R s m args below meth c B.U B.locs B.cells B.slots ∧ PostX ⟨T.setVm vm₁, locs, cells, slots⟩ (Value.ref b :: argsL).toArray q B ∧
      Steps p.tables e below (T.setTop g) ((B.U.setTop { g with stack := rest }).pushFrame (.throwing q))) := by
  obtain ⟨mk, methM, hnamed, hmethM, hstM, habM⟩ := Cond.instanceMethod_spec hinst
  obtain ⟨methM', cM, hmethM', -, -, -, -, -, -, hsigM⟩ := Cond.code_spec hnamed hcode
  cases hmethM.symm.trans hmethM'
  obtain ⟨c2, r2, m2, q1, q2, q3, q4, kP, hkP, hkPi⟩ := Cond.selects_spec hsel
  cases hcls.symm.trans q1
  cases (State.methodFound?_of_named hnamed hy).symm.trans q2
  cases hnamed.symm.trans q3
  have hselP : selectMethod e.platform s.vm cellB.cls mk = .method mk := by rw [Launch.admits_selectMethod X.admits]; exact q4
  obtain ⟨vm₁, X₁, hstep₁⟩ := X.invokevirtual hexec hown hlink hnamed hmethM hstM hkP hkPi hy (a := b) (cell := cellB) hcell
    (fun z h => by rw [h] at hobj; cases hobj) hselP hmethM habM hkP hkPi (g := g) hg (argsL := argsL) (rest := rest) (hlen _ hsigM) hstack hdg
  rcases hK m meth c ⟨T.setVm vm₁, locs, cells, slots⟩ { g with stack := rest } (.invokevirtual index) mk (Value.ref b :: argsL).toArray X₁ hg hsize hdg hW (X₁.named hnamed) (hpre vm₁ X₁.warmed) with ⟨v, B, X', hpost, hsteps⟩ | ⟨q, B, X', hpost, hsteps⟩
  · exact Or.inl ⟨v, vm₁, B, X₁.warmed, X', hpost, fun target h => hstep₁ _ fun acts => by rw [doInvoke_state]; exact hsteps.trans h⟩
  · exact Or.inr ⟨q, vm₁, B, X₁.warmed, X', hpost, hstep₁ _ fun acts => by rw [doInvoke_state]; exact hsteps⟩
theorem vx_callS (X : Stand p l e R s m args below meth c T locs cells slots) (hexec : p.tables.exec = Jvm.exec) {own : String} {index : Nat} {y : MethodName} {bytes : ByteArray} {maxL : Nat} {ret : Option FieldType}
    (hown : s.vm.findClass own = some m.cls) (hlink : (Cond.methodLink own index y).before args s = true) (hstat : (Cond.static y).before args s = true) (hinit : (Cond.initialized y.cls).before args s = true)
    (hcode : (Cond.code y bytes maxL ret).before args s = true) (hy : y.cls ≠ "java/lang/invoke/MethodHandle" ∧ y.cls ≠ "java/lang/invoke/VarHandle")
    {W9 : Nat} {Pre : Pt → Array Value → Prop} {Post : Pt → Array Value → Option Value → Pt → Prop} {PostX : Pt → Array Value → Addr → Pt → Prop} (hK : vx_Back l R p e below s args y 3 W9 Pre Post PostX)
    {g : JFrame} (hg : g.method = m) (hsize : g.locals.size = c.maxLocals) {argsL rest : List Value} (hlen : ∀ sig, parseMethodDescriptor y.desc = some sig → argsL.length = sig.parameters.length)
    (hstack : g.stack = argsL.reverse ++ rest) (hW : 2 * g.monitorRoom + (rest.map fun v => v.category).sum ≤ W9) (hdg : decode c.code g.pc = .ok (.invokestatic index, 3))
    (hpre : ∀ vm₁, s.WarmedH vm₁ → Pre ⟨T.setVm vm₁, locs, cells, slots⟩ argsL.toArray) :
    (∃ (v : Option Value) (vm₁ : Vm) (B : Pt), s.WarmedH vm₁ ∧ Stand p l e R s m args below meth c B.U B.locs B.cells B.slots ∧ Post ⟨T.setVm vm₁, locs, cells, slots⟩ argsL.toArray v B ∧
      ∀ target, Steps p.tables e below (B.U.setTop { g with pc := g.pc + 3, stack := v.toList ++ rest }) target → Steps p.tables e below (T.setTop g) target) ∨
    (∃ (q : Addr) (vm₁ : Vm) (B : Pt), s.WarmedH vm₁ ∧ Stand p l e R s m args below meth c B.U B.locs B.cells B.slots ∧ PostX ⟨T.setVm vm₁, locs, cells, slots⟩ argsL.toArray q B ∧
      Steps p.tables e below (T.setTop g) ((B.U.setTop { g with stack := rest }).pushFrame (.throwing q))) := by
  obtain ⟨mk, hnamed⟩ := Cond.code_named hcode
  obtain ⟨methM, cM, hmethM, -, -, -, -, -, -, hsigM⟩ := Cond.code_spec hnamed hcode
  have hstatic : methM.isStatic = true := Cond.static_spec hnamed hmethM hstat
  obtain ⟨kP, hkP, -⟩ := className_of_methodNamed hnamed
  have hinitP : kP.init = .initialized := Cond.initialized_spec (findClass_of_methodNamed hnamed) hkP hinit
  obtain ⟨vm₁, X₁, hstep₁⟩ := X.invokestatic hexec hown hlink hnamed hmethM hstatic hkP hinitP hy (g := g) hg (argsL := argsL) (rest := rest) (hlen _ hsigM) hstack hdg
  rcases hK m meth c ⟨T.setVm vm₁, locs, cells, slots⟩ { g with stack := rest } (.invokestatic index) mk argsL.toArray X₁ hg hsize hdg hW (X₁.named hnamed) (hpre vm₁ X₁.warmed) with ⟨v, B, X', hpost, hsteps⟩ | ⟨q, B, X', hpost, hsteps⟩
  · exact Or.inl ⟨v, vm₁, B, X₁.warmed, X', hpost, fun target h => hstep₁ _ fun acts => by rw [doInvoke_state]; exact hsteps.trans h⟩
  · exact Or.inr ⟨q, vm₁, B, X₁.warmed, X', hpost, hstep₁ _ fun acts => by rw [doInvoke_state]; exact hsteps⟩
end Calls
theorem vx_cls {s : State} {T : State} {vm₁ : Vm} {E : String} {k : ClassId} (hW : s.WarmedH vm₁) (h : (T.setVm vm₁).vm.findClass E = some k) : s.vm.findClass E = some k := by
  have h1 : vm₁.findClass E = some k := h
  rw [hW.alike.findClass] at h1
  exact h1
/-- the method's frame g, with q thrown over it -/
def vx_W (p : Program) (l : Launch) (e : Env) (R : Room) (s : State) (m : MethodId) (args : Array Value) (below : List Frame) (meth : Method) (c : Code) (H : Heap) (locs : List Loc) (cells slots : Nat) (Q : State → Prop) (g : JFrame) (q : Addr) : Prop :=
  ∀ T : State, T.heap = H → Stand p l e R s m args below meth c T locs cells slots → ∃ t, Steps p.tables e below ((T.setTop g).pushFrame (.throwing q)) t ∧ Q t
def vx_Run (p : Program) (l : Launch) (e : Env) (R : Room) (s : State) (m : MethodId) (args : Array Value) (below : List Frame) (meth : Method) (c : Code) (H : Heap) (locs : List Loc) (cells slots mc ms : Nat) (g : JFrame) (rest : List Value) (Qa : State → Outcome → State → Prop) (XC : String → State → State → Prop) (free : Addr → Prop) : Prop :=
  ∀ T : State, T.heap = H → Stand p l e R s m args below meth c T locs cells slots →
    (∃ (v : Option Value) (st₀ t T' : State) (L : List Loc), st₀.heap = H ∧ Stand p l e R s m args below meth c T' (locs ++ L) (cells + mc) (slots + ms) ∧ (∀ q ∈ L, free q.base) ∧ T'.heap = t.heap ∧ T'.vm = t.vm ∧ Qa st₀ (.returned v) t ∧
      Goes p e below T g T' { g with pc := g.pc + 3, stack := v.toList ++ rest }) ∨
    (∃ (q : Addr) (st₀ t T' : State) (L : List Loc) (E : String) (ce : Cell), st₀.heap = H ∧ Stand p l e R s m args below meth c T' (locs ++ L) (cells + mc) (slots + ms) ∧ (∀ z ∈ L, free z.base) ∧ T'.heap = t.heap ∧ T'.vm = t.vm ∧ XC E st₀ t ∧ t.heap[q]? = some ce ∧ ce.vm = .none ∧ s.vm.findClass E = some ce.cls ∧
      Steps p.tables e below (T.setTop g) ((T'.setTop { g with stack := rest }).pushFrame (.throwing q)))
def vx_X {S : Type} (px : S → Prop) (B : String → S → State → Prop) (A : Nat → Prop) : String → State → State → Prop := fun E st t => ∃ u : S, px u ∧ B E u t ∧ va_F A st t
section Runs
variable {p : Program} {l : Launch} {e : Env} {R : Room} {s : State} {m : MethodId} {args : Array Value} {below : List Frame} {meth : Method} {c : Code} {H : Heap} {locs : List Loc} {cells slots : Nat}
variable {y : MethodName} {bytes cc : ByteArray} {maxL nL mc ms n index : Nat} {ret : Option FieldType} {ws : List Cond} {rm : Room} {Pc : Array Value → State → Prop} {Qc : Array Value → State → Outcome → State → Prop} {XC : String → State → State → Prop} {free : Addr → Prop} {Ts : List Cond} {own C : String} {b : Addr} {As rest : List Value} {g : JFrame}
theorem vx_callBack (cb : CallB R s args own index y bytes maxL ret ws rm mc ms n) (hM : vx_Met l y ws rm Pc Qc XC mc ms free) (hbl : FrameBlind Pc) : vx_Back l R p e below s args y 3 8 (PreOf R mc ms Pc) (PostOf Qc mc ms free) (vx_Post XC mc ms free) := by
  obtain ⟨hrc, hrs, hfr, hlo, hws, hcw, -, hini, -⟩ := cb
  exact vx_back (bytes := bytes) (maxL := maxL) (ret := ret) hM hbl hrc hrs hfr hlo hws hcw (fun a' U hW => word_at hW (Or.inl (by first | rfl | simp [Cond.onTables, Cond.keeps, Cond.steady])) hini)
theorem vx_runV (S : CallFix p m c cc nL s args Ts own) (hM : vx_Met l y ws rm Pc Qc XC mc ms free) (cw : CallW R s args own C index y bytes maxL ret ws rm mc ms n) (hp : PreV s H C b Pc As)
    (hg : g.method = m) (hn : As.length = n) (hsize : g.locals.size = nL) (hstack : g.stack = As.reverse ++ .ref b :: rest) (hW : 2 * g.monitorRoom + (rest.map fun v => v.category).sum ≤ 8) (hdg : decode cc g.pc = .ok (.invokevirtual index, 3)) (hf : cells + mc ≤ R.cells ∧ slots + ms ≤ R.slots) :
    vx_Run p l e R s m args below meth c H locs cells slots mc ms g rest (Qc (Value.ref b :: As).toArray) XC free := by
  have hK : vx_Back l R p e below s args y 3 8 (PreOf R mc ms Pc) (PostOf Qc mc ms free) (vx_Post XC mc ms free) := vx_callBack cw.1 hM hp.1
  obtain ⟨⟨-, -, -, -, -, -, hcode, -, hy, hlen, hl⟩, hin, hse⟩ := cw
  obtain ⟨hx, hb, hml, ho, -⟩ := S
  obtain ⟨-, ⟨cellB, hcB, hoB, hclB⟩, hPc⟩ := hp
  intro T hT X
  rcases vx_callV X hx (C := C) (bytes := bytes) (maxL := maxL) (ret := ret) ho hl hin hse hcode hy hK (by rw [hT]; exact hcB) hoB hclB hg (hsize.trans hml.symm) (argsL := As) (rest := rest) (fun sig h => hn.trans (hlen sig h)) hstack hW (by rw [hb]; exact hdg)
    (fun vm₁ hW₁ => ⟨hf.1, hf.2, hPc (T.setVm vm₁) hT hW₁⟩) with ⟨v, vm₁, ⟨U', l2, c2, s2⟩, hW₁, X', ⟨g', mk, t, L, e1, e2, hq, h1, hL, h2, h3⟩, st⟩ | ⟨q, vm₁, ⟨U', l2, c2, s2⟩, hW₁, X', ⟨g', mk, t, L, E, ce, e1, e2, hq, hce, hcv, hcl, h1, hL, h2, h3⟩, st⟩
  · dsimp only [Pt.U, Pt.locs, Pt.cells, Pt.slots] at X' e1 e2 h1 h2 h3 st
    subst h1; subst h2; subst h3
    exact Or.inl ⟨v, (T.setVm vm₁).calling g' mk (Value.ref b :: As).toArray, t, U', L, hT, X', hL, e1, e2, hq, st⟩
  · dsimp only [Pt.U, Pt.locs, Pt.cells, Pt.slots] at X' e1 e2 h1 h2 h3 st hcl
    subst h1; subst h2; subst h3
    exact Or.inr ⟨q, (T.setVm vm₁).calling g' mk (Value.ref b :: As).toArray, t, U', L, E, ce, hT, X', hL, e1, e2, hq, hce, hcv, vx_cls hW₁ hcl, st⟩
theorem vx_runS (S : CallFix p m c cc nL s args Ts own) (hM : vx_Met l y ws rm Pc Qc XC mc ms free) (cw : CallB R s args own index y bytes maxL ret ws rm mc ms n ∧ (Cond.static y).before args s = true) (hp : PreS s H Pc As)
    (hg : g.method = m) (hn : As.length = n) (hsize : g.locals.size = nL) (hstack : g.stack = As.reverse ++ rest) (hW : 2 * g.monitorRoom + (rest.map fun v => v.category).sum ≤ 8) (hdg : decode cc g.pc = .ok (.invokestatic index, 3)) (hf : cells + mc ≤ R.cells ∧ slots + ms ≤ R.slots) :
    vx_Run p l e R s m args below meth c H locs cells slots mc ms g rest (Qc As.toArray) XC free := by
  have hK : vx_Back l R p e below s args y 3 8 (PreOf R mc ms Pc) (PostOf Qc mc ms free) (vx_Post XC mc ms free) := vx_callBack cw.1 hM hp.1
  obtain ⟨⟨-, -, -, -, -, -, hcode, hini, hy, hlen, hl⟩, hstt⟩ := cw
  obtain ⟨hx, hb, hml, ho, -⟩ := S
  intro T hT X
  rcases vx_callS X hx (bytes := bytes) (maxL := maxL) (ret := ret) ho hl hstt hini hcode hy hK hg (hsize.trans hml.symm) (argsL := As) (rest := rest) (fun sig h => hn.trans (hlen sig h)) hstack hW (by rw [hb]; exact hdg)
    (fun vm₁ hW₁ => ⟨hf.1, hf.2, hp.2 (T.setVm vm₁) hT hW₁⟩) with ⟨v, vm₁, ⟨U', l2, c2, s2⟩, hW₁, X', ⟨g', mk, t, L, e1, e2, hq, h1, hL, h2, h3⟩, st⟩ | ⟨q, vm₁, ⟨U', l2, c2, s2⟩, hW₁, X', ⟨g', mk, t, L, E, ce, e1, e2, hq, hce, hcv, hcl, h1, hL, h2, h3⟩, st⟩
  · dsimp only [Pt.U, Pt.locs, Pt.cells, Pt.slots] at X' e1 e2 h1 h2 h3 st
    subst h1; subst h2; subst h3
    exact Or.inl ⟨v, (T.setVm vm₁).calling g' mk As.toArray, t, U', L, hT, X', hL, e1, e2, hq, st⟩
  · dsimp only [Pt.U, Pt.locs, Pt.cells, Pt.slots] at X' e1 e2 h1 h2 h3 st hcl
    subst h1; subst h2; subst h3
    exact Or.inr ⟨q, (T.setVm vm₁).calling g' mk As.toArray, t, U', L, E, ce, hT, X', hL, e1, e2, hq, hce, hcv, vx_cls hW₁ hcl, st⟩
end Runs
section Rows
variable {p : Program} {l : Launch} {e : Env} {R : Room} {s : State} {m : MethodId} {args : Array Value} {below : List Frame} {meth : Method} {c : Code} {H : Heap} {locs : List Loc} {cells slots : Nat} {Q : State → Prop}
variable {mc ms : Nat} {free : Addr → Prop} {A0 A1 : Nat → Prop} {H0 : Heap} {a : Array Value} {pc : Nat} {ls : Array Slot} {st0 rest : List Value}
theorem vx_keep {st₀ t T' : State} {L : List Loc} (h0 : st₀.heap = H) (e1 : T'.heap = t.heap) (hS : va_S A0 H0 H locs) (hA : ∀ q, q < H.size → A1 q → A0 q) (hf : ∀ q, free q → A0 q) (hL : ∀ q ∈ L, free q.base) (hF : va_F A1 st₀ t) :
    H.size ≤ T'.heap.size ∧ (∀ q : Nat, q < H.size → ¬ A1 q → T'.heap[q]? = H[q]?) ∧ va_S A0 H0 T'.heap (locs ++ L) := by
  obtain ⟨hz, hk⟩ := hF
  rw [h0] at hz hk
  exact ⟨by rw [e1]; exact hz, fun q h1 h2 => by rw [e1]; exact hk q h1 h2,
    ⟨Nat.le_trans hS.1 (by rw [e1]; exact hz), fun q h1 h2 => by rw [e1, hk q (Nat.lt_of_lt_of_le h1 hS.1) (fun z => h2 (hA q (Nat.lt_of_lt_of_le h1 hS.1) z))]; exact hS.2.1 q h1 h2, fun q hq => by
      rcases List.mem_append.mp hq with h | h
      · exact hS.2.2 q h
      · exact hf _ (hL q h)⟩⟩
theorem vx_calli {S SX : Type} {post : Int32 → S → Prop} {px : SX → Prop} {B : S → State → Prop} {BX : String → SX → State → Prop} {AX : Nat → Prop} (hr : vx_Run p l e R s m args below meth c H locs cells slots mc ms (F0 m pc ls st0) rest (va_Qi post B A1 a) (vx_X px BX AX) free) (hS : va_S A0 H0 H locs) (hA : ∀ q, q < H.size → A1 q → A0 q) (hf : ∀ q, free q → A0 q) (hAX : ∀ q, q < H.size → AX q → A0 q)
    (kx : ∀ (E : String) (ce : Cell) (q9 : Addr) (u : SX) (t : State) (H1 : Heap) (locs1 : List Loc), t.heap = H1 → s.vm.Alike t.vm → px u → BX E u t → H.size ≤ H1.size → (∀ q : Nat, q < H.size → ¬ AX q → H1[q]? = H[q]?) → va_S A0 H0 H1 locs1 → H1[q9]? = some ce → ce.vm = .none → s.vm.findClass E = some ce.cls → vx_W p l e R s m args below meth c H1 locs1 (cells + mc) (slots + ms) Q (F0 m pc ls rest) q9)
    (kk : ∀ (r : Int32) (u : S) (t : State) (H1 : Heap) (locs1 : List Loc), t.heap = H1 → s.vm.Alike t.vm → post r u → B u t → H.size ≤ H1.size → (∀ q : Nat, q < H.size → ¬ A1 q → H1[q]? = H[q]?) → va_S A0 H0 H1 locs1 → W p l e R s m args below meth c H1 locs1 (cells + mc) (slots + ms) Q (F0 m (pc + 3) ls (.int r :: rest))) : W p l e R s m args below meth c H locs cells slots Q (F0 m pc ls st0) := by
  intro T hT X
  rcases hr T hT X with ⟨v, st₀, t, T', L, h0, X', hL, e1, e2, ⟨⟨r, u, hv, hp, hb⟩, hF⟩, st⟩ | ⟨q, st₀, t, T', L, E, ce, h0, X', hL, e1, e2, ⟨u, hp, hb, hF⟩, hce, hcv, hcl, st⟩
  · cases hv
    obtain ⟨k1, k2, k3⟩ := vx_keep h0 e1 hS hA hf hL hF
    obtain ⟨t2, a1, b1⟩ := kk r u t T'.heap (locs ++ L) e1.symm (by rw [← e2]; exact X'.warmed.alike) hp hb k1 k2 k3 T' rfl X'
    exact ⟨t2, st t2 a1, b1⟩
  · obtain ⟨k1, k2, k3⟩ := vx_keep h0 e1 hS hAX hf hL hF
    obtain ⟨t2, a1, b1⟩ := kx E ce q u t T'.heap (locs ++ L) e1.symm (by rw [← e2]; exact X'.warmed.alike) hp hb k1 k2 k3 (by rw [e1]; exact hce) hcv hcl T' rfl X'
    exact ⟨t2, st.trans a1, b1⟩
theorem vx_calll {S SX : Type} {post : Int64 → S → Prop} {px : SX → Prop} {B : S → State → Prop} {BX : String → SX → State → Prop} {AX : Nat → Prop} (hr : vx_Run p l e R s m args below meth c H locs cells slots mc ms (F0 m pc ls st0) rest (va_Ql post B A1 a) (vx_X px BX AX) free) (hS : va_S A0 H0 H locs) (hA : ∀ q, q < H.size → A1 q → A0 q) (hf : ∀ q, free q → A0 q) (hAX : ∀ q, q < H.size → AX q → A0 q)
    (kx : ∀ (E : String) (ce : Cell) (q9 : Addr) (u : SX) (t : State) (H1 : Heap) (locs1 : List Loc), t.heap = H1 → s.vm.Alike t.vm → px u → BX E u t → H.size ≤ H1.size → (∀ q : Nat, q < H.size → ¬ AX q → H1[q]? = H[q]?) → va_S A0 H0 H1 locs1 → H1[q9]? = some ce → ce.vm = .none → s.vm.findClass E = some ce.cls → vx_W p l e R s m args below meth c H1 locs1 (cells + mc) (slots + ms) Q (F0 m pc ls rest) q9)
    (kk : ∀ (r : Int64) (u : S) (t : State) (H1 : Heap) (locs1 : List Loc), t.heap = H1 → s.vm.Alike t.vm → post r u → B u t → H.size ≤ H1.size → (∀ q : Nat, q < H.size → ¬ A1 q → H1[q]? = H[q]?) → va_S A0 H0 H1 locs1 → W p l e R s m args below meth c H1 locs1 (cells + mc) (slots + ms) Q (F0 m (pc + 3) ls (.long r :: rest))) : W p l e R s m args below meth c H locs cells slots Q (F0 m pc ls st0) := by
  intro T hT X
  rcases hr T hT X with ⟨v, st₀, t, T', L, h0, X', hL, e1, e2, ⟨⟨r, u, hv, hp, hb⟩, hF⟩, st⟩ | ⟨q, st₀, t, T', L, E, ce, h0, X', hL, e1, e2, ⟨u, hp, hb, hF⟩, hce, hcv, hcl, st⟩
  · cases hv
    obtain ⟨k1, k2, k3⟩ := vx_keep h0 e1 hS hA hf hL hF
    obtain ⟨t2, a1, b1⟩ := kk r u t T'.heap (locs ++ L) e1.symm (by rw [← e2]; exact X'.warmed.alike) hp hb k1 k2 k3 T' rfl X'
    exact ⟨t2, st t2 a1, b1⟩
  · obtain ⟨k1, k2, k3⟩ := vx_keep h0 e1 hS hAX hf hL hF
    obtain ⟨t2, a1, b1⟩ := kx E ce q u t T'.heap (locs ++ L) e1.symm (by rw [← e2]; exact X'.warmed.alike) hp hb k1 k2 k3 (by rw [e1]; exact hce) hcv hcl T' rfl X'
    exact ⟨t2, st.trans a1, b1⟩
theorem vx_callf {S SX : Type} {post : UInt32 → S → Prop} {px : SX → Prop} {B : S → State → Prop} {BX : String → SX → State → Prop} {AX : Nat → Prop} (hr : vx_Run p l e R s m args below meth c H locs cells slots mc ms (F0 m pc ls st0) rest (va_Qf post B A1 a) (vx_X px BX AX) free) (hS : va_S A0 H0 H locs) (hA : ∀ q, q < H.size → A1 q → A0 q) (hf : ∀ q, free q → A0 q) (hAX : ∀ q, q < H.size → AX q → A0 q)
    (kx : ∀ (E : String) (ce : Cell) (q9 : Addr) (u : SX) (t : State) (H1 : Heap) (locs1 : List Loc), t.heap = H1 → s.vm.Alike t.vm → px u → BX E u t → H.size ≤ H1.size → (∀ q : Nat, q < H.size → ¬ AX q → H1[q]? = H[q]?) → va_S A0 H0 H1 locs1 → H1[q9]? = some ce → ce.vm = .none → s.vm.findClass E = some ce.cls → vx_W p l e R s m args below meth c H1 locs1 (cells + mc) (slots + ms) Q (F0 m pc ls rest) q9)
    (kk : ∀ (r : UInt32) (u : S) (t : State) (H1 : Heap) (locs1 : List Loc), t.heap = H1 → s.vm.Alike t.vm → post r u → B u t → H.size ≤ H1.size → (∀ q : Nat, q < H.size → ¬ A1 q → H1[q]? = H[q]?) → va_S A0 H0 H1 locs1 → W p l e R s m args below meth c H1 locs1 (cells + mc) (slots + ms) Q (F0 m (pc + 3) ls (.float r :: rest))) : W p l e R s m args below meth c H locs cells slots Q (F0 m pc ls st0) := by
  intro T hT X
  rcases hr T hT X with ⟨v, st₀, t, T', L, h0, X', hL, e1, e2, ⟨⟨r, u, hv, hp, hb⟩, hF⟩, st⟩ | ⟨q, st₀, t, T', L, E, ce, h0, X', hL, e1, e2, ⟨u, hp, hb, hF⟩, hce, hcv, hcl, st⟩
  · cases hv
    obtain ⟨k1, k2, k3⟩ := vx_keep h0 e1 hS hA hf hL hF
    obtain ⟨t2, a1, b1⟩ := kk r u t T'.heap (locs ++ L) e1.symm (by rw [← e2]; exact X'.warmed.alike) hp hb k1 k2 k3 T' rfl X'
    exact ⟨t2, st t2 a1, b1⟩
  · obtain ⟨k1, k2, k3⟩ := vx_keep h0 e1 hS hAX hf hL hF
    obtain ⟨t2, a1, b1⟩ := kx E ce q u t T'.heap (locs ++ L) e1.symm (by rw [← e2]; exact X'.warmed.alike) hp hb k1 k2 k3 (by rw [e1]; exact hce) hcv hcl T' rfl X'
    exact ⟨t2, st.trans a1, b1⟩
theorem vx_calld {S SX : Type} {post : UInt64 → S → Prop} {px : SX → Prop} {B : S → State → Prop} {BX : String → SX → State → Prop} {AX : Nat → Prop} (hr : vx_Run p l e R s m args below meth c H locs cells slots mc ms (F0 m pc ls st0) rest (va_Qd post B A1 a) (vx_X px BX AX) free) (hS : va_S A0 H0 H locs) (hA : ∀ q, q < H.size → A1 q → A0 q) (hf : ∀ q, free q → A0 q) (hAX : ∀ q, q < H.size → AX q → A0 q)
    (kx : ∀ (E : String) (ce : Cell) (q9 : Addr) (u : SX) (t : State) (H1 : Heap) (locs1 : List Loc), t.heap = H1 → s.vm.Alike t.vm → px u → BX E u t → H.size ≤ H1.size → (∀ q : Nat, q < H.size → ¬ AX q → H1[q]? = H[q]?) → va_S A0 H0 H1 locs1 → H1[q9]? = some ce → ce.vm = .none → s.vm.findClass E = some ce.cls → vx_W p l e R s m args below meth c H1 locs1 (cells + mc) (slots + ms) Q (F0 m pc ls rest) q9)
    (kk : ∀ (r : UInt64) (u : S) (t : State) (H1 : Heap) (locs1 : List Loc), t.heap = H1 → s.vm.Alike t.vm → post r u → B u t → H.size ≤ H1.size → (∀ q : Nat, q < H.size → ¬ A1 q → H1[q]? = H[q]?) → va_S A0 H0 H1 locs1 → W p l e R s m args below meth c H1 locs1 (cells + mc) (slots + ms) Q (F0 m (pc + 3) ls (.double r :: rest))) : W p l e R s m args below meth c H locs cells slots Q (F0 m pc ls st0) := by
  intro T hT X
  rcases hr T hT X with ⟨v, st₀, t, T', L, h0, X', hL, e1, e2, ⟨⟨r, u, hv, hp, hb⟩, hF⟩, st⟩ | ⟨q, st₀, t, T', L, E, ce, h0, X', hL, e1, e2, ⟨u, hp, hb, hF⟩, hce, hcv, hcl, st⟩
  · cases hv
    obtain ⟨k1, k2, k3⟩ := vx_keep h0 e1 hS hA hf hL hF
    obtain ⟨t2, a1, b1⟩ := kk r u t T'.heap (locs ++ L) e1.symm (by rw [← e2]; exact X'.warmed.alike) hp hb k1 k2 k3 T' rfl X'
    exact ⟨t2, st t2 a1, b1⟩
  · obtain ⟨k1, k2, k3⟩ := vx_keep h0 e1 hS hAX hf hL hF
    obtain ⟨t2, a1, b1⟩ := kx E ce q u t T'.heap (locs ++ L) e1.symm (by rw [← e2]; exact X'.warmed.alike) hp hb k1 k2 k3 (by rw [e1]; exact hce) hcv hcl T' rfl X'
    exact ⟨t2, st.trans a1, b1⟩
theorem vx_callv {S SX : Type} {post : S → Prop} {px : SX → Prop} {B : S → State → Prop} {BX : String → SX → State → Prop} {AX : Nat → Prop} (hr : vx_Run p l e R s m args below meth c H locs cells slots mc ms (F0 m pc ls st0) rest (va_Qv post B A1 a) (vx_X px BX AX) free) (hS : va_S A0 H0 H locs) (hA : ∀ q, q < H.size → A1 q → A0 q) (hf : ∀ q, free q → A0 q) (hAX : ∀ q, q < H.size → AX q → A0 q)
    (kx : ∀ (E : String) (ce : Cell) (q9 : Addr) (u : SX) (t : State) (H1 : Heap) (locs1 : List Loc), t.heap = H1 → s.vm.Alike t.vm → px u → BX E u t → H.size ≤ H1.size → (∀ q : Nat, q < H.size → ¬ AX q → H1[q]? = H[q]?) → va_S A0 H0 H1 locs1 → H1[q9]? = some ce → ce.vm = .none → s.vm.findClass E = some ce.cls → vx_W p l e R s m args below meth c H1 locs1 (cells + mc) (slots + ms) Q (F0 m pc ls rest) q9)
    (kk : ∀ (u : S) (t : State) (H1 : Heap) (locs1 : List Loc), t.heap = H1 → s.vm.Alike t.vm → post u → B u t → H.size ≤ H1.size → (∀ q : Nat, q < H.size → ¬ A1 q → H1[q]? = H[q]?) → va_S A0 H0 H1 locs1 → W p l e R s m args below meth c H1 locs1 (cells + mc) (slots + ms) Q (F0 m (pc + 3) ls (rest))) : W p l e R s m args below meth c H locs cells slots Q (F0 m pc ls st0) := by
  intro T hT X
  rcases hr T hT X with ⟨v, st₀, t, T', L, h0, X', hL, e1, e2, ⟨⟨u, hv, hp, hb⟩, hF⟩, st⟩ | ⟨q, st₀, t, T', L, E, ce, h0, X', hL, e1, e2, ⟨u, hp, hb, hF⟩, hce, hcv, hcl, st⟩
  · cases hv
    obtain ⟨k1, k2, k3⟩ := vx_keep h0 e1 hS hA hf hL hF
    obtain ⟨t2, a1, b1⟩ := kk u t T'.heap (locs ++ L) e1.symm (by rw [← e2]; exact X'.warmed.alike) hp hb k1 k2 k3 T' rfl X'
    exact ⟨t2, st t2 a1, b1⟩
  · obtain ⟨k1, k2, k3⟩ := vx_keep h0 e1 hS hAX hf hL hF
    obtain ⟨t2, a1, b1⟩ := kx E ce q u t T'.heap (locs ++ L) e1.symm (by rw [← e2]; exact X'.warmed.alike) hp hb k1 k2 k3 (by rw [e1]; exact hce) hcv hcl T' rfl X'
    exact ⟨t2, st.trans a1, b1⟩
/-- caught by the row x of this method's table; the rows ahead don't take it -/
theorem vx_catch {own name : String} {E : String} {ce : Cell} {q : Addr} (hown : s.vm.findClass own = some m.cls) (pre : List ExceptionTableEntry) (x : ExceptionTableEntry) (suf : List ExceptionTableEntry) (hsplit : c.exceptionTable.toList = pre ++ x :: suf)
    (hpass : ∀ z ∈ pre, covers z pc = false ∨ (z.catchType ≠ 0 ∧ ∃ nm : String, (Cond.classLink own z.catchType nm).before args s = true ∧ va_Nc E nm s)) (hx : covers x pc = true) (h0 : x.catchType ≠ 0)
    (hlink : (Cond.classLink own x.catchType name).before args s = true) (hcast : (Cond.castable E name).before args s = true) (hcell : H[q]? = some ce) (hv : ce.vm = .none) (hcl : s.vm.findClass E = some ce.cls)
    (kk : W p l e R s m args below meth c H locs cells slots Q (F0 m x.handlerPc ls [.ref q])) : vx_W p l e R s m args below meth c H locs cells slots Q (F0 m pc ls rest) q := by
  intro T hT X
  have hpl : e.platform.magicAccessors = ({} : Platform).magicAccessors := by rw [X.admits.platform]
  obtain ⟨c3, c4, hc3, hc4, hasg⟩ := Cond.castable_spec hcast
  cases Option.some.inj (hc3.symm.trans hcl)
  obtain ⟨c5, hc5, hcl5⟩ := Cond.classLink_spec hown hlink e.platform hpl
  cases Option.some.inj (hc4.symm.trans hc5)
  obtain ⟨vm', X', st⟩ := X.thenCaughtThrough q (g := F0 m pc ls rest) rfl (Steps.refl _) (by rw [hT]; exact hcell) (by rw [hv]; rfl) (by obtain ⟨k9, h9, -⟩ := Vm.findClass_spec hcl; exact ⟨k9, h9⟩) pre x suf hsplit
    (fun z hz => by
      rcases hpass z hz with h | ⟨hz0, nm, hl1, hn1⟩
      · exact Or.inl h
      · obtain ⟨c6, hc6, hcl6⟩ := Cond.classLink_spec hown hl1 e.platform hpl
        obtain ⟨a8, b8, h1, h2, h3⟩ := hn1
        cases Option.some.inj (h1.symm.trans hcl)
        cases Option.some.inj (h2.symm.trans hc6)
        exact Or.inr ⟨hz0, _, hcl6, h3⟩) hx (Or.inr ⟨h0, c4, hcl5, hasg⟩)
  obtain ⟨t, a1, b1⟩ := kk (T.setVm vm') hT X'
  exact ⟨t, st.trans a1, b1⟩
end Rows
section Ends
variable {p : Program} {l : Launch} {e : Env} {R : Room} {s : State} {m : MethodId} {args : Array Value} {below : List Frame} {meth : Method} {c : Code} {H : Heap} {locs : List Loc} {cells slots : Nat} {Q : State → Prop}
variable {mc ms : Nat} {free : Addr → Prop} {A0 A1 : Nat → Prop} {H0 : Heap} {a : Array Value} {ls : Array Slot} {st0 rest : List Value}
variable {Qc : Array Value → State → Outcome → State → Prop} {XC : String → State → State → Prop}
/-- what a body that may throw owes at its end -/
def vx_MQ (below : List Frame) (Qc : Array Value → State → Outcome → State → Prop) (XC : String → State → State → Prop) (a : Array Value) (s : State) (mc ms : Nat) (free : Addr → Prop) : State → Prop := fun t =>
  ∃ o, t.status = .running ∧ Ended t below o ∧ vx_Q Qc XC mc ms free a s o t
theorem vx_ret {g : JFrame} {mc ms : Nat} (k : W p l e R s m args below meth c H locs cells slots (MQ below Qc args s mc ms free) g) : W p l e R s m args below meth c H locs cells slots (vx_MQ below Qc XC args s mc ms free) g := by
  intro T hT X
  obtain ⟨t, a1, o, b1, b2, b3, b4⟩ := k T hT X
  exact ⟨t, a1, o, b1, b2, Or.inl ⟨b3, b4⟩⟩
/-- not caught here: it goes on to the caller -/
theorem vx_widen {g : JFrame} {q : Addr} {k n : Nat} (h1 : cells ≤ k) (h2 : slots ≤ n) (kk : vx_W p l e R s m args below meth c H locs k n Q g q) : vx_W p l e R s m args below meth c H locs cells slots Q g q := fun T hT X => kk T hT (stand_widen X h1 h2)
theorem vx_out {pc : Nat} {E : String} {ce : Cell} {q : Addr} {mc ms : Nat} (hout : ∀ x ∈ c.exceptionTable.toList, covers x pc = false) (hlocks : meth.locks = false) (hcell : H[q]? = some ce) (hv : ce.vm = .none) (hcl : s.vm.findClass E = some ce.cls)
    (hx : ∀ t : State, t.heap = H → s.vm.Alike t.vm → XC E s t) (hf : ∀ z ∈ locs, free z.base) (hc : cells ≤ mc) (hs : slots ≤ ms) :
    vx_W p l e R s m args below meth c H locs cells slots (vx_MQ below Qc XC args s mc ms free) (F0 m pc ls rest) q := by
  intro T hT X
  obtain ⟨st1, hrun, hend, hW, hsm⟩ := X.leaveThrown q (g := F0 m pc ls rest) rfl rfl rfl hout hlocks
  have hcell9 : (T.setFrames (.throwing q :: below)).heap[q]? = some ce := by
    show T.heap[q]? = some ce
    rw [hT]; exact hcell
  exact ⟨_, st1, .threw q, hrun, hend, Or.inr ⟨q, rfl, E, ce, locs, hx _ hT hW.alike, hcell9, hv, hcl, hW, hsm.mono hc hs, hf⟩⟩
theorem vx_frame {U : State} {k n : Nat} (h : s.sameButNew ({ U with vm := s.vm } : State) locs k n) : s.heap.size ≤ U.heap.size ∧ ∀ q : Nat, q < s.heap.size → (∀ z ∈ locs, z.base ≠ q) → U.heap[q]? = s.heap[q]? := by
  obtain ⟨-, h2, -, -, -, h6⟩ := h
  refine ⟨h2, fun q hq hz => ?_⟩
  obtain ⟨c9, e1, e2, e3, e4⟩ := h6 q _ (Array.getElem?_eq_getElem hq)
  have hs : c9.slots = (s.heap[q]).slots := Array.ext_getElem? fun i => e4 i fun hm => hz _ hm rfl
  have h9 : c9 = s.heap[q] := by
    rw [hs] at e2
    exact e2
  have e5 : U.heap[q]? = some c9 := e1
  rw [e5, h9, Array.getElem?_eq_getElem hq]
/-- the words of a throw but the four that speak of the heap -/
def vx_no (w : Cond) : Bool := decide (w ≠ .isRef (.static Bundle.tN "UNASSIGNED_STACK" Bundle.steD)) && decide (w ≠ .isRef (.static Bundle.tN "SUPPRESSED_SENTINEL" Bundle.listD)) && decide (w ≠ .laysStatic Bundle.tN "UNASSIGNED_STACK" Bundle.steD) && decide (w ≠ .laysStatic Bundle.tN "SUPPRESSED_SENTINEL" Bundle.listD)
def vx_at0 (own : String) (ic : Nat) (X : String) (names : List String) : List Cond := (Bundle.ownAtoms0 own ic X names).filter vx_no
def vx_atS (own : String) (ic : Nat) (X : String) (names : List String) : List Cond := (Bundle.ownAtoms own ic X names).filter vx_no
/-- a word that the tables alone decide, or a good one -/
def vx_ot (w : Cond) : Bool := w.onTables || goodWord w
theorem vx_ot_at {args a' : Array Value} {s U : State} {w : Cond} (hW : s.WarmedH U.vm) (hvm : s.vm = U.vm) (hg : vx_ot w = true) (h : w.before args s = true) : w.before a' U = true := by
  simp only [vx_ot, Bool.or_eq_true] at hg
  rcases hg with hg | hg
  · exact va_tabs hg hvm h
  · exact word_at hW (good_of_word hg) h
/-- a list's words: the good ones out of the method's own list, the others by premises of their own -/
theorem vx_hat {args : Array Value} {s : State} {L B : List Cond} (h1 : ∀ w ∈ L.filter goodWord, w.before args s = true) (h2 : ∀ w ∈ L.filter (fun w => !goodWord w), w ∈ B) (h3 : ∀ w ∈ B, w.before args s = true) : ∀ w ∈ L, w.before args s = true := by
  intro w hw
  by_cases g : goodWord w = true
  · exact h1 w (List.mem_filter.mpr ⟨hw, g⟩)
  · refine h3 w (h2 w (List.mem_filter.mpr ⟨hw, ?_⟩))
    show (!goodWord w) = true
    cases hgw : goodWord w
    · rfl
    · exact absurd hgw g
theorem vx_c {args : Array Value} {s : State} {w : Cond} {B : List Cond} (h : w.before args s = true) (t : ∀ w ∈ B, w.before args s = true) : ∀ w' ∈ w :: B, w'.before args s = true := fun w' h' => (List.mem_cons.mp h').elim (fun e => by rw [e]; exact h) (t w')
theorem vx_n {args : Array Value} {s : State} : ∀ w ∈ ([] : List Cond), w.before args s = true := fun _ h => nomatch h
theorem vx_own {args : Array Value} {s : State} {L : List Cond} (h1 : ∀ w ∈ L.filter vx_no, w.before args s = true)
    (hU : (Cond.isRef (.static Bundle.tN "UNASSIGNED_STACK" Bundle.steD)).before args s = true) (hN : (Cond.isRef (.static Bundle.tN "SUPPRESSED_SENTINEL" Bundle.listD)).before args s = true)
    (lU : (Cond.laysStatic Bundle.tN "UNASSIGNED_STACK" Bundle.steD).before args s = true) (lN : (Cond.laysStatic Bundle.tN "SUPPRESSED_SENTINEL" Bundle.listD).before args s = true) : ∀ w ∈ L, w.before args s = true := by
  intro w hw
  by_cases e1 : w = .isRef (.static Bundle.tN "UNASSIGNED_STACK" Bundle.steD)
  · rw [e1]; exact hU
  · by_cases e2 : w = .isRef (.static Bundle.tN "SUPPRESSED_SENTINEL" Bundle.listD)
    · rw [e2]; exact hN
    · by_cases e3 : w = .laysStatic Bundle.tN "UNASSIGNED_STACK" Bundle.steD
      · rw [e3]; exact lU
      · by_cases e4 : w = .laysStatic Bundle.tN "SUPPRESSED_SENTINEL" Bundle.listD
        · rw [e4]; exact lN
        · exact h1 w (List.mem_filter.mpr ⟨hw, by unfold vx_no; rw [decide_eq_true e1, decide_eq_true e2, decide_eq_true e3, decide_eq_true e4]; rfl⟩)
/-- where a static field lies, its class's statics cell in H -/
def vx_L (C n d : String) (A : Nat → Prop) (U : State) (H : Heap) : Prop := ∃ (c : ClassId) (k : Class) (i : Nat) (f : Field) (a : Nat) (cell : Cell), U.vm.findClass C = some c ∧ U.fieldFound? C n d = some (c, k, i, f) ∧ f.isStatic = true ∧ k.statics = some a ∧ H[a]? = some cell ∧ cell.vm.isStatics = true ∧ cell.cls = c ∧ f.slot < cell.slots.size ∧ k.staticTypes[f.slot]? = some f.type ∧ ¬ A a
theorem vx_L.moved {C n d : String} {A : Nat → Prop} {u U : State} {H : Heap} (hvm : u.vm.Alike U.vm) (h : vx_L C n d A u H) : vx_L C n d A U H := by
  obtain ⟨c, k, i, f, a, cell, h1, h2, h3, h4, h5, h6, h7, h8, h9, h10⟩ := h
  obtain ⟨k', hi', he⟩ := State.fieldFound?_setVm hvm h2
  exact ⟨c, k', i, f, a, cell, by rw [hvm.findClass]; exact h1, hi', h3, by rw [he]; exact h4, h5, h6, h7, h8, by rw [he]; exact h9, h10⟩
theorem vx_L.kept {C n d : String} {A : Nat → Prop} {U : State} {H H1 : Heap} (h : vx_L C n d A U H) (hq : ∀ a : Nat, a < H.size → ¬ A a → H1[a]? = H[a]?) : vx_L C n d A U H1 := by
  obtain ⟨c, k, i, f, a, cell, h1, h2, h3, h4, h5, h6, h7, h8, h9, h10⟩ := h
  exact ⟨c, k, i, f, a, cell, h1, h2, h3, h4, by rw [hq a (Array.getElem?_eq_some_iff.mp h5).1 h10]; exact h5, h6, h7, h8, h9, h10⟩
theorem vx_L.narrow {C n d : String} {A B : Nat → Prop} {U : State} {H : Heap} (h : vx_L C n d A U H) (hAB : ∀ q, B q → A q) : vx_L C n d B U H := by
  obtain ⟨c, k, i, f, a, cell, h1, h2, h3, h4, h5, h6, h7, h8, h9, h10⟩ := h
  exact ⟨c, k, i, f, a, cell, h1, h2, h3, h4, h5, h6, h7, h8, h9, fun z => h10 (hAB _ z)⟩
theorem vx_L.word {C n d : String} {A : Nat → Prop} {s : State} {args : Array Value} (h : vx_L C n d A s s.heap) : (Cond.laysStatic C n d).before args s = true := by
  obtain ⟨c, k, i, f, a, cell, h1, h2, h3, h4, h5, h6, h7, h8, h9, -⟩ := h
  show (Cond.laysStatic C n d).holds args s none s [] = true
  exact Cond.laysStatic_of h1 h2 h3 h4 h5 h6 h7 h8 h9
/-- .. and what it holds: null or some reference -/
def vx_Zq (C n d : String) (A : Nat → Prop) (U : State) (H : Heap) : Prop := va_Zq C n d A U H ∧ vx_L C n d A U H
theorem vx_Zq.moved {C n d : String} {A : Nat → Prop} {u U : State} {H : Heap} (hvm : u.vm.Alike U.vm) (h : vx_Zq C n d A u H) : vx_Zq C n d A U H := ⟨va_Zq.moved hvm h.1, vx_L.moved hvm h.2⟩
theorem vx_Zq.kept {C n d : String} {A : Nat → Prop} {U : State} {H H1 : Heap} (h : vx_Zq C n d A U H) (hq : ∀ a : Nat, a < H.size → ¬ A a → H1[a]? = H[a]?) : vx_Zq C n d A U H1 := ⟨va_Zq.kept h.1 hq, vx_L.kept h.2 hq⟩
theorem vx_Zq.narrow {C n d : String} {A B : Nat → Prop} {U : State} {H : Heap} (h : vx_Zq C n d A U H) (hAB : ∀ q, B q → A q) : vx_Zq C n d B U H := ⟨va_Zq.narrow h.1 hAB, vx_L.narrow h.2 hAB⟩
theorem vx_Zqof {args : Array Value} {s : State} {C n d : String} {A : Nat → Prop} (hl : (Cond.laysStatic C n d).before args s = true) (hini : (Cond.initialized C).before args s = true) (h : (Cond.isRef (.static C n d)).before args s = true) (hA : ∀ a : Nat, a < s.heap.size → ¬ A a) : vx_Zq C n d A s s.heap := by
  refine ⟨va_Zqof hl hini h hA, ?_⟩
  obtain ⟨c, k, i, f, a, cell, h1, h2, h3, h4, h5, h6, h7, h8, h9⟩ := Cond.laysStatic_spec hl
  exact ⟨c, k, i, f, a, cell, h1, h2, h3, h4, h5, h6, h7, h8, h9, hA a (Array.getElem?_eq_some_iff.mp h5).1⟩
theorem vx_isRef {C n d : String} {v : Value} {A : Nat → Prop} {s : State} {args : Array Value} (h : va_Z C n d v A s s.heap) (hv : v.isRef = true) : (Cond.isRef (.static C n d)).before args s = true := by
  obtain ⟨cf, kf, fi, f, a, cell, h1, h2, h3, h4, h5, h6, h7, -⟩ := h
  have he : (Term.static C n d).eval args s none [] s = some v := by
    simp [Term.eval, State.fieldNamed?, h1, h2, h4, h5, h6, h7]
  simp only [Cond.before, Cond.holds, Cond.value, he]
  cases v <;> simp_all [Value.isRef]
theorem vx_isRefq {C n d : String} {A : Nat → Prop} {s : State} {args : Array Value} (h : va_Zq C n d A s s.heap) : (Cond.isRef (.static C n d)).before args s = true := by
  rcases h with h | ⟨t, h⟩
  · exact vx_isRef h rfl
  · exact vx_isRef h rfl
/-- the same frame, seen from here: as if the method were called anew in this heap -/
theorem vx_rebase {T : State} (X : Stand p l e R s m args below meth c T locs cells slots) {R' : Room} (hf : R'.frames ≤ R.frames) (hl : R'.locals ≤ R.locals) (hc : cells + R'.cells ≤ R.cells) (hs : slots + R'.slots ≤ R.slots) :
    Stand p l e R' ((T.setVm s.vm).setFrames (.invoking m args :: below)) m args below meth c T [] 0 0 := by
  have htop : (T.setVm s.vm).topJava?.isSome := X.here.top
  have hF : ((T.setVm s.vm).setFrames (.invoking m args :: below)).frames = .invoking m args :: below := State.frames_setFrames _ (State.cur_lt_of_top htop)
  obtain ⟨g₀, hg0⟩ := Option.isSome_iff_exists.mp htop
  obtain ⟨r, hr⟩ := State.topJava?_eq_some.mp hg0
  have hl9 : e.platform.stackLimits (T.setVm s.vm).me = e.platform.stackLimits s.me := X.limits
  have hb9 : (T.setVm s.vm).me.stackBytes = s.me.stackBytes := X.bytes
  refine ⟨X.admits, X.cas, X.clock, hF, ?_, X.hears, X.method, X.code, X.here, X.tail, X.warmed, ?_, ?_, ?_⟩
  · have h := X.room
    have hU : ((T.setVm s.vm).setFrames (.invoking m args :: below)).localsInUse = s.localsInUse := by
      rw [State.localsInUse_invoking hF (meth := meth) (c := c) X.method X.code, State.localsInUse_invoking X.frames X.method X.code]
    simp only [State.hasRoom, Bool.and_eq_true, decide_eq_true_eq] at h ⊢
    obtain ⟨⟨⟨⟨h1, h2, h3, h4, h5, h6⟩, h7⟩, h8⟩, h9⟩ := h
    rw [X.frames, List.length_cons] at h2 h3
    have q1 := X.heapSize
    have q2 := X.used
    simp only [hF, hU, List.length_cons, State.stackLimits_setFrames, State.stackBytes_setFrames, hl9, hb9]
    refine ⟨⟨⟨⟨by omega, by omega, by omega, by omega, by omega, h6⟩, ?_⟩, ?_⟩, X.book⟩
    · show T.heap.size + R'.cells ≤ e.platform.maxCells
      omega
    · show T.slotsUsed + R'.slots ≤ e.platform.maxSlots
      omega
  · rw [State.stackLimits_setFrames]; rfl
  · rw [State.stackBytes_setFrames]; rfl
  · refine ⟨?_, Nat.le_refl _, Nat.le_refl _, ?_, ?_, fun a c9 h9 => ⟨c9, h9, rfl, rfl, fun _ _ => rfl⟩⟩
    · obtain ⟨t, ht, -⟩ := State.frames_cons hr
      show T.setVm s.vm = { ((T.setVm s.vm).setFrames (.invoking m args :: below)).setFrames (T.setVm s.vm).frames with heap := T.heap, slotsUsed := T.slotsUsed }
      rw [State.setFrames_setFrames, State.setFrames_self ht]
      rfl
    · show T.slotsUsed = T.slotsUsed + ((T.heap.toList.drop T.heap.size).map (·.slots.size)).sum
      rw [List.drop_eq_nil_of_le (Nat.le_of_eq Array.length_toList)]
      rfl
    · show ((T.heap.toList.drop T.heap.size).map (·.slots.size)).sum ≤ 0
      rw [List.drop_eq_nil_of_le (Nat.le_of_eq Array.length_toList)]
      exact Nat.le_refl _
/-- 'throw new E()': new; dup; invokespecial; athrow -/
theorem vx_throw0 {cc : ByteArray} {pc : Nat} (hexec : p.tables.exec = Jvm.exec) (hb : c.code = cc) (hl : l.stackTraces = false) {own cls : String} {names : List String} {ik ic mc ms : Nat} {A : Nat → Prop}
    (hown : s.vm.findClass own = some m.cls) (hcls : Bundle.fit cls = true) (hnames : ∀ n ∈ names, Bundle.fit n = true)
    (hk : (Cond.classLink own ik cls).before args s = true) (hini : (Cond.initialized cls).before args s = true) (hat : ∀ w ∈ vx_at0 own ic cls names, w.before args s = true)
    (hgood : ∀ w ∈ Cond.classLink own ik cls :: Cond.initialized cls :: vx_at0 own ic cls names, vx_ot w = true)
    (hU : vx_Zq Bundle.tN "UNASSIGNED_STACK" Bundle.steD A s s.heap) (hN : vx_Zq Bundle.tN "SUPPRESSED_SENTINEL" Bundle.listD A s s.heap) (hS : va_S A s.heap H locs) (hsize : ls.size = c.maxLocals)
    (d0 : decode cc pc = .ok (.new ik, 3)) (d3 : decode cc (pc + 3) = .ok (.dup, 1)) (d4 : decode cc (pc + 4) = .ok (.invokespecial ic, 3)) (d7 : decode cc (pc + 7) = .ok (.athrow, 1))
    (hout : ∀ x ∈ c.exceptionTable.toList, covers x (pc + 7) = false)
    (hRframes : names.length + 3 < R.frames) (hRlocals : (rest.map fun v => v.category).sum + (13 * (names.length + 1) + 42) ≤ R.locals) (hRcells : cells + 1 ≤ R.cells) (hRslots : slots + 6 ≤ R.slots) (hlocks : meth.locks = false)
    (hx : ∀ t : State, s.vm.Alike t.vm → H.size ≤ t.heap.size → (∀ q : Nat, q < H.size → t.heap[q]? = H[q]?) → XC cls s t)
    (hf : ∀ z ∈ locs, free z.base) (hc : cells + 1 ≤ mc) (hs : slots + 6 ≤ ms) :
    W p l e R s m args below meth c H locs cells slots (vx_MQ below Qc XC args s mc ms free) (F0 m pc ls rest) := by
  intro T hT X
  have htr : e.platform.stackTraces = false := (show e.platform.stackTraces = l.stackTraces by rw [X.admits.platform]).trans hl
  have Y := vx_rebase X (R' := { frames := R.frames, locals := R.locals, cells := 1, slots := 6 }) (Nat.le_refl _) (Nat.le_refl _) hRcells hRslots
  obtain ⟨s', hA⟩ : ∃ z, z = (T.setVm s.vm).setFrames (.invoking m args :: below) := ⟨_, rfl⟩
  rw [← hA] at Y
  have hvm : s'.vm = s.vm := by rw [hA]; rfl
  have hhp : s'.heap = H := by rw [hA]; exact hT
  have hW0 : s.WarmedH s'.vm := by rw [hvm]; exact State.WarmedH.refl s
  have hat' : ∀ w ∈ vx_at0 own ic cls names, w.before args s' = true := fun w hw => vx_ot_at hW0 hvm.symm (hgood w (List.mem_cons_of_mem _ (List.mem_cons_of_mem _ hw))) (hat w hw)
  have hk' : (Cond.classLink own ik cls).before args s' = true := vx_ot_at hW0 hvm.symm (hgood _ List.mem_cons_self) hk
  have hini' : (Cond.initialized cls).before args s' = true := vx_ot_at hW0 hvm.symm (hgood _ (List.mem_cons_of_mem _ List.mem_cons_self)) hini
  have hU' : vx_Zq Bundle.tN "UNASSIGNED_STACK" Bundle.steD A s' s'.heap := by rw [hhp]; exact vx_Zq.moved hW0.alike (hU.kept hS.2.1)
  have hN' : vx_Zq Bundle.tN "SUPPRESSED_SENTINEL" Bundle.listD A s' s'.heap := by rw [hhp]; exact vx_Zq.moved hW0.alike (hN.kept hS.2.1)
  have h : ∀ w ∈ Bundle.ownAtoms0 own ic cls names, w.before args s' = true := vx_own hat' (vx_isRefq hU'.1) (vx_isRefq hN'.1) hU'.2.word hN'.2.word
  have hown' : s'.vm.findClass own = some m.cls := by rw [hvm]; exact hown
  have hins : (Cond.instantiable cls 6).before args s' = true := h _ (by simp [Bundle.ownAtoms0])
  obtain ⟨vm₁, cX, kX, hfX, hkX, -, -, X₁, st1⟩ := Y.newCold hexec (own := own) (C := cls) (index := ik) (n := 6) hown' hk' hins hini'
    (g := F0 m pc ls rest) rfl (by rw [hb]; exact d0) (Nat.le_refl _) (Nat.le_refl _)
  generalize hT1 : (T.setVm vm₁).pushCell { cls := cX, slots := kX.instanceTypes.map defaultValue, vm := .none } = T1 at X₁ st1
  have hcat : (Value.ref T.heap.size).category = 1 := rfl
  have hcellA : T1.heap[T.heap.size]? = some (freshCell cX kX) := by rw [← hT1]; exact State.heap_pushCell_size _ _
  have d3' : decode c.code (pc + 3) = .ok (.dup, 1) := by rw [hb]; exact d3
  obtain ⟨U, hsteps, hrun, hend, hW, hsame, ce, hce, hO⟩ := X₁.ctorThrow0 hexec htr (own := own) (cls := cls) (names := names) (ic := ic) hown' hcls hnames h (fun x hx => nomatch hx) hfX hkX hcellA (by rw [hhp, hT]; exact Nat.le_refl _)
    (g := { method := m, pc := pc + 4, locals := ls, stack := .ref T.heap.size :: .ref T.heap.size :: rest, locked := none }) rfl hsize rfl rfl (rest := rest) rfl
    (by rw [hb]; exact d4) (by rw [hb]; exact d7) hout hRframes (by simp only [List.map_cons, List.sum_cons, hcat]; omega) hlocks
  obtain ⟨f1, f2⟩ := vx_frame hsame
  rw [hhp] at f1 f2
  have hWs : s.WarmedH U.vm := State.WarmedH.trans hW0 hW
  have hcl : s.vm.findClass cls = some ce.cls := by
    have h9 := hO.cls
    rw [hvm] at h9
    exact h9
  have hall : s.sameButNew ({ U with vm := s.vm } : State) locs mc ms := by
    subst hA
    obtain ⟨e1, e2⟩ := hsame
    rw [State.setFrames_setFrames] at e1
    have h2 : (T.setVm s.vm).sameButNew ({ U with vm := s.vm } : State) [] (0 + 1) (0 + 6) := ⟨e1, e2⟩
    have h3 := X.same.trans h2
    rw [List.append_nil] at h3
    exact h3.mono hc hs
  refine ⟨U, ?_, .threw T.heap.size, hrun, hend, Or.inr ⟨T.heap.size, rfl, cls, ce, locs, hx U hWs.alike f1 (fun q hq => f2 q hq (fun z hz => nomatch hz)), hce, hO.vm, hcl, hWs, hall, hf⟩⟩
  refine st1 _ ?_
  show Steps p.tables e below (T1.setTop { method := m, pc := pc + 3, locals := ls, stack := .ref T.heap.size :: rest, locked := none }) _
  jvm_step X₁.here [X₁.here.top, hexec, d3', Value.category]
  exact hsteps
/-- 'throw new E("text")': new; dup; ldc; invokespecial; athrow -/
theorem vx_throwS {cc : ByteArray} {pc : Nat} (hexec : p.tables.exec = Jvm.exec) (hb : c.code = cc) (hl : l.stackTraces = false) {own cls text : String} {names : List String} {ik is ic mc ms sa : Nat} {A : Nat → Prop}
    (hown : s.vm.findClass own = some m.cls) (hcls : Bundle.fit cls = true) (hnames : ∀ n ∈ names, Bundle.fit n = true)
    (hk : (Cond.classLink own ik cls).before args s = true) (hini : (Cond.initialized cls).before args s = true) (hstr : vk_R own is text sa s) (hat : ∀ w ∈ vx_atS own ic cls names, w.before args s = true)
    (hgood : ∀ w ∈ Cond.classLink own ik cls :: Cond.initialized cls :: vx_atS own ic cls names, vx_ot w = true)
    (hU : vx_Zq Bundle.tN "UNASSIGNED_STACK" Bundle.steD A s s.heap) (hN : vx_Zq Bundle.tN "SUPPRESSED_SENTINEL" Bundle.listD A s s.heap) (hS : va_S A s.heap H locs) (hsize : ls.size = c.maxLocals)
    (d0 : decode cc pc = .ok (.new ik, 3)) (d3 : decode cc (pc + 3) = .ok (.dup, 1)) (d4 : decode cc (pc + 4) = .ok (.ldc is, 2)) (d6 : decode cc (pc + 6) = .ok (.invokespecial ic, 3)) (d9 : decode cc (pc + 9) = .ok (.athrow, 1))
    (hout : ∀ x ∈ c.exceptionTable.toList, covers x (pc + 9) = false)
    (hRframes : names.length + 3 < R.frames) (hRlocals : (rest.map fun v => v.category).sum + (13 * (names.length + 1) + 43) ≤ R.locals) (hRcells : cells + 1 ≤ R.cells) (hRslots : slots + 6 ≤ R.slots) (hlocks : meth.locks = false)
    (hx : ∀ t : State, s.vm.Alike t.vm → H.size ≤ t.heap.size → (∀ q : Nat, q < H.size → t.heap[q]? = H[q]?) → XC cls s t)
    (hf : ∀ z ∈ locs, free z.base) (hc : cells + 1 ≤ mc) (hs : slots + 6 ≤ ms) :
    W p l e R s m args below meth c H locs cells slots (vx_MQ below Qc XC args s mc ms free) (F0 m pc ls rest) := by
  intro T hT X
  have htr : e.platform.stackTraces = false := (show e.platform.stackTraces = l.stackTraces by rw [X.admits.platform]).trans hl
  have Y := vx_rebase X (R' := { frames := R.frames, locals := R.locals, cells := 1, slots := 6 }) (Nat.le_refl _) (Nat.le_refl _) hRcells hRslots
  obtain ⟨s', hA⟩ : ∃ z, z = (T.setVm s.vm).setFrames (.invoking m args :: below) := ⟨_, rfl⟩
  rw [← hA] at Y
  have hvm : s'.vm = s.vm := by rw [hA]; rfl
  have hhp : s'.heap = H := by rw [hA]; exact hT
  have hW0 : s.WarmedH s'.vm := by rw [hvm]; exact State.WarmedH.refl s
  have hat' : ∀ w ∈ vx_atS own ic cls names, w.before args s' = true := fun w hw => vx_ot_at hW0 hvm.symm (hgood w (List.mem_cons_of_mem _ (List.mem_cons_of_mem _ hw))) (hat w hw)
  have hk' : (Cond.classLink own ik cls).before args s' = true := vx_ot_at hW0 hvm.symm (hgood _ List.mem_cons_self) hk
  have hini' : (Cond.initialized cls).before args s' = true := vx_ot_at hW0 hvm.symm (hgood _ (List.mem_cons_of_mem _ List.mem_cons_self)) hini
  have hU' : vx_Zq Bundle.tN "UNASSIGNED_STACK" Bundle.steD A s' s'.heap := by rw [hhp]; exact vx_Zq.moved hW0.alike (hU.kept hS.2.1)
  have hN' : vx_Zq Bundle.tN "SUPPRESSED_SENTINEL" Bundle.listD A s' s'.heap := by rw [hhp]; exact vx_Zq.moved hW0.alike (hN.kept hS.2.1)
  have h : ∀ w ∈ Bundle.ownAtoms own ic cls names, w.before args s' = true := vx_own hat' (vx_isRefq hU'.1) (vx_isRefq hN'.1) hU'.2.word hN'.2.word
  have hown' : s'.vm.findClass own = some m.cls := by rw [hvm]; exact hown
  have hins : (Cond.instantiable cls 6).before args s' = true := h _ (by simp [Bundle.ownAtoms])
  obtain ⟨vm₁, cX, kX, hfX, hkX, -, -, X₁, st1⟩ := Y.newCold hexec (own := own) (C := cls) (index := ik) (n := 6) hown' hk' hins hini'
    (g := F0 m pc ls rest) rfl (by rw [hb]; exact d0) (Nat.le_refl _) (Nat.le_refl _)
  generalize hT1 : (T.setVm vm₁).pushCell { cls := cX, slots := kX.instanceTypes.map defaultValue, vm := .none } = T1 at X₁ st1
  have hcat : (Value.ref T.heap.size).category = 1 := rfl
  have hcellA : T1.heap[T.heap.size]? = some (freshCell cX kX) := by rw [← hT1]; exact State.heap_pushCell_size _ _
  have d3' : decode c.code (pc + 3) = .ok (.dup, 1) := by rw [hb]; exact d3
  have d4' : decode c.code (pc + 4) = .ok (.ldc is, 2) := by rw [hb]; exact d4
  have hstr' : vk_R own is text sa s' := vk_R.warm hW0 hstr
  obtain ⟨U, hsteps, hrun, hend, hW, hsame, ce, hce, hO⟩ := X₁.ctorThrowS hexec htr (own := own) (cls := cls) (names := names) (ic := ic) hown' hcls hnames h (fun x hx => nomatch hx) hfX hkX hcellA (by rw [hhp, hT]; exact Nat.le_refl _) (msg := .ref sa) rfl
    (g := { method := m, pc := pc + 6, locals := ls, stack := .ref sa :: .ref T.heap.size :: .ref T.heap.size :: rest, locked := none }) rfl hsize rfl rfl (rest := rest) rfl
    (by rw [hb]; exact d6) (by rw [hb]; exact d9) hout hRframes (by simp only [List.map_cons, List.sum_cons, hcat]; omega) hlocks
  obtain ⟨f1, f2⟩ := vx_frame hsame
  rw [hhp] at f1 f2
  have hWs : s.WarmedH U.vm := State.WarmedH.trans hW0 hW
  have hcl : s.vm.findClass cls = some ce.cls := by
    have h9 := hO.cls
    rw [hvm] at h9
    exact h9
  have hall : s.sameButNew ({ U with vm := s.vm } : State) locs mc ms := by
    subst hA
    obtain ⟨e1, e2⟩ := hsame
    rw [State.setFrames_setFrames] at e1
    have h2 : (T.setVm s.vm).sameButNew ({ U with vm := s.vm } : State) [] (0 + 1) (0 + 6) := ⟨e1, e2⟩
    have h3 := X.same.trans h2
    rw [List.append_nil] at h3
    exact h3.mono hc hs
  refine ⟨U, ?_, .threw T.heap.size, hrun, hend, Or.inr ⟨T.heap.size, rfl, cls, ce, locs, hx U hWs.alike f1 (fun q hq => f2 q hq (fun z hz => nomatch hz)), hce, hO.vm, hcl, hWs, hall, hf⟩⟩
  refine st1 _ ?_
  show Steps p.tables e below (T1.setTop { method := m, pc := pc + 3, locals := ls, stack := .ref T.heap.size :: rest, locked := none }) _
  jvm_step X₁.here [X₁.here.top, hexec, d3', Value.category]
  exact X₁.ldcString hexec (own := own) (text := text) (index := is) (a := sa) hown' hstr'.1 hstr'.2
    (g := { method := m, pc := pc + 4, locals := ls, stack := .ref T.heap.size :: .ref T.heap.size :: rest, locked := none }) rfl d4' _ hsteps
/-- 'throw new E("text")', the text by a wide index -/
theorem vx_throwSW {cc : ByteArray} {pc : Nat} (hexec : p.tables.exec = Jvm.exec) (hb : c.code = cc) (hl : l.stackTraces = false) {own cls text : String} {names : List String} {ik is ic mc ms sa : Nat} {A : Nat → Prop}
    (hown : s.vm.findClass own = some m.cls) (hcls : Bundle.fit cls = true) (hnames : ∀ n ∈ names, Bundle.fit n = true)
    (hk : (Cond.classLink own ik cls).before args s = true) (hini : (Cond.initialized cls).before args s = true) (hstr : vk_R own is text sa s) (hat : ∀ w ∈ vx_atS own ic cls names, w.before args s = true)
    (hgood : ∀ w ∈ Cond.classLink own ik cls :: Cond.initialized cls :: vx_atS own ic cls names, vx_ot w = true)
    (hU : vx_Zq Bundle.tN "UNASSIGNED_STACK" Bundle.steD A s s.heap) (hN : vx_Zq Bundle.tN "SUPPRESSED_SENTINEL" Bundle.listD A s s.heap) (hS : va_S A s.heap H locs) (hsize : ls.size = c.maxLocals)
    (d0 : decode cc pc = .ok (.new ik, 3)) (d3 : decode cc (pc + 3) = .ok (.dup, 1)) (d4 : decode cc (pc + 4) = .ok (.ldc_w is, 3)) (d7 : decode cc (pc + 7) = .ok (.invokespecial ic, 3)) (d10 : decode cc (pc + 10) = .ok (.athrow, 1))
    (hout : ∀ x ∈ c.exceptionTable.toList, covers x (pc + 10) = false)
    (hRframes : names.length + 3 < R.frames) (hRlocals : (rest.map fun v => v.category).sum + (13 * (names.length + 1) + 43) ≤ R.locals) (hRcells : cells + 1 ≤ R.cells) (hRslots : slots + 6 ≤ R.slots) (hlocks : meth.locks = false)
    (hx : ∀ t : State, s.vm.Alike t.vm → H.size ≤ t.heap.size → (∀ q : Nat, q < H.size → t.heap[q]? = H[q]?) → XC cls s t)
    (hf : ∀ z ∈ locs, free z.base) (hc : cells + 1 ≤ mc) (hs : slots + 6 ≤ ms) :
    W p l e R s m args below meth c H locs cells slots (vx_MQ below Qc XC args s mc ms free) (F0 m pc ls rest) := by
  intro T hT X
  have htr : e.platform.stackTraces = false := (show e.platform.stackTraces = l.stackTraces by rw [X.admits.platform]).trans hl
  have Y := vx_rebase X (R' := { frames := R.frames, locals := R.locals, cells := 1, slots := 6 }) (Nat.le_refl _) (Nat.le_refl _) hRcells hRslots
  obtain ⟨s', hA⟩ : ∃ z, z = (T.setVm s.vm).setFrames (.invoking m args :: below) := ⟨_, rfl⟩
  rw [← hA] at Y
  have hvm : s'.vm = s.vm := by rw [hA]; rfl
  have hhp : s'.heap = H := by rw [hA]; exact hT
  have hW0 : s.WarmedH s'.vm := by rw [hvm]; exact State.WarmedH.refl s
  have hat' : ∀ w ∈ vx_atS own ic cls names, w.before args s' = true := fun w hw => vx_ot_at hW0 hvm.symm (hgood w (List.mem_cons_of_mem _ (List.mem_cons_of_mem _ hw))) (hat w hw)
  have hk' : (Cond.classLink own ik cls).before args s' = true := vx_ot_at hW0 hvm.symm (hgood _ List.mem_cons_self) hk
  have hini' : (Cond.initialized cls).before args s' = true := vx_ot_at hW0 hvm.symm (hgood _ (List.mem_cons_of_mem _ List.mem_cons_self)) hini
  have hU' : vx_Zq Bundle.tN "UNASSIGNED_STACK" Bundle.steD A s' s'.heap := by rw [hhp]; exact vx_Zq.moved hW0.alike (hU.kept hS.2.1)
  have hN' : vx_Zq Bundle.tN "SUPPRESSED_SENTINEL" Bundle.listD A s' s'.heap := by rw [hhp]; exact vx_Zq.moved hW0.alike (hN.kept hS.2.1)
  have h : ∀ w ∈ Bundle.ownAtoms own ic cls names, w.before args s' = true := vx_own hat' (vx_isRefq hU'.1) (vx_isRefq hN'.1) hU'.2.word hN'.2.word
  have hown' : s'.vm.findClass own = some m.cls := by rw [hvm]; exact hown
  have hins : (Cond.instantiable cls 6).before args s' = true := h _ (by simp [Bundle.ownAtoms])
  obtain ⟨vm₁, cX, kX, hfX, hkX, -, -, X₁, st1⟩ := Y.newCold hexec (own := own) (C := cls) (index := ik) (n := 6) hown' hk' hins hini'
    (g := F0 m pc ls rest) rfl (by rw [hb]; exact d0) (Nat.le_refl _) (Nat.le_refl _)
  generalize hT1 : (T.setVm vm₁).pushCell { cls := cX, slots := kX.instanceTypes.map defaultValue, vm := .none } = T1 at X₁ st1
  have hcat : (Value.ref T.heap.size).category = 1 := rfl
  have hcellA : T1.heap[T.heap.size]? = some (freshCell cX kX) := by rw [← hT1]; exact State.heap_pushCell_size _ _
  have d3' : decode c.code (pc + 3) = .ok (.dup, 1) := by rw [hb]; exact d3
  have d4' : decode c.code (pc + 4) = .ok (.ldc_w is, 3) := by rw [hb]; exact d4
  have hstr' : vk_R own is text sa s' := vk_R.warm hW0 hstr
  obtain ⟨U, hsteps, hrun, hend, hW, hsame, ce, hce, hO⟩ := X₁.ctorThrowS hexec htr (own := own) (cls := cls) (names := names) (ic := ic) hown' hcls hnames h (fun x hx => nomatch hx) hfX hkX hcellA (by rw [hhp, hT]; exact Nat.le_refl _) (msg := .ref sa) rfl
    (g := { method := m, pc := pc + 7, locals := ls, stack := .ref sa :: .ref T.heap.size :: .ref T.heap.size :: rest, locked := none }) rfl hsize rfl rfl (rest := rest) rfl
    (by rw [hb]; exact d7) (by rw [hb]; exact d10) hout hRframes (by simp only [List.map_cons, List.sum_cons, hcat]; omega) hlocks
  obtain ⟨f1, f2⟩ := vx_frame hsame
  rw [hhp] at f1 f2
  have hWs : s.WarmedH U.vm := State.WarmedH.trans hW0 hW
  have hcl : s.vm.findClass cls = some ce.cls := by
    have h9 := hO.cls
    rw [hvm] at h9
    exact h9
  have hall : s.sameButNew ({ U with vm := s.vm } : State) locs mc ms := by
    subst hA
    obtain ⟨e1, e2⟩ := hsame
    rw [State.setFrames_setFrames] at e1
    have h2 : (T.setVm s.vm).sameButNew ({ U with vm := s.vm } : State) [] (0 + 1) (0 + 6) := ⟨e1, e2⟩
    have h3 := X.same.trans h2
    rw [List.append_nil] at h3
    exact h3.mono hc hs
  refine ⟨U, ?_, .threw T.heap.size, hrun, hend, Or.inr ⟨T.heap.size, rfl, cls, ce, locs, hx U hWs.alike f1 (fun q hq => f2 q hq (fun z hz => nomatch hz)), hce, hO.vm, hcl, hWs, hall, hf⟩⟩
  refine st1 _ ?_
  show Steps p.tables e below (T1.setTop { method := m, pc := pc + 3, locals := ls, stack := .ref T.heap.size :: rest, locked := none }) _
  jvm_step X₁.here [X₁.here.top, hexec, d3', Value.category]
  exact X₁.ldcStringW hexec (own := own) (text := text) (index := is) (a := sa) hown' hstr'.1 hstr'.2
    (g := { method := m, pc := pc + 4, locals := ls, stack := .ref T.heap.size :: .ref T.heap.size :: rest, locked := none }) rfl d4' _ hsteps
end Ends
section Bodies
variable {l : Launch}
theorem vx_ofW {y : MethodName} {ws ws' : List Cond} {rm : Room} {Pc : Array Value → State → Prop} {Qc : Array Value → State → Outcome → State → Prop} {XC : String → State → State → Prop} {mc ms : Nat} {free : Addr → Prop} {cc : ByteArray} {maxL : Nat} {ret : Option FieldType}
    (hy : plainName y.cls = true) (hw : ws = Cond.code y cc maxL ret :: ws')
    (body : ∀ p e s m args below meth c s₁, BodyLoose p l y (headSpec ws rm) cc maxL ret e s m args below meth c s₁ → c.maxLocals = maxL → (∀ x ∈ c.exceptionTable.toList, False) → Pc args s →
      W p l e (headSpec ws rm).room s m args below meth c s.heap [] 0 0 (vx_MQ below Qc XC args s mc ms free) (entryFrame m args maxL)) : vx_Met l y ws rm Pc Qc XC mc ms free := by
  refine MetFree.of_bodyS (code := cc) (maxLocals := maxL) (ret := ret) hy ?_ ?_
  · intro args s m h hn
    obtain ⟨meth, c, h1, h2, h3, h4, h5, h6, -, -⟩ := Cond.code_spec hn (atoms_spec (ws := ws) h _ (by rw [hw]; exact List.mem_cons_self))
    exact ⟨meth, c, h1, h2, h3, h4, h5, h6⟩
  · intro p e s m args below meth c s₁ B hml hP _
    have hh0 : s₁.heap = s.heap := by rw [B.state]; rfl
    have ht : ∀ x ∈ c.exceptionTable.toList, False := by
      obtain ⟨meth9, c9, h1, h2, -, -, -, -, h7, -⟩ := Cond.code_spec B.named (atoms_spec (ws := ws) B.pre _ (by rw [hw]; exact List.mem_cons_self))
      cases Option.some.inj (h1.symm.trans B.method)
      cases Option.some.inj (h2.symm.trans (Stand.of_body B).code)
      intro x hx
      rw [Array.isEmpty_iff.mp h7] at hx
      cases hx
    obtain ⟨t, a1, o, b1, b2, b3⟩ := body p e s m args below meth c s₁ B hml ht hP s₁ hh0 (Stand.of_body B)
    exact ⟨t, o, a1, b1, b2, b3⟩
/-- the table of a body with handlers -/
theorem vx_table {p : Program} {x y : MethodName} {S : Spec} {cc bytes : ByteArray} {maxL maxL' : Nat} {ret ret' : Option FieldType} {e : Env} {s s₁ : State} {m : MethodId} {args : Array Value} {below : List Frame} {meth : Method} {c : Code} {hh : List (Nat × Nat × Nat × Nat)}
    (B : BodyLoose p l y S cc maxL ret e s m args below meth c s₁) (h : (Cond.codeWith y bytes maxL' ret' hh).before args s = true) : c.exceptionTable.toList = tableOf hh := by
  obtain ⟨m9, meth9, c9, hn9, h1, h2, -, -, h6, -⟩ := Cond.codeWith_spec h
  cases Option.some.inj (hn9.symm.trans B.named)
  cases Option.some.inj (h1.symm.trans B.method)
  cases Option.some.inj (h2.symm.trans (Stand.of_body B).code)
  rw [← h6, table_eq]
end Bodies
end VXA
/-! ===== END ===== -/
/-! ===== BEGIN a static call of a method with an exception table ===== -/
section VXS
variable {p : Program} {l : Launch} {e : Env} {R : Room} {s : State} {m : MethodId} {args : Array Value} {below : List Frame} {meth : Method} {c : Code} {T : State} {H : Heap} {locs : List Loc} {cells slots : Nat}
abbrev vx_CSW (R : Room) (s : State) (args : Array Value) (own : String) (index : Nat) (y : MethodName) (bytes : ByteArray) (maxL : Nat) (ret : Option FieldType) (hh : List (Nat × Nat × Nat × Nat)) (ws : List Cond) (rm : Room) (mc ms n : Nat) : Prop :=
  (rm.cells = mc ∧ rm.slots = ms ∧ rm.frames + 1 ≤ R.frames ∧ 8 + (maxL + 11) + rm.locals ≤ R.locals ∧ (∀ w ∈ ws, ∀ (a' : Array Value) (U : State), s.WarmedH U.vm → w.before a' U = true) ∧ Cond.codeWith y bytes maxL ret hh ∈ ws) ∧
  (Cond.codeWith y bytes maxL ret hh).before args s = true ∧ (Cond.initialized y.cls).before args s = true ∧ (y.cls ≠ "java/lang/invoke/MethodHandle" ∧ y.cls ≠ "java/lang/invoke/VarHandle") ∧
  (∀ sig, parseMethodDescriptor y.desc = some sig → n = sig.parameters.length) ∧ (Cond.methodLink own index y).before args s = true ∧ (Cond.static y).before args s = true
theorem vx_cwSW {own : String} {index maxL mc ms : Nat} {y : MethodName} {bytes : ByteArray} {ret : Option FieldType} {hh : List (Nat × Nat × Nat × Nat)} {Ts ws ws' : List Cond} {rm : Room} (n : Nat) (ht : ∀ w ∈ Ts, w.before args s = true) (hT : GoodIn Ts (va_wsS own index y ws)) (hw : ws = Cond.codeWith y bytes maxL ret hh :: ws') (hrc : rm.cells = mc) (hrs : rm.slots = ms)
    (hd : y.cls ≠ "java/lang/invoke/MethodHandle" ∧ y.cls ≠ "java/lang/invoke/VarHandle" ∧ (parseMethodDescriptor y.desc).map (fun d => d.parameters.length) = some n) (hR : rm.frames + 1 ≤ R.frames ∧ 8 + (maxL + 11) + rm.locals ≤ R.locals) :
    vx_CSW R s args own index y bytes maxL ret hh ws rm mc ms n := by
  have ok : ∀ w ∈ va_wsS own index y ws, w.before args s = true := fun w h => ht w (hT w h).1
  have hG : GoodIn Ts ws := fun w h => hT w (by unfold va_wsS; exact List.mem_append_right _ h)
  have hc : Cond.codeWith y bytes maxL ret hh ∈ ws := by rw [hw]; exact List.mem_cons_self
  refine ⟨⟨hrc, hrs, hR.1, hR.2, pay_in ht hG, hc⟩, ht _ (hG _ hc).1, ok _ (by simp [va_wsS]), ⟨hd.1, hd.2.1⟩, fun sig h => ?_, ok _ (by simp [va_wsS]), ok _ (by simp [va_wsS])⟩
  have h2 := hd.2.2
  rw [h] at h2
  exact (Option.some.inj h2).symm
theorem vx_callSW (X : Stand p l e R s m args below meth c T locs cells slots) (hexec : p.tables.exec = Jvm.exec) {own : String} {index : Nat} {y : MethodName} {bytes : ByteArray} {maxL : Nat} {ret : Option FieldType} {hh : List (Nat × Nat × Nat × Nat)}
    (hown : s.vm.findClass own = some m.cls) (hlink : (Cond.methodLink own index y).before args s = true) (hstat : (Cond.static y).before args s = true) (hinit : (Cond.initialized y.cls).before args s = true)
    (hcode : (Cond.codeWith y bytes maxL ret hh).before args s = true) (hy : y.cls ≠ "java/lang/invoke/MethodHandle" ∧ y.cls ≠ "java/lang/invoke/VarHandle")
    {W9 : Nat} {Pre : Pt → Array Value → Prop} {Post : Pt → Array Value → Option Value → Pt → Prop} (hK : Back l R p e below s args y 3 W9 Pre Post)
    {g : JFrame} (hg : g.method = m) (hsize : g.locals.size = c.maxLocals) {argsL rest : List Value} (hlen : ∀ sig, parseMethodDescriptor y.desc = some sig → argsL.length = sig.parameters.length)
    (hstack : g.stack = argsL.reverse ++ rest) (hW : 2 * g.monitorRoom + (rest.map fun v => v.category).sum ≤ W9) (hdg : decode c.code g.pc = .ok (.invokestatic index, 3))
    (hpre : ∀ vm₁, s.WarmedH vm₁ → Pre ⟨T.setVm vm₁, locs, cells, slots⟩ argsL.toArray) :
    ∃ (v : Option Value) (vm₁ : Vm) (B : Pt), s.WarmedH vm₁ ∧ Stand p l e R s m args below meth c B.U B.locs B.cells B.slots ∧ Post ⟨T.setVm vm₁, locs, cells, slots⟩ argsL.toArray v B ∧
      ∀ target, Steps p.tables e below (B.U.setTop { g with pc := g.pc + 3, stack := v.toList ++ rest }) target → Steps p.tables e below (T.setTop g) target := by
  obtain ⟨mk, methM, cM, hnamed, hmethM, -, -, -, -, -, -, hsigM⟩ := Cond.codeWith_spec hcode
  have hstatic : methM.isStatic = true := Cond.static_spec hnamed hmethM hstat
  obtain ⟨kP, hkP, -⟩ := className_of_methodNamed hnamed
  have hinitP : kP.init = .initialized := Cond.initialized_spec (findClass_of_methodNamed hnamed) hkP hinit
  obtain ⟨vm₁, X₁, hstep₁⟩ := X.invokestatic hexec hown hlink hnamed hmethM hstatic hkP hinitP hy (g := g) hg (argsL := argsL) (rest := rest) (hlen _ hsigM) hstack hdg
  obtain ⟨v, B, X', hpost, hsteps⟩ := hK m meth c ⟨T.setVm vm₁, locs, cells, slots⟩ { g with stack := rest } (.invokestatic index) mk argsL.toArray X₁ hg hsize hdg hW (X₁.named hnamed) (hpre vm₁ X₁.warmed)
  exact ⟨v, vm₁, B, X₁.warmed, X', hpost, fun target h => hstep₁ _ fun acts => by rw [doInvoke_state]; exact hsteps.trans h⟩
theorem vx_runSW {y : MethodName} {bytes cc : ByteArray} {maxL nL mc ms n index : Nat} {ret : Option FieldType} {hh : List (Nat × Nat × Nat × Nat)} {ws : List Cond} {rm : Room} {Pc : Array Value → State → Prop} {Qc : Array Value → State → Outcome → State → Prop} {free : Addr → Prop} {Ts : List Cond} {own : String} {As rest : List Value} {g : JFrame}
    (S : CallFix p m c cc nL s args Ts own) (hM : Met l y ws rm Pc Qc mc ms free) (cw : vx_CSW R s args own index y bytes maxL ret hh ws rm mc ms n) (hp : PreS s H Pc As)
    (hg : g.method = m) (hn : As.length = n) (hsize : g.locals.size = nL) (hstack : g.stack = As.reverse ++ rest) (hW : 2 * g.monitorRoom + (rest.map fun v => v.category).sum ≤ 8) (hdg : decode cc g.pc = .ok (.invokestatic index, 3)) (hf : cells + mc ≤ R.cells ∧ slots + ms ≤ R.slots) :
    va_Run p l e R s m args below meth c H locs cells slots mc ms g rest (Qc As.toArray) (free) := by
  obtain ⟨⟨hrc, hrs, hfr, hlo, hws, hcw⟩, hcode, hini, hy, hlen, hl, hstt⟩ := cw
  have hK : Back l R p e below s args y 3 8 (PreOf R mc ms Pc) (PostOf Qc mc ms free) := va_backW (hh := hh) (bytes := bytes) (maxL := maxL) (ret := ret) hM hp.1 hrc hrs hfr hlo hws hcw (fun a' U hW => word_at hW (Or.inl (by first | rfl | simp [Cond.onTables, Cond.keeps, Cond.steady])) hini)
  obtain ⟨hx, hb, hml, ho, -⟩ := S
  intro T hT X
  obtain ⟨v, vm₁, ⟨U', l2, c2, s2⟩, hW₁, X', ⟨g', mk, t, L, e1, e2, hq, h1, hL, h2, h3⟩, st⟩ := vx_callSW X hx (hh := hh) (bytes := bytes) (maxL := maxL) (ret := ret) ho hl hstt hini hcode hy hK hg (hsize.trans hml.symm) (argsL := As) (rest := rest) (fun sig h => hn.trans (hlen sig h)) hstack hW (by rw [hb]; exact hdg)
    (fun vm₁ hW₁ => ⟨hf.1, hf.2, hp.2 (T.setVm vm₁) hT hW₁⟩)
  dsimp only [Pt.U, Pt.locs, Pt.cells, Pt.slots] at X' e1 e2 h1 h2 h3 st
  subst h1; subst h2; subst h3
  exact ⟨v, (T.setVm vm₁).calling g' mk As.toArray, t, U', L, hT, X', hL, e1, e2, hq, st⟩
/-- not caught here, past rows that name other classes: it goes on to the caller -/
theorem vx_outP {p : Program} {l : Launch} {e : Env} {R : Room} {s : State} {m : MethodId} {args : Array Value} {below : List Frame} {meth : Method} {c : Code} {H : Heap} {locs : List Loc} {cells slots : Nat} {free : Addr → Prop} {ls : Array Slot} {rest : List Value} {Qc : Array Value → State → Outcome → State → Prop} {XC : String → State → State → Prop}
    {pc : Nat} {own E : String} {ce : Cell} {q : Addr} {mc ms : Nat} (hown : s.vm.findClass own = some m.cls) (hlocks : meth.locks = false)
    (hpass : ∀ z ∈ c.exceptionTable.toList, covers z pc = false ∨ (z.catchType ≠ 0 ∧ ∃ nm : String, (Cond.classLink own z.catchType nm).before args s = true ∧ va_Nc E nm s)) (hcell : H[q]? = some ce) (hv : ce.vm = .none) (hcl : s.vm.findClass E = some ce.cls)
    (hx : ∀ t : State, t.heap = H → s.vm.Alike t.vm → XC E s t) (hf : ∀ z ∈ locs, free z.base) (hc : cells ≤ mc) (hs : slots ≤ ms) :
    vx_W p l e R s m args below meth c H locs cells slots (vx_MQ below Qc XC args s mc ms free) (F0 m pc ls rest) q := by
  intro T hT X
  have hpl : e.platform.magicAccessors = ({} : Platform).magicAccessors := by rw [X.admits.platform]
  obtain ⟨vm', hW', X', st⟩ := X.outThrough hlocks q (g := F0 m pc ls rest) rfl rfl rfl (cell := ce) (by rw [hT]; exact hcell) (by rw [hv]; rfl)
    (by obtain ⟨k9, h9, -⟩ := Vm.findClass_spec hcl; exact ⟨k9, h9⟩) (fun z hz => by
      rcases hpass z hz with h | ⟨hz0, nm, hl1, hn1⟩
      · exact Or.inl h
      · obtain ⟨c6, hc6, hcl6⟩ := Cond.classLink_spec hown hl1 e.platform hpl
        obtain ⟨a8, b8, h1, h2, h3⟩ := hn1
        cases Option.some.inj (h1.symm.trans hcl)
        cases Option.some.inj (h2.symm.trans hc6)
        exact Or.inr ⟨hz0, _, hcl6, h3⟩)
  obtain ⟨g₀, hfr⟩ := X'.frames_eq
  have hcell9 : ((T.setVm vm').setFrames (.throwing q :: below)).heap[q]? = some ce := by
    show T.heap[q]? = some ce
    rw [hT]; exact hcell
  have hend : Ended ((T.setVm vm').setFrames (.throwing q :: below)) below (.threw q) := State.frames_setFrames _ (State.cur_lt_of_frames hfr)
  refine ⟨(T.setVm vm').setFrames (.throwing q :: below), ?_, .threw q, X'.here.running, hend, Or.inr ⟨q, rfl, E, ce, locs, hx _ hT (X'.ends _).1.alike, hcell9, hv, hcl, (X'.ends _).1, (X'.ends _).2.mono hc hs, hf⟩⟩
  rw [X.pushThrowing_eq]
  exact st
/-- a thing of a world lies in the heap -/
theorem vx_lt {D : va_G} {cl : List vw_C} {ws : va_W} {H1 : Heap} (h : va_P D cl ws H1) {k : Nat} {q : Nat × va_E} (hk : ws[k]? = some q) : q.1 < H1.size := (h k q hk).lt
end VXS
/-! ===== END ===== -/
/-! ===== BEGIN methods with a table of their own: called by a name, returning or throwing ===== -/
section VXH
/-! vx_backW, vx_callVX, vx_callSX, vx_callVW, vx_runVW, vx_runVX, vx_runSX, vx_ofWH follow the same proofs as their sisters above (Free/Laws.lean, Shelf42/LK1.lean); vx_outP calls Shelf42/NT130.lean (outThrough). -/
section
variable {l : Launch} {R : Room} {p : Program} {e : Env} {below : List Frame} {s : State} {sargs : Array Value} {y : MethodName} {len W9 : Nat}
theorem vx_backW {ws : List Cond} {rm : Room} {Pc : Array Value → State → Prop} {Qc : Array Value → State → Outcome → State → Prop} {XC : String → State → State → Prop} {mc ms : Nat} {free : Addr → Prop} {bytes : ByteArray} {maxL : Nat} {ret : Option FieldType} {hh : List (Nat × Nat × Nat × Nat)}
    (hM : vx_Met l y ws rm Pc Qc XC mc ms free) (hblind : FrameBlind Pc) (hrc : rm.cells = mc) (hrs : rm.slots = ms)
    (hframes : rm.frames + 1 ≤ R.frames) (hlocals : W9 + (maxL + 11) + rm.locals ≤ R.locals)
    (hws : ∀ w ∈ ws, ∀ a' U, s.WarmedH U.vm → w.before a' U = true) (hcode : Cond.codeWith y bytes maxL ret hh ∈ ws) (hinit : ∀ a' U, s.WarmedH U.vm → (Cond.initialized y.cls).before a' U = true) :
    vx_Back l R p e below s sargs y len W9 (PreOf R mc ms Pc) (PostOf Qc mc ms free) (vx_Post XC mc ms free) := by
  intro m meth c A g ig mk a X hg hsize hdg hW hn hp
  have h1 : (headSpec ws rm).pre.before a A.U = true := atoms_intro fun w hw => hws w hw _ _ X.warmed
  have h2 : (Cond.codeWith y bytes maxL ret hh).before a A.U = true := hws _ hcode _ _ X.warmed
  have h3 : (Cond.initialized y.cls).before a A.U = true := hinit _ _ X.warmed
  have h4 : A.cells + (headSpec ws rm).room.cells ≤ R.cells := by rw [show (headSpec ws rm).room.cells = mc from hrc]; exact hp.1
  have h5 : A.slots + (headSpec ws rm).room.slots ≤ R.slots := by rw [show (headSpec ws rm).room.slots = ms from hrs]; exact hp.2.1
  have hPc : Pc a (A.U.calling g mk a) := hblind _ _ _ _ hp.2.2
  obtain ⟨U, Ls, c0, s0⟩ := A
  dsimp only [Pt.U, Pt.locs, Pt.cells, Pt.slots] at h1 h2 h3 h4 h5 X hn hPc ⊢
  obtain ⟨m9, methY, cY, hn9, hmY, hcY, -, hlY, -⟩ := Cond.codeWith_spec h2
  cases Option.some.inj (hn9.symm.trans hn)
  obtain ⟨kY, hkY, -⟩ := className_of_methodNamed hn
  have hinitY : kY.init = .initialized := Cond.initialized_spec (findClass_of_methodNamed hn) hkY h3
  have h : At U g.method c below := by rw [hg]; exact X.here
  have hlocals9 : W9 + (maxL + 11) + (headSpec ws rm).room.locals ≤ R.locals := hlocals
  have happ : (headSpec ws rm).appliesLoose y e.platform (U.calling g mk a) = true :=
    Spec.appliesLoose_calling (g := g) h hdg hn hkY hinitY
      (X.room_calling (g := g) (R' := (headSpec ws rm).room) hsize hmY hcY hframes (by rw [hlY]; omega) h4 h5) h1
  obtain ⟨mid, hmid⟩ := h.above
  have hfr : (U.setTop g).frames = (.java g :: mid) ++ below := by rw [State.frames_setTop' g h.top, hmid]; rfl
  obtain ⟨o, s₂, hsteps, -, hend, hq⟩ := Steps.callFree hM p X.admits X.cas X.clock (acts := []) hfr happ hPc trivial
  have hq' : vx_Q Qc XC mc ms free a (U.calling g mk a) o s₂ := hq
  rw [State.frames_setTop' g h.top] at hend
  obtain ⟨g₀, hg0⟩ := Option.isSome_iff_exists.mp h.top
  obtain ⟨r, hr⟩ := State.topJava?_eq_some.mp hg0
  have hr' : (({ U with heap := s₂.heap, slotsUsed := s₂.slotsUsed } : State).setVm s₂.vm).frames = .java g₀ :: r := hr
  rcases hq' with ⟨hqc, L, hfe, hL⟩ | ⟨q, rfl, E, ce, L, hx, hce, hcv, hcl, hW₂, hsm, hL⟩
  · obtain ⟨⟨v, rfl⟩, hW₂, e2, q2, q3, q4, q5, q6⟩ := id hfe
    have e3 : s₂ = ({ (U.calling g mk a).setFrames s₂.frames with heap := s₂.heap, slotsUsed := s₂.slotsUsed } : State).setVm s₂.vm := by
      have : s₂ = ({ s₂ with vm := (U.calling g mk a).vm } : State).setVm s₂.vm := rfl
      rw [e2] at this
      exact this
    obtain ⟨c₂, i₂, len₂, hc₂, hd₂, hf₂⟩ := hend
    have hW' : U.WarmedH s₂.vm := hW₂
    have hcc : c₂ = c := by
      have h1 : s₂.code? g.method = U.code? g.method := by
        rw [State.code?_eq, State.code?_eq, hW'.alike.method?]
      exact Option.some.inj (hc₂.symm.trans (h1.trans h.code))
    subst hcc
    have hlen : len₂ = len := by rw [hdg] at hd₂; cases hd₂; rfl
    subst hlen
    have hs₂ : s₂ = (({ U with heap := s₂.heap, slotsUsed := s₂.slotsUsed } : State).setVm s₂.vm).setTop { g with pc := g.pc + len₂, stack := v.toList ++ g.stack } := by
      refine e3.trans ?_
      rw [hf₂, State.calling_eq h.top, State.setFrames_setFrames, State.setTop_of_frames _ hr', hr]
      rfl
    have hsame : U.sameButNew ({ U with heap := s₂.heap, slotsUsed := s₂.slotsUsed } : State) L mc ms := by
      refine ⟨?_, q2, q3, q4, q5, q6⟩
      obtain ⟨t, ht, -⟩ := State.frames_cons hr
      show ({ U with heap := s₂.heap, slotsUsed := s₂.slotsUsed } : State) = { U.setFrames U.frames with heap := s₂.heap, slotsUsed := s₂.slotsUsed }
      rw [State.setFrames_self ht]
    subst hg
    refine Or.inl ⟨v, ⟨(({ U with heap := s₂.heap, slotsUsed := s₂.slotsUsed } : State).setVm s₂.vm), Ls ++ L, c0 + mc, s0 + ms⟩,
      ⟨X.admits, X.cas, X.clock, X.frames, X.room, X.hears, X.method, X.code, (X.here.setHeapUsed s₂.heap s₂.slotsUsed).setVm hW'.alike, X.tail, State.WarmedH.trans X.warmed hW', X.limits, X.bytes, X.same.trans (hsame.setVm s.vm)⟩,
      ⟨g, mk, s₂, L, rfl, rfl, hqc, rfl, hL, rfl, rfl⟩, ?_⟩
    show Steps p.tables e below _ ((({ U with heap := s₂.heap, slotsUsed := s₂.slotsUsed } : State).setVm s₂.vm).setTop { g with pc := g.pc + len₂, stack := v.toList ++ g.stack })
    rw [← hs₂]
    exact hsteps
  · obtain ⟨e2, q2, q3, q4, q5, q6⟩ := id hsm
    have e3 : s₂ = ({ (U.calling g mk a).setFrames s₂.frames with heap := s₂.heap, slotsUsed := s₂.slotsUsed } : State).setVm s₂.vm := by
      have : s₂ = ({ s₂ with vm := (U.calling g mk a).vm } : State).setVm s₂.vm := rfl
      rw [e2] at this
      exact this
    have hf₂ : s₂.frames = .throwing q :: .java g :: U.frames.tail := hend
    have hW' : U.WarmedH s₂.vm := hW₂
    have hs₂ : s₂ = ((({ U with heap := s₂.heap, slotsUsed := s₂.slotsUsed } : State).setVm s₂.vm).setTop g).pushFrame (.throwing q) := by
      refine e3.trans ?_
      rw [hf₂, State.calling_eq h.top, State.setFrames_setFrames, State.pushFrame, State.frames_setTop _ hr', State.setTop_of_frames _ hr', State.setFrames_setFrames, hr]
      rfl
    have hsame : U.sameButNew ({ U with heap := s₂.heap, slotsUsed := s₂.slotsUsed } : State) L mc ms := by
      refine ⟨?_, q2, q3, q4, q5, q6⟩
      obtain ⟨t, ht, -⟩ := State.frames_cons hr
      show ({ U with heap := s₂.heap, slotsUsed := s₂.slotsUsed } : State) = { U.setFrames U.frames with heap := s₂.heap, slotsUsed := s₂.slotsUsed }
      rw [State.setFrames_self ht]
    subst hg
    refine Or.inr ⟨q, ⟨(({ U with heap := s₂.heap, slotsUsed := s₂.slotsUsed } : State).setVm s₂.vm), Ls ++ L, c0 + mc, s0 + ms⟩,
      ⟨X.admits, X.cas, X.clock, X.frames, X.room, X.hears, X.method, X.code, (X.here.setHeapUsed s₂.heap s₂.slotsUsed).setVm hW'.alike, X.tail, State.WarmedH.trans X.warmed hW', X.limits, X.bytes, X.same.trans (hsame.setVm s.vm)⟩,
      ⟨g, mk, s₂, L, E, ce, rfl, rfl, hx, hce, hcv, hcl, rfl, hL, rfl, rfl⟩, ?_⟩
    show Steps p.tables e below _ (((({ U with heap := s₂.heap, slotsUsed := s₂.slotsUsed } : State).setVm s₂.vm).setTop g).pushFrame (.throwing q))
    rw [← hs₂]
    exact hsteps
end
variable {p : Program} {l : Launch} {e : Env} {R : Room} {s : State} {m : MethodId} {args : Array Value} {below : List Frame} {meth : Method} {c : Code} {T : State} {H : Heap} {locs : List Loc} {cells slots : Nat}
theorem vx_callVX (X : Stand p l e R s m args below meth c T locs cells slots) (hexec : p.tables.exec = Jvm.exec) {own C : String} {index : Nat} {y : MethodName} {bytes : ByteArray} {maxL : Nat} {ret : Option FieldType} {hh : List (Nat × Nat × Nat × Nat)}
    (hown : s.vm.findClass own = some m.cls) (hlink : (Cond.methodLink own index y).before args s = true) (hinst : (Cond.instanceMethod y).before args s = true) (hsel : (Cond.selects C y y).before args s = true)
    (hcode : (Cond.codeWith y bytes maxL ret hh).before args s = true) (hy : y.cls ≠ "java/lang/invoke/MethodHandle" ∧ y.cls ≠ "java/lang/invoke/VarHandle")
    {W9 : Nat} {Pre : Pt → Array Value → Prop} {Post : Pt → Array Value → Option Value → Pt → Prop} {PostX : Pt → Array Value → Addr → Pt → Prop} (hK : vx_Back l R p e below s args y 3 W9 Pre Post PostX)
    {b : Addr} {cellB : Cell} (hcell : T.heap[b]? = some cellB) (hobj : cellB.vm.isStatics = false) (hcls : s.vm.findClass C = some cellB.cls)
    {g : JFrame} (hg : g.method = m) (hsize : g.locals.size = c.maxLocals) {argsL rest : List Value} (hlen : ∀ sig, parseMethodDescriptor y.desc = some sig → argsL.length = sig.parameters.length)
    (hstack : g.stack = argsL.reverse ++ .ref b :: rest) (hW : 2 * g.monitorRoom + (rest.map fun v => v.category).sum ≤ W9) (hdg : decode c.code g.pc = .ok (.invokevirtual index, 3))
    (hpre : ∀ vm₁, s.WarmedH vm₁ → Pre ⟨T.setVm vm₁, locs, cells, slots⟩ (Value.ref b :: argsL).toArray) :
    (∃ (v : Option Value) (vm₁ : Vm) (B : Pt), s.WarmedH vm₁ ∧ Stand p l e R s m args below meth c B.U B.locs B.cells B.slots ∧ Post ⟨T.setVm vm₁, locs, cells, slots⟩ (Value.ref b :: argsL).toArray v B ∧
      ∀ target, Steps p.tables e below (B.U.setTop { g with pc := g.pc + 3, stack := v.toList ++ rest }) target → Steps p.tables e below (T.setTop g) target) ∨
    (∃ (q : Addr) (vm₁ : Vm) (B : Pt), s.WarmedH vm₁ ∧ Stand p l e R s m args below meth c B.U B.locs B.cells B.slots ∧ PostX ⟨T.setVm vm₁, locs, cells, slots⟩ (Value.ref b :: argsL).toArray q B ∧
      Steps p.tables e below (T.setTop g) ((B.U.setTop { g with stack := rest }).pushFrame (.throwing q))) := by
  obtain ⟨mk, methM, hnamed, hmethM, hstM, habM⟩ := Cond.instanceMethod_spec hinst
  obtain ⟨m8, methM', cM, hn8, hmethM', -, -, -, -, -, -, hsigM⟩ := Cond.codeWith_spec hcode
  cases Option.some.inj (hn8.symm.trans hnamed)
  cases hmethM.symm.trans hmethM'
  obtain ⟨c2, r2, m2, q1, q2, q3, q4, kP, hkP, hkPi⟩ := Cond.selects_spec hsel
  cases hcls.symm.trans q1
  cases (State.methodFound?_of_named hnamed hy).symm.trans q2
  cases hnamed.symm.trans q3
  have hselP : selectMethod e.platform s.vm cellB.cls mk = .method mk := by rw [Launch.admits_selectMethod X.admits]; exact q4
  obtain ⟨vm₁, X₁, hstep₁⟩ := X.invokevirtual hexec hown hlink hnamed hmethM hstM hkP hkPi hy (a := b) (cell := cellB) hcell
    (fun z h => by rw [h] at hobj; cases hobj) hselP hmethM habM hkP hkPi (g := g) hg (argsL := argsL) (rest := rest) (hlen _ hsigM) hstack hdg
  rcases hK m meth c ⟨T.setVm vm₁, locs, cells, slots⟩ { g with stack := rest } (.invokevirtual index) mk (Value.ref b :: argsL).toArray X₁ hg hsize hdg hW (X₁.named hnamed) (hpre vm₁ X₁.warmed) with ⟨v, B, X', hpost, hsteps⟩ | ⟨q, B, X', hpost, hsteps⟩
  · exact Or.inl ⟨v, vm₁, B, X₁.warmed, X', hpost, fun target h => hstep₁ _ fun acts => by rw [doInvoke_state]; exact hsteps.trans h⟩
  · exact Or.inr ⟨q, vm₁, B, X₁.warmed, X', hpost, hstep₁ _ fun acts => by rw [doInvoke_state]; exact hsteps⟩
theorem vx_callSX (X : Stand p l e R s m args below meth c T locs cells slots) (hexec : p.tables.exec = Jvm.exec) {own : String} {index : Nat} {y : MethodName} {bytes : ByteArray} {maxL : Nat} {ret : Option FieldType} {hh : List (Nat × Nat × Nat × Nat)}
    (hown : s.vm.findClass own = some m.cls) (hlink : (Cond.methodLink own index y).before args s = true) (hstat : (Cond.static y).before args s = true) (hinit : (Cond.initialized y.cls).before args s = true)
    (hcode : (Cond.codeWith y bytes maxL ret hh).before args s = true) (hy : y.cls ≠ "java/lang/invoke/MethodHandle" ∧ y.cls ≠ "java/lang/invoke/VarHandle")
    {W9 : Nat} {Pre : Pt → Array Value → Prop} {Post : Pt → Array Value → Option Value → Pt → Prop} {PostX : Pt → Array Value → Addr → Pt → Prop} (hK : vx_Back l R p e below s args y 3 W9 Pre Post PostX)
    {g : JFrame} (hg : g.method = m) (hsize : g.locals.size = c.maxLocals) {argsL rest : List Value} (hlen : ∀ sig, parseMethodDescriptor y.desc = some sig → argsL.length = sig.parameters.length)
    (hstack : g.stack = argsL.reverse ++ rest) (hW : 2 * g.monitorRoom + (rest.map fun v => v.category).sum ≤ W9) (hdg : decode c.code g.pc = .ok (.invokestatic index, 3))
    (hpre : ∀ vm₁, s.WarmedH vm₁ → Pre ⟨T.setVm vm₁, locs, cells, slots⟩ argsL.toArray) :
    (∃ (v : Option Value) (vm₁ : Vm) (B : Pt), s.WarmedH vm₁ ∧ Stand p l e R s m args below meth c B.U B.locs B.cells B.slots ∧ Post ⟨T.setVm vm₁, locs, cells, slots⟩ argsL.toArray v B ∧
      ∀ target, Steps p.tables e below (B.U.setTop { g with pc := g.pc + 3, stack := v.toList ++ rest }) target → Steps p.tables e below (T.setTop g) target) ∨
    (∃ (q : Addr) (vm₁ : Vm) (B : Pt), s.WarmedH vm₁ ∧ Stand p l e R s m args below meth c B.U B.locs B.cells B.slots ∧ PostX ⟨T.setVm vm₁, locs, cells, slots⟩ argsL.toArray q B ∧
      Steps p.tables e below (T.setTop g) ((B.U.setTop { g with stack := rest }).pushFrame (.throwing q))) := by
  obtain ⟨mk, methM, cM, hnamed, hmethM, -, -, -, -, -, -, hsigM⟩ := Cond.codeWith_spec hcode
  have hstatic : methM.isStatic = true := Cond.static_spec hnamed hmethM hstat
  obtain ⟨kP, hkP, -⟩ := className_of_methodNamed hnamed
  have hinitP : kP.init = .initialized := Cond.initialized_spec (findClass_of_methodNamed hnamed) hkP hinit
  obtain ⟨vm₁, X₁, hstep₁⟩ := X.invokestatic hexec hown hlink hnamed hmethM hstatic hkP hinitP hy (g := g) hg (argsL := argsL) (rest := rest) (hlen _ hsigM) hstack hdg
  rcases hK m meth c ⟨T.setVm vm₁, locs, cells, slots⟩ { g with stack := rest } (.invokestatic index) mk argsL.toArray X₁ hg hsize hdg hW (X₁.named hnamed) (hpre vm₁ X₁.warmed) with ⟨v, B, X', hpost, hsteps⟩ | ⟨q, B, X', hpost, hsteps⟩
  · exact Or.inl ⟨v, vm₁, B, X₁.warmed, X', hpost, fun target h => hstep₁ _ fun acts => by rw [doInvoke_state]; exact hsteps.trans h⟩
  · exact Or.inr ⟨q, vm₁, B, X₁.warmed, X', hpost, hstep₁ _ fun acts => by rw [doInvoke_state]; exact hsteps⟩
theorem vx_callVW (X : Stand p l e R s m args below meth c T locs cells slots) (hexec : p.tables.exec = Jvm.exec) {own C : String} {index : Nat} {y : MethodName} {bytes : ByteArray} {maxL : Nat} {ret : Option FieldType} {hh : List (Nat × Nat × Nat × Nat)}
    (hown : s.vm.findClass own = some m.cls) (hlink : (Cond.methodLink own index y).before args s = true) (hinst : (Cond.instanceMethod y).before args s = true) (hsel : (Cond.selects C y y).before args s = true)
    (hcode : (Cond.codeWith y bytes maxL ret hh).before args s = true) (hy : y.cls ≠ "java/lang/invoke/MethodHandle" ∧ y.cls ≠ "java/lang/invoke/VarHandle")
    {W9 : Nat} {Pre : Pt → Array Value → Prop} {Post : Pt → Array Value → Option Value → Pt → Prop} (hK : Back l R p e below s args y 3 W9 Pre Post)
    {b : Addr} {cellB : Cell} (hcell : T.heap[b]? = some cellB) (hobj : cellB.vm.isStatics = false) (hcls : s.vm.findClass C = some cellB.cls)
    {g : JFrame} (hg : g.method = m) (hsize : g.locals.size = c.maxLocals) {argsL rest : List Value} (hlen : ∀ sig, parseMethodDescriptor y.desc = some sig → argsL.length = sig.parameters.length)
    (hstack : g.stack = argsL.reverse ++ .ref b :: rest) (hW : 2 * g.monitorRoom + (rest.map fun v => v.category).sum ≤ W9) (hdg : decode c.code g.pc = .ok (.invokevirtual index, 3))
    (hpre : ∀ vm₁, s.WarmedH vm₁ → Pre ⟨T.setVm vm₁, locs, cells, slots⟩ (Value.ref b :: argsL).toArray) :
    ∃ (v : Option Value) (vm₁ : Vm) (B : Pt), s.WarmedH vm₁ ∧ Stand p l e R s m args below meth c B.U B.locs B.cells B.slots ∧ Post ⟨T.setVm vm₁, locs, cells, slots⟩ (Value.ref b :: argsL).toArray v B ∧
      ∀ target, Steps p.tables e below (B.U.setTop { g with pc := g.pc + 3, stack := v.toList ++ rest }) target → Steps p.tables e below (T.setTop g) target := by
  obtain ⟨mk, methM, hnamed, hmethM, hstM, habM⟩ := Cond.instanceMethod_spec hinst
  obtain ⟨m8, methM', cM, hn8, hmethM', -, -, -, -, -, -, hsigM⟩ := Cond.codeWith_spec hcode
  cases Option.some.inj (hn8.symm.trans hnamed)
  cases hmethM.symm.trans hmethM'
  obtain ⟨c2, r2, m2, q1, q2, q3, q4, kP, hkP, hkPi⟩ := Cond.selects_spec hsel
  cases hcls.symm.trans q1
  cases (State.methodFound?_of_named hnamed hy).symm.trans q2
  cases hnamed.symm.trans q3
  have hselP : selectMethod e.platform s.vm cellB.cls mk = .method mk := by rw [Launch.admits_selectMethod X.admits]; exact q4
  obtain ⟨vm₁, X₁, hstep₁⟩ := X.invokevirtual hexec hown hlink hnamed hmethM hstM hkP hkPi hy (a := b) (cell := cellB) hcell
    (fun z h => by rw [h] at hobj; cases hobj) hselP hmethM habM hkP hkPi (g := g) hg (argsL := argsL) (rest := rest) (hlen _ hsigM) hstack hdg
  obtain ⟨v, B, X', hpost, hsteps⟩ := hK m meth c ⟨T.setVm vm₁, locs, cells, slots⟩ { g with stack := rest } (.invokevirtual index) mk (Value.ref b :: argsL).toArray X₁ hg hsize hdg hW (X₁.named hnamed) (hpre vm₁ X₁.warmed)
  exact ⟨v, vm₁, B, X₁.warmed, X', hpost, fun target h => hstep₁ _ fun acts => by rw [doInvoke_state]; exact hsteps.trans h⟩
abbrev vx_CVW (R : Room) (s : State) (args : Array Value) (own C : String) (index : Nat) (y : MethodName) (bytes : ByteArray) (maxL : Nat) (ret : Option FieldType) (hh : List (Nat × Nat × Nat × Nat)) (ws : List Cond) (rm : Room) (mc ms n : Nat) : Prop :=
  (rm.cells = mc ∧ rm.slots = ms ∧ rm.frames + 1 ≤ R.frames ∧ 8 + (maxL + 11) + rm.locals ≤ R.locals ∧ (∀ w ∈ ws, ∀ (a' : Array Value) (U : State), s.WarmedH U.vm → w.before a' U = true) ∧ Cond.codeWith y bytes maxL ret hh ∈ ws) ∧
  (Cond.codeWith y bytes maxL ret hh).before args s = true ∧ (Cond.initialized y.cls).before args s = true ∧ (y.cls ≠ "java/lang/invoke/MethodHandle" ∧ y.cls ≠ "java/lang/invoke/VarHandle") ∧
  (∀ sig, parseMethodDescriptor y.desc = some sig → n = sig.parameters.length) ∧ (Cond.methodLink own index y).before args s = true ∧ (Cond.instanceMethod y).before args s = true ∧ (Cond.selects C y y).before args s = true
theorem vx_cwVW {own C : String} {index maxL mc ms : Nat} {y : MethodName} {bytes : ByteArray} {ret : Option FieldType} {hh : List (Nat × Nat × Nat × Nat)} {Ts ws ws' : List Cond} {rm : Room} (n : Nat) (ht : ∀ w ∈ Ts, w.before args s = true) (hT : GoodIn Ts (wsV own index C y ws)) (hw : ws = Cond.codeWith y bytes maxL ret hh :: ws') (hrc : rm.cells = mc) (hrs : rm.slots = ms)
    (hd : y.cls = C ∧ y.cls ≠ "java/lang/invoke/MethodHandle" ∧ y.cls ≠ "java/lang/invoke/VarHandle" ∧ (parseMethodDescriptor y.desc).map (fun d => d.parameters.length) = some n) (hR : rm.frames + 1 ≤ R.frames ∧ 8 + (maxL + 11) + rm.locals ≤ R.locals) :
    vx_CVW R s args own C index y bytes maxL ret hh ws rm mc ms n := by
  obtain ⟨hC, hd⟩ := hd
  subst hC
  have ok : ∀ w ∈ wsV own index y.cls y ws, w.before args s = true := fun w h => ht w (hT w h).1
  have hG : GoodIn Ts ws := fun w h => hT w (by unfold wsV; exact List.mem_append_right _ h)
  have hc : Cond.codeWith y bytes maxL ret hh ∈ ws := by rw [hw]; exact List.mem_cons_self
  refine ⟨⟨hrc, hrs, hR.1, hR.2, pay_in ht hG, hc⟩, ht _ (hG _ hc).1, ok _ (by simp [wsV]), ⟨hd.1, hd.2.1⟩, fun sig h => ?_, ok _ (by simp [wsV]), ok _ (by simp [wsV]), ok _ (by simp [wsV])⟩
  have h2 := hd.2.2
  rw [h] at h2
  exact (Option.some.inj h2).symm
theorem vx_runVW {y : MethodName} {bytes cc : ByteArray} {maxL nL mc ms n index : Nat} {ret : Option FieldType} {hh : List (Nat × Nat × Nat × Nat)} {ws : List Cond} {rm : Room} {Pc : Array Value → State → Prop} {Qc : Array Value → State → Outcome → State → Prop} {free : Addr → Prop} {Ts : List Cond} {own C : String} {b : Addr} {As rest : List Value} {g : JFrame}
    (S : CallFix p m c cc nL s args Ts own) (hM : Met l y ws rm Pc Qc mc ms free) (cw : vx_CVW R s args own C index y bytes maxL ret hh ws rm mc ms n) (hp : PreV s H C b Pc As)
    (hg : g.method = m) (hn : As.length = n) (hsize : g.locals.size = nL) (hstack : g.stack = As.reverse ++ .ref b :: rest) (hW : 2 * g.monitorRoom + (rest.map fun v => v.category).sum ≤ 8) (hdg : decode cc g.pc = .ok (.invokevirtual index, 3)) (hf : cells + mc ≤ R.cells ∧ slots + ms ≤ R.slots) :
    va_Run p l e R s m args below meth c H locs cells slots mc ms g rest (Qc (Value.ref b :: As).toArray) free := by
  obtain ⟨⟨hrc, hrs, hfr, hlo, hws, hcw⟩, hcode, hini, hy, hlen, hl, hin, hse⟩ := cw
  have hK : Back l R p e below s args y 3 8 (PreOf R mc ms Pc) (PostOf Qc mc ms free) := va_backW (hh := hh) (bytes := bytes) (maxL := maxL) (ret := ret) hM hp.1 hrc hrs hfr hlo hws hcw (fun a' U hW => word_at hW (Or.inl (by first | rfl | simp [Cond.onTables, Cond.keeps, Cond.steady])) hini)
  obtain ⟨hx, hb, hml, ho, -⟩ := S
  obtain ⟨-, ⟨cellB, hcB, hoB, hclB⟩, hPc⟩ := hp
  intro T hT X
  obtain ⟨v, vm₁, ⟨U', l2, c2, s2⟩, hW₁, X', ⟨g', mk, t, L, e1, e2, hq, h1, hL, h2, h3⟩, st⟩ := vx_callVW X hx (C := C) (hh := hh) (bytes := bytes) (maxL := maxL) (ret := ret) ho hl hin hse hcode hy hK (by rw [hT]; exact hcB) hoB hclB hg (hsize.trans hml.symm) (argsL := As) (rest := rest) (fun sig h => hn.trans (hlen sig h)) hstack hW (by rw [hb]; exact hdg)
    (fun vm₁ hW₁ => ⟨hf.1, hf.2, hPc (T.setVm vm₁) hT hW₁⟩)
  dsimp only [Pt.U, Pt.locs, Pt.cells, Pt.slots] at X' e1 e2 h1 h2 h3 st
  subst h1; subst h2; subst h3
  exact ⟨v, (T.setVm vm₁).calling g' mk (Value.ref b :: As).toArray, t, U', L, hT, X', hL, e1, e2, hq, st⟩
section
variable {y : MethodName} {bytes cc : ByteArray} {maxL nL mc ms n index : Nat} {ret : Option FieldType} {ws : List Cond} {rm : Room} {Pc : Array Value → State → Prop} {Qc : Array Value → State → Outcome → State → Prop} {XC : String → State → State → Prop} {free : Addr → Prop} {Ts : List Cond} {own C : String} {b : Addr} {As rest : List Value} {g : JFrame}
theorem vx_runVX {hh : List (Nat × Nat × Nat × Nat)} (S : CallFix p m c cc nL s args Ts own) (hM : vx_Met l y ws rm Pc Qc XC mc ms free) (cw : vx_CVW R s args own C index y bytes maxL ret hh ws rm mc ms n) (hp : PreV s H C b Pc As)
    (hg : g.method = m) (hn : As.length = n) (hsize : g.locals.size = nL) (hstack : g.stack = As.reverse ++ .ref b :: rest) (hW : 2 * g.monitorRoom + (rest.map fun v => v.category).sum ≤ 8) (hdg : decode cc g.pc = .ok (.invokevirtual index, 3)) (hf : cells + mc ≤ R.cells ∧ slots + ms ≤ R.slots) :
    vx_Run p l e R s m args below meth c H locs cells slots mc ms g rest (Qc (Value.ref b :: As).toArray) XC free := by
  obtain ⟨⟨hrc, hrs, hfr, hlo, hws, hcw⟩, hcode, hini, hy, hlen, hl, hin, hse⟩ := cw
  have hK : vx_Back l R p e below s args y 3 8 (PreOf R mc ms Pc) (PostOf Qc mc ms free) (vx_Post XC mc ms free) := vx_backW (hh := hh) (bytes := bytes) (maxL := maxL) (ret := ret) hM hp.1 hrc hrs hfr hlo hws hcw (fun a' U hW => word_at hW (Or.inl (by first | rfl | simp [Cond.onTables, Cond.keeps, Cond.steady])) hini)
  obtain ⟨hx, hb, hml, ho, -⟩ := S
  obtain ⟨-, ⟨cellB, hcB, hoB, hclB⟩, hPc⟩ := hp
  intro T hT X
  rcases vx_callVX X hx (C := C) (hh := hh) (bytes := bytes) (maxL := maxL) (ret := ret) ho hl hin hse hcode hy hK (by rw [hT]; exact hcB) hoB hclB hg (hsize.trans hml.symm) (argsL := As) (rest := rest) (fun sig h => hn.trans (hlen sig h)) hstack hW (by rw [hb]; exact hdg)
    (fun vm₁ hW₁ => ⟨hf.1, hf.2, hPc (T.setVm vm₁) hT hW₁⟩) with ⟨v, vm₁, ⟨U', l2, c2, s2⟩, hW₁, X', ⟨g', mk, t, L, e1, e2, hq, h1, hL, h2, h3⟩, st⟩ | ⟨q, vm₁, ⟨U', l2, c2, s2⟩, hW₁, X', ⟨g', mk, t, L, E, ce, e1, e2, hq, hce, hcv, hcl, h1, hL, h2, h3⟩, st⟩
  · dsimp only [Pt.U, Pt.locs, Pt.cells, Pt.slots] at X' e1 e2 h1 h2 h3 st
    subst h1; subst h2; subst h3
    exact Or.inl ⟨v, (T.setVm vm₁).calling g' mk (Value.ref b :: As).toArray, t, U', L, hT, X', hL, e1, e2, hq, st⟩
  · dsimp only [Pt.U, Pt.locs, Pt.cells, Pt.slots] at X' e1 e2 h1 h2 h3 st hcl
    subst h1; subst h2; subst h3
    exact Or.inr ⟨q, (T.setVm vm₁).calling g' mk (Value.ref b :: As).toArray, t, U', L, E, ce, hT, X', hL, e1, e2, hq, hce, hcv, vx_cls hW₁ hcl, st⟩
theorem vx_runSX {hh : List (Nat × Nat × Nat × Nat)} (S : CallFix p m c cc nL s args Ts own) (hM : vx_Met l y ws rm Pc Qc XC mc ms free) (cw : vx_CSW R s args own index y bytes maxL ret hh ws rm mc ms n) (hp : PreS s H Pc As)
    (hg : g.method = m) (hn : As.length = n) (hsize : g.locals.size = nL) (hstack : g.stack = As.reverse ++ rest) (hW : 2 * g.monitorRoom + (rest.map fun v => v.category).sum ≤ 8) (hdg : decode cc g.pc = .ok (.invokestatic index, 3)) (hf : cells + mc ≤ R.cells ∧ slots + ms ≤ R.slots) :
    vx_Run p l e R s m args below meth c H locs cells slots mc ms g rest (Qc As.toArray) XC free := by
  obtain ⟨⟨hrc, hrs, hfr, hlo, hws, hcw⟩, hcode, hini, hy, hlen, hl, hstt⟩ := cw
  have hK : vx_Back l R p e below s args y 3 8 (PreOf R mc ms Pc) (PostOf Qc mc ms free) (vx_Post XC mc ms free) := vx_backW (hh := hh) (bytes := bytes) (maxL := maxL) (ret := ret) hM hp.1 hrc hrs hfr hlo hws hcw (fun a' U hW => word_at hW (Or.inl (by first | rfl | simp [Cond.onTables, Cond.keeps, Cond.steady])) hini)
  obtain ⟨hx, hb, hml, ho, -⟩ := S
  intro T hT X
  rcases vx_callSX X hx (hh := hh) (bytes := bytes) (maxL := maxL) (ret := ret) ho hl hstt hini hcode hy hK hg (hsize.trans hml.symm) (argsL := As) (rest := rest) (fun sig h => hn.trans (hlen sig h)) hstack hW (by rw [hb]; exact hdg)
    (fun vm₁ hW₁ => ⟨hf.1, hf.2, hp.2 (T.setVm vm₁) hT hW₁⟩) with ⟨v, vm₁, ⟨U', l2, c2, s2⟩, hW₁, X', ⟨g', mk, t, L, e1, e2, hq, h1, hL, h2, h3⟩, st⟩ | ⟨q, vm₁, ⟨U', l2, c2, s2⟩, hW₁, X', ⟨g', mk, t, L, E, ce, e1, e2, hq, hce, hcv, hcl, h1, hL, h2, h3⟩, st⟩
  · dsimp only [Pt.U, Pt.locs, Pt.cells, Pt.slots] at X' e1 e2 h1 h2 h3 st
    subst h1; subst h2; subst h3
    exact Or.inl ⟨v, (T.setVm vm₁).calling g' mk As.toArray, t, U', L, hT, X', hL, e1, e2, hq, st⟩
  · dsimp only [Pt.U, Pt.locs, Pt.cells, Pt.slots] at X' e1 e2 h1 h2 h3 st hcl
    subst h1; subst h2; subst h3
    exact Or.inr ⟨q, (T.setVm vm₁).calling g' mk As.toArray, t, U', L, E, ce, hT, X', hL, e1, e2, hq, hce, hcv, vx_cls hW₁ hcl, st⟩
end
end VXH
theorem vx_ofWH {l : Launch} {y : MethodName} {ws ws' : List Cond} {rm : Room} {Pc : Array Value → State → Prop} {Qc : Array Value → State → Outcome → State → Prop} {XC : String → State → State → Prop} {mc ms : Nat} {free : Addr → Prop} {cc : ByteArray} {maxL : Nat} {ret : Option FieldType} {hh : List (Nat × Nat × Nat × Nat)}
    (hy : plainName y.cls = true) (hw : ws = Cond.codeWith y cc maxL ret hh :: ws')
    (body : ∀ p e s m args below meth c s₁, BodyLoose p l y (headSpec ws rm) cc maxL ret e s m args below meth c s₁ → c.maxLocals = maxL → Pc args s →
      W p l e (headSpec ws rm).room s m args below meth c s.heap [] 0 0 (vx_MQ below Qc XC args s mc ms free) (entryFrame m args maxL)) : vx_Met l y ws rm Pc Qc XC mc ms free := by
  refine MetFree.of_bodyS (code := cc) (maxLocals := maxL) (ret := ret) hy ?_ ?_
  · intro args s m h hn
    obtain ⟨m9, meth, c, hn9, h1, h2, h3, h4, -, h5, h6, -⟩ := Cond.codeWith_spec (atoms_spec (ws := ws) h _ (by rw [hw]; exact List.mem_cons_self))
    cases hn.symm.trans hn9
    exact ⟨meth, c, h1, h2, h3, h4, h5, h6⟩
  · intro p e s m args below meth c s₁ B hml hP _
    have hh0 : s₁.heap = s.heap := by rw [B.state]; rfl
    obtain ⟨t, a1, o, b1, b2, b3⟩ := body p e s m args below meth c s₁ B hml hP s₁ hh0 (Stand.of_body B)
    exact ⟨t, o, a1, b1, b2, b3⟩
/-! ===== END ===== -/

/-! ===== BEGIN printed: names, fields, word lists, decode rows ===== -/
def RX0 : String := "DovetailRow$Board"
def TX0 : u_T := fun k => match k with
  | 0 => ("DovetailRow$Wood", "species", "I", true)
  | 1 => ("DovetailRow$Wood", "measuredWidth", "I", true)
  | 2 => ("DovetailRow$Wood", "measuredMoisture", "I", true)
  | 3 => ("DovetailRow$Wood", "moisture", "I", false)
  | 4 => ("DovetailRow$Wood", "coats", "I", false)
  | 5 => ("DovetailRow$Board", "number", "I", true)
  | 6 => ("DovetailRow$Board", "flitch", "I", true)
  | 7 => ("DovetailRow$Board", "place", "I", true)
  | 8 => ("DovetailRow$Board", "length", "I", true)
  | 9 => ("DovetailRow$Board", "knots", "Ljava/util/ArrayList;", true)
  | _ => ("DovetailRow$Board", "taken", "Ljava/util/ArrayList;", true)
def tyX0 : Nat → FieldType := fun k => match k with
  | 0 => .int
  | 1 => .int
  | 2 => .int
  | 3 => .int
  | 4 => .int
  | 5 => .int
  | 6 => .int
  | 7 => .int
  | 8 => .int
  | 9 => .object "java/util/ArrayList"
  | _ => .object "java/util/ArrayList"
theorem nmX0 : ∀ a, a < 11 → ∀ b, b < 11 → a ≠ b → (TX0 a).2.1 ≠ (TX0 b).2.1 := by decide +kernel
theorem tyX0_ok : ∀ k, k < 11 → parseFieldDescriptor (TX0 k).2.2.1 = some (tyX0 k) := by decide +kernel
abbrev cX0_init : ByteArray := prog_2_method_1_code
def yX0_init : MethodName := ⟨RX0, "<init>", "(IIIIIII)V"⟩
abbrev cX0_hasRoom : ByteArray := prog_2_method_2_code
def yX0_hasRoom : MethodName := ⟨RX0, "hasRoom", "(II)Z"⟩
abbrev cX0_isClear : ByteArray := prog_2_method_3_code
def yX0_isClear : MethodName := ⟨RX0, "isClear", "(II)Z"⟩
def RX1 : String := "DovetailRow$Joint"
def TX1 : u_T := fun k => match k with
  | 0 => ("DovetailRow$Joint", "kind", "I", true)
  | 1 => ("DovetailRow$Joint", "part", "LDovetailRow$Part;", true)
  | 2 => ("DovetailRow$Joint", "other", "LDovetailRow$Part;", true)
  | 3 => ("DovetailRow$Joint", "tongue", "I", true)
  | 4 => ("DovetailRow$Joint", "size", "I", false)
  | 5 => ("DovetailRow$Joint", "needs", "I", false)
  | 6 => ("DovetailRow$Joint", "isGlued", "Z", false)
  | 7 => ("DovetailRow$Joint", "isBroken", "Z", false)
  | _ => ("DovetailRow$Joint", "gluedMoisture", "I", false)
def tyX1 : Nat → FieldType := fun k => match k with
  | 0 => .int
  | 1 => .object "DovetailRow$Part"
  | 2 => .object "DovetailRow$Part"
  | 3 => .int
  | 4 => .int
  | 5 => .int
  | 6 => .boolean
  | 7 => .boolean
  | _ => .int
theorem nmX1 : ∀ a, a < 9 → ∀ b, b < 9 → a ≠ b → (TX1 a).2.1 ≠ (TX1 b).2.1 := by decide +kernel
theorem tyX1_ok : ∀ k, k < 9 → parseFieldDescriptor (TX1 k).2.2.1 = some (tyX1 k) := by decide +kernel
abbrev cX1_init : ByteArray := prog_3_method_1_code
def yX1_init : MethodName := ⟨RX1, "<init>", "(ILDovetailRow$Part;LDovetailRow$Part;II)V"⟩
abbrev cX1_hold : ByteArray := prog_3_method_2_code
def yX1_hold : MethodName := ⟨RX1, "hold", "()V"⟩
abbrev cX1_isHeld : ByteArray := prog_3_method_3_code
def yX1_isHeld : MethodName := ⟨RX1, "isHeld", "()Z"⟩
abbrev cX1_breaksAt : ByteArray := prog_3_method_4_code
def yX1_breaksAt : MethodName := ⟨RX1, "breaksAt", "(I)Z"⟩
abbrev cX1_state : ByteArray := prog_3_method_5_code
def yX1_state : MethodName := ⟨RX1, "state", "()I"⟩
def RX2 : String := "DovetailRow$Part"
def TX2 : u_T := fun k => match k with
  | 0 => ("DovetailRow$Wood", "species", "I", true)
  | 1 => ("DovetailRow$Wood", "measuredWidth", "I", true)
  | 2 => ("DovetailRow$Wood", "measuredMoisture", "I", true)
  | 3 => ("DovetailRow$Wood", "moisture", "I", false)
  | 4 => ("DovetailRow$Wood", "coats", "I", false)
  | 5 => ("DovetailRow$Part", "number", "I", true)
  | 6 => ("DovetailRow$Part", "board", "LDovetailRow$Board;", true)
  | 7 => ("DovetailRow$Part", "from", "I", true)
  | _ => ("DovetailRow$Part", "length", "I", true)
def tyX2 : Nat → FieldType := fun k => match k with
  | 0 => .int
  | 1 => .int
  | 2 => .int
  | 3 => .int
  | 4 => .int
  | 5 => .int
  | 6 => .object "DovetailRow$Board"
  | 7 => .int
  | _ => .int
theorem nmX2 : ∀ a, a < 9 → ∀ b, b < 9 → a ≠ b → (TX2 a).2.1 ≠ (TX2 b).2.1 := by decide +kernel
theorem tyX2_ok : ∀ k, k < 9 → parseFieldDescriptor (TX2 k).2.2.1 = some (tyX2 k) := by decide +kernel
abbrev cX2_init : ByteArray := prog_4_method_1_code
def yX2_init : MethodName := ⟨RX2, "<init>", "(ILDovetailRow$Board;III)V"⟩
def RX3 : String := "DovetailRow$Span"
def TX3 : u_T := fun k => match k with
  | 0 => ("DovetailRow$Span", "from", "I", true)
  | _ => ("DovetailRow$Span", "to", "I", true)
def tyX3 : Nat → FieldType := fun k => match k with
  | 0 => .int
  | _ => .int
theorem nmX3 : ∀ a, a < 2 → ∀ b, b < 2 → a ≠ b → (TX3 a).2.1 ≠ (TX3 b).2.1 := by decide +kernel
theorem tyX3_ok : ∀ k, k < 2 → parseFieldDescriptor (TX3 k).2.2.1 = some (tyX3 k) := by decide +kernel
abbrev cX3_init : ByteArray := prog_5_method_1_code
def yX3_init : MethodName := ⟨RX3, "<init>", "(II)V"⟩
abbrev cX3_touches : ByteArray := prog_5_method_2_code
def yX3_touches : MethodName := ⟨RX3, "touches", "(II)Z"⟩
def RX4 : String := "DovetailRow$Wood"
def TX4 : u_T := fun k => match k with
  | _ => ("", "", "", false)
def tyX4 : Nat → FieldType := fun k => match k with
  | _ => .int
theorem nmX4 : ∀ a, a < 0 → ∀ b, b < 0 → a ≠ b → (TX4 a).2.1 ≠ (TX4 b).2.1 := by decide +kernel
theorem tyX4_ok : ∀ k, k < 0 → parseFieldDescriptor (TX4 k).2.2.1 = some (tyX4 k) := by decide +kernel
abbrev cX4_init : ByteArray := prog_6_method_1_code
def yX4_init : MethodName := ⟨RX4, "<init>", "(III)V"⟩
abbrev cX4_movementOf : ByteArray := prog_6_method_2_code
def yX4_movementOf : MethodName := ⟨RX4, "movementOf", "(II)I"⟩
abbrev cX4_widthAt : ByteArray := prog_6_method_3_code
def yX4_widthAt : MethodName := ⟨RX4, "widthAt", "(I)I"⟩
abbrev cX4_widthNow : ByteArray := prog_6_method_4_code
def yX4_widthNow : MethodName := ⟨RX4, "widthNow", "()I"⟩
abbrev cX4_moistureAfter : ByteArray := prog_6_method_5_code
def yX4_moistureAfter : MethodName := ⟨RX4, "moistureAfter", "(II)I"⟩
abbrev cX4_moisten : ByteArray := prog_6_method_6_code
def yX4_moisten : MethodName := ⟨RX4, "moisten", "(I)V"⟩
def RX5 : String := "DovetailRow"
def TX5 : u_T := fun k => match k with
  | 0 => ("DovetailRow", "boards", "Ljava/util/ArrayList;", true)
  | 1 => ("DovetailRow", "parts", "Ljava/util/ArrayList;", true)
  | 2 => ("DovetailRow", "joints", "Ljava/util/ArrayList;", true)
  | 3 => ("DovetailRow", "air", "[I", true)
  | 4 => ("DovetailRow", "nextMonth", "I", false)
  | 5 => ("DovetailRow", "saw", "I", false)
  | 6 => ("DovetailRow", "chisel", "I", false)
  | _ => ("DovetailRow", "clampCount", "I", false)
def tyX5 : Nat → FieldType := fun k => match k with
  | 0 => .object "java/util/ArrayList"
  | 1 => .object "java/util/ArrayList"
  | 2 => .object "java/util/ArrayList"
  | 3 => .array .int
  | 4 => .int
  | 5 => .int
  | 6 => .int
  | _ => .int
theorem nmX5 : ∀ a, a < 8 → ∀ b, b < 8 → a ≠ b → (TX5 a).2.1 ≠ (TX5 b).2.1 := by decide +kernel
theorem tyX5_ok : ∀ k, k < 8 → parseFieldDescriptor (TX5 k).2.2.1 = some (tyX5 k) := by decide +kernel
abbrev cX5_init : ByteArray := prog_1_method_1_code
def yX5_init : MethodName := ⟨RX5, "<init>", "()V"⟩
abbrev cX5_weather : ByteArray := prog_1_method_2_code
def yX5_weather : MethodName := ⟨RX5, "weather", "(II)I"⟩
abbrev cX5_pass : ByteArray := prog_1_method_3_code
def yX5_pass : MethodName := ⟨RX5, "pass", "(I)I"⟩
abbrev cX5_board : ByteArray := prog_1_method_4_code
def yX5_board : MethodName := ⟨RX5, "board", "(IIIIII)I"⟩
abbrev cX5_knot : ByteArray := prog_1_method_5_code
def yX5_knot : MethodName := ⟨RX5, "knot", "(III)I"⟩
abbrev cX5_cut : ByteArray := prog_1_method_6_code
def yX5_cut : MethodName := ⟨RX5, "cut", "(IIIIZ)I"⟩
abbrev cX5_sharpen : ByteArray := prog_1_method_7_code
def yX5_sharpen : MethodName := ⟨RX5, "sharpen", "(I)I"⟩
abbrev cX5_clearFrom : ByteArray := prog_1_method_8_code
def yX5_clearFrom : MethodName := ⟨RX5, "clearFrom", "(II)I"⟩
abbrev cX5_coat : ByteArray := prog_1_method_9_code
def yX5_coat : MethodName := ⟨RX5, "coat", "(I)I"⟩
abbrev cX5_match : ByteArray := prog_1_method_10_code
def yX5_match : MethodName := ⟨RX5, "match", "(II)I"⟩
abbrev cX5_joint : ByteArray := prog_1_method_11_code
def yX5_joint : MethodName := ⟨RX5, "joint", "(IIIII)I"⟩
abbrev cX5_need : ByteArray := prog_1_method_12_code
def yX5_need : MethodName := ⟨RX5, "need", "(II)I"⟩
abbrev cX5_clamps : ByteArray := prog_1_method_13_code
def yX5_clamps : MethodName := ⟨RX5, "clamps", "(I)I"⟩
abbrev cX5_glue : ByteArray := prog_1_method_14_code
def yX5_glue : MethodName := ⟨RX5, "glue", "(I)I"⟩
abbrev cX5_repair : ByteArray := prog_1_method_15_code
def yX5_repair : MethodName := ⟨RX5, "repair", "(I)I"⟩
abbrev cX5_through : ByteArray := prog_1_method_16_code
def yX5_through : MethodName := ⟨RX5, "through", "(I)I"⟩
abbrev cX5_breaksIn : ByteArray := prog_1_method_17_code
def yX5_breaksIn : MethodName := ⟨RX5, "breaksIn", "(II)I"⟩
abbrev cX5_month : ByteArray := prog_1_method_18_code
def yX5_month : MethodName := ⟨RX5, "month", "()I"⟩
abbrev cX5_ofBoard : ByteArray := prog_1_method_19_code
def yX5_ofBoard : MethodName := ⟨RX5, "ofBoard", "(II)I"⟩
abbrev cX5_ofPart : ByteArray := prog_1_method_20_code
def yX5_ofPart : MethodName := ⟨RX5, "ofPart", "(II)I"⟩
abbrev cX5_ofJoint : ByteArray := prog_1_method_21_code
def yX5_ofJoint : MethodName := ⟨RX5, "ofJoint", "(II)I"⟩
abbrev cX5_isWithin : ByteArray := prog_1_method_22_code
def yX5_isWithin : MethodName := ⟨RX5, "isWithin", "(III)Z"⟩
abbrev cX5_has : ByteArray := prog_1_method_23_code
def yX5_has : MethodName := ⟨RX5, "has", "(II)Z"⟩
abbrev cX5_findBoard : ByteArray := prog_1_method_24_code
def yX5_findBoard : MethodName := ⟨RX5, "findBoard", "(I)LDovetailRow$Board;"⟩
abbrev cX5_findPart : ByteArray := prog_1_method_25_code
def yX5_findPart : MethodName := ⟨RX5, "findPart", "(I)LDovetailRow$Part;"⟩
abbrev cX5_findJoint : ByteArray := prog_1_method_26_code
def yX5_findJoint : MethodName := ⟨RX5, "findJoint", "(I)LDovetailRow$Joint;"⟩
abbrev cX5_airIn : ByteArray := prog_1_method_27_code
def yX5_airIn : MethodName := ⟨RX5, "airIn", "(I)I"⟩
abbrev cX5_moistenAll : ByteArray := prog_1_method_28_code
def yX5_moistenAll : MethodName := ⟨RX5, "moistenAll", "(I)V"⟩
abbrev cX5_breakJoints : ByteArray := prog_1_method_29_code
def yX5_breakJoints : MethodName := ⟨RX5, "breakJoints", "()I"⟩
abbrev cX5_monthOfBreak : ByteArray := prog_1_method_30_code
def yX5_monthOfBreak : MethodName := ⟨RX5, "monthOfBreak", "(LDovetailRow$Joint;I)I"⟩
abbrev cX5_movingOf : ByteArray := prog_1_method_31_code
def yX5_movingOf : MethodName := ⟨RX5, "movingOf", "(I)I"⟩
abbrev cX5_hardnessOf : ByteArray := prog_1_method_32_code
def yX5_hardnessOf : MethodName := ⟨RX5, "hardnessOf", "(I)I"⟩
abbrev cX5_suitsFlitch : ByteArray := prog_1_method_33_code
def yX5_suitsFlitch : MethodName := ⟨RX5, "suitsFlitch", "(III)Z"⟩
abbrev cX5_touchesAny : ByteArray := prog_1_method_34_code
def yX5_touchesAny : MethodName := ⟨RX5, "touchesAny", "(Ljava/util/ArrayList;II)Z"⟩
abbrev cX5_earlierBehind : ByteArray := prog_1_method_35_code
def yX5_earlierBehind : MethodName := ⟨RX5, "earlierBehind", "(Ljava/util/ArrayList;LDovetailRow$Board;II)I"⟩
abbrev cX5_isTongue : ByteArray := prog_1_method_36_code
def yX5_isTongue : MethodName := ⟨RX5, "isTongue", "(II)Z"⟩
abbrev cX5_fits : ByteArray := prog_1_method_37_code
def yX5_fits : MethodName := ⟨RX5, "fits", "(ILDovetailRow$Part;II)Z"⟩
abbrev cX5_canBeGlued : ByteArray := prog_1_method_38_code
def yX5_canBeGlued : MethodName := ⟨RX5, "canBeGlued", "(I)Z"⟩
abbrev cX5_minutesOf : ByteArray := prog_1_method_39_code
def yX5_minutesOf : MethodName := ⟨RX5, "minutesOf", "(I)I"⟩
abbrev cX5_clampsOf : ByteArray := prog_1_method_40_code
def yX5_clampsOf : MethodName := ⟨RX5, "clampsOf", "(I)I"⟩
def RX6 : String := "DovetailRowModel"
def TX6 : u_T := fun k => match k with
  | 0 => ("DovetailRowModel", "thrown", "I", false)
  | 1 => ("DovetailRowModel", "month", "I", false)
  | 2 => ("DovetailRowModel", "weather", "[I", true)
  | 3 => ("DovetailRowModel", "sharp", "[I", true)
  | 4 => ("DovetailRowModel", "clamps", "I", false)
  | 5 => ("DovetailRowModel", "boardMany", "I", false)
  | 6 => ("DovetailRowModel", "species", "[I", true)
  | 7 => ("DovetailRowModel", "flitches", "[I", true)
  | 8 => ("DovetailRowModel", "places", "[I", true)
  | 9 => ("DovetailRowModel", "boardWidths", "[I", true)
  | 10 => ("DovetailRowModel", "boardLengths", "[I", true)
  | 11 => ("DovetailRowModel", "boardMeasured", "[I", true)
  | 12 => ("DovetailRowModel", "boardMoist", "[I", true)
  | 13 => ("DovetailRowModel", "knotMany", "[I", true)
  | 14 => ("DovetailRowModel", "knotFrom", "[I", true)
  | 15 => ("DovetailRowModel", "knotTo", "[I", true)
  | 16 => ("DovetailRowModel", "partMany", "I", false)
  | 17 => ("DovetailRowModel", "boards", "[I", true)
  | 18 => ("DovetailRowModel", "froms", "[I", true)
  | 19 => ("DovetailRowModel", "lengths", "[I", true)
  | 20 => ("DovetailRowModel", "widths", "[I", true)
  | 21 => ("DovetailRowModel", "measured", "[I", true)
  | 22 => ("DovetailRowModel", "moist", "[I", true)
  | 23 => ("DovetailRowModel", "coats", "[I", true)
  | 24 => ("DovetailRowModel", "jointMany", "I", false)
  | 25 => ("DovetailRowModel", "kinds", "[I", true)
  | 26 => ("DovetailRowModel", "parts", "[I", true)
  | 27 => ("DovetailRowModel", "others", "[I", true)
  | 28 => ("DovetailRowModel", "sizes", "[I", true)
  | 29 => ("DovetailRowModel", "tongues", "[I", true)
  | 30 => ("DovetailRowModel", "needs", "[I", true)
  | 31 => ("DovetailRowModel", "glued", "[Z", true)
  | 32 => ("DovetailRowModel", "broken", "[Z", true)
  | 33 => ("DovetailRowModel", "gluedMoist", "[I", true)
  | 34 => ("DovetailRowModel", "ahead", "[I", true)
  | _ => ("DovetailRowModel", "breaks", "[I", true)
def tyX6 : Nat → FieldType := fun k => match k with
  | 0 => .int
  | 1 => .int
  | 2 => .array .int
  | 3 => .array .int
  | 4 => .int
  | 5 => .int
  | 6 => .array .int
  | 7 => .array .int
  | 8 => .array .int
  | 9 => .array .int
  | 10 => .array .int
  | 11 => .array .int
  | 12 => .array .int
  | 13 => .array .int
  | 14 => .array .int
  | 15 => .array .int
  | 16 => .int
  | 17 => .array .int
  | 18 => .array .int
  | 19 => .array .int
  | 20 => .array .int
  | 21 => .array .int
  | 22 => .array .int
  | 23 => .array .int
  | 24 => .int
  | 25 => .array .int
  | 26 => .array .int
  | 27 => .array .int
  | 28 => .array .int
  | 29 => .array .int
  | 30 => .array .int
  | 31 => .array .boolean
  | 32 => .array .boolean
  | 33 => .array .int
  | 34 => .array .int
  | _ => .array .int
theorem nmX6 : ∀ a, a < 36 → ∀ b, b < 36 → a ≠ b → (TX6 a).2.1 ≠ (TX6 b).2.1 := by decide +kernel
theorem tyX6_ok : ∀ k, k < 36 → parseFieldDescriptor (TX6 k).2.2.1 = some (tyX6 k) := by decide +kernel
abbrev cX6_init : ByteArray := prog_8_method_1_code
def yX6_init : MethodName := ⟨RX6, "<init>", "()V"⟩
abbrev cX6_thrown : ByteArray := prog_8_method_2_code
def yX6_thrown : MethodName := ⟨RX6, "thrown", "()I"⟩
abbrev cX6_between : ByteArray := prog_8_method_3_code
def yX6_between : MethodName := ⟨RX6, "between", "(III)Z"⟩
abbrev cX6_isBoard : ByteArray := prog_8_method_4_code
def yX6_isBoard : MethodName := ⟨RX6, "isBoard", "(I)Z"⟩
abbrev cX6_isPart : ByteArray := prog_8_method_5_code
def yX6_isPart : MethodName := ⟨RX6, "isPart", "(I)Z"⟩
abbrev cX6_isJoint : ByteArray := prog_8_method_6_code
def yX6_isJoint : MethodName := ⟨RX6, "isJoint", "(I)Z"⟩
abbrev cX6_isMoisture : ByteArray := prog_8_method_7_code
def yX6_isMoisture : MethodName := ⟨RX6, "isMoisture", "(I)Z"⟩
abbrev cX6_moves : ByteArray := prog_8_method_8_code
def yX6_moves : MethodName := ⟨RX6, "moves", "(I)I"⟩
abbrev cX6_hardness : ByteArray := prog_8_method_9_code
def yX6_hardness : MethodName := ⟨RX6, "hardness", "(I)I"⟩
abbrev cX6_weather : ByteArray := prog_8_method_10_code
def yX6_weather : MethodName := ⟨RX6, "weather", "(II)I"⟩
abbrev cX6_behind : ByteArray := prog_8_method_11_code
def yX6_behind : MethodName := ⟨RX6, "behind", "(III)I"⟩
abbrev cX6_moved : ByteArray := prog_8_method_12_code
def yX6_moved : MethodName := ⟨RX6, "moved", "(III)I"⟩
abbrev cX6_speciesOf : ByteArray := prog_8_method_13_code
def yX6_speciesOf : MethodName := ⟨RX6, "speciesOf", "(I)I"⟩
abbrev cX6_widthAt : ByteArray := prog_8_method_14_code
def yX6_widthAt : MethodName := ⟨RX6, "widthAt", "(II)I"⟩
abbrev cX6_wouldBreak : ByteArray := prog_8_method_15_code
def yX6_wouldBreak : MethodName := ⟨RX6, "wouldBreak", "(II)Z"⟩
abbrev cX6_pass : ByteArray := prog_8_method_16_code
def yX6_pass : MethodName := ⟨RX6, "pass", "(I)I"⟩
abbrev cX6_board : ByteArray := prog_8_method_17_code
def yX6_board : MethodName := ⟨RX6, "board", "(IIIIII)I"⟩
abbrev cX6_boardWidth : ByteArray := prog_8_method_18_code
def yX6_boardWidth : MethodName := ⟨RX6, "boardWidth", "(I)I"⟩
abbrev cX6_isTaken : ByteArray := prog_8_method_19_code
def yX6_isTaken : MethodName := ⟨RX6, "isTaken", "(III)Z"⟩
abbrev cX6_hasKnot : ByteArray := prog_8_method_20_code
def yX6_hasKnot : MethodName := ⟨RX6, "hasKnot", "(III)Z"⟩
abbrev cX6_knot : ByteArray := prog_8_method_21_code
def yX6_knot : MethodName := ⟨RX6, "knot", "(III)I"⟩
abbrev cX6_cut : ByteArray := prog_8_method_22_code
def yX6_cut : MethodName := ⟨RX6, "cut", "(IIIIZ)I"⟩
abbrev cX6_sharpen : ByteArray := prog_8_method_23_code
def yX6_sharpen : MethodName := ⟨RX6, "sharpen", "(I)I"⟩
abbrev cX6_clearFrom : ByteArray := prog_8_method_24_code
def yX6_clearFrom : MethodName := ⟨RX6, "clearFrom", "(II)I"⟩
abbrev cX6_coat : ByteArray := prog_8_method_25_code
def yX6_coat : MethodName := ⟨RX6, "coat", "(I)I"⟩
abbrev cX6_match : ByteArray := prog_8_method_26_code
def yX6_match : MethodName := ⟨RX6, "match", "(II)I"⟩
abbrev cX6_fits : ByteArray := prog_8_method_27_code
def yX6_fits : MethodName := ⟨RX6, "fits", "(IIII)Z"⟩
abbrev cX6_joint : ByteArray := prog_8_method_28_code
def yX6_joint : MethodName := ⟨RX6, "joint", "(IIIII)I"⟩
abbrev cX6_need : ByteArray := prog_8_method_29_code
def yX6_need : MethodName := ⟨RX6, "need", "(II)I"⟩
abbrev cX6_clamps : ByteArray := prog_8_method_30_code
def yX6_clamps : MethodName := ⟨RX6, "clamps", "(I)I"⟩
abbrev cX6_glue : ByteArray := prog_8_method_31_code
def yX6_glue : MethodName := ⟨RX6, "glue", "(I)I"⟩
abbrev cX6_repair : ByteArray := prog_8_method_32_code
def yX6_repair : MethodName := ⟨RX6, "repair", "(I)I"⟩
abbrev cX6_lookAhead : ByteArray := prog_8_method_33_code
def yX6_lookAhead : MethodName := ⟨RX6, "lookAhead", "(I)V"⟩
abbrev cX6_through : ByteArray := prog_8_method_34_code
def yX6_through : MethodName := ⟨RX6, "through", "(I)I"⟩
abbrev cX6_breaksIn : ByteArray := prog_8_method_35_code
def yX6_breaksIn : MethodName := ⟨RX6, "breaksIn", "(II)I"⟩
abbrev cX6_month : ByteArray := prog_8_method_36_code
def yX6_month : MethodName := ⟨RX6, "month", "()I"⟩
abbrev cX6_ofBoard : ByteArray := prog_8_method_37_code
def yX6_ofBoard : MethodName := ⟨RX6, "ofBoard", "(II)I"⟩
abbrev cX6_ofPart : ByteArray := prog_8_method_38_code
def yX6_ofPart : MethodName := ⟨RX6, "ofPart", "(II)I"⟩
abbrev cX6_stateOf : ByteArray := prog_8_method_39_code
def yX6_stateOf : MethodName := ⟨RX6, "stateOf", "(I)I"⟩
abbrev cX6_ofJoint : ByteArray := prog_8_method_40_code
def yX6_ofJoint : MethodName := ⟨RX6, "ofJoint", "(II)I"⟩
def RJx145de : String := "java/io/Serializable"
def TJx145de : u_T := fun k => match k with
  | _ => ("", "", "", false)
def tyJx145de : Nat → FieldType := fun k => match k with
  | _ => .int
theorem nmJx145de : ∀ a, a < 0 → ∀ b, b < 0 → a ≠ b → (TJx145de a).2.1 ≠ (TJx145de b).2.1 := by decide +kernel
theorem tyJx145de_ok : ∀ k, k < 0 → parseFieldDescriptor (TJx145de k).2.2.1 = some (tyJx145de k) := by decide +kernel
def RJx8e188 : String := "java/lang/Cloneable"
def TJx8e188 : u_T := fun k => match k with
  | _ => ("", "", "", false)
def tyJx8e188 : Nat → FieldType := fun k => match k with
  | _ => .int
theorem nmJx8e188 : ∀ a, a < 0 → ∀ b, b < 0 → a ≠ b → (TJx8e188 a).2.1 ≠ (TJx8e188 b).2.1 := by decide +kernel
theorem tyJx8e188_ok : ∀ k, k < 0 → parseFieldDescriptor (TJx8e188 k).2.2.1 = some (tyJx8e188 k) := by decide +kernel
def RJ6 : String := "java/lang/Integer"
def TJ6 : u_T := fun k => match k with
  | _ => ("", "", "", false)
def tyJ6 : Nat → FieldType := fun k => match k with
  | _ => .int
theorem nmJ6 : ∀ a, a < 0 → ∀ b, b < 0 → a ≠ b → (TJ6 a).2.1 ≠ (TJ6 b).2.1 := by decide +kernel
theorem tyJ6_ok : ∀ k, k < 0 → parseFieldDescriptor (TJ6 k).2.2.1 = some (tyJ6 k) := by decide +kernel
abbrev cJ6_signum_0f7a4 : ByteArray := prog_15_method_56_code
def yJ6_signum_0f7a4 : MethodName := ⟨RJ6, "signum", "(I)I"⟩
def RJxab1ab : String := "java/lang/Iterable"
def TJxab1ab : u_T := fun k => match k with
  | _ => ("", "", "", false)
def tyJxab1ab : Nat → FieldType := fun k => match k with
  | _ => .int
theorem nmJxab1ab : ∀ a, a < 0 → ∀ b, b < 0 → a ≠ b → (TJxab1ab a).2.1 ≠ (TJxab1ab b).2.1 := by decide +kernel
theorem tyJxab1ab_ok : ∀ k, k < 0 → parseFieldDescriptor (TJxab1ab k).2.2.1 = some (tyJxab1ab k) := by decide +kernel
def RJ9 : String := "java/lang/Math"
def TJ9 : u_T := fun k => match k with
  | _ => ("", "", "", false)
def tyJ9 : Nat → FieldType := fun k => match k with
  | _ => .int
theorem nmJ9 : ∀ a, a < 0 → ∀ b, b < 0 → a ≠ b → (TJ9 a).2.1 ≠ (TJ9 b).2.1 := by decide +kernel
theorem tyJ9_ok : ∀ k, k < 0 → parseFieldDescriptor (TJ9 k).2.2.1 = some (tyJ9 k) := by decide +kernel
abbrev cJ9_floorMod_7cf53 : ByteArray := prog_17_method_50_code
def yJ9_floorMod_7cf53 : MethodName := ⟨RJ9, "floorMod", "(II)I"⟩
abbrev cJ9_abs_0f7a4 : ByteArray := prog_17_method_59_code
def yJ9_abs_0f7a4 : MethodName := ⟨RJ9, "abs", "(I)I"⟩
abbrev cJ9_max_7cf53 : ByteArray := prog_17_method_65_code
def yJ9_max_7cf53 : MethodName := ⟨RJ9, "max", "(II)I"⟩
abbrev cJ9_min_7cf53 : ByteArray := prog_17_method_69_code
def yJ9_min_7cf53 : MethodName := ⟨RJ9, "min", "(II)I"⟩
def RJ0 : String := "java/lang/String"
def TJ0 : u_T := fun k => match k with
  | _ => ("", "", "", false)
def tyJ0 : Nat → FieldType := fun k => match k with
  | _ => .int
theorem nmJ0 : ∀ a, a < 0 → ∀ b, b < 0 → a ≠ b → (TJ0 a).2.1 ≠ (TJ0 b).2.1 := by decide +kernel
theorem tyJ0_ok : ∀ k, k < 0 → parseFieldDescriptor (TJ0 k).2.2.1 = some (tyJ0 k) := by decide +kernel
def RJ10 : String := "java/lang/System"
def TJ10 : u_T := fun k => match k with
  | _ => ("", "", "", false)
def tyJ10 : Nat → FieldType := fun k => match k with
  | _ => .int
theorem nmJ10 : ∀ a, a < 0 → ∀ b, b < 0 → a ≠ b → (TJ10 a).2.1 ≠ (TJ10 b).2.1 := by decide +kernel
theorem tyJ10_ok : ∀ k, k < 0 → parseFieldDescriptor (TJ10 k).2.2.1 = some (tyJ10 k) := by decide +kernel
def RJxa1e45 : String := "java/util/AbstractCollection"
def TJxa1e45 : u_T := fun k => match k with
  | _ => ("", "", "", false)
def tyJxa1e45 : Nat → FieldType := fun k => match k with
  | _ => .int
theorem nmJxa1e45 : ∀ a, a < 0 → ∀ b, b < 0 → a ≠ b → (TJxa1e45 a).2.1 ≠ (TJxa1e45 b).2.1 := by decide +kernel
theorem tyJxa1e45_ok : ∀ k, k < 0 → parseFieldDescriptor (TJxa1e45 k).2.2.1 = some (tyJxa1e45 k) := by decide +kernel
abbrev cJxa1e45_init_da8c8 : ByteArray := prog_22_method_1_code
def yJxa1e45_init_da8c8 : MethodName := ⟨RJxa1e45, "<init>", "()V"⟩
def RJxc12de : String := "java/util/AbstractList"
def TJxc12de : u_T := fun k => match k with
  | _ => ("", "", "", false)
def tyJxc12de : Nat → FieldType := fun k => match k with
  | _ => .int
theorem nmJxc12de : ∀ a, a < 0 → ∀ b, b < 0 → a ≠ b → (TJxc12de a).2.1 ≠ (TJxc12de b).2.1 := by decide +kernel
theorem tyJxc12de_ok : ∀ k, k < 0 → parseFieldDescriptor (TJxc12de k).2.2.1 = some (tyJxc12de k) := by decide +kernel
abbrev cJxc12de_init_da8c8 : ByteArray := prog_23_method_1_code
def yJxc12de_init_da8c8 : MethodName := ⟨RJxc12de, "<init>", "()V"⟩
def RJx4a65c : String := "java/util/ArrayList"
def TJx4a65c : u_T := fun k => match k with
  | 0 => ("java/util/AbstractList", "modCount", "I", false)
  | 1 => ("java/util/ArrayList", "elementData", "[Ljava/lang/Object;", false)
  | _ => ("java/util/ArrayList", "size", "I", false)
def tyJx4a65c : Nat → FieldType := fun k => match k with
  | 0 => .int
  | 1 => .array (.object "java/lang/Object")
  | _ => .int
theorem nmJx4a65c : ∀ a, a < 3 → ∀ b, b < 3 → a ≠ b → (TJx4a65c a).2.1 ≠ (TJx4a65c b).2.1 := by decide +kernel
theorem tyJx4a65c_ok : ∀ k, k < 3 → parseFieldDescriptor (TJx4a65c k).2.2.1 = some (tyJx4a65c k) := by decide +kernel
abbrev cJx4a65c_init_da8c8 : ByteArray := prog_24_method_2_code
def yJx4a65c_init_da8c8 : MethodName := ⟨RJx4a65c, "<init>", "()V"⟩
abbrev cJx4a65c_grow_92f84 : ByteArray := prog_24_method_6_code
def yJx4a65c_grow_92f84 : MethodName := ⟨RJx4a65c, "grow", "(I)[Ljava/lang/Object;"⟩
abbrev cJx4a65c_grow_d5877 : ByteArray := prog_24_method_7_code
def yJx4a65c_grow_d5877 : MethodName := ⟨RJx4a65c, "grow", "()[Ljava/lang/Object;"⟩
abbrev cJx4a65c_size_8abf5 : ByteArray := prog_24_method_8_code
def yJx4a65c_size_8abf5 : MethodName := ⟨RJx4a65c, "size", "()I"⟩
abbrev cJx4a65c_elementData_915e3 : ByteArray := prog_24_method_18_code
def yJx4a65c_elementData_915e3 : MethodName := ⟨RJx4a65c, "elementData", "(I)Ljava/lang/Object;"⟩
abbrev cJx4a65c_get_915e3 : ByteArray := prog_24_method_20_code
def yJx4a65c_get_915e3 : MethodName := ⟨RJx4a65c, "get", "(I)Ljava/lang/Object;"⟩
abbrev cJx4a65c_add_72be8 : ByteArray := prog_24_method_24_code
def yJx4a65c_add_72be8 : MethodName := ⟨RJx4a65c, "add", "(Ljava/lang/Object;[Ljava/lang/Object;I)V"⟩
abbrev cJx4a65c_add_9ea2d : ByteArray := prog_24_method_25_code
def yJx4a65c_add_9ea2d : MethodName := ⟨RJx4a65c, "add", "(Ljava/lang/Object;)Z"⟩
def RJ7 : String := "java/util/Arrays"
def TJ7 : u_T := fun k => match k with
  | _ => ("", "", "", false)
def tyJ7 : Nat → FieldType := fun k => match k with
  | _ => .int
theorem nmJ7 : ∀ a, a < 0 → ∀ b, b < 0 → a ≠ b → (TJ7 a).2.1 ≠ (TJ7 b).2.1 := by decide +kernel
theorem tyJ7_ok : ∀ k, k < 0 → parseFieldDescriptor (TJ7 k).2.2.1 = some (tyJ7 k) := by decide +kernel
abbrev cJ7_fill_53178 : ByteArray := prog_25_method_103_code
def yJ7_fill_53178 : MethodName := ⟨RJ7, "fill", "([II)V"⟩
abbrev cJ7_copyOf_1904c : ByteArray := prog_25_method_119_code
def yJ7_copyOf_1904c : MethodName := ⟨RJ7, "copyOf", "([Ljava/lang/Object;I)[Ljava/lang/Object;"⟩
abbrev cJ7_copyOf_6403c : ByteArray := prog_25_method_120_code
def yJ7_copyOf_6403c : MethodName := ⟨RJ7, "copyOf", "([Ljava/lang/Object;ILjava/lang/Class;)[Ljava/lang/Object;"⟩
def RJx5ef63 : String := "java/util/Collection"
def TJx5ef63 : u_T := fun k => match k with
  | _ => ("", "", "", false)
def tyJx5ef63 : Nat → FieldType := fun k => match k with
  | _ => .int
theorem nmJx5ef63 : ∀ a, a < 0 → ∀ b, b < 0 → a ≠ b → (TJx5ef63 a).2.1 ≠ (TJx5ef63 b).2.1 := by decide +kernel
theorem tyJx5ef63_ok : ∀ k, k < 0 → parseFieldDescriptor (TJx5ef63 k).2.2.1 = some (tyJx5ef63 k) := by decide +kernel
def RJxbd725 : String := "java/util/List"
def TJxbd725 : u_T := fun k => match k with
  | _ => ("", "", "", false)
def tyJxbd725 : Nat → FieldType := fun k => match k with
  | _ => .int
theorem nmJxbd725 : ∀ a, a < 0 → ∀ b, b < 0 → a ≠ b → (TJxbd725 a).2.1 ≠ (TJxbd725 b).2.1 := by decide +kernel
theorem tyJxbd725_ok : ∀ k, k < 0 → parseFieldDescriptor (TJxbd725 k).2.2.1 = some (tyJxbd725 k) := by decide +kernel
def RJ15 : String := "java/util/Objects"
def TJ15 : u_T := fun k => match k with
  | _ => ("", "", "", false)
def tyJ15 : Nat → FieldType := fun k => match k with
  | _ => .int
theorem nmJ15 : ∀ a, a < 0 → ∀ b, b < 0 → a ≠ b → (TJ15 a).2.1 ≠ (TJ15 b).2.1 := by decide +kernel
theorem tyJ15_ok : ∀ k, k < 0 → parseFieldDescriptor (TJ15 k).2.2.1 = some (tyJ15 k) := by decide +kernel
abbrev cJ15_checkIndex_7cf53 : ByteArray := prog_28_method_17_code
def yJ15_checkIndex_7cf53 : MethodName := ⟨RJ15, "checkIndex", "(II)I"⟩
def RJxf0a74 : String := "java/util/RandomAccess"
def TJxf0a74 : u_T := fun k => match k with
  | _ => ("", "", "", false)
def tyJxf0a74 : Nat → FieldType := fun k => match k with
  | _ => .int
theorem nmJxf0a74 : ∀ a, a < 0 → ∀ b, b < 0 → a ≠ b → (TJxf0a74 a).2.1 ≠ (TJxf0a74 b).2.1 := by decide +kernel
theorem tyJxf0a74_ok : ∀ k, k < 0 → parseFieldDescriptor (TJxf0a74 k).2.2.1 = some (tyJxf0a74 k) := by decide +kernel
def RJxa66e6 : String := "java/util/SequencedCollection"
def TJxa66e6 : u_T := fun k => match k with
  | _ => ("", "", "", false)
def tyJxa66e6 : Nat → FieldType := fun k => match k with
  | _ => .int
theorem nmJxa66e6 : ∀ a, a < 0 → ∀ b, b < 0 → a ≠ b → (TJxa66e6 a).2.1 ≠ (TJxa66e6 b).2.1 := by decide +kernel
theorem tyJxa66e6_ok : ∀ k, k < 0 → parseFieldDescriptor (TJxa66e6 k).2.2.1 = some (tyJxa66e6 k) := by decide +kernel
def RJ8 : String := "jdk/internal/util/ArraysSupport"
def TJ8 : u_T := fun k => match k with
  | _ => ("", "", "", false)
def tyJ8 : Nat → FieldType := fun k => match k with
  | _ => .int
theorem nmJ8 : ∀ a, a < 0 → ∀ b, b < 0 → a ≠ b → (TJ8 a).2.1 ≠ (TJ8 b).2.1 := by decide +kernel
theorem tyJ8_ok : ∀ k, k < 0 → parseFieldDescriptor (TJ8 k).2.2.1 = some (tyJ8 k) := by decide +kernel
abbrev cJ8_newLength_cabcc : ByteArray := prog_31_method_27_code
def yJ8_newLength_cabcc : MethodName := ⟨RJ8, "newLength", "(III)I"⟩
abbrev cJ8_hugeLength_7cf53 : ByteArray := prog_31_method_28_code
def yJ8_hugeLength_7cf53 : MethodName := ⟨RJ8, "hugeLength", "(II)I"⟩
def RJ3 : String := "jdk/internal/util/Preconditions"
def TJ3 : u_T := fun k => match k with
  | _ => ("", "", "", false)
def tyJ3 : Nat → FieldType := fun k => match k with
  | _ => .int
theorem nmJ3 : ∀ a, a < 0 → ∀ b, b < 0 → a ≠ b → (TJ3 a).2.1 ≠ (TJ3 b).2.1 := by decide +kernel
theorem tyJ3_ok : ∀ k, k < 0 → parseFieldDescriptor (TJ3 k).2.2.1 = some (tyJ3 k) := by decide +kernel
abbrev cJ3_checkIndex_8e157 : ByteArray := prog_32_method_11_code
def yJ3_checkIndex_8e157 : MethodName := ⟨RJ3, "checkIndex", "(IILjava/util/function/BiFunction;)I"⟩
def RL : String := "DovetailRowLaw"
abbrev cL_weather : ByteArray := method_3_code
def yL_weather : MethodName := ⟨RL, "weather", "(LDovetailRow;II[J)I"⟩
abbrev cL_pass : ByteArray := method_4_code
def yL_pass : MethodName := ⟨RL, "pass", "(LDovetailRow;I[J)I"⟩
abbrev cL_board : ByteArray := method_5_code
def yL_board : MethodName := ⟨RL, "board", "(LDovetailRow;IIIIII[J)I"⟩
abbrev cL_knot : ByteArray := method_6_code
def yL_knot : MethodName := ⟨RL, "knot", "(LDovetailRow;III[J)I"⟩
abbrev cL_cut : ByteArray := method_7_code
def yL_cut : MethodName := ⟨RL, "cut", "(LDovetailRow;IIIIZ[J)I"⟩
abbrev cL_sharpen : ByteArray := method_8_code
def yL_sharpen : MethodName := ⟨RL, "sharpen", "(LDovetailRow;I[J)I"⟩
abbrev cL_clearFrom : ByteArray := method_9_code
def yL_clearFrom : MethodName := ⟨RL, "clearFrom", "(LDovetailRow;II[J)I"⟩
abbrev cL_coat : ByteArray := method_10_code
def yL_coat : MethodName := ⟨RL, "coat", "(LDovetailRow;I[J)I"⟩
abbrev cL_match : ByteArray := method_11_code
def yL_match : MethodName := ⟨RL, "match", "(LDovetailRow;II[J)I"⟩
abbrev cL_joint : ByteArray := method_12_code
def yL_joint : MethodName := ⟨RL, "joint", "(LDovetailRow;IIIII[J)I"⟩
abbrev cL_need : ByteArray := method_13_code
def yL_need : MethodName := ⟨RL, "need", "(LDovetailRow;II[J)I"⟩
abbrev cL_clamps : ByteArray := method_14_code
def yL_clamps : MethodName := ⟨RL, "clamps", "(LDovetailRow;I[J)I"⟩
abbrev cL_glue : ByteArray := method_15_code
def yL_glue : MethodName := ⟨RL, "glue", "(LDovetailRow;I[J)I"⟩
abbrev cL_repair : ByteArray := method_16_code
def yL_repair : MethodName := ⟨RL, "repair", "(LDovetailRow;I[J)I"⟩
abbrev cL_through : ByteArray := method_17_code
def yL_through : MethodName := ⟨RL, "through", "(LDovetailRow;I[J)I"⟩
abbrev cL_breaksIn : ByteArray := method_18_code
def yL_breaksIn : MethodName := ⟨RL, "breaksIn", "(LDovetailRow;II[J)I"⟩
abbrev cL_ofBoard : ByteArray := method_19_code
def yL_ofBoard : MethodName := ⟨RL, "ofBoard", "(LDovetailRow;II[J)I"⟩
abbrev cL_ofPart : ByteArray := method_20_code
def yL_ofPart : MethodName := ⟨RL, "ofPart", "(LDovetailRow;II[J)I"⟩
abbrev cL_ofJoint : ByteArray := method_21_code
def yL_ofJoint : MethodName := ⟨RL, "ofJoint", "(LDovetailRow;II[J)I"⟩
abbrev cL_law : ByteArray := code
def yL_law : MethodName := ⟨RL, "law", "([I)Z"⟩
abbrev vwCl : List vw_C := [(RJx4a65c, TJx4a65c, 3), (RX0, TX0, 11), (RX1, TX1, 9), (RX2, TX2, 9), (RX3, TX3, 2), (RX5, TX5, 8), (RX6, TX6, 36)]
end
section
/-! ===== the words of the tables that a method may ask for, each by its place ===== -/
def wU : List Cond := (k2_sels lw_privs ++ tables_1).filter goodWord
theorem wU_tbl : ∀ w ∈ wU, w ∈ lw_tbl := fun _ h => (List.mem_filter.mp h).1
theorem wU_good {w : Cond} (h : w ∈ wU) : (w.onTables && w.keeps) = true ∨ ∃ ty, w = .arrayClass ty := good_of_word (List.mem_filter.mp h).2
theorem wU_s {w : Cond} (h : w ∈ k2_sels lw_privs) (g : goodWord w = true) : w ∈ wU := List.mem_filter.mpr ⟨List.mem_append_left _ h, g⟩
theorem wU_1 {w : Cond} (h : w ∈ tables_1_1) (g : goodWord w = true) : w ∈ wU := List.mem_filter.mpr ⟨List.mem_append_right _ (show w ∈ tables_1_1 ++ (tables_1_2 ++ (tables_1_3 ++ (tables_1_4 ++ tables_1_5))) from List.mem_append_left _ (h)), g⟩
theorem wT_1 {w : Cond} (h : w ∈ tables_1_1) : w ∈ lw_tbl := List.mem_append_right _ (show w ∈ tables_1_1 ++ (tables_1_2 ++ (tables_1_3 ++ (tables_1_4 ++ tables_1_5))) from List.mem_append_left _ (h))
theorem wU_2 {w : Cond} (h : w ∈ tables_1_2) (g : goodWord w = true) : w ∈ wU := List.mem_filter.mpr ⟨List.mem_append_right _ (show w ∈ tables_1_1 ++ (tables_1_2 ++ (tables_1_3 ++ (tables_1_4 ++ tables_1_5))) from List.mem_append_right _ (List.mem_append_left _ (h))), g⟩
theorem wT_2 {w : Cond} (h : w ∈ tables_1_2) : w ∈ lw_tbl := List.mem_append_right _ (show w ∈ tables_1_1 ++ (tables_1_2 ++ (tables_1_3 ++ (tables_1_4 ++ tables_1_5))) from List.mem_append_right _ (List.mem_append_left _ (h)))
theorem wU_3 {w : Cond} (h : w ∈ tables_1_3) (g : goodWord w = true) : w ∈ wU := List.mem_filter.mpr ⟨List.mem_append_right _ (show w ∈ tables_1_1 ++ (tables_1_2 ++ (tables_1_3 ++ (tables_1_4 ++ tables_1_5))) from List.mem_append_right _ (List.mem_append_right _ (List.mem_append_left _ (h)))), g⟩
theorem wT_3 {w : Cond} (h : w ∈ tables_1_3) : w ∈ lw_tbl := List.mem_append_right _ (show w ∈ tables_1_1 ++ (tables_1_2 ++ (tables_1_3 ++ (tables_1_4 ++ tables_1_5))) from List.mem_append_right _ (List.mem_append_right _ (List.mem_append_left _ (h))))
theorem wU_4 {w : Cond} (h : w ∈ tables_1_4) (g : goodWord w = true) : w ∈ wU := List.mem_filter.mpr ⟨List.mem_append_right _ (show w ∈ tables_1_1 ++ (tables_1_2 ++ (tables_1_3 ++ (tables_1_4 ++ tables_1_5))) from List.mem_append_right _ (List.mem_append_right _ (List.mem_append_right _ (List.mem_append_left _ (h))))), g⟩
theorem wT_4 {w : Cond} (h : w ∈ tables_1_4) : w ∈ lw_tbl := List.mem_append_right _ (show w ∈ tables_1_1 ++ (tables_1_2 ++ (tables_1_3 ++ (tables_1_4 ++ tables_1_5))) from List.mem_append_right _ (List.mem_append_right _ (List.mem_append_right _ (List.mem_append_left _ (h)))))
theorem wU_5 {w : Cond} (h : w ∈ tables_1_5) (g : goodWord w = true) : w ∈ wU := List.mem_filter.mpr ⟨List.mem_append_right _ (show w ∈ tables_1_1 ++ (tables_1_2 ++ (tables_1_3 ++ (tables_1_4 ++ tables_1_5))) from List.mem_append_right _ (List.mem_append_right _ (List.mem_append_right _ (List.mem_append_right _ (h))))), g⟩
theorem wT_5 {w : Cond} (h : w ∈ tables_1_5) : w ∈ lw_tbl := List.mem_append_right _ (show w ∈ tables_1_1 ++ (tables_1_2 ++ (tables_1_3 ++ (tables_1_4 ++ tables_1_5))) from List.mem_append_right _ (List.mem_append_right _ (List.mem_append_right _ (List.mem_append_right _ (h)))))
theorem tw_0 : Jvm.Cond.initialized "DovetailRowLaw" ∈ wU := wU_1 (List.mem_of_getElem? (i := 0) rfl) rfl
theorem tw_1 : Jvm.Cond.initialized "DovetailRow" ∈ wU := wU_1 (List.mem_of_getElem? (i := 1) rfl) rfl
theorem tw_2 : Jvm.Cond.initialized "java/util/AbstractCollection" ∈ wU := wU_1 (List.mem_of_getElem? (i := 2) rfl) rfl
theorem tw_3 : Jvm.Cond.initialized "java/util/AbstractList" ∈ wU := wU_1 (List.mem_of_getElem? (i := 3) rfl) rfl
theorem tw_4 : Jvm.Cond.initialized "java/util/ArrayList" ∈ wU := wU_1 (List.mem_of_getElem? (i := 4) rfl) rfl
theorem tw_5 : Jvm.Cond.initialized "java/util/Arrays" ∈ wU := wU_1 (List.mem_of_getElem? (i := 5) rfl) rfl
theorem tw_6 : Jvm.Cond.initialized "DovetailRowModel" ∈ wU := wU_1 (List.mem_of_getElem? (i := 6) rfl) rfl
theorem tw_7 : Jvm.Cond.initialized "java/lang/Throwable" ∈ wU := wU_1 (List.mem_of_getElem? (i := 7) rfl) rfl
theorem tw_8 : Jvm.Cond.initialized "java/lang/Exception" ∈ wU := wU_1 (List.mem_of_getElem? (i := 8) rfl) rfl
theorem tw_9 : Jvm.Cond.initialized "java/lang/RuntimeException" ∈ wU := wU_1 (List.mem_of_getElem? (i := 9) rfl) rfl
theorem tw_10 : Jvm.Cond.initialized "java/lang/IndexOutOfBoundsException" ∈ wU := wU_1 (List.mem_of_getElem? (i := 10) rfl) rfl
theorem tw_11 : Jvm.Cond.initialized "java/lang/IllegalArgumentException" ∈ wU := wU_1 (List.mem_of_getElem? (i := 11) rfl) rfl
theorem tw_12 : Jvm.Cond.initialized "java/lang/IllegalStateException" ∈ wU := wU_1 (List.mem_of_getElem? (i := 12) rfl) rfl
theorem tw_13 : Jvm.Cond.initialized "java/lang/Math" ∈ wU := wU_1 (List.mem_of_getElem? (i := 13) rfl) rfl
theorem tw_14 : Jvm.Cond.initialized "java/util/Objects" ∈ wU := wU_1 (List.mem_of_getElem? (i := 14) rfl) rfl
theorem tw_15 : Jvm.Cond.initialized "jdk/internal/util/Preconditions" ∈ wU := wU_1 (List.mem_of_getElem? (i := 15) rfl) rfl
theorem tw_16 : Jvm.Cond.initialized "java/lang/Integer" ∈ wU := wU_1 (List.mem_of_getElem? (i := 16) rfl) rfl
theorem tw_17 : Jvm.Cond.initialized "DovetailRow$Wood" ∈ wU := wU_1 (List.mem_of_getElem? (i := 17) rfl) rfl
theorem tw_18 : Jvm.Cond.initialized "DovetailRow$Board" ∈ wU := wU_1 (List.mem_of_getElem? (i := 18) rfl) rfl
theorem tw_19 : Jvm.Cond.initialized "jdk/internal/util/ArraysSupport" ∈ wU := wU_1 (List.mem_of_getElem? (i := 19) rfl) rfl
theorem tw_20 : Jvm.Cond.initialized "java/lang/System" ∈ wU := wU_1 (List.mem_of_getElem? (i := 20) rfl) rfl
theorem tw_21 : Jvm.Cond.initialized "DovetailRow$Span" ∈ wU := wU_1 (List.mem_of_getElem? (i := 21) rfl) rfl
theorem tw_22 : Jvm.Cond.initialized "DovetailRow$Part" ∈ wU := wU_1 (List.mem_of_getElem? (i := 22) rfl) rfl
theorem tw_23 : Jvm.Cond.initialized "DovetailRow$Joint" ∈ wU := wU_1 (List.mem_of_getElem? (i := 23) rfl) rfl
theorem tw_24 : Jvm.Cond.classLink "DovetailRowLaw" (8 : Nat) "DovetailRow" ∈ wU := wU_1 (List.mem_of_getElem? (i := 24) rfl) rfl
theorem tw_25 : Jvm.Cond.instantiable "DovetailRow" (8 : Nat) ∈ wU := wU_1 (List.mem_of_getElem? (i := 25) rfl) rfl
theorem tw_26 : Jvm.Cond.methodLink "DovetailRowLaw" (78 : Nat) ({ cls := "DovetailRow", name := "<init>", desc := "()V" } : Jvm.MethodName) ∈ wU := wU_1 (List.mem_of_getElem? (i := 26) rfl) rfl
theorem tw_27 : Jvm.Cond.instanceMethod ({ cls := "DovetailRow", name := "<init>", desc := "()V" } : Jvm.MethodName) ∈ wU := wU_1 (List.mem_of_getElem? (i := 27) rfl) rfl
theorem tw_28 : Jvm.Cond.code ({ cls := "DovetailRow", name := "<init>", desc := "()V" } : Jvm.MethodName) prog_1_method_1_code (1 : Nat) (Option.none : Option Jvm.ClassFile.FieldType) ∈ wU := wU_1 (List.mem_of_getElem? (i := 28) rfl) rfl
theorem tw_29 : Jvm.Cond.methodLink "DovetailRow" (1 : Nat) ({ cls := "java/lang/Object", name := "<init>", desc := "()V" } : Jvm.MethodName) ∈ wU := wU_1 (List.mem_of_getElem? (i := 29) rfl) rfl
theorem tw_30 : Jvm.Cond.instanceMethod ({ cls := "java/lang/Object", name := "<init>", desc := "()V" } : Jvm.MethodName) ∈ wU := wU_1 (List.mem_of_getElem? (i := 30) rfl) rfl
theorem tw_31 : Jvm.Cond.code ({ cls := "java/lang/Object", name := "<init>", desc := "()V" } : Jvm.MethodName) object_method_1_code (1 : Nat) (Option.none : Option Jvm.ClassFile.FieldType) ∈ wU := wU_1 (List.mem_of_getElem? (i := 31) rfl) rfl
theorem tw_32 : Jvm.Cond.classLink "DovetailRow" (7 : Nat) "java/util/ArrayList" ∈ wU := wU_1 (List.mem_of_getElem? (i := 32) rfl) rfl
theorem tw_33 : Jvm.Cond.instantiable "java/util/ArrayList" (3 : Nat) ∈ wU := wU_1 (List.mem_of_getElem? (i := 33) rfl) rfl
theorem tw_34 : Jvm.Cond.methodLink "DovetailRow" (9 : Nat) ({ cls := "java/util/ArrayList", name := "<init>", desc := "()V" } : Jvm.MethodName) ∈ wU := wU_1 (List.mem_of_getElem? (i := 34) rfl) rfl
theorem tw_35 : Jvm.Cond.instanceMethod ({ cls := "java/util/ArrayList", name := "<init>", desc := "()V" } : Jvm.MethodName) ∈ wU := wU_1 (List.mem_of_getElem? (i := 35) rfl) rfl
theorem tw_36 : Jvm.Cond.code ({ cls := "java/util/ArrayList", name := "<init>", desc := "()V" } : Jvm.MethodName) prog_24_method_2_code (1 : Nat) (Option.none : Option Jvm.ClassFile.FieldType) ∈ wU := wU_1 (List.mem_of_getElem? (i := 36) rfl) rfl
theorem tw_37 : Jvm.Cond.methodLink "java/util/ArrayList" (1 : Nat) ({ cls := "java/util/AbstractList", name := "<init>", desc := "()V" } : Jvm.MethodName) ∈ wU := wU_1 (List.mem_of_getElem? (i := 37) rfl) rfl
theorem tw_38 : Jvm.Cond.instanceMethod ({ cls := "java/util/AbstractList", name := "<init>", desc := "()V" } : Jvm.MethodName) ∈ wU := wU_1 (List.mem_of_getElem? (i := 38) rfl) rfl
theorem tw_39 : Jvm.Cond.code ({ cls := "java/util/AbstractList", name := "<init>", desc := "()V" } : Jvm.MethodName) prog_23_method_1_code (1 : Nat) (Option.none : Option Jvm.ClassFile.FieldType) ∈ wU := wU_1 (List.mem_of_getElem? (i := 39) rfl) rfl
theorem tw_40 : Jvm.Cond.methodLink "java/util/AbstractList" (1 : Nat) ({ cls := "java/util/AbstractCollection", name := "<init>", desc := "()V" } : Jvm.MethodName) ∈ wU := wU_1 (List.mem_of_getElem? (i := 40) rfl) rfl
theorem tw_41 : Jvm.Cond.instanceMethod ({ cls := "java/util/AbstractCollection", name := "<init>", desc := "()V" } : Jvm.MethodName) ∈ wU := wU_1 (List.mem_of_getElem? (i := 41) rfl) rfl
theorem tw_42 : Jvm.Cond.code ({ cls := "java/util/AbstractCollection", name := "<init>", desc := "()V" } : Jvm.MethodName) prog_22_method_1_code (1 : Nat) (Option.none : Option Jvm.ClassFile.FieldType) ∈ wU := wU_1 (List.mem_of_getElem? (i := 42) rfl) rfl
theorem tw_43 : Jvm.Cond.methodLink "java/util/AbstractCollection" (1 : Nat) ({ cls := "java/lang/Object", name := "<init>", desc := "()V" } : Jvm.MethodName) ∈ wU := wU_1 (List.mem_of_getElem? (i := 43) rfl) rfl
theorem tw_44 : Jvm.Cond.fieldLink "java/util/ArrayList" (39 : Nat) "java/util/ArrayList" "DEFAULTCAPACITY_EMPTY_ELEMENTDATA" "[Ljava/lang/Object;" ∈ wU := wU_1 (List.mem_of_getElem? (i := 44) rfl) rfl
theorem tw_45 : Jvm.Cond.laysStatic "java/util/ArrayList" "DEFAULTCAPACITY_EMPTY_ELEMENTDATA" "[Ljava/lang/Object;" ∈ lw_tbl := wT_1 (List.mem_of_getElem? (i := 45) rfl)
theorem tw_46 : Jvm.Cond.fieldLink "java/util/ArrayList" (9 : Nat) "java/util/ArrayList" "elementData" "[Ljava/lang/Object;" ∈ wU := wU_1 (List.mem_of_getElem? (i := 46) rfl) rfl
theorem tw_47 : Jvm.Cond.fieldLink "java/util/ArrayList" (48 : Nat) "java/util/ArrayList" "size" "I" ∈ wU := wU_1 (List.mem_of_getElem? (i := 47) rfl) rfl
theorem tw_48 : Jvm.Cond.fieldLink "java/util/AbstractList" (7 : Nat) "java/util/AbstractList" "modCount" "I" ∈ wU := wU_1 (List.mem_of_getElem? (i := 48) rfl) rfl
theorem tw_49 : Jvm.Cond.fieldLink "java/util/ArrayList" (63 : Nat) "java/util/ArrayList" "modCount" "I" ∈ wU := wU_1 (List.mem_of_getElem? (i := 49) rfl) rfl
theorem tw_50 : Jvm.Cond.sameField "java/util/ArrayList" "java/util/AbstractList" "modCount" "I" ∈ wU := wU_1 (List.mem_of_getElem? (i := 50) rfl) rfl
theorem tw_51 : Jvm.Cond.lays "java/util/ArrayList" "java/util/ArrayList" "elementData" "[Ljava/lang/Object;" ∈ wU := wU_1 (List.mem_of_getElem? (i := 51) rfl) rfl
theorem tw_52 : Jvm.Cond.soleField "java/util/ArrayList" "elementData" ∈ wU := wU_1 (List.mem_of_getElem? (i := 52) rfl) rfl
theorem tw_53 : Jvm.Cond.lays "java/util/ArrayList" "java/util/ArrayList" "size" "I" ∈ wU := wU_1 (List.mem_of_getElem? (i := 53) rfl) rfl
theorem tw_54 : Jvm.Cond.soleField "java/util/ArrayList" "size" ∈ wU := wU_1 (List.mem_of_getElem? (i := 54) rfl) rfl
theorem tw_55 : Jvm.Cond.lays "java/util/ArrayList" "java/util/AbstractList" "modCount" "I" ∈ wU := wU_1 (List.mem_of_getElem? (i := 55) rfl) rfl
theorem tw_56 : Jvm.Cond.soleField "java/util/AbstractList" "modCount" ∈ wU := wU_1 (List.mem_of_getElem? (i := 56) rfl) rfl
theorem tw_57 : Jvm.Cond.superclass "java/util/ArrayList" "java/util/AbstractList" ∈ lw_tbl := wT_1 (List.mem_of_getElem? (i := 57) rfl)
theorem tw_58 : Jvm.Cond.methodLink "DovetailRow" (39 : Nat) ({ cls := "java/util/Arrays", name := "fill", desc := "([II)V" } : Jvm.MethodName) ∈ wU := wU_1 (List.mem_of_getElem? (i := 58) rfl) rfl
theorem tw_59 : Jvm.Cond.static ({ cls := "java/util/Arrays", name := "fill", desc := "([II)V" } : Jvm.MethodName) ∈ wU := wU_1 (List.mem_of_getElem? (i := 59) rfl) rfl
theorem tw_60 : Jvm.Cond.code ({ cls := "java/util/Arrays", name := "fill", desc := "([II)V" } : Jvm.MethodName) prog_25_method_103_code (4 : Nat) (Option.none : Option Jvm.ClassFile.FieldType) ∈ wU := wU_1 (List.mem_of_getElem? (i := 60) rfl) rfl
theorem tw_61 : Jvm.Cond.fieldLink "DovetailRow" (10 : Nat) "DovetailRow" "boards" "Ljava/util/ArrayList;" ∈ wU := wU_1 (List.mem_of_getElem? (i := 61) rfl) rfl
theorem tw_62 : Jvm.Cond.fieldLink "DovetailRow" (16 : Nat) "DovetailRow" "parts" "Ljava/util/ArrayList;" ∈ wU := wU_1 (List.mem_of_getElem? (i := 62) rfl) rfl
theorem tw_63 : Jvm.Cond.fieldLink "DovetailRow" (19 : Nat) "DovetailRow" "joints" "Ljava/util/ArrayList;" ∈ wU := wU_1 (List.mem_of_getElem? (i := 63) rfl) rfl
theorem tw_64 : Jvm.Cond.fieldLink "DovetailRow" (22 : Nat) "DovetailRow" "air" "[I" ∈ wU := wU_1 (List.mem_of_getElem? (i := 64) rfl) rfl
theorem tw_65 : Jvm.Cond.fieldLink "DovetailRow" (26 : Nat) "DovetailRow" "nextMonth" "I" ∈ wU := wU_1 (List.mem_of_getElem? (i := 65) rfl) rfl
theorem tw_66 : Jvm.Cond.fieldLink "DovetailRow" (30 : Nat) "DovetailRow" "saw" "I" ∈ wU := wU_1 (List.mem_of_getElem? (i := 66) rfl) rfl
theorem tw_67 : Jvm.Cond.fieldLink "DovetailRow" (33 : Nat) "DovetailRow" "chisel" "I" ∈ wU := wU_1 (List.mem_of_getElem? (i := 67) rfl) rfl
theorem tw_68 : Jvm.Cond.fieldLink "DovetailRow" (36 : Nat) "DovetailRow" "clampCount" "I" ∈ wU := wU_1 (List.mem_of_getElem? (i := 68) rfl) rfl
theorem tw_69 : Jvm.Cond.laysFinal "DovetailRow" "DovetailRow" "boards" "Ljava/util/ArrayList;" ∈ wU := wU_1 (List.mem_of_getElem? (i := 69) rfl) rfl
theorem tw_70 : Jvm.Cond.soleField "DovetailRow" "boards" ∈ wU := wU_1 (List.mem_of_getElem? (i := 70) rfl) rfl
theorem tw_71 : Jvm.Cond.laysFinal "DovetailRow" "DovetailRow" "parts" "Ljava/util/ArrayList;" ∈ wU := wU_1 (List.mem_of_getElem? (i := 71) rfl) rfl
theorem tw_72 : Jvm.Cond.soleField "DovetailRow" "parts" ∈ wU := wU_1 (List.mem_of_getElem? (i := 72) rfl) rfl
theorem tw_73 : Jvm.Cond.laysFinal "DovetailRow" "DovetailRow" "joints" "Ljava/util/ArrayList;" ∈ wU := wU_1 (List.mem_of_getElem? (i := 73) rfl) rfl
theorem tw_74 : Jvm.Cond.soleField "DovetailRow" "joints" ∈ wU := wU_1 (List.mem_of_getElem? (i := 74) rfl) rfl
theorem tw_75 : Jvm.Cond.laysFinal "DovetailRow" "DovetailRow" "air" "[I" ∈ wU := wU_1 (List.mem_of_getElem? (i := 75) rfl) rfl
theorem tw_76 : Jvm.Cond.soleField "DovetailRow" "air" ∈ wU := wU_1 (List.mem_of_getElem? (i := 76) rfl) rfl
theorem tw_77 : Jvm.Cond.lays "DovetailRow" "DovetailRow" "nextMonth" "I" ∈ wU := wU_1 (List.mem_of_getElem? (i := 77) rfl) rfl
theorem tw_78 : Jvm.Cond.soleField "DovetailRow" "nextMonth" ∈ wU := wU_1 (List.mem_of_getElem? (i := 78) rfl) rfl
theorem tw_79 : Jvm.Cond.lays "DovetailRow" "DovetailRow" "saw" "I" ∈ wU := wU_1 (List.mem_of_getElem? (i := 79) rfl) rfl
theorem tw_80 : Jvm.Cond.soleField "DovetailRow" "saw" ∈ wU := wU_1 (List.mem_of_getElem? (i := 80) rfl) rfl
theorem tw_81 : Jvm.Cond.lays "DovetailRow" "DovetailRow" "chisel" "I" ∈ wU := wU_1 (List.mem_of_getElem? (i := 81) rfl) rfl
theorem tw_82 : Jvm.Cond.soleField "DovetailRow" "chisel" ∈ wU := wU_1 (List.mem_of_getElem? (i := 82) rfl) rfl
theorem tw_83 : Jvm.Cond.lays "DovetailRow" "DovetailRow" "clampCount" "I" ∈ wU := wU_1 (List.mem_of_getElem? (i := 83) rfl) rfl
theorem tw_84 : Jvm.Cond.soleField "DovetailRow" "clampCount" ∈ wU := wU_1 (List.mem_of_getElem? (i := 84) rfl) rfl
theorem tw_85 : Jvm.Cond.superclass "DovetailRow" "java/lang/Object" ∈ lw_tbl := wT_1 (List.mem_of_getElem? (i := 85) rfl)
theorem tw_86 : Jvm.Cond.arrayClass Jvm.ClassFile.FieldType.int ∈ wU := wU_1 (List.mem_of_getElem? (i := 86) rfl) rfl
theorem tw_87 : Jvm.Cond.methodLink "DovetailRowLaw" (142 : Nat) ({ cls := "DovetailRow", name := "month", desc := "()I" } : Jvm.MethodName) ∈ wU := wU_1 (List.mem_of_getElem? (i := 87) rfl) rfl
theorem tw_88 : Jvm.Cond.instanceMethod ({ cls := "DovetailRow", name := "month", desc := "()I" } : Jvm.MethodName) ∈ wU := wU_1 (List.mem_of_getElem? (i := 88) rfl) rfl
theorem tw_89 : Jvm.Cond.selects "DovetailRow" ({ cls := "DovetailRow", name := "month", desc := "()I" } : Jvm.MethodName) ({ cls := "DovetailRow", name := "month", desc := "()I" } : Jvm.MethodName) ∈ wU := wU_1 (List.mem_of_getElem? (i := 89) rfl) rfl
theorem tw_90 : Jvm.Cond.code ({ cls := "DovetailRow", name := "month", desc := "()I" } : Jvm.MethodName) prog_1_method_18_code (1 : Nat) (Option.some Jvm.ClassFile.FieldType.int) ∈ wU := wU_1 (List.mem_of_getElem? (i := 90) rfl) rfl
theorem tw_91 : Jvm.Cond.methodLink "DovetailRowLaw" (82 : Nat) ({ cls := "DovetailRowLaw", name := "weather", desc := "(LDovetailRow;II[J)I" } : Jvm.MethodName) ∈ wU := wU_1 (List.mem_of_getElem? (i := 91) rfl) rfl
theorem tw_92 : Jvm.Cond.static ({ cls := "DovetailRowLaw", name := "weather", desc := "(LDovetailRow;II[J)I" } : Jvm.MethodName) ∈ wU := wU_1 (List.mem_of_getElem? (i := 92) rfl) rfl
theorem tw_93 : Jvm.Cond.codeWith ({ cls := "DovetailRowLaw", name := "weather", desc := "(LDovetailRow;II[J)I" } : Jvm.MethodName) method_3_code (5 : Nat) (Option.some Jvm.ClassFile.FieldType.int) [((0 : Nat), (10 : Nat), (13 : Nat), (13 : Nat)), ((0 : Nat), (10 : Nat), (17 : Nat), (15 : Nat))] ∈ wU := wU_1 (List.mem_of_getElem? (i := 93) rfl) rfl
theorem tw_94 : Jvm.Cond.classLink "DovetailRowLaw" (13 : Nat) "java/lang/IndexOutOfBoundsException" ∈ wU := wU_1 (List.mem_of_getElem? (i := 94) rfl) rfl
theorem tw_95 : Jvm.Cond.classLink "DovetailRowLaw" (15 : Nat) "java/lang/IllegalArgumentException" ∈ wU := wU_1 (List.mem_of_getElem? (i := 95) rfl) rfl
theorem tw_96 : Jvm.Cond.methodLink "DovetailRowLaw" (7 : Nat) ({ cls := "DovetailRow", name := "weather", desc := "(II)I" } : Jvm.MethodName) ∈ wU := wU_1 (List.mem_of_getElem? (i := 96) rfl) rfl
theorem tw_97 : Jvm.Cond.instanceMethod ({ cls := "DovetailRow", name := "weather", desc := "(II)I" } : Jvm.MethodName) ∈ wU := wU_1 (List.mem_of_getElem? (i := 97) rfl) rfl
theorem tw_98 : Jvm.Cond.selects "DovetailRow" ({ cls := "DovetailRow", name := "weather", desc := "(II)I" } : Jvm.MethodName) ({ cls := "DovetailRow", name := "weather", desc := "(II)I" } : Jvm.MethodName) ∈ wU := wU_1 (List.mem_of_getElem? (i := 98) rfl) rfl
theorem tw_99 : Jvm.Cond.code ({ cls := "DovetailRow", name := "weather", desc := "(II)I" } : Jvm.MethodName) prog_1_method_2_code (4 : Nat) (Option.some Jvm.ClassFile.FieldType.int) ∈ wU := wU_1 (List.mem_of_getElem? (i := 99) rfl) rfl
theorem tw_100 : Jvm.Cond.classLink "DovetailRow" (45 : Nat) "java/lang/IndexOutOfBoundsException" ∈ wU := wU_1 (List.mem_of_getElem? (i := 100) rfl) rfl
theorem tw_101 : Jvm.Cond.instantiable "java/lang/IndexOutOfBoundsException" (6 : Nat) ∈ wU := wU_1 (List.mem_of_getElem? (i := 101) rfl) rfl
theorem tw_102 : Jvm.Cond.castable "java/lang/IndexOutOfBoundsException" "java/lang/IndexOutOfBoundsException" ∈ lw_tbl := wT_1 (List.mem_of_getElem? (i := 102) rfl)
theorem tw_103 : Jvm.Cond.declares ({ cls := "java/lang/RuntimeException", name := "<init>", desc := "()V" } : Jvm.MethodName) ∈ lw_tbl := wT_1 (List.mem_of_getElem? (i := 103) rfl)
theorem tw_104 : Jvm.Cond.declares ({ cls := "java/lang/RuntimeException", name := "<init>", desc := "(Ljava/lang/String;)V" } : Jvm.MethodName) ∈ lw_tbl := wT_1 (List.mem_of_getElem? (i := 104) rfl)
theorem tw_105 : Jvm.Cond.declares ({ cls := "java/lang/Exception", name := "<init>", desc := "()V" } : Jvm.MethodName) ∈ lw_tbl := wT_1 (List.mem_of_getElem? (i := 105) rfl)
theorem tw_106 : Jvm.Cond.declares ({ cls := "java/lang/Exception", name := "<init>", desc := "(Ljava/lang/String;)V" } : Jvm.MethodName) ∈ lw_tbl := wT_1 (List.mem_of_getElem? (i := 106) rfl)
theorem tw_107 : Jvm.Cond.declares ({ cls := "java/lang/Throwable", name := "<init>", desc := "()V" } : Jvm.MethodName) ∈ lw_tbl := wT_1 (List.mem_of_getElem? (i := 107) rfl)
theorem tw_108 : Jvm.Cond.declares ({ cls := "java/lang/Throwable", name := "<init>", desc := "(Ljava/lang/String;)V" } : Jvm.MethodName) ∈ lw_tbl := wT_1 (List.mem_of_getElem? (i := 108) rfl)
theorem tw_109 : Jvm.Cond.selects "java/lang/IndexOutOfBoundsException" ({ cls := "java/lang/Throwable", name := "fillInStackTrace", desc := "(I)Ljava/lang/Throwable;" } : Jvm.MethodName) ({ cls := "java/lang/Throwable", name := "fillInStackTrace", desc := "(I)Ljava/lang/Throwable;" } : Jvm.MethodName) ∈ wU := wU_1 (List.mem_of_getElem? (i := 109) rfl) rfl
theorem tw_110 : Jvm.Cond.selects "java/lang/IndexOutOfBoundsException" ({ cls := "java/lang/Throwable", name := "fillInStackTrace", desc := "()Ljava/lang/Throwable;" } : Jvm.MethodName) ({ cls := "java/lang/Throwable", name := "fillInStackTrace", desc := "()Ljava/lang/Throwable;" } : Jvm.MethodName) ∈ wU := wU_1 (List.mem_of_getElem? (i := 110) rfl) rfl
theorem tw_111 : Jvm.Cond.lays "java/lang/IndexOutOfBoundsException" "java/lang/Throwable" "cause" "Ljava/lang/Throwable;" ∈ wU := wU_1 (List.mem_of_getElem? (i := 111) rfl) rfl
theorem tw_112 : Jvm.Cond.lays "java/lang/Throwable" "java/lang/Throwable" "cause" "Ljava/lang/Throwable;" ∈ wU := wU_1 (List.mem_of_getElem? (i := 112) rfl) rfl
theorem tw_113 : Jvm.Cond.lays "java/lang/IndexOutOfBoundsException" "java/lang/Throwable" "stackTrace" "[Ljava/lang/StackTraceElement;" ∈ wU := wU_1 (List.mem_of_getElem? (i := 113) rfl) rfl
theorem tw_114 : Jvm.Cond.lays "java/lang/Throwable" "java/lang/Throwable" "stackTrace" "[Ljava/lang/StackTraceElement;" ∈ wU := wU_1 (List.mem_of_getElem? (i := 114) rfl) rfl
theorem tw_115 : Jvm.Cond.lays "java/lang/IndexOutOfBoundsException" "java/lang/Throwable" "suppressedExceptions" "Ljava/util/List;" ∈ wU := wU_1 (List.mem_of_getElem? (i := 115) rfl) rfl
theorem tw_116 : Jvm.Cond.lays "java/lang/Throwable" "java/lang/Throwable" "suppressedExceptions" "Ljava/util/List;" ∈ wU := wU_1 (List.mem_of_getElem? (i := 116) rfl) rfl
theorem tw_117 : Jvm.Cond.lays "java/lang/IndexOutOfBoundsException" "java/lang/Throwable" "detailMessage" "Ljava/lang/String;" ∈ wU := wU_1 (List.mem_of_getElem? (i := 117) rfl) rfl
theorem tw_118 : Jvm.Cond.lays "java/lang/Throwable" "java/lang/Throwable" "detailMessage" "Ljava/lang/String;" ∈ wU := wU_1 (List.mem_of_getElem? (i := 118) rfl) rfl
theorem tw_119 : Jvm.Cond.lays "java/lang/IndexOutOfBoundsException" "java/lang/Throwable" "backtrace" "Ljava/lang/Object;" ∈ wU := wU_1 (List.mem_of_getElem? (i := 119) rfl) rfl
theorem tw_120 : Jvm.Cond.lays "java/lang/Throwable" "java/lang/Throwable" "backtrace" "Ljava/lang/Object;" ∈ wU := wU_1 (List.mem_of_getElem? (i := 120) rfl) rfl
theorem tw_121 : Jvm.Cond.fieldLink "java/lang/Throwable" (198 : Nat) "java/lang/Throwable" "backtrace" "Ljava/lang/Object;" ∈ wU := wU_1 (List.mem_of_getElem? (i := 121) rfl) rfl
theorem tw_122 : Jvm.Cond.superclass "java/lang/Throwable" "java/lang/Object" ∈ lw_tbl := wT_1 (List.mem_of_getElem? (i := 122) rfl)
theorem tw_123 : Jvm.Cond.instanceMethod ({ cls := "java/lang/Throwable", name := "<init>", desc := "()V" } : Jvm.MethodName) ∈ wU := wU_1 (List.mem_of_getElem? (i := 123) rfl) rfl
theorem tw_124 : Jvm.Cond.code ({ cls := "java/lang/Throwable", name := "<init>", desc := "()V" } : Jvm.MethodName) prog_21_method_1_code (1 : Nat) (Option.none : Option Jvm.ClassFile.FieldType) ∈ wU := wU_1 (List.mem_of_getElem? (i := 124) rfl) rfl
theorem tw_125 : Jvm.Cond.methodLink "java/lang/Throwable" (1 : Nat) ({ cls := "java/lang/Object", name := "<init>", desc := "()V" } : Jvm.MethodName) ∈ wU := wU_1 (List.mem_of_getElem? (i := 125) rfl) rfl
theorem tw_126 : Jvm.Cond.fieldLink "java/lang/Throwable" (13 : Nat) "java/lang/Throwable" "UNASSIGNED_STACK" "[Ljava/lang/StackTraceElement;" ∈ wU := wU_1 (List.mem_of_getElem? (i := 126) rfl) rfl
theorem tw_127 : Jvm.Cond.laysStatic "java/lang/Throwable" "UNASSIGNED_STACK" "[Ljava/lang/StackTraceElement;" ∈ lw_tbl := wT_1 (List.mem_of_getElem? (i := 127) rfl)
theorem tw_128 : Jvm.Cond.fieldLink "java/lang/Throwable" (20 : Nat) "java/lang/Throwable" "SUPPRESSED_SENTINEL" "Ljava/util/List;" ∈ wU := wU_1 (List.mem_of_getElem? (i := 128) rfl) rfl
theorem tw_129 : Jvm.Cond.laysStatic "java/lang/Throwable" "SUPPRESSED_SENTINEL" "Ljava/util/List;" ∈ lw_tbl := wT_1 (List.mem_of_getElem? (i := 129) rfl)
theorem tw_130 : Jvm.Cond.methodLink "java/lang/Throwable" (27 : Nat) ({ cls := "java/lang/Throwable", name := "fillInStackTrace", desc := "()Ljava/lang/Throwable;" } : Jvm.MethodName) ∈ wU := wU_1 (List.mem_of_getElem? (i := 130) rfl) rfl
theorem tw_131 : Jvm.Cond.instanceMethod ({ cls := "java/lang/Throwable", name := "fillInStackTrace", desc := "()Ljava/lang/Throwable;" } : Jvm.MethodName) ∈ wU := wU_1 (List.mem_of_getElem? (i := 131) rfl) rfl
theorem tw_132 : Jvm.Cond.sameMethod "java/lang/Throwable" "java/lang/Throwable" "fillInStackTrace" "()Ljava/lang/Throwable;" ∈ wU := wU_1 (List.mem_of_getElem? (i := 132) rfl) rfl
theorem tw_133 : Jvm.Cond.selects "java/lang/IllegalArgumentException" ({ cls := "java/lang/Throwable", name := "fillInStackTrace", desc := "()Ljava/lang/Throwable;" } : Jvm.MethodName) ({ cls := "java/lang/Throwable", name := "fillInStackTrace", desc := "()Ljava/lang/Throwable;" } : Jvm.MethodName) ∈ wU := wU_1 (List.mem_of_getElem? (i := 133) rfl) rfl
theorem tw_134 : Jvm.Cond.selects "java/lang/IllegalStateException" ({ cls := "java/lang/Throwable", name := "fillInStackTrace", desc := "()Ljava/lang/Throwable;" } : Jvm.MethodName) ({ cls := "java/lang/Throwable", name := "fillInStackTrace", desc := "()Ljava/lang/Throwable;" } : Jvm.MethodName) ∈ wU := wU_1 (List.mem_of_getElem? (i := 134) rfl) rfl
theorem tw_135 : Jvm.Cond.codeSync ({ cls := "java/lang/Throwable", name := "fillInStackTrace", desc := "()Ljava/lang/Throwable;" } : Jvm.MethodName) prog_21_method_18_code (1 : Nat) (Option.some (Jvm.ClassFile.FieldType.object "java/lang/Throwable")) ∈ lw_tbl := wT_1 (List.mem_of_getElem? (i := 135) rfl)
theorem tw_136 : Jvm.Cond.methodLink "java/lang/Throwable" (202 : Nat) ({ cls := "java/lang/Throwable", name := "fillInStackTrace", desc := "(I)Ljava/lang/Throwable;" } : Jvm.MethodName) ∈ wU := wU_1 (List.mem_of_getElem? (i := 136) rfl) rfl
theorem tw_137 : Jvm.Cond.privateMethod ({ cls := "java/lang/Throwable", name := "fillInStackTrace", desc := "(I)Ljava/lang/Throwable;" } : Jvm.MethodName) ∈ lw_tbl := wT_1 (List.mem_of_getElem? (i := 137) rfl)
theorem tw_138 : Jvm.Cond.instanceMethod ({ cls := "java/lang/Throwable", name := "fillInStackTrace", desc := "(I)Ljava/lang/Throwable;" } : Jvm.MethodName) ∈ wU := wU_1 (List.mem_of_getElem? (i := 138) rfl) rfl
theorem tw_139 : Jvm.Cond.instantiable "java/lang/Throwable" (6 : Nat) ∈ wU := wU_1 (List.mem_of_getElem? (i := 139) rfl) rfl
theorem tw_140 : Jvm.Cond.native ({ cls := "java/lang/Throwable", name := "fillInStackTrace", desc := "(I)Ljava/lang/Throwable;" } : Jvm.MethodName) ∈ lw_tbl := wT_1 (List.mem_of_getElem? (i := 140) rfl)
theorem tw_141 : Jvm.Cond.stringRef "DovetailRow" (47 : Nat) "there is no such month" ∈ lw_tbl := wT_1 (List.mem_of_getElem? (i := 141) rfl)
theorem tw_142 : Jvm.Cond.methodLink "DovetailRow" (49 : Nat) ({ cls := "java/lang/IndexOutOfBoundsException", name := "<init>", desc := "(Ljava/lang/String;)V" } : Jvm.MethodName) ∈ wU := wU_1 (List.mem_of_getElem? (i := 142) rfl) rfl
theorem tw_143 : Jvm.Cond.instanceMethod ({ cls := "java/lang/IndexOutOfBoundsException", name := "<init>", desc := "(Ljava/lang/String;)V" } : Jvm.MethodName) ∈ wU := wU_1 (List.mem_of_getElem? (i := 143) rfl) rfl
theorem tw_144 : Jvm.Cond.code ({ cls := "java/lang/IndexOutOfBoundsException", name := "<init>", desc := "(Ljava/lang/String;)V" } : Jvm.MethodName) prog_14_method_2_code (2 : Nat) (Option.none : Option Jvm.ClassFile.FieldType) ∈ wU := wU_1 (List.mem_of_getElem? (i := 144) rfl) rfl
theorem tw_145 : Jvm.Cond.methodLink "java/lang/IndexOutOfBoundsException" (7 : Nat) ({ cls := "java/lang/RuntimeException", name := "<init>", desc := "(Ljava/lang/String;)V" } : Jvm.MethodName) ∈ wU := wU_1 (List.mem_of_getElem? (i := 145) rfl) rfl
theorem tw_146 : Jvm.Cond.instanceMethod ({ cls := "java/lang/RuntimeException", name := "<init>", desc := "(Ljava/lang/String;)V" } : Jvm.MethodName) ∈ wU := wU_1 (List.mem_of_getElem? (i := 146) rfl) rfl
theorem tw_147 : Jvm.Cond.code ({ cls := "java/lang/RuntimeException", name := "<init>", desc := "(Ljava/lang/String;)V" } : Jvm.MethodName) prog_18_method_2_code (2 : Nat) (Option.none : Option Jvm.ClassFile.FieldType) ∈ wU := wU_1 (List.mem_of_getElem? (i := 147) rfl) rfl
theorem tw_148 : Jvm.Cond.methodLink "java/lang/RuntimeException" (7 : Nat) ({ cls := "java/lang/Exception", name := "<init>", desc := "(Ljava/lang/String;)V" } : Jvm.MethodName) ∈ wU := wU_1 (List.mem_of_getElem? (i := 148) rfl) rfl
theorem tw_149 : Jvm.Cond.instanceMethod ({ cls := "java/lang/Exception", name := "<init>", desc := "(Ljava/lang/String;)V" } : Jvm.MethodName) ∈ wU := wU_1 (List.mem_of_getElem? (i := 149) rfl) rfl
theorem tw_150 : Jvm.Cond.code ({ cls := "java/lang/Exception", name := "<init>", desc := "(Ljava/lang/String;)V" } : Jvm.MethodName) prog_11_method_2_code (2 : Nat) (Option.none : Option Jvm.ClassFile.FieldType) ∈ wU := wU_1 (List.mem_of_getElem? (i := 150) rfl) rfl
theorem tw_151 : Jvm.Cond.methodLink "java/lang/Exception" (7 : Nat) ({ cls := "java/lang/Throwable", name := "<init>", desc := "(Ljava/lang/String;)V" } : Jvm.MethodName) ∈ wU := wU_1 (List.mem_of_getElem? (i := 151) rfl) rfl
theorem tw_152 : Jvm.Cond.instanceMethod ({ cls := "java/lang/Throwable", name := "<init>", desc := "(Ljava/lang/String;)V" } : Jvm.MethodName) ∈ wU := wU_1 (List.mem_of_getElem? (i := 152) rfl) rfl
theorem tw_153 : Jvm.Cond.code ({ cls := "java/lang/Throwable", name := "<init>", desc := "(Ljava/lang/String;)V" } : Jvm.MethodName) prog_21_method_2_code (2 : Nat) (Option.none : Option Jvm.ClassFile.FieldType) ∈ wU := wU_1 (List.mem_of_getElem? (i := 153) rfl) rfl
theorem tw_154 : Jvm.Cond.fieldLink "java/lang/Throwable" (198 : Nat) "java/lang/Throwable" "backtrace" "Ljava/lang/Object;" ∈ wU := wU_1 (List.mem_of_getElem? (i := 154) rfl) rfl
theorem tw_155 : Jvm.Cond.fieldLink "java/lang/Throwable" (31 : Nat) "java/lang/Throwable" "detailMessage" "Ljava/lang/String;" ∈ wU := wU_1 (List.mem_of_getElem? (i := 155) rfl) rfl
theorem tw_156 : Jvm.Cond.fieldLink "java/lang/Throwable" (7 : Nat) "java/lang/Throwable" "cause" "Ljava/lang/Throwable;" ∈ wU := wU_1 (List.mem_of_getElem? (i := 156) rfl) rfl
theorem tw_157 : Jvm.Cond.fieldLink "java/lang/Throwable" (17 : Nat) "java/lang/Throwable" "stackTrace" "[Ljava/lang/StackTraceElement;" ∈ wU := wU_1 (List.mem_of_getElem? (i := 157) rfl) rfl
theorem tw_158 : Jvm.Cond.fieldLink "java/lang/Throwable" (24 : Nat) "java/lang/Throwable" "suppressedExceptions" "Ljava/util/List;" ∈ wU := wU_1 (List.mem_of_getElem? (i := 158) rfl) rfl
theorem tw_159 : Jvm.Cond.soleField "java/lang/Throwable" "backtrace" ∈ wU := wU_1 (List.mem_of_getElem? (i := 159) rfl) rfl
theorem tw_160 : Jvm.Cond.soleField "java/lang/Throwable" "detailMessage" ∈ wU := wU_1 (List.mem_of_getElem? (i := 160) rfl) rfl
theorem tw_161 : Jvm.Cond.soleField "java/lang/Throwable" "cause" ∈ wU := wU_1 (List.mem_of_getElem? (i := 161) rfl) rfl
theorem tw_162 : Jvm.Cond.soleField "java/lang/Throwable" "stackTrace" ∈ wU := wU_1 (List.mem_of_getElem? (i := 162) rfl) rfl
theorem tw_163 : Jvm.Cond.lays "java/lang/IndexOutOfBoundsException" "java/lang/Throwable" "depth" "I" ∈ wU := wU_1 (List.mem_of_getElem? (i := 163) rfl) rfl
theorem tw_164 : Jvm.Cond.soleField "java/lang/Throwable" "depth" ∈ wU := wU_1 (List.mem_of_getElem? (i := 164) rfl) rfl
theorem tw_165 : Jvm.Cond.soleField "java/lang/Throwable" "suppressedExceptions" ∈ wU := wU_1 (List.mem_of_getElem? (i := 165) rfl) rfl
theorem tw_166 : Jvm.Cond.superclass "java/lang/IndexOutOfBoundsException" "java/lang/RuntimeException" ∈ lw_tbl := wT_1 (List.mem_of_getElem? (i := 166) rfl)
theorem tw_167 : Jvm.Cond.arrayClass Jvm.ClassFile.FieldType.byte ∈ wU := wU_1 (List.mem_of_getElem? (i := 167) rfl) rfl
theorem tw_168 : Jvm.Cond.methodLink "DovetailRow" (52 : Nat) ({ cls := "DovetailRow", name := "isWithin", desc := "(III)Z" } : Jvm.MethodName) ∈ wU := wU_1 (List.mem_of_getElem? (i := 168) rfl) rfl
theorem tw_169 : Jvm.Cond.static ({ cls := "DovetailRow", name := "isWithin", desc := "(III)Z" } : Jvm.MethodName) ∈ wU := wU_1 (List.mem_of_getElem? (i := 169) rfl) rfl
theorem tw_170 : Jvm.Cond.code ({ cls := "DovetailRow", name := "isWithin", desc := "(III)Z" } : Jvm.MethodName) prog_1_method_22_code (3 : Nat) (Option.some Jvm.ClassFile.FieldType.boolean) ∈ wU := wU_1 (List.mem_of_getElem? (i := 170) rfl) rfl
theorem tw_171 : Jvm.Cond.classLink "DovetailRow" (56 : Nat) "java/lang/IllegalArgumentException" ∈ wU := wU_1 (List.mem_of_getElem? (i := 171) rfl) rfl
theorem tw_172 : Jvm.Cond.instantiable "java/lang/IllegalArgumentException" (6 : Nat) ∈ wU := wU_1 (List.mem_of_getElem? (i := 172) rfl) rfl
theorem tw_173 : Jvm.Cond.castable "java/lang/IllegalArgumentException" "java/lang/IllegalArgumentException" ∈ lw_tbl := wT_1 (List.mem_of_getElem? (i := 173) rfl)
theorem tw_174 : Jvm.Cond.selects "java/lang/IllegalArgumentException" ({ cls := "java/lang/Throwable", name := "fillInStackTrace", desc := "(I)Ljava/lang/Throwable;" } : Jvm.MethodName) ({ cls := "java/lang/Throwable", name := "fillInStackTrace", desc := "(I)Ljava/lang/Throwable;" } : Jvm.MethodName) ∈ wU := wU_1 (List.mem_of_getElem? (i := 174) rfl) rfl
theorem tw_175 : Jvm.Cond.lays "java/lang/IllegalArgumentException" "java/lang/Throwable" "cause" "Ljava/lang/Throwable;" ∈ wU := wU_1 (List.mem_of_getElem? (i := 175) rfl) rfl
theorem tw_176 : Jvm.Cond.lays "java/lang/IllegalArgumentException" "java/lang/Throwable" "stackTrace" "[Ljava/lang/StackTraceElement;" ∈ wU := wU_1 (List.mem_of_getElem? (i := 176) rfl) rfl
theorem tw_177 : Jvm.Cond.lays "java/lang/IllegalArgumentException" "java/lang/Throwable" "suppressedExceptions" "Ljava/util/List;" ∈ wU := wU_1 (List.mem_of_getElem? (i := 177) rfl) rfl
theorem tw_178 : Jvm.Cond.lays "java/lang/IllegalArgumentException" "java/lang/Throwable" "detailMessage" "Ljava/lang/String;" ∈ wU := wU_1 (List.mem_of_getElem? (i := 178) rfl) rfl
theorem tw_179 : Jvm.Cond.lays "java/lang/IllegalArgumentException" "java/lang/Throwable" "backtrace" "Ljava/lang/Object;" ∈ wU := wU_1 (List.mem_of_getElem? (i := 179) rfl) rfl
theorem tw_180 : Jvm.Cond.stringRef "DovetailRow" (58 : Nat) "moisture is out of its range" ∈ lw_tbl := wT_1 (List.mem_of_getElem? (i := 180) rfl)
theorem tw_181 : Jvm.Cond.methodLink "DovetailRow" (60 : Nat) ({ cls := "java/lang/IllegalArgumentException", name := "<init>", desc := "(Ljava/lang/String;)V" } : Jvm.MethodName) ∈ wU := wU_1 (List.mem_of_getElem? (i := 181) rfl) rfl
theorem tw_182 : Jvm.Cond.instanceMethod ({ cls := "java/lang/IllegalArgumentException", name := "<init>", desc := "(Ljava/lang/String;)V" } : Jvm.MethodName) ∈ wU := wU_1 (List.mem_of_getElem? (i := 182) rfl) rfl
theorem tw_183 : Jvm.Cond.code ({ cls := "java/lang/IllegalArgumentException", name := "<init>", desc := "(Ljava/lang/String;)V" } : Jvm.MethodName) prog_12_method_2_code (2 : Nat) (Option.none : Option Jvm.ClassFile.FieldType) ∈ wU := wU_1 (List.mem_of_getElem? (i := 183) rfl) rfl
theorem tw_184 : Jvm.Cond.methodLink "java/lang/IllegalArgumentException" (7 : Nat) ({ cls := "java/lang/RuntimeException", name := "<init>", desc := "(Ljava/lang/String;)V" } : Jvm.MethodName) ∈ wU := wU_1 (List.mem_of_getElem? (i := 184) rfl) rfl
theorem tw_185 : Jvm.Cond.lays "java/lang/IllegalArgumentException" "java/lang/Throwable" "depth" "I" ∈ wU := wU_1 (List.mem_of_getElem? (i := 185) rfl) rfl
theorem tw_186 : Jvm.Cond.superclass "java/lang/IllegalArgumentException" "java/lang/RuntimeException" ∈ lw_tbl := wT_1 (List.mem_of_getElem? (i := 186) rfl)
theorem tw_187 : Jvm.Cond.methodLink "DovetailRowLaw" (92 : Nat) ({ cls := "DovetailRowLaw", name := "pass", desc := "(LDovetailRow;I[J)I" } : Jvm.MethodName) ∈ wU := wU_1 (List.mem_of_getElem? (i := 187) rfl) rfl
theorem tw_188 : Jvm.Cond.static ({ cls := "DovetailRowLaw", name := "pass", desc := "(LDovetailRow;I[J)I" } : Jvm.MethodName) ∈ wU := wU_1 (List.mem_of_getElem? (i := 188) rfl) rfl
theorem tw_189 : Jvm.Cond.codeWith ({ cls := "DovetailRowLaw", name := "pass", desc := "(LDovetailRow;I[J)I" } : Jvm.MethodName) method_4_code (4 : Nat) (Option.some Jvm.ClassFile.FieldType.int) [((0 : Nat), (9 : Nat), (12 : Nat), (15 : Nat)), ((0 : Nat), (9 : Nat), (15 : Nat), (21 : Nat))] ∈ wU := wU_1 (List.mem_of_getElem? (i := 189) rfl) rfl
theorem tw_190 : Jvm.Cond.classLink "DovetailRowLaw" (21 : Nat) "java/lang/IllegalStateException" ∈ wU := wU_1 (List.mem_of_getElem? (i := 190) rfl) rfl
theorem tw_191 : Jvm.Cond.methodLink "DovetailRowLaw" (17 : Nat) ({ cls := "DovetailRow", name := "pass", desc := "(I)I" } : Jvm.MethodName) ∈ wU := wU_1 (List.mem_of_getElem? (i := 191) rfl) rfl
theorem tw_192 : Jvm.Cond.instanceMethod ({ cls := "DovetailRow", name := "pass", desc := "(I)I" } : Jvm.MethodName) ∈ wU := wU_1 (List.mem_of_getElem? (i := 192) rfl) rfl
theorem tw_193 : Jvm.Cond.selects "DovetailRow" ({ cls := "DovetailRow", name := "pass", desc := "(I)I" } : Jvm.MethodName) ({ cls := "DovetailRow", name := "pass", desc := "(I)I" } : Jvm.MethodName) ∈ wU := wU_1 (List.mem_of_getElem? (i := 193) rfl) rfl
theorem tw_194 : Jvm.Cond.code ({ cls := "DovetailRow", name := "pass", desc := "(I)I" } : Jvm.MethodName) prog_1_method_3_code (4 : Nat) (Option.some Jvm.ClassFile.FieldType.int) ∈ wU := wU_1 (List.mem_of_getElem? (i := 194) rfl) rfl
theorem tw_195 : Jvm.Cond.stringRef "DovetailRow" (61 : Nat) "months is out of its range" ∈ lw_tbl := wT_1 (List.mem_of_getElem? (i := 195) rfl)
theorem tw_196 : Jvm.Cond.classLink "DovetailRow" (63 : Nat) "java/lang/IllegalStateException" ∈ wU := wU_1 (List.mem_of_getElem? (i := 196) rfl) rfl
theorem tw_197 : Jvm.Cond.instantiable "java/lang/IllegalStateException" (6 : Nat) ∈ wU := wU_1 (List.mem_of_getElem? (i := 197) rfl) rfl
theorem tw_198 : Jvm.Cond.castable "java/lang/IllegalStateException" "java/lang/IllegalStateException" ∈ lw_tbl := wT_1 (List.mem_of_getElem? (i := 198) rfl)
theorem tw_199 : Jvm.Cond.selects "java/lang/IllegalStateException" ({ cls := "java/lang/Throwable", name := "fillInStackTrace", desc := "(I)Ljava/lang/Throwable;" } : Jvm.MethodName) ({ cls := "java/lang/Throwable", name := "fillInStackTrace", desc := "(I)Ljava/lang/Throwable;" } : Jvm.MethodName) ∈ wU := wU_1 (List.mem_of_getElem? (i := 199) rfl) rfl
theorem tw_200 : Jvm.Cond.lays "java/lang/IllegalStateException" "java/lang/Throwable" "cause" "Ljava/lang/Throwable;" ∈ wU := wU_1 (List.mem_of_getElem? (i := 200) rfl) rfl
theorem tw_201 : Jvm.Cond.lays "java/lang/IllegalStateException" "java/lang/Throwable" "stackTrace" "[Ljava/lang/StackTraceElement;" ∈ wU := wU_1 (List.mem_of_getElem? (i := 201) rfl) rfl
theorem tw_202 : Jvm.Cond.lays "java/lang/IllegalStateException" "java/lang/Throwable" "suppressedExceptions" "Ljava/util/List;" ∈ wU := wU_1 (List.mem_of_getElem? (i := 202) rfl) rfl
theorem tw_203 : Jvm.Cond.lays "java/lang/IllegalStateException" "java/lang/Throwable" "detailMessage" "Ljava/lang/String;" ∈ wU := wU_1 (List.mem_of_getElem? (i := 203) rfl) rfl
theorem tw_204 : Jvm.Cond.lays "java/lang/IllegalStateException" "java/lang/Throwable" "backtrace" "Ljava/lang/Object;" ∈ wU := wU_1 (List.mem_of_getElem? (i := 204) rfl) rfl
theorem tw_205 : Jvm.Cond.stringRef "DovetailRow" (65 : Nat) "the month would be above 1200" ∈ lw_tbl := wT_1 (List.mem_of_getElem? (i := 205) rfl)
theorem tw_206 : Jvm.Cond.methodLink "DovetailRow" (67 : Nat) ({ cls := "java/lang/IllegalStateException", name := "<init>", desc := "(Ljava/lang/String;)V" } : Jvm.MethodName) ∈ wU := wU_1 (List.mem_of_getElem? (i := 206) rfl) rfl
theorem tw_207 : Jvm.Cond.instanceMethod ({ cls := "java/lang/IllegalStateException", name := "<init>", desc := "(Ljava/lang/String;)V" } : Jvm.MethodName) ∈ wU := wU_1 (List.mem_of_getElem? (i := 207) rfl) rfl
theorem tw_208 : Jvm.Cond.code ({ cls := "java/lang/IllegalStateException", name := "<init>", desc := "(Ljava/lang/String;)V" } : Jvm.MethodName) prog_13_method_2_code (2 : Nat) (Option.none : Option Jvm.ClassFile.FieldType) ∈ wU := wU_1 (List.mem_of_getElem? (i := 208) rfl) rfl
theorem tw_209 : Jvm.Cond.methodLink "java/lang/IllegalStateException" (7 : Nat) ({ cls := "java/lang/RuntimeException", name := "<init>", desc := "(Ljava/lang/String;)V" } : Jvm.MethodName) ∈ wU := wU_1 (List.mem_of_getElem? (i := 209) rfl) rfl
theorem tw_210 : Jvm.Cond.lays "java/lang/IllegalStateException" "java/lang/Throwable" "depth" "I" ∈ wU := wU_1 (List.mem_of_getElem? (i := 210) rfl) rfl
theorem tw_211 : Jvm.Cond.superclass "java/lang/IllegalStateException" "java/lang/RuntimeException" ∈ lw_tbl := wT_1 (List.mem_of_getElem? (i := 211) rfl)
theorem tw_212 : Jvm.Cond.methodLink "DovetailRow" (68 : Nat) ({ cls := "DovetailRow", name := "airIn", desc := "(I)I" } : Jvm.MethodName) ∈ wU := wU_1 (List.mem_of_getElem? (i := 212) rfl) rfl
theorem tw_213 : Jvm.Cond.privateMethod ({ cls := "DovetailRow", name := "airIn", desc := "(I)I" } : Jvm.MethodName) ∈ lw_tbl := wT_1 (List.mem_of_getElem? (i := 213) rfl)
theorem tw_214 : Jvm.Cond.instanceMethod ({ cls := "DovetailRow", name := "airIn", desc := "(I)I" } : Jvm.MethodName) ∈ wU := wU_1 (List.mem_of_getElem? (i := 214) rfl) rfl
theorem tw_215 : Jvm.Cond.code ({ cls := "DovetailRow", name := "airIn", desc := "(I)I" } : Jvm.MethodName) prog_1_method_27_code (2 : Nat) (Option.some Jvm.ClassFile.FieldType.int) ∈ wU := wU_1 (List.mem_of_getElem? (i := 215) rfl) rfl
theorem tw_216 : Jvm.Cond.methodLink "DovetailRow" (313 : Nat) ({ cls := "java/lang/Math", name := "floorMod", desc := "(II)I" } : Jvm.MethodName) ∈ wU := wU_1 (List.mem_of_getElem? (i := 216) rfl) rfl
theorem tw_217 : Jvm.Cond.static ({ cls := "java/lang/Math", name := "floorMod", desc := "(II)I" } : Jvm.MethodName) ∈ wU := wU_1 (List.mem_of_getElem? (i := 217) rfl) rfl
theorem tw_218 : Jvm.Cond.code ({ cls := "java/lang/Math", name := "floorMod", desc := "(II)I" } : Jvm.MethodName) prog_17_method_50_code (3 : Nat) (Option.some Jvm.ClassFile.FieldType.int) ∈ wU := wU_1 (List.mem_of_getElem? (i := 218) rfl) rfl
theorem tw_219 : Jvm.Cond.methodLink "DovetailRow" (72 : Nat) ({ cls := "DovetailRow", name := "moistenAll", desc := "(I)V" } : Jvm.MethodName) ∈ wU := wU_1 (List.mem_of_getElem? (i := 219) rfl) rfl
theorem tw_220 : Jvm.Cond.privateMethod ({ cls := "DovetailRow", name := "moistenAll", desc := "(I)V" } : Jvm.MethodName) ∈ lw_tbl := wT_1 (List.mem_of_getElem? (i := 220) rfl)
theorem tw_221 : Jvm.Cond.instanceMethod ({ cls := "DovetailRow", name := "moistenAll", desc := "(I)V" } : Jvm.MethodName) ∈ wU := wU_1 (List.mem_of_getElem? (i := 221) rfl) rfl
theorem tw_222 : Jvm.Cond.code ({ cls := "DovetailRow", name := "moistenAll", desc := "(I)V" } : Jvm.MethodName) prog_1_method_28_code (3 : Nat) (Option.none : Option Jvm.ClassFile.FieldType) ∈ wU := wU_1 (List.mem_of_getElem? (i := 222) rfl) rfl
theorem tw_223 : Jvm.Cond.methodLink "DovetailRow" (84 : Nat) ({ cls := "java/util/ArrayList", name := "size", desc := "()I" } : Jvm.MethodName) ∈ wU := wU_1 (List.mem_of_getElem? (i := 223) rfl) rfl
theorem tw_224 : Jvm.Cond.instanceMethod ({ cls := "java/util/ArrayList", name := "size", desc := "()I" } : Jvm.MethodName) ∈ wU := wU_1 (List.mem_of_getElem? (i := 224) rfl) rfl
theorem tw_225 : Jvm.Cond.selects "java/util/ArrayList" ({ cls := "java/util/ArrayList", name := "size", desc := "()I" } : Jvm.MethodName) ({ cls := "java/util/ArrayList", name := "size", desc := "()I" } : Jvm.MethodName) ∈ wU := wU_1 (List.mem_of_getElem? (i := 225) rfl) rfl
theorem tw_226 : Jvm.Cond.code ({ cls := "java/util/ArrayList", name := "size", desc := "()I" } : Jvm.MethodName) prog_24_method_8_code (1 : Nat) (Option.some Jvm.ClassFile.FieldType.int) ∈ wU := wU_1 (List.mem_of_getElem? (i := 226) rfl) rfl
theorem tw_227 : Jvm.Cond.methodLink "DovetailRow" (259 : Nat) ({ cls := "java/util/ArrayList", name := "get", desc := "(I)Ljava/lang/Object;" } : Jvm.MethodName) ∈ wU := wU_1 (List.mem_of_getElem? (i := 227) rfl) rfl
theorem tw_228 : Jvm.Cond.instanceMethod ({ cls := "java/util/ArrayList", name := "get", desc := "(I)Ljava/lang/Object;" } : Jvm.MethodName) ∈ wU := wU_1 (List.mem_of_getElem? (i := 228) rfl) rfl
theorem tw_229 : Jvm.Cond.selects "java/util/ArrayList" ({ cls := "java/util/ArrayList", name := "get", desc := "(I)Ljava/lang/Object;" } : Jvm.MethodName) ({ cls := "java/util/ArrayList", name := "get", desc := "(I)Ljava/lang/Object;" } : Jvm.MethodName) ∈ wU := wU_1 (List.mem_of_getElem? (i := 229) rfl) rfl
theorem tw_230 : Jvm.Cond.code ({ cls := "java/util/ArrayList", name := "get", desc := "(I)Ljava/lang/Object;" } : Jvm.MethodName) prog_24_method_20_code (2 : Nat) (Option.some (Jvm.ClassFile.FieldType.object "java/lang/Object")) ∈ wU := wU_1 (List.mem_of_getElem? (i := 230) rfl) rfl
theorem tw_231 : Jvm.Cond.methodLink "java/util/ArrayList" (118 : Nat) ({ cls := "java/util/Objects", name := "checkIndex", desc := "(II)I" } : Jvm.MethodName) ∈ wU := wU_1 (List.mem_of_getElem? (i := 231) rfl) rfl
theorem tw_232 : Jvm.Cond.static ({ cls := "java/util/Objects", name := "checkIndex", desc := "(II)I" } : Jvm.MethodName) ∈ wU := wU_1 (List.mem_of_getElem? (i := 232) rfl) rfl
theorem tw_233 : Jvm.Cond.code ({ cls := "java/util/Objects", name := "checkIndex", desc := "(II)I" } : Jvm.MethodName) prog_28_method_17_code (2 : Nat) (Option.some Jvm.ClassFile.FieldType.int) ∈ wU := wU_1 (List.mem_of_getElem? (i := 233) rfl) rfl
theorem tw_234 : Jvm.Cond.methodLink "java/util/Objects" (105 : Nat) ({ cls := "jdk/internal/util/Preconditions", name := "checkIndex", desc := "(IILjava/util/function/BiFunction;)I" } : Jvm.MethodName) ∈ wU := wU_1 (List.mem_of_getElem? (i := 234) rfl) rfl
theorem tw_235 : Jvm.Cond.static ({ cls := "jdk/internal/util/Preconditions", name := "checkIndex", desc := "(IILjava/util/function/BiFunction;)I" } : Jvm.MethodName) ∈ wU := wU_1 (List.mem_of_getElem? (i := 235) rfl) rfl
theorem tw_236 : Jvm.Cond.code ({ cls := "jdk/internal/util/Preconditions", name := "checkIndex", desc := "(IILjava/util/function/BiFunction;)I" } : Jvm.MethodName) prog_32_method_11_code (3 : Nat) (Option.some Jvm.ClassFile.FieldType.int) ∈ wU := wU_1 (List.mem_of_getElem? (i := 236) rfl) rfl
theorem tw_237 : Jvm.Cond.methodLink "java/util/ArrayList" (123 : Nat) ({ cls := "java/util/ArrayList", name := "elementData", desc := "(I)Ljava/lang/Object;" } : Jvm.MethodName) ∈ wU := wU_1 (List.mem_of_getElem? (i := 237) rfl) rfl
theorem tw_238 : Jvm.Cond.instanceMethod ({ cls := "java/util/ArrayList", name := "elementData", desc := "(I)Ljava/lang/Object;" } : Jvm.MethodName) ∈ wU := wU_1 (List.mem_of_getElem? (i := 238) rfl) rfl
theorem tw_239 : Jvm.Cond.selects "java/util/ArrayList" ({ cls := "java/util/ArrayList", name := "elementData", desc := "(I)Ljava/lang/Object;" } : Jvm.MethodName) ({ cls := "java/util/ArrayList", name := "elementData", desc := "(I)Ljava/lang/Object;" } : Jvm.MethodName) ∈ wU := wU_1 (List.mem_of_getElem? (i := 239) rfl) rfl
theorem tw_240 : Jvm.Cond.code ({ cls := "java/util/ArrayList", name := "elementData", desc := "(I)Ljava/lang/Object;" } : Jvm.MethodName) prog_24_method_18_code (2 : Nat) (Option.some (Jvm.ClassFile.FieldType.object "java/lang/Object")) ∈ wU := wU_2 (List.mem_of_getElem? (i := 0) rfl) rfl
theorem tw_241 : Jvm.Cond.classLink "DovetailRow" (94 : Nat) "DovetailRow$Board" ∈ wU := wU_2 (List.mem_of_getElem? (i := 1) rfl) rfl
theorem tw_242 : Jvm.Cond.methodLink "DovetailRow" (317 : Nat) ({ cls := "DovetailRow$Board", name := "moisten", desc := "(I)V" } : Jvm.MethodName) ∈ wU := wU_2 (List.mem_of_getElem? (i := 2) rfl) rfl
theorem tw_243 : Jvm.Cond.sameMethod "DovetailRow$Board" "DovetailRow$Wood" "moisten" "(I)V" ∈ wU := wU_2 (List.mem_of_getElem? (i := 3) rfl) rfl
theorem tw_244 : Jvm.Cond.declares ({ cls := "DovetailRow$Wood", name := "moisten", desc := "(I)V" } : Jvm.MethodName) ∈ lw_tbl := wT_2 (List.mem_of_getElem? (i := 4) rfl)
theorem tw_245 : Jvm.Cond.selects "DovetailRow$Board" ({ cls := "DovetailRow$Board", name := "moisten", desc := "(I)V" } : Jvm.MethodName) ({ cls := "DovetailRow$Wood", name := "moisten", desc := "(I)V" } : Jvm.MethodName) ∈ wU := wU_2 (List.mem_of_getElem? (i := 5) rfl) rfl
theorem tw_246 : Jvm.Cond.instanceMethod ({ cls := "DovetailRow$Wood", name := "moisten", desc := "(I)V" } : Jvm.MethodName) ∈ wU := wU_2 (List.mem_of_getElem? (i := 6) rfl) rfl
theorem tw_247 : Jvm.Cond.code ({ cls := "DovetailRow$Wood", name := "moisten", desc := "(I)V" } : Jvm.MethodName) prog_6_method_6_code (2 : Nat) (Option.none : Option Jvm.ClassFile.FieldType) ∈ wU := wU_2 (List.mem_of_getElem? (i := 7) rfl) rfl
theorem tw_248 : Jvm.Cond.methodLink "DovetailRow$Wood" (43 : Nat) ({ cls := "DovetailRow$Wood", name := "moistureAfter", desc := "(II)I" } : Jvm.MethodName) ∈ wU := wU_2 (List.mem_of_getElem? (i := 8) rfl) rfl
theorem tw_249 : Jvm.Cond.instanceMethod ({ cls := "DovetailRow$Wood", name := "moistureAfter", desc := "(II)I" } : Jvm.MethodName) ∈ wU := wU_2 (List.mem_of_getElem? (i := 9) rfl) rfl
theorem tw_250 : Jvm.Cond.sameMethod "DovetailRow$Wood" "DovetailRow$Wood" "moistureAfter" "(II)I" ∈ wU := wU_2 (List.mem_of_getElem? (i := 10) rfl) rfl
theorem tw_251 : Jvm.Cond.selects "DovetailRow$Board" ({ cls := "DovetailRow$Wood", name := "moistureAfter", desc := "(II)I" } : Jvm.MethodName) ({ cls := "DovetailRow$Wood", name := "moistureAfter", desc := "(II)I" } : Jvm.MethodName) ∈ wU := wU_2 (List.mem_of_getElem? (i := 11) rfl) rfl
theorem tw_252 : Jvm.Cond.selects "DovetailRow$Part" ({ cls := "DovetailRow$Wood", name := "moistureAfter", desc := "(II)I" } : Jvm.MethodName) ({ cls := "DovetailRow$Wood", name := "moistureAfter", desc := "(II)I" } : Jvm.MethodName) ∈ wU := wU_2 (List.mem_of_getElem? (i := 12) rfl) rfl
theorem tw_253 : Jvm.Cond.code ({ cls := "DovetailRow$Wood", name := "moistureAfter", desc := "(II)I" } : Jvm.MethodName) prog_6_method_5_code (5 : Nat) (Option.some Jvm.ClassFile.FieldType.int) ∈ wU := wU_2 (List.mem_of_getElem? (i := 13) rfl) rfl
theorem tw_254 : Jvm.Cond.methodLink "DovetailRow$Wood" (38 : Nat) ({ cls := "java/lang/Integer", name := "signum", desc := "(I)I" } : Jvm.MethodName) ∈ wU := wU_2 (List.mem_of_getElem? (i := 14) rfl) rfl
theorem tw_255 : Jvm.Cond.static ({ cls := "java/lang/Integer", name := "signum", desc := "(I)I" } : Jvm.MethodName) ∈ wU := wU_2 (List.mem_of_getElem? (i := 15) rfl) rfl
theorem tw_256 : Jvm.Cond.code ({ cls := "java/lang/Integer", name := "signum", desc := "(I)I" } : Jvm.MethodName) prog_15_method_56_code (1 : Nat) (Option.some Jvm.ClassFile.FieldType.int) ∈ wU := wU_2 (List.mem_of_getElem? (i := 16) rfl) rfl
theorem tw_257 : Jvm.Cond.classLink "DovetailRow" (156 : Nat) "DovetailRow$Part" ∈ wU := wU_2 (List.mem_of_getElem? (i := 17) rfl) rfl
theorem tw_258 : Jvm.Cond.methodLink "DovetailRow" (320 : Nat) ({ cls := "DovetailRow$Part", name := "moisten", desc := "(I)V" } : Jvm.MethodName) ∈ wU := wU_2 (List.mem_of_getElem? (i := 18) rfl) rfl
theorem tw_259 : Jvm.Cond.sameMethod "DovetailRow$Part" "DovetailRow$Wood" "moisten" "(I)V" ∈ wU := wU_2 (List.mem_of_getElem? (i := 19) rfl) rfl
theorem tw_260 : Jvm.Cond.selects "DovetailRow$Part" ({ cls := "DovetailRow$Part", name := "moisten", desc := "(I)V" } : Jvm.MethodName) ({ cls := "DovetailRow$Wood", name := "moisten", desc := "(I)V" } : Jvm.MethodName) ∈ wU := wU_2 (List.mem_of_getElem? (i := 20) rfl) rfl
theorem tw_261 : Jvm.Cond.methodLink "DovetailRow" (76 : Nat) ({ cls := "DovetailRow", name := "breakJoints", desc := "()I" } : Jvm.MethodName) ∈ wU := wU_2 (List.mem_of_getElem? (i := 21) rfl) rfl
theorem tw_262 : Jvm.Cond.privateMethod ({ cls := "DovetailRow", name := "breakJoints", desc := "()I" } : Jvm.MethodName) ∈ lw_tbl := wT_2 (List.mem_of_getElem? (i := 22) rfl)
theorem tw_263 : Jvm.Cond.instanceMethod ({ cls := "DovetailRow", name := "breakJoints", desc := "()I" } : Jvm.MethodName) ∈ wU := wU_2 (List.mem_of_getElem? (i := 23) rfl) rfl
theorem tw_264 : Jvm.Cond.code ({ cls := "DovetailRow", name := "breakJoints", desc := "()I" } : Jvm.MethodName) prog_1_method_29_code (4 : Nat) (Option.some Jvm.ClassFile.FieldType.int) ∈ wU := wU_2 (List.mem_of_getElem? (i := 24) rfl) rfl
theorem tw_265 : Jvm.Cond.classLink "DovetailRow" (216 : Nat) "DovetailRow$Joint" ∈ wU := wU_2 (List.mem_of_getElem? (i := 25) rfl) rfl
theorem tw_266 : Jvm.Cond.methodLink "DovetailRow" (284 : Nat) ({ cls := "DovetailRow$Joint", name := "isHeld", desc := "()Z" } : Jvm.MethodName) ∈ wU := wU_2 (List.mem_of_getElem? (i := 26) rfl) rfl
theorem tw_267 : Jvm.Cond.instanceMethod ({ cls := "DovetailRow$Joint", name := "isHeld", desc := "()Z" } : Jvm.MethodName) ∈ wU := wU_2 (List.mem_of_getElem? (i := 27) rfl) rfl
theorem tw_268 : Jvm.Cond.selects "DovetailRow$Joint" ({ cls := "DovetailRow$Joint", name := "isHeld", desc := "()Z" } : Jvm.MethodName) ({ cls := "DovetailRow$Joint", name := "isHeld", desc := "()Z" } : Jvm.MethodName) ∈ wU := wU_2 (List.mem_of_getElem? (i := 28) rfl) rfl
theorem tw_269 : Jvm.Cond.code ({ cls := "DovetailRow$Joint", name := "isHeld", desc := "()Z" } : Jvm.MethodName) prog_3_method_3_code (1 : Nat) (Option.some Jvm.ClassFile.FieldType.boolean) ∈ wU := wU_2 (List.mem_of_getElem? (i := 29) rfl) rfl
theorem tw_270 : Jvm.Cond.methodLink "DovetailRow" (321 : Nat) ({ cls := "DovetailRow$Joint", name := "breaksAt", desc := "(I)Z" } : Jvm.MethodName) ∈ wU := wU_2 (List.mem_of_getElem? (i := 30) rfl) rfl
theorem tw_271 : Jvm.Cond.instanceMethod ({ cls := "DovetailRow$Joint", name := "breaksAt", desc := "(I)Z" } : Jvm.MethodName) ∈ wU := wU_2 (List.mem_of_getElem? (i := 31) rfl) rfl
theorem tw_272 : Jvm.Cond.selects "DovetailRow$Joint" ({ cls := "DovetailRow$Joint", name := "breaksAt", desc := "(I)Z" } : Jvm.MethodName) ({ cls := "DovetailRow$Joint", name := "breaksAt", desc := "(I)Z" } : Jvm.MethodName) ∈ wU := wU_2 (List.mem_of_getElem? (i := 32) rfl) rfl
theorem tw_273 : Jvm.Cond.code ({ cls := "DovetailRow$Joint", name := "breaksAt", desc := "(I)Z" } : Jvm.MethodName) prog_3_method_4_code (2 : Nat) (Option.some Jvm.ClassFile.FieldType.boolean) ∈ wU := wU_2 (List.mem_of_getElem? (i := 33) rfl) rfl
theorem tw_274 : Jvm.Cond.methodLink "DovetailRow$Joint" (46 : Nat) ({ cls := "DovetailRow$Part", name := "movementOf", desc := "(II)I" } : Jvm.MethodName) ∈ wU := wU_2 (List.mem_of_getElem? (i := 34) rfl) rfl
theorem tw_275 : Jvm.Cond.sameMethod "DovetailRow$Part" "DovetailRow$Wood" "movementOf" "(II)I" ∈ wU := wU_2 (List.mem_of_getElem? (i := 35) rfl) rfl
theorem tw_276 : Jvm.Cond.declares ({ cls := "DovetailRow$Wood", name := "movementOf", desc := "(II)I" } : Jvm.MethodName) ∈ lw_tbl := wT_2 (List.mem_of_getElem? (i := 36) rfl)
theorem tw_277 : Jvm.Cond.selects "DovetailRow$Part" ({ cls := "DovetailRow$Part", name := "movementOf", desc := "(II)I" } : Jvm.MethodName) ({ cls := "DovetailRow$Wood", name := "movementOf", desc := "(II)I" } : Jvm.MethodName) ∈ wU := wU_2 (List.mem_of_getElem? (i := 37) rfl) rfl
theorem tw_278 : Jvm.Cond.instanceMethod ({ cls := "DovetailRow$Wood", name := "movementOf", desc := "(II)I" } : Jvm.MethodName) ∈ wU := wU_2 (List.mem_of_getElem? (i := 38) rfl) rfl
theorem tw_279 : Jvm.Cond.code ({ cls := "DovetailRow$Wood", name := "movementOf", desc := "(II)I" } : Jvm.MethodName) prog_6_method_2_code (3 : Nat) (Option.some Jvm.ClassFile.FieldType.int) ∈ wU := wU_2 (List.mem_of_getElem? (i := 39) rfl) rfl
theorem tw_280 : Jvm.Cond.methodLinkNest "DovetailRow$Wood" (25 : Nat) ({ cls := "DovetailRow", name := "movingOf", desc := "(I)I" } : Jvm.MethodName) "DovetailRow" ∈ lw_tbl := wT_2 (List.mem_of_getElem? (i := 40) rfl)
theorem tw_281 : Jvm.Cond.static ({ cls := "DovetailRow", name := "movingOf", desc := "(I)I" } : Jvm.MethodName) ∈ wU := wU_2 (List.mem_of_getElem? (i := 41) rfl) rfl
theorem tw_282 : Jvm.Cond.code ({ cls := "DovetailRow", name := "movingOf", desc := "(I)I" } : Jvm.MethodName) prog_1_method_31_code (1 : Nat) (Option.some Jvm.ClassFile.FieldType.int) ∈ wU := wU_2 (List.mem_of_getElem? (i := 42) rfl) rfl
theorem tw_283 : Jvm.Cond.methodLink "DovetailRow$Joint" (50 : Nat) ({ cls := "java/lang/Math", name := "abs", desc := "(I)I" } : Jvm.MethodName) ∈ wU := wU_2 (List.mem_of_getElem? (i := 43) rfl) rfl
theorem tw_284 : Jvm.Cond.static ({ cls := "java/lang/Math", name := "abs", desc := "(I)I" } : Jvm.MethodName) ∈ wU := wU_2 (List.mem_of_getElem? (i := 44) rfl) rfl
theorem tw_285 : Jvm.Cond.code ({ cls := "java/lang/Math", name := "abs", desc := "(I)I" } : Jvm.MethodName) prog_17_method_59_code (1 : Nat) (Option.some Jvm.ClassFile.FieldType.int) ∈ wU := wU_2 (List.mem_of_getElem? (i := 45) rfl) rfl
theorem tw_286 : Jvm.Cond.methodLink "DovetailRow$Joint" (56 : Nat) ({ cls := "DovetailRow$Part", name := "widthAt", desc := "(I)I" } : Jvm.MethodName) ∈ wU := wU_2 (List.mem_of_getElem? (i := 46) rfl) rfl
theorem tw_287 : Jvm.Cond.sameMethod "DovetailRow$Part" "DovetailRow$Wood" "widthAt" "(I)I" ∈ wU := wU_2 (List.mem_of_getElem? (i := 47) rfl) rfl
theorem tw_288 : Jvm.Cond.declares ({ cls := "DovetailRow$Wood", name := "widthAt", desc := "(I)I" } : Jvm.MethodName) ∈ lw_tbl := wT_2 (List.mem_of_getElem? (i := 48) rfl)
theorem tw_289 : Jvm.Cond.selects "DovetailRow$Part" ({ cls := "DovetailRow$Part", name := "widthAt", desc := "(I)I" } : Jvm.MethodName) ({ cls := "DovetailRow$Wood", name := "widthAt", desc := "(I)I" } : Jvm.MethodName) ∈ wU := wU_2 (List.mem_of_getElem? (i := 49) rfl) rfl
theorem tw_290 : Jvm.Cond.instanceMethod ({ cls := "DovetailRow$Wood", name := "widthAt", desc := "(I)I" } : Jvm.MethodName) ∈ wU := wU_2 (List.mem_of_getElem? (i := 50) rfl) rfl
theorem tw_291 : Jvm.Cond.code ({ cls := "DovetailRow$Wood", name := "widthAt", desc := "(I)I" } : Jvm.MethodName) prog_6_method_3_code (2 : Nat) (Option.some Jvm.ClassFile.FieldType.int) ∈ wU := wU_2 (List.mem_of_getElem? (i := 51) rfl) rfl
theorem tw_292 : Jvm.Cond.methodLink "DovetailRow$Wood" (31 : Nat) ({ cls := "DovetailRow$Wood", name := "movementOf", desc := "(II)I" } : Jvm.MethodName) ∈ wU := wU_2 (List.mem_of_getElem? (i := 52) rfl) rfl
theorem tw_293 : Jvm.Cond.methodLink "DovetailRowLaw" (96 : Nat) ({ cls := "DovetailRowLaw", name := "board", desc := "(LDovetailRow;IIIIII[J)I" } : Jvm.MethodName) ∈ wU := wU_2 (List.mem_of_getElem? (i := 53) rfl) rfl
theorem tw_294 : Jvm.Cond.static ({ cls := "DovetailRowLaw", name := "board", desc := "(LDovetailRow;IIIIII[J)I" } : Jvm.MethodName) ∈ wU := wU_2 (List.mem_of_getElem? (i := 54) rfl) rfl
theorem tw_295 : Jvm.Cond.codeWith ({ cls := "DovetailRowLaw", name := "board", desc := "(LDovetailRow;IIIIII[J)I" } : Jvm.MethodName) method_5_code (9 : Nat) (Option.some Jvm.ClassFile.FieldType.int) [((0 : Nat), (18 : Nat), (21 : Nat), (15 : Nat)), ((0 : Nat), (18 : Nat), (25 : Nat), (21 : Nat))] ∈ wU := wU_2 (List.mem_of_getElem? (i := 55) rfl) rfl
theorem tw_296 : Jvm.Cond.methodLink "DovetailRowLaw" (23 : Nat) ({ cls := "DovetailRow", name := "board", desc := "(IIIIII)I" } : Jvm.MethodName) ∈ wU := wU_2 (List.mem_of_getElem? (i := 56) rfl) rfl
theorem tw_297 : Jvm.Cond.instanceMethod ({ cls := "DovetailRow", name := "board", desc := "(IIIIII)I" } : Jvm.MethodName) ∈ wU := wU_2 (List.mem_of_getElem? (i := 57) rfl) rfl
theorem tw_298 : Jvm.Cond.selects "DovetailRow" ({ cls := "DovetailRow", name := "board", desc := "(IIIIII)I" } : Jvm.MethodName) ({ cls := "DovetailRow", name := "board", desc := "(IIIIII)I" } : Jvm.MethodName) ∈ wU := wU_2 (List.mem_of_getElem? (i := 58) rfl) rfl
theorem tw_299 : Jvm.Cond.code ({ cls := "DovetailRow", name := "board", desc := "(IIIIII)I" } : Jvm.MethodName) prog_1_method_4_code (8 : Nat) (Option.some Jvm.ClassFile.FieldType.int) ∈ wU := wU_2 (List.mem_of_getElem? (i := 59) rfl) rfl
theorem tw_300 : Jvm.Cond.stringRef "DovetailRow" (80 : Nat) "species, flitch or place is out of its range" ∈ lw_tbl := wT_2 (List.mem_of_getElem? (i := 60) rfl)
theorem tw_301 : Jvm.Cond.stringRef "DovetailRow" (82 : Nat) "width, length or moisture is out of its range" ∈ lw_tbl := wT_2 (List.mem_of_getElem? (i := 61) rfl)
theorem tw_302 : Jvm.Cond.stringRef "DovetailRow" (87 : Nat) "there are 20 boards" ∈ lw_tbl := wT_2 (List.mem_of_getElem? (i := 62) rfl)
theorem tw_303 : Jvm.Cond.methodLink "DovetailRow" (89 : Nat) ({ cls := "DovetailRow", name := "suitsFlitch", desc := "(III)Z" } : Jvm.MethodName) ∈ wU := wU_2 (List.mem_of_getElem? (i := 63) rfl) rfl
theorem tw_304 : Jvm.Cond.privateMethod ({ cls := "DovetailRow", name := "suitsFlitch", desc := "(III)Z" } : Jvm.MethodName) ∈ lw_tbl := wT_2 (List.mem_of_getElem? (i := 64) rfl)
theorem tw_305 : Jvm.Cond.instanceMethod ({ cls := "DovetailRow", name := "suitsFlitch", desc := "(III)Z" } : Jvm.MethodName) ∈ wU := wU_2 (List.mem_of_getElem? (i := 65) rfl) rfl
theorem tw_306 : Jvm.Cond.code ({ cls := "DovetailRow", name := "suitsFlitch", desc := "(III)Z" } : Jvm.MethodName) prog_1_method_33_code (6 : Nat) (Option.some Jvm.ClassFile.FieldType.boolean) ∈ wU := wU_2 (List.mem_of_getElem? (i := 66) rfl) rfl
theorem tw_307 : Jvm.Cond.stringRef "DovetailRow" (92 : Nat) "the flitch has that place, or is of another species" ∈ lw_tbl := wT_2 (List.mem_of_getElem? (i := 67) rfl)
theorem tw_308 : Jvm.Cond.instantiable "DovetailRow$Board" (11 : Nat) ∈ wU := wU_2 (List.mem_of_getElem? (i := 68) rfl) rfl
theorem tw_309 : Jvm.Cond.methodLink "DovetailRow" (96 : Nat) ({ cls := "DovetailRow$Board", name := "<init>", desc := "(IIIIIII)V" } : Jvm.MethodName) ∈ wU := wU_2 (List.mem_of_getElem? (i := 69) rfl) rfl
theorem tw_310 : Jvm.Cond.instanceMethod ({ cls := "DovetailRow$Board", name := "<init>", desc := "(IIIIIII)V" } : Jvm.MethodName) ∈ wU := wU_2 (List.mem_of_getElem? (i := 70) rfl) rfl
theorem tw_311 : Jvm.Cond.code ({ cls := "DovetailRow$Board", name := "<init>", desc := "(IIIIIII)V" } : Jvm.MethodName) prog_2_method_1_code (8 : Nat) (Option.none : Option Jvm.ClassFile.FieldType) ∈ wU := wU_2 (List.mem_of_getElem? (i := 71) rfl) rfl
theorem tw_312 : Jvm.Cond.methodLink "DovetailRow$Board" (1 : Nat) ({ cls := "DovetailRow$Wood", name := "<init>", desc := "(III)V" } : Jvm.MethodName) ∈ wU := wU_2 (List.mem_of_getElem? (i := 72) rfl) rfl
theorem tw_313 : Jvm.Cond.instanceMethod ({ cls := "DovetailRow$Wood", name := "<init>", desc := "(III)V" } : Jvm.MethodName) ∈ wU := wU_2 (List.mem_of_getElem? (i := 73) rfl) rfl
theorem tw_314 : Jvm.Cond.code ({ cls := "DovetailRow$Wood", name := "<init>", desc := "(III)V" } : Jvm.MethodName) prog_6_method_1_code (4 : Nat) (Option.none : Option Jvm.ClassFile.FieldType) ∈ wU := wU_2 (List.mem_of_getElem? (i := 74) rfl) rfl
theorem tw_315 : Jvm.Cond.methodLink "DovetailRow$Wood" (1 : Nat) ({ cls := "java/lang/Object", name := "<init>", desc := "()V" } : Jvm.MethodName) ∈ wU := wU_2 (List.mem_of_getElem? (i := 75) rfl) rfl
theorem tw_316 : Jvm.Cond.classLink "DovetailRow$Board" (7 : Nat) "java/util/ArrayList" ∈ wU := wU_2 (List.mem_of_getElem? (i := 76) rfl) rfl
theorem tw_317 : Jvm.Cond.methodLink "DovetailRow$Board" (9 : Nat) ({ cls := "java/util/ArrayList", name := "<init>", desc := "()V" } : Jvm.MethodName) ∈ wU := wU_2 (List.mem_of_getElem? (i := 77) rfl) rfl
theorem tw_318 : Jvm.Cond.fieldLink "DovetailRow$Board" (21 : Nat) "DovetailRow$Board" "number" "I" ∈ wU := wU_2 (List.mem_of_getElem? (i := 78) rfl) rfl
theorem tw_319 : Jvm.Cond.fieldLink "DovetailRow" (299 : Nat) "DovetailRow$Board" "number" "I" ∈ wU := wU_2 (List.mem_of_getElem? (i := 79) rfl) rfl
theorem tw_320 : Jvm.Cond.fieldLink "DovetailRow$Board" (25 : Nat) "DovetailRow$Board" "flitch" "I" ∈ wU := wU_2 (List.mem_of_getElem? (i := 80) rfl) rfl
theorem tw_321 : Jvm.Cond.fieldLink "DovetailRow" (189 : Nat) "DovetailRow$Board" "flitch" "I" ∈ wU := wU_2 (List.mem_of_getElem? (i := 81) rfl) rfl
theorem tw_322 : Jvm.Cond.fieldLink "DovetailRow$Board" (28 : Nat) "DovetailRow$Board" "place" "I" ∈ wU := wU_2 (List.mem_of_getElem? (i := 82) rfl) rfl
theorem tw_323 : Jvm.Cond.fieldLink "DovetailRow" (192 : Nat) "DovetailRow$Board" "place" "I" ∈ wU := wU_2 (List.mem_of_getElem? (i := 83) rfl) rfl
theorem tw_324 : Jvm.Cond.fieldLink "DovetailRow$Board" (31 : Nat) "DovetailRow$Board" "length" "I" ∈ wU := wU_2 (List.mem_of_getElem? (i := 84) rfl) rfl
theorem tw_325 : Jvm.Cond.fieldLink "DovetailRow" (109 : Nat) "DovetailRow$Board" "length" "I" ∈ wU := wU_2 (List.mem_of_getElem? (i := 85) rfl) rfl
theorem tw_326 : Jvm.Cond.fieldLink "DovetailRow$Board" (12 : Nat) "DovetailRow$Board" "knots" "Ljava/util/ArrayList;" ∈ wU := wU_2 (List.mem_of_getElem? (i := 86) rfl) rfl
theorem tw_327 : Jvm.Cond.fieldLink "DovetailRow" (114 : Nat) "DovetailRow$Board" "knots" "Ljava/util/ArrayList;" ∈ wU := wU_2 (List.mem_of_getElem? (i := 87) rfl) rfl
theorem tw_328 : Jvm.Cond.fieldLink "DovetailRow$Board" (18 : Nat) "DovetailRow$Board" "taken" "Ljava/util/ArrayList;" ∈ wU := wU_2 (List.mem_of_getElem? (i := 88) rfl) rfl
theorem tw_329 : Jvm.Cond.fieldLink "DovetailRow" (119 : Nat) "DovetailRow$Board" "taken" "Ljava/util/ArrayList;" ∈ wU := wU_2 (List.mem_of_getElem? (i := 89) rfl) rfl
theorem tw_330 : Jvm.Cond.fieldLink "DovetailRow$Part" (1 : Nat) "DovetailRow$Board" "species" "I" ∈ wU := wU_2 (List.mem_of_getElem? (i := 90) rfl) rfl
theorem tw_331 : Jvm.Cond.sameField "DovetailRow$Board" "DovetailRow$Wood" "species" "I" ∈ wU := wU_2 (List.mem_of_getElem? (i := 91) rfl) rfl
theorem tw_332 : Jvm.Cond.fieldLink "DovetailRow$Wood" (13 : Nat) "DovetailRow$Wood" "species" "I" ∈ wU := wU_2 (List.mem_of_getElem? (i := 92) rfl) rfl
theorem tw_333 : Jvm.Cond.fieldLink "DovetailRow" (148 : Nat) "DovetailRow$Board" "species" "I" ∈ wU := wU_2 (List.mem_of_getElem? (i := 93) rfl) rfl
theorem tw_334 : Jvm.Cond.fieldLink "DovetailRow" (213 : Nat) "DovetailRow$Part" "species" "I" ∈ wU := wU_2 (List.mem_of_getElem? (i := 94) rfl) rfl
theorem tw_335 : Jvm.Cond.sameField "DovetailRow$Part" "DovetailRow$Wood" "species" "I" ∈ wU := wU_2 (List.mem_of_getElem? (i := 95) rfl) rfl
theorem tw_336 : Jvm.Cond.fieldLink "DovetailRow$Wood" (16 : Nat) "DovetailRow$Wood" "measuredWidth" "I" ∈ wU := wU_2 (List.mem_of_getElem? (i := 96) rfl) rfl
theorem tw_337 : Jvm.Cond.fieldLink "DovetailRow$Wood" (19 : Nat) "DovetailRow$Wood" "measuredMoisture" "I" ∈ wU := wU_2 (List.mem_of_getElem? (i := 97) rfl) rfl
theorem tw_338 : Jvm.Cond.fieldLink "DovetailRow$Part" (7 : Nat) "DovetailRow$Board" "moisture" "I" ∈ wU := wU_2 (List.mem_of_getElem? (i := 98) rfl) rfl
theorem tw_339 : Jvm.Cond.sameField "DovetailRow$Board" "DovetailRow$Wood" "moisture" "I" ∈ wU := wU_2 (List.mem_of_getElem? (i := 99) rfl) rfl
theorem tw_340 : Jvm.Cond.fieldLink "DovetailRow$Wood" (22 : Nat) "DovetailRow$Wood" "moisture" "I" ∈ wU := wU_2 (List.mem_of_getElem? (i := 100) rfl) rfl
theorem tw_341 : Jvm.Cond.fieldLink "DovetailRow$Joint" (41 : Nat) "DovetailRow$Part" "moisture" "I" ∈ wU := wU_2 (List.mem_of_getElem? (i := 101) rfl) rfl
theorem tw_342 : Jvm.Cond.sameField "DovetailRow$Part" "DovetailRow$Wood" "moisture" "I" ∈ wU := wU_2 (List.mem_of_getElem? (i := 102) rfl) rfl
theorem tw_343 : Jvm.Cond.fieldLink "DovetailRow" (294 : Nat) "DovetailRow$Board" "moisture" "I" ∈ wU := wU_2 (List.mem_of_getElem? (i := 103) rfl) rfl
theorem tw_344 : Jvm.Cond.fieldLink "DovetailRow" (302 : Nat) "DovetailRow$Part" "moisture" "I" ∈ wU := wU_2 (List.mem_of_getElem? (i := 104) rfl) rfl
theorem tw_345 : Jvm.Cond.fieldLink "DovetailRow$Wood" (7 : Nat) "DovetailRow$Wood" "coats" "I" ∈ wU := wU_2 (List.mem_of_getElem? (i := 105) rfl) rfl
theorem tw_346 : Jvm.Cond.fieldLink "DovetailRow" (178 : Nat) "DovetailRow$Part" "coats" "I" ∈ wU := wU_2 (List.mem_of_getElem? (i := 106) rfl) rfl
theorem tw_347 : Jvm.Cond.sameField "DovetailRow$Part" "DovetailRow$Wood" "coats" "I" ∈ wU := wU_2 (List.mem_of_getElem? (i := 107) rfl) rfl
theorem tw_348 : Jvm.Cond.laysFinal "DovetailRow$Board" "DovetailRow$Board" "number" "I" ∈ wU := wU_2 (List.mem_of_getElem? (i := 108) rfl) rfl
theorem tw_349 : Jvm.Cond.soleField "DovetailRow$Board" "number" ∈ wU := wU_2 (List.mem_of_getElem? (i := 109) rfl) rfl
theorem tw_350 : Jvm.Cond.laysFinal "DovetailRow$Board" "DovetailRow$Board" "flitch" "I" ∈ wU := wU_2 (List.mem_of_getElem? (i := 110) rfl) rfl
theorem tw_351 : Jvm.Cond.soleField "DovetailRow$Board" "flitch" ∈ wU := wU_2 (List.mem_of_getElem? (i := 111) rfl) rfl
theorem tw_352 : Jvm.Cond.laysFinal "DovetailRow$Board" "DovetailRow$Board" "place" "I" ∈ wU := wU_2 (List.mem_of_getElem? (i := 112) rfl) rfl
theorem tw_353 : Jvm.Cond.soleField "DovetailRow$Board" "place" ∈ wU := wU_2 (List.mem_of_getElem? (i := 113) rfl) rfl
theorem tw_354 : Jvm.Cond.laysFinal "DovetailRow$Board" "DovetailRow$Board" "length" "I" ∈ wU := wU_2 (List.mem_of_getElem? (i := 114) rfl) rfl
theorem tw_355 : Jvm.Cond.soleField "DovetailRow$Board" "length" ∈ wU := wU_2 (List.mem_of_getElem? (i := 115) rfl) rfl
theorem tw_356 : Jvm.Cond.laysFinal "DovetailRow$Board" "DovetailRow$Board" "knots" "Ljava/util/ArrayList;" ∈ wU := wU_2 (List.mem_of_getElem? (i := 116) rfl) rfl
theorem tw_357 : Jvm.Cond.soleField "DovetailRow$Board" "knots" ∈ wU := wU_2 (List.mem_of_getElem? (i := 117) rfl) rfl
theorem tw_358 : Jvm.Cond.laysFinal "DovetailRow$Board" "DovetailRow$Board" "taken" "Ljava/util/ArrayList;" ∈ wU := wU_2 (List.mem_of_getElem? (i := 118) rfl) rfl
theorem tw_359 : Jvm.Cond.soleField "DovetailRow$Board" "taken" ∈ wU := wU_2 (List.mem_of_getElem? (i := 119) rfl) rfl
theorem tw_360 : Jvm.Cond.laysFinal "DovetailRow$Board" "DovetailRow$Wood" "species" "I" ∈ wU := wU_2 (List.mem_of_getElem? (i := 120) rfl) rfl
theorem tw_361 : Jvm.Cond.soleField "DovetailRow$Wood" "species" ∈ wU := wU_2 (List.mem_of_getElem? (i := 121) rfl) rfl
theorem tw_362 : Jvm.Cond.laysFinal "DovetailRow$Board" "DovetailRow$Wood" "measuredWidth" "I" ∈ wU := wU_2 (List.mem_of_getElem? (i := 122) rfl) rfl
theorem tw_363 : Jvm.Cond.soleField "DovetailRow$Wood" "measuredWidth" ∈ wU := wU_2 (List.mem_of_getElem? (i := 123) rfl) rfl
theorem tw_364 : Jvm.Cond.laysFinal "DovetailRow$Board" "DovetailRow$Wood" "measuredMoisture" "I" ∈ wU := wU_2 (List.mem_of_getElem? (i := 124) rfl) rfl
theorem tw_365 : Jvm.Cond.soleField "DovetailRow$Wood" "measuredMoisture" ∈ wU := wU_2 (List.mem_of_getElem? (i := 125) rfl) rfl
theorem tw_366 : Jvm.Cond.lays "DovetailRow$Board" "DovetailRow$Wood" "moisture" "I" ∈ wU := wU_2 (List.mem_of_getElem? (i := 126) rfl) rfl
theorem tw_367 : Jvm.Cond.soleField "DovetailRow$Wood" "moisture" ∈ wU := wU_2 (List.mem_of_getElem? (i := 127) rfl) rfl
theorem tw_368 : Jvm.Cond.lays "DovetailRow$Board" "DovetailRow$Wood" "coats" "I" ∈ wU := wU_2 (List.mem_of_getElem? (i := 128) rfl) rfl
theorem tw_369 : Jvm.Cond.soleField "DovetailRow$Wood" "coats" ∈ wU := wU_2 (List.mem_of_getElem? (i := 129) rfl) rfl
theorem tw_370 : Jvm.Cond.superclass "DovetailRow$Board" "DovetailRow$Wood" ∈ lw_tbl := wT_2 (List.mem_of_getElem? (i := 130) rfl)
theorem tw_371 : Jvm.Cond.methodLink "DovetailRow" (99 : Nat) ({ cls := "java/util/ArrayList", name := "add", desc := "(Ljava/lang/Object;)Z" } : Jvm.MethodName) ∈ wU := wU_2 (List.mem_of_getElem? (i := 131) rfl) rfl
theorem tw_372 : Jvm.Cond.instanceMethod ({ cls := "java/util/ArrayList", name := "add", desc := "(Ljava/lang/Object;)Z" } : Jvm.MethodName) ∈ wU := wU_2 (List.mem_of_getElem? (i := 132) rfl) rfl
theorem tw_373 : Jvm.Cond.selects "java/util/ArrayList" ({ cls := "java/util/ArrayList", name := "add", desc := "(Ljava/lang/Object;)Z" } : Jvm.MethodName) ({ cls := "java/util/ArrayList", name := "add", desc := "(Ljava/lang/Object;)Z" } : Jvm.MethodName) ∈ wU := wU_2 (List.mem_of_getElem? (i := 133) rfl) rfl
theorem tw_374 : Jvm.Cond.code ({ cls := "java/util/ArrayList", name := "add", desc := "(Ljava/lang/Object;)Z" } : Jvm.MethodName) prog_24_method_25_code (2 : Nat) (Option.some Jvm.ClassFile.FieldType.boolean) ∈ wU := wU_2 (List.mem_of_getElem? (i := 134) rfl) rfl
theorem tw_375 : Jvm.Cond.methodLink "java/util/ArrayList" (131 : Nat) ({ cls := "java/util/ArrayList", name := "add", desc := "(Ljava/lang/Object;[Ljava/lang/Object;I)V" } : Jvm.MethodName) ∈ wU := wU_2 (List.mem_of_getElem? (i := 135) rfl) rfl
theorem tw_376 : Jvm.Cond.privateMethod ({ cls := "java/util/ArrayList", name := "add", desc := "(Ljava/lang/Object;[Ljava/lang/Object;I)V" } : Jvm.MethodName) ∈ lw_tbl := wT_2 (List.mem_of_getElem? (i := 136) rfl)
theorem tw_377 : Jvm.Cond.instanceMethod ({ cls := "java/util/ArrayList", name := "add", desc := "(Ljava/lang/Object;[Ljava/lang/Object;I)V" } : Jvm.MethodName) ∈ wU := wU_2 (List.mem_of_getElem? (i := 137) rfl) rfl
theorem tw_378 : Jvm.Cond.code ({ cls := "java/util/ArrayList", name := "add", desc := "(Ljava/lang/Object;[Ljava/lang/Object;I)V" } : Jvm.MethodName) prog_24_method_24_code (4 : Nat) (Option.none : Option Jvm.ClassFile.FieldType) ∈ wU := wU_2 (List.mem_of_getElem? (i := 138) rfl) rfl
theorem tw_379 : Jvm.Cond.methodLink "java/util/ArrayList" (129 : Nat) ({ cls := "java/util/ArrayList", name := "grow", desc := "()[Ljava/lang/Object;" } : Jvm.MethodName) ∈ wU := wU_2 (List.mem_of_getElem? (i := 139) rfl) rfl
theorem tw_380 : Jvm.Cond.privateMethod ({ cls := "java/util/ArrayList", name := "grow", desc := "()[Ljava/lang/Object;" } : Jvm.MethodName) ∈ lw_tbl := wT_2 (List.mem_of_getElem? (i := 140) rfl)
theorem tw_381 : Jvm.Cond.instanceMethod ({ cls := "java/util/ArrayList", name := "grow", desc := "()[Ljava/lang/Object;" } : Jvm.MethodName) ∈ wU := wU_2 (List.mem_of_getElem? (i := 141) rfl) rfl
theorem tw_382 : Jvm.Cond.code ({ cls := "java/util/ArrayList", name := "grow", desc := "()[Ljava/lang/Object;" } : Jvm.MethodName) prog_24_method_7_code (1 : Nat) (Option.some (Jvm.ClassFile.FieldType.array (Jvm.ClassFile.FieldType.object "java/lang/Object"))) ∈ wU := wU_2 (List.mem_of_getElem? (i := 142) rfl) rfl
theorem tw_383 : Jvm.Cond.methodLink "java/util/ArrayList" (69 : Nat) ({ cls := "java/util/ArrayList", name := "grow", desc := "(I)[Ljava/lang/Object;" } : Jvm.MethodName) ∈ wU := wU_2 (List.mem_of_getElem? (i := 143) rfl) rfl
theorem tw_384 : Jvm.Cond.privateMethod ({ cls := "java/util/ArrayList", name := "grow", desc := "(I)[Ljava/lang/Object;" } : Jvm.MethodName) ∈ lw_tbl := wT_2 (List.mem_of_getElem? (i := 144) rfl)
theorem tw_385 : Jvm.Cond.instanceMethod ({ cls := "java/util/ArrayList", name := "grow", desc := "(I)[Ljava/lang/Object;" } : Jvm.MethodName) ∈ wU := wU_2 (List.mem_of_getElem? (i := 145) rfl) rfl
theorem tw_386 : Jvm.Cond.code ({ cls := "java/util/ArrayList", name := "grow", desc := "(I)[Ljava/lang/Object;" } : Jvm.MethodName) prog_24_method_6_code (4 : Nat) (Option.some (Jvm.ClassFile.FieldType.array (Jvm.ClassFile.FieldType.object "java/lang/Object"))) ∈ wU := wU_2 (List.mem_of_getElem? (i := 146) rfl) rfl
theorem tw_387 : Jvm.Cond.methodLink "java/util/ArrayList" (73 : Nat) ({ cls := "jdk/internal/util/ArraysSupport", name := "newLength", desc := "(III)I" } : Jvm.MethodName) ∈ wU := wU_2 (List.mem_of_getElem? (i := 147) rfl) rfl
theorem tw_388 : Jvm.Cond.static ({ cls := "jdk/internal/util/ArraysSupport", name := "newLength", desc := "(III)I" } : Jvm.MethodName) ∈ wU := wU_2 (List.mem_of_getElem? (i := 148) rfl) rfl
theorem tw_389 : Jvm.Cond.code ({ cls := "jdk/internal/util/ArraysSupport", name := "newLength", desc := "(III)I" } : Jvm.MethodName) prog_31_method_27_code (4 : Nat) (Option.some Jvm.ClassFile.FieldType.int) ∈ wU := wU_2 (List.mem_of_getElem? (i := 149) rfl) rfl
theorem tw_390 : Jvm.Cond.methodLink "jdk/internal/util/ArraysSupport" (194 : Nat) ({ cls := "java/lang/Math", name := "max", desc := "(II)I" } : Jvm.MethodName) ∈ wU := wU_2 (List.mem_of_getElem? (i := 150) rfl) rfl
theorem tw_391 : Jvm.Cond.static ({ cls := "java/lang/Math", name := "max", desc := "(II)I" } : Jvm.MethodName) ∈ wU := wU_2 (List.mem_of_getElem? (i := 151) rfl) rfl
theorem tw_392 : Jvm.Cond.code ({ cls := "java/lang/Math", name := "max", desc := "(II)I" } : Jvm.MethodName) prog_17_method_65_code (2 : Nat) (Option.some Jvm.ClassFile.FieldType.int) ∈ wU := wU_2 (List.mem_of_getElem? (i := 152) rfl) rfl
theorem tw_393 : Jvm.Cond.constant "jdk/internal/util/ArraysSupport" (200 : Nat) (2147483639 : Int32) ∈ wU := wU_2 (List.mem_of_getElem? (i := 153) rfl) rfl
theorem tw_394 : Jvm.Cond.methodLink "jdk/internal/util/ArraysSupport" (201 : Nat) ({ cls := "jdk/internal/util/ArraysSupport", name := "hugeLength", desc := "(II)I" } : Jvm.MethodName) ∈ wU := wU_2 (List.mem_of_getElem? (i := 154) rfl) rfl
theorem tw_395 : Jvm.Cond.static ({ cls := "jdk/internal/util/ArraysSupport", name := "hugeLength", desc := "(II)I" } : Jvm.MethodName) ∈ wU := wU_2 (List.mem_of_getElem? (i := 155) rfl) rfl
theorem tw_396 : Jvm.Cond.code ({ cls := "jdk/internal/util/ArraysSupport", name := "hugeLength", desc := "(II)I" } : Jvm.MethodName) prog_31_method_28_code (3 : Nat) (Option.some Jvm.ClassFile.FieldType.int) ∈ wU := wU_2 (List.mem_of_getElem? (i := 156) rfl) rfl
theorem tw_397 : Jvm.Cond.methodLink "java/util/ArrayList" (66 : Nat) ({ cls := "java/util/Arrays", name := "copyOf", desc := "([Ljava/lang/Object;I)[Ljava/lang/Object;" } : Jvm.MethodName) ∈ wU := wU_2 (List.mem_of_getElem? (i := 157) rfl) rfl
theorem tw_398 : Jvm.Cond.static ({ cls := "java/util/Arrays", name := "copyOf", desc := "([Ljava/lang/Object;I)[Ljava/lang/Object;" } : Jvm.MethodName) ∈ wU := wU_2 (List.mem_of_getElem? (i := 158) rfl) rfl
theorem tw_399 : Jvm.Cond.code ({ cls := "java/util/Arrays", name := "copyOf", desc := "([Ljava/lang/Object;I)[Ljava/lang/Object;" } : Jvm.MethodName) prog_25_method_119_code (2 : Nat) (Option.some (Jvm.ClassFile.FieldType.array (Jvm.ClassFile.FieldType.object "java/lang/Object"))) ∈ wU := wU_2 (List.mem_of_getElem? (i := 159) rfl) rfl
theorem tw_400 : Jvm.Cond.methodLink "java/util/Arrays" (86 : Nat) ({ cls := "java/lang/Object", name := "getClass", desc := "()Ljava/lang/Class;" } : Jvm.MethodName) ∈ wU := wU_2 (List.mem_of_getElem? (i := 160) rfl) rfl
theorem tw_401 : Jvm.Cond.instanceMethod ({ cls := "java/lang/Object", name := "getClass", desc := "()Ljava/lang/Class;" } : Jvm.MethodName) ∈ wU := wU_2 (List.mem_of_getElem? (i := 161) rfl) rfl
theorem tw_402 : Jvm.Cond.sameMethod "java/lang/Object" "java/lang/Object" "getClass" "()Ljava/lang/Class;" ∈ wU := wU_2 (List.mem_of_getElem? (i := 162) rfl) rfl
theorem tw_403 : Jvm.Cond.selects "DovetailRow" ({ cls := "java/lang/Object", name := "getClass", desc := "()Ljava/lang/Class;" } : Jvm.MethodName) ({ cls := "java/lang/Object", name := "getClass", desc := "()Ljava/lang/Class;" } : Jvm.MethodName) ∈ wU := wU_2 (List.mem_of_getElem? (i := 163) rfl) rfl
theorem tw_404 : Jvm.Cond.selects "DovetailRow$Board" ({ cls := "java/lang/Object", name := "getClass", desc := "()Ljava/lang/Class;" } : Jvm.MethodName) ({ cls := "java/lang/Object", name := "getClass", desc := "()Ljava/lang/Class;" } : Jvm.MethodName) ∈ wU := wU_2 (List.mem_of_getElem? (i := 164) rfl) rfl
theorem tw_405 : Jvm.Cond.selects "DovetailRow$Joint" ({ cls := "java/lang/Object", name := "getClass", desc := "()Ljava/lang/Class;" } : Jvm.MethodName) ({ cls := "java/lang/Object", name := "getClass", desc := "()Ljava/lang/Class;" } : Jvm.MethodName) ∈ wU := wU_2 (List.mem_of_getElem? (i := 165) rfl) rfl
theorem tw_406 : Jvm.Cond.selects "DovetailRow$Part" ({ cls := "java/lang/Object", name := "getClass", desc := "()Ljava/lang/Class;" } : Jvm.MethodName) ({ cls := "java/lang/Object", name := "getClass", desc := "()Ljava/lang/Class;" } : Jvm.MethodName) ∈ wU := wU_2 (List.mem_of_getElem? (i := 166) rfl) rfl
theorem tw_407 : Jvm.Cond.selects "DovetailRow$Span" ({ cls := "java/lang/Object", name := "getClass", desc := "()Ljava/lang/Class;" } : Jvm.MethodName) ({ cls := "java/lang/Object", name := "getClass", desc := "()Ljava/lang/Class;" } : Jvm.MethodName) ∈ wU := wU_2 (List.mem_of_getElem? (i := 167) rfl) rfl
theorem tw_408 : Jvm.Cond.selects "DovetailRowModel" ({ cls := "java/lang/Object", name := "getClass", desc := "()Ljava/lang/Class;" } : Jvm.MethodName) ({ cls := "java/lang/Object", name := "getClass", desc := "()Ljava/lang/Class;" } : Jvm.MethodName) ∈ wU := wU_2 (List.mem_of_getElem? (i := 168) rfl) rfl
theorem tw_409 : Jvm.Cond.selects "java/lang/IllegalArgumentException" ({ cls := "java/lang/Object", name := "getClass", desc := "()Ljava/lang/Class;" } : Jvm.MethodName) ({ cls := "java/lang/Object", name := "getClass", desc := "()Ljava/lang/Class;" } : Jvm.MethodName) ∈ wU := wU_2 (List.mem_of_getElem? (i := 169) rfl) rfl
theorem tw_410 : Jvm.Cond.selects "java/lang/IllegalStateException" ({ cls := "java/lang/Object", name := "getClass", desc := "()Ljava/lang/Class;" } : Jvm.MethodName) ({ cls := "java/lang/Object", name := "getClass", desc := "()Ljava/lang/Class;" } : Jvm.MethodName) ∈ wU := wU_2 (List.mem_of_getElem? (i := 170) rfl) rfl
theorem tw_411 : Jvm.Cond.selects "java/lang/IndexOutOfBoundsException" ({ cls := "java/lang/Object", name := "getClass", desc := "()Ljava/lang/Class;" } : Jvm.MethodName) ({ cls := "java/lang/Object", name := "getClass", desc := "()Ljava/lang/Class;" } : Jvm.MethodName) ∈ wU := wU_2 (List.mem_of_getElem? (i := 171) rfl) rfl
theorem tw_412 : Jvm.Cond.selects "java/util/ArrayList" ({ cls := "java/lang/Object", name := "getClass", desc := "()Ljava/lang/Class;" } : Jvm.MethodName) ({ cls := "java/lang/Object", name := "getClass", desc := "()Ljava/lang/Class;" } : Jvm.MethodName) ∈ wU := wU_2 (List.mem_of_getElem? (i := 172) rfl) rfl
theorem tw_413 : Jvm.Cond.native ({ cls := "java/lang/Object", name := "getClass", desc := "()Ljava/lang/Class;" } : Jvm.MethodName) ∈ lw_tbl := wT_2 (List.mem_of_getElem? (i := 173) rfl)
theorem tw_414 : Jvm.Cond.methodLink "java/util/Arrays" (300 : Nat) ({ cls := "java/util/Arrays", name := "copyOf", desc := "([Ljava/lang/Object;ILjava/lang/Class;)[Ljava/lang/Object;" } : Jvm.MethodName) ∈ wU := wU_2 (List.mem_of_getElem? (i := 174) rfl) rfl
theorem tw_415 : Jvm.Cond.static ({ cls := "java/util/Arrays", name := "copyOf", desc := "([Ljava/lang/Object;ILjava/lang/Class;)[Ljava/lang/Object;" } : Jvm.MethodName) ∈ wU := wU_2 (List.mem_of_getElem? (i := 175) rfl) rfl
theorem tw_416 : Jvm.Cond.code ({ cls := "java/util/Arrays", name := "copyOf", desc := "([Ljava/lang/Object;ILjava/lang/Class;)[Ljava/lang/Object;" } : Jvm.MethodName) prog_25_method_120_code (4 : Nat) (Option.some (Jvm.ClassFile.FieldType.array (Jvm.ClassFile.FieldType.object "java/lang/Object"))) ∈ wU := wU_2 (List.mem_of_getElem? (i := 176) rfl) rfl
theorem tw_417 : Jvm.Cond.classLink "java/util/Arrays" (110 : Nat) "[Ljava/lang/Object;" ∈ wU := wU_2 (List.mem_of_getElem? (i := 177) rfl) rfl
theorem tw_418 : Jvm.Cond.arrayOver (Jvm.ClassFile.FieldType.object "java/lang/Object") ∈ lw_tbl := wT_2 (List.mem_of_getElem? (i := 178) rfl)
theorem tw_419 : Jvm.Cond.classLink "java/util/Arrays" (2 : Nat) "java/lang/Object" ∈ wU := wU_2 (List.mem_of_getElem? (i := 179) rfl) rfl
theorem tw_420 : Jvm.Cond.methodLink "java/util/Arrays" (304 : Nat) ({ cls := "java/lang/Math", name := "min", desc := "(II)I" } : Jvm.MethodName) ∈ wU := wU_2 (List.mem_of_getElem? (i := 180) rfl) rfl
theorem tw_421 : Jvm.Cond.static ({ cls := "java/lang/Math", name := "min", desc := "(II)I" } : Jvm.MethodName) ∈ wU := wU_2 (List.mem_of_getElem? (i := 181) rfl) rfl
theorem tw_422 : Jvm.Cond.code ({ cls := "java/lang/Math", name := "min", desc := "(II)I" } : Jvm.MethodName) prog_17_method_69_code (2 : Nat) (Option.some Jvm.ClassFile.FieldType.int) ∈ wU := wU_2 (List.mem_of_getElem? (i := 182) rfl) rfl
theorem tw_423 : Jvm.Cond.methodLink "java/util/Arrays" (150 : Nat) ({ cls := "java/lang/System", name := "arraycopy", desc := "(Ljava/lang/Object;ILjava/lang/Object;II)V" } : Jvm.MethodName) ∈ wU := wU_2 (List.mem_of_getElem? (i := 183) rfl) rfl
theorem tw_424 : Jvm.Cond.static ({ cls := "java/lang/System", name := "arraycopy", desc := "(Ljava/lang/Object;ILjava/lang/Object;II)V" } : Jvm.MethodName) ∈ wU := wU_2 (List.mem_of_getElem? (i := 184) rfl) rfl
theorem tw_425 : Jvm.Cond.native ({ cls := "java/lang/System", name := "arraycopy", desc := "(Ljava/lang/Object;ILjava/lang/Object;II)V" } : Jvm.MethodName) ∈ lw_tbl := wT_2 (List.mem_of_getElem? (i := 185) rfl)
theorem tw_426 : Jvm.Cond.methodLink "java/util/ArrayList" (79 : Nat) ({ cls := "java/lang/Math", name := "max", desc := "(II)I" } : Jvm.MethodName) ∈ wU := wU_2 (List.mem_of_getElem? (i := 186) rfl) rfl
theorem tw_427 : Jvm.Cond.classLink "java/util/ArrayList" (7 : Nat) "java/lang/Object" ∈ wU := wU_2 (List.mem_of_getElem? (i := 187) rfl) rfl
theorem tw_428 : Jvm.Cond.methodLink "DovetailRowLaw" (100 : Nat) ({ cls := "DovetailRowLaw", name := "knot", desc := "(LDovetailRow;III[J)I" } : Jvm.MethodName) ∈ wU := wU_2 (List.mem_of_getElem? (i := 188) rfl) rfl
theorem tw_429 : Jvm.Cond.static ({ cls := "DovetailRowLaw", name := "knot", desc := "(LDovetailRow;III[J)I" } : Jvm.MethodName) ∈ wU := wU_2 (List.mem_of_getElem? (i := 189) rfl) rfl
theorem tw_430 : Jvm.Cond.codeWith ({ cls := "DovetailRowLaw", name := "knot", desc := "(LDovetailRow;III[J)I" } : Jvm.MethodName) method_6_code (6 : Nat) (Option.some Jvm.ClassFile.FieldType.int) [((0 : Nat), (12 : Nat), (15 : Nat), (13 : Nat)), ((0 : Nat), (12 : Nat), (19 : Nat), (15 : Nat)), ((0 : Nat), (12 : Nat), (23 : Nat), (21 : Nat))] ∈ wU := wU_2 (List.mem_of_getElem? (i := 190) rfl) rfl
theorem tw_431 : Jvm.Cond.methodLink "DovetailRowLaw" (27 : Nat) ({ cls := "DovetailRow", name := "knot", desc := "(III)I" } : Jvm.MethodName) ∈ wU := wU_2 (List.mem_of_getElem? (i := 191) rfl) rfl
theorem tw_432 : Jvm.Cond.instanceMethod ({ cls := "DovetailRow", name := "knot", desc := "(III)I" } : Jvm.MethodName) ∈ wU := wU_2 (List.mem_of_getElem? (i := 192) rfl) rfl
theorem tw_433 : Jvm.Cond.selects "DovetailRow" ({ cls := "DovetailRow", name := "knot", desc := "(III)I" } : Jvm.MethodName) ({ cls := "DovetailRow", name := "knot", desc := "(III)I" } : Jvm.MethodName) ∈ wU := wU_2 (List.mem_of_getElem? (i := 193) rfl) rfl
theorem tw_434 : Jvm.Cond.code ({ cls := "DovetailRow", name := "knot", desc := "(III)I" } : Jvm.MethodName) prog_1_method_5_code (5 : Nat) (Option.some Jvm.ClassFile.FieldType.int) ∈ wU := wU_2 (List.mem_of_getElem? (i := 194) rfl) rfl
theorem tw_435 : Jvm.Cond.methodLink "DovetailRow" (103 : Nat) ({ cls := "DovetailRow", name := "findBoard", desc := "(I)LDovetailRow$Board;" } : Jvm.MethodName) ∈ wU := wU_2 (List.mem_of_getElem? (i := 195) rfl) rfl
theorem tw_436 : Jvm.Cond.privateMethod ({ cls := "DovetailRow", name := "findBoard", desc := "(I)LDovetailRow$Board;" } : Jvm.MethodName) ∈ lw_tbl := wT_2 (List.mem_of_getElem? (i := 196) rfl)
theorem tw_437 : Jvm.Cond.instanceMethod ({ cls := "DovetailRow", name := "findBoard", desc := "(I)LDovetailRow$Board;" } : Jvm.MethodName) ∈ wU := wU_2 (List.mem_of_getElem? (i := 197) rfl) rfl
theorem tw_438 : Jvm.Cond.code ({ cls := "DovetailRow", name := "findBoard", desc := "(I)LDovetailRow$Board;" } : Jvm.MethodName) prog_1_method_24_code (2 : Nat) (Option.some (Jvm.ClassFile.FieldType.object "DovetailRow$Board")) ∈ wU := wU_2 (List.mem_of_getElem? (i := 198) rfl) rfl
theorem tw_439 : Jvm.Cond.stringRef "DovetailRow" (107 : Nat) "there is no such board" ∈ lw_tbl := wT_2 (List.mem_of_getElem? (i := 199) rfl)
theorem tw_440 : Jvm.Cond.stringRef "DovetailRow" (112 : Nat) "from or to is out of its range" ∈ lw_tbl := wT_2 (List.mem_of_getElem? (i := 200) rfl)
theorem tw_441 : Jvm.Cond.stringRef "DovetailRow" (117 : Nat) "the board has 4 knots" ∈ lw_tbl := wT_2 (List.mem_of_getElem? (i := 201) rfl)
theorem tw_442 : Jvm.Cond.methodLink "DovetailRow" (122 : Nat) ({ cls := "DovetailRow", name := "touchesAny", desc := "(Ljava/util/ArrayList;II)Z" } : Jvm.MethodName) ∈ wU := wU_2 (List.mem_of_getElem? (i := 202) rfl) rfl
theorem tw_443 : Jvm.Cond.static ({ cls := "DovetailRow", name := "touchesAny", desc := "(Ljava/util/ArrayList;II)Z" } : Jvm.MethodName) ∈ wU := wU_2 (List.mem_of_getElem? (i := 203) rfl) rfl
theorem tw_444 : Jvm.Cond.code ({ cls := "DovetailRow", name := "touchesAny", desc := "(Ljava/util/ArrayList;II)Z" } : Jvm.MethodName) prog_1_method_34_code (4 : Nat) (Option.some Jvm.ClassFile.FieldType.boolean) ∈ wU := wU_2 (List.mem_of_getElem? (i := 204) rfl) rfl
theorem tw_445 : Jvm.Cond.classLink "DovetailRow" (128 : Nat) "DovetailRow$Span" ∈ wU := wU_2 (List.mem_of_getElem? (i := 205) rfl) rfl
theorem tw_446 : Jvm.Cond.methodLink "DovetailRow" (327 : Nat) ({ cls := "DovetailRow$Span", name := "touches", desc := "(II)Z" } : Jvm.MethodName) ∈ wU := wU_2 (List.mem_of_getElem? (i := 206) rfl) rfl
theorem tw_447 : Jvm.Cond.instanceMethod ({ cls := "DovetailRow$Span", name := "touches", desc := "(II)Z" } : Jvm.MethodName) ∈ wU := wU_2 (List.mem_of_getElem? (i := 207) rfl) rfl
theorem tw_448 : Jvm.Cond.selects "DovetailRow$Span" ({ cls := "DovetailRow$Span", name := "touches", desc := "(II)Z" } : Jvm.MethodName) ({ cls := "DovetailRow$Span", name := "touches", desc := "(II)Z" } : Jvm.MethodName) ∈ wU := wU_2 (List.mem_of_getElem? (i := 208) rfl) rfl
theorem tw_449 : Jvm.Cond.code ({ cls := "DovetailRow$Span", name := "touches", desc := "(II)Z" } : Jvm.MethodName) prog_5_method_2_code (3 : Nat) (Option.some Jvm.ClassFile.FieldType.boolean) ∈ wU := wU_2 (List.mem_of_getElem? (i := 209) rfl) rfl
theorem tw_450 : Jvm.Cond.stringRef "DovetailRow" (126 : Nat) "something of the knot is taken up" ∈ lw_tbl := wT_2 (List.mem_of_getElem? (i := 210) rfl)
theorem tw_451 : Jvm.Cond.instantiable "DovetailRow$Span" (2 : Nat) ∈ wU := wU_2 (List.mem_of_getElem? (i := 211) rfl) rfl
theorem tw_452 : Jvm.Cond.methodLink "DovetailRow" (130 : Nat) ({ cls := "DovetailRow$Span", name := "<init>", desc := "(II)V" } : Jvm.MethodName) ∈ wU := wU_2 (List.mem_of_getElem? (i := 212) rfl) rfl
theorem tw_453 : Jvm.Cond.instanceMethod ({ cls := "DovetailRow$Span", name := "<init>", desc := "(II)V" } : Jvm.MethodName) ∈ wU := wU_2 (List.mem_of_getElem? (i := 213) rfl) rfl
theorem tw_454 : Jvm.Cond.code ({ cls := "DovetailRow$Span", name := "<init>", desc := "(II)V" } : Jvm.MethodName) prog_5_method_1_code (3 : Nat) (Option.none : Option Jvm.ClassFile.FieldType) ∈ wU := wU_2 (List.mem_of_getElem? (i := 214) rfl) rfl
theorem tw_455 : Jvm.Cond.methodLink "DovetailRow$Span" (1 : Nat) ({ cls := "java/lang/Object", name := "<init>", desc := "()V" } : Jvm.MethodName) ∈ wU := wU_2 (List.mem_of_getElem? (i := 215) rfl) rfl
theorem tw_456 : Jvm.Cond.fieldLink "DovetailRow$Span" (7 : Nat) "DovetailRow$Span" "from" "I" ∈ wU := wU_2 (List.mem_of_getElem? (i := 216) rfl) rfl
theorem tw_457 : Jvm.Cond.fieldLink "DovetailRow$Span" (13 : Nat) "DovetailRow$Span" "to" "I" ∈ wU := wU_2 (List.mem_of_getElem? (i := 217) rfl) rfl
theorem tw_458 : Jvm.Cond.fieldLink "DovetailRow" (330 : Nat) "DovetailRow$Span" "to" "I" ∈ wU := wU_2 (List.mem_of_getElem? (i := 218) rfl) rfl
theorem tw_459 : Jvm.Cond.laysFinal "DovetailRow$Span" "DovetailRow$Span" "from" "I" ∈ wU := wU_2 (List.mem_of_getElem? (i := 219) rfl) rfl
theorem tw_460 : Jvm.Cond.soleField "DovetailRow$Span" "from" ∈ wU := wU_2 (List.mem_of_getElem? (i := 220) rfl) rfl
theorem tw_461 : Jvm.Cond.laysFinal "DovetailRow$Span" "DovetailRow$Span" "to" "I" ∈ wU := wU_2 (List.mem_of_getElem? (i := 221) rfl) rfl
theorem tw_462 : Jvm.Cond.soleField "DovetailRow$Span" "to" ∈ wU := wU_2 (List.mem_of_getElem? (i := 222) rfl) rfl
theorem tw_463 : Jvm.Cond.superclass "DovetailRow$Span" "java/lang/Object" ∈ lw_tbl := wT_2 (List.mem_of_getElem? (i := 223) rfl)
theorem tw_464 : Jvm.Cond.methodLink "DovetailRowLaw" (104 : Nat) ({ cls := "DovetailRowLaw", name := "cut", desc := "(LDovetailRow;IIIIZ[J)I" } : Jvm.MethodName) ∈ wU := wU_2 (List.mem_of_getElem? (i := 224) rfl) rfl
theorem tw_465 : Jvm.Cond.static ({ cls := "DovetailRowLaw", name := "cut", desc := "(LDovetailRow;IIIIZ[J)I" } : Jvm.MethodName) ∈ wU := wU_2 (List.mem_of_getElem? (i := 225) rfl) rfl
theorem tw_466 : Jvm.Cond.codeWith ({ cls := "DovetailRowLaw", name := "cut", desc := "(LDovetailRow;IIIIZ[J)I" } : Jvm.MethodName) method_7_code (8 : Nat) (Option.some Jvm.ClassFile.FieldType.int) [((0 : Nat), (16 : Nat), (19 : Nat), (13 : Nat)), ((0 : Nat), (16 : Nat), (23 : Nat), (15 : Nat)), ((0 : Nat), (16 : Nat), (27 : Nat), (21 : Nat))] ∈ wU := wU_2 (List.mem_of_getElem? (i := 226) rfl) rfl
theorem tw_467 : Jvm.Cond.methodLink "DovetailRowLaw" (31 : Nat) ({ cls := "DovetailRow", name := "cut", desc := "(IIIIZ)I" } : Jvm.MethodName) ∈ wU := wU_2 (List.mem_of_getElem? (i := 227) rfl) rfl
theorem tw_468 : Jvm.Cond.instanceMethod ({ cls := "DovetailRow", name := "cut", desc := "(IIIIZ)I" } : Jvm.MethodName) ∈ wU := wU_2 (List.mem_of_getElem? (i := 228) rfl) rfl
theorem tw_469 : Jvm.Cond.selects "DovetailRow" ({ cls := "DovetailRow", name := "cut", desc := "(IIIIZ)I" } : Jvm.MethodName) ({ cls := "DovetailRow", name := "cut", desc := "(IIIIZ)I" } : Jvm.MethodName) ∈ wU := wU_2 (List.mem_of_getElem? (i := 229) rfl) rfl
theorem tw_470 : Jvm.Cond.code ({ cls := "DovetailRow", name := "cut", desc := "(IIIIZ)I" } : Jvm.MethodName) prog_1_method_6_code (9 : Nat) (Option.some Jvm.ClassFile.FieldType.int) ∈ wU := wU_2 (List.mem_of_getElem? (i := 230) rfl) rfl
theorem tw_471 : Jvm.Cond.stringRef "DovetailRow" (133 : Nat) "from, length or width is out of its range" ∈ lw_tbl := wT_2 (List.mem_of_getElem? (i := 231) rfl)
theorem tw_472 : Jvm.Cond.stringRef "DovetailRow" (135 : Nat) "there are 40 parts" ∈ lw_tbl := wT_2 (List.mem_of_getElem? (i := 232) rfl)
theorem tw_473 : Jvm.Cond.methodLink "DovetailRow" (137 : Nat) ({ cls := "DovetailRow$Board", name := "hasRoom", desc := "(II)Z" } : Jvm.MethodName) ∈ wU := wU_2 (List.mem_of_getElem? (i := 233) rfl) rfl
theorem tw_474 : Jvm.Cond.instanceMethod ({ cls := "DovetailRow$Board", name := "hasRoom", desc := "(II)Z" } : Jvm.MethodName) ∈ wU := wU_2 (List.mem_of_getElem? (i := 234) rfl) rfl
theorem tw_475 : Jvm.Cond.selects "DovetailRow$Board" ({ cls := "DovetailRow$Board", name := "hasRoom", desc := "(II)Z" } : Jvm.MethodName) ({ cls := "DovetailRow$Board", name := "hasRoom", desc := "(II)Z" } : Jvm.MethodName) ∈ wU := wU_2 (List.mem_of_getElem? (i := 235) rfl) rfl
theorem tw_476 : Jvm.Cond.code ({ cls := "DovetailRow$Board", name := "hasRoom", desc := "(II)Z" } : Jvm.MethodName) prog_2_method_2_code (3 : Nat) (Option.some Jvm.ClassFile.FieldType.boolean) ∈ wU := wU_2 (List.mem_of_getElem? (i := 236) rfl) rfl
theorem tw_477 : Jvm.Cond.methodLinkNest "DovetailRow$Board" (34 : Nat) ({ cls := "DovetailRow", name := "touchesAny", desc := "(Ljava/util/ArrayList;II)Z" } : Jvm.MethodName) "DovetailRow" ∈ lw_tbl := wT_2 (List.mem_of_getElem? (i := 237) rfl)
theorem tw_478 : Jvm.Cond.methodLink "DovetailRow" (141 : Nat) ({ cls := "DovetailRow$Board", name := "widthNow", desc := "()I" } : Jvm.MethodName) ∈ wU := wU_2 (List.mem_of_getElem? (i := 238) rfl) rfl
theorem tw_479 : Jvm.Cond.sameMethod "DovetailRow$Board" "DovetailRow$Wood" "widthNow" "()I" ∈ wU := wU_2 (List.mem_of_getElem? (i := 239) rfl) rfl
theorem tw_480 : Jvm.Cond.declares ({ cls := "DovetailRow$Wood", name := "widthNow", desc := "()I" } : Jvm.MethodName) ∈ lw_tbl := wT_3 (List.mem_of_getElem? (i := 0) rfl)
theorem tw_481 : Jvm.Cond.selects "DovetailRow$Board" ({ cls := "DovetailRow$Board", name := "widthNow", desc := "()I" } : Jvm.MethodName) ({ cls := "DovetailRow$Wood", name := "widthNow", desc := "()I" } : Jvm.MethodName) ∈ wU := wU_3 (List.mem_of_getElem? (i := 1) rfl) rfl
theorem tw_482 : Jvm.Cond.instanceMethod ({ cls := "DovetailRow$Wood", name := "widthNow", desc := "()I" } : Jvm.MethodName) ∈ wU := wU_3 (List.mem_of_getElem? (i := 2) rfl) rfl
theorem tw_483 : Jvm.Cond.code ({ cls := "DovetailRow$Wood", name := "widthNow", desc := "()I" } : Jvm.MethodName) prog_6_method_4_code (1 : Nat) (Option.some Jvm.ClassFile.FieldType.int) ∈ wU := wU_3 (List.mem_of_getElem? (i := 3) rfl) rfl
theorem tw_484 : Jvm.Cond.methodLink "DovetailRow$Wood" (35 : Nat) ({ cls := "DovetailRow$Wood", name := "widthAt", desc := "(I)I" } : Jvm.MethodName) ∈ wU := wU_3 (List.mem_of_getElem? (i := 4) rfl) rfl
theorem tw_485 : Jvm.Cond.stringRef "DovetailRow" (144 : Nat) "the board has no room for it" ∈ lw_tbl := wT_3 (List.mem_of_getElem? (i := 5) rfl)
theorem tw_486 : Jvm.Cond.stringRef "DovetailRow" (146 : Nat) "the part would have a knot that is not hidden" ∈ lw_tbl := wT_3 (List.mem_of_getElem? (i := 6) rfl)
theorem tw_487 : Jvm.Cond.methodLink "DovetailRow" (151 : Nat) ({ cls := "DovetailRow", name := "hardnessOf", desc := "(I)I" } : Jvm.MethodName) ∈ wU := wU_3 (List.mem_of_getElem? (i := 7) rfl) rfl
theorem tw_488 : Jvm.Cond.static ({ cls := "DovetailRow", name := "hardnessOf", desc := "(I)I" } : Jvm.MethodName) ∈ wU := wU_3 (List.mem_of_getElem? (i := 8) rfl) rfl
theorem tw_489 : Jvm.Cond.code ({ cls := "DovetailRow", name := "hardnessOf", desc := "(I)I" } : Jvm.MethodName) prog_1_method_32_code (1 : Nat) (Option.some Jvm.ClassFile.FieldType.int) ∈ wU := wU_3 (List.mem_of_getElem? (i := 9) rfl) rfl
theorem tw_490 : Jvm.Cond.stringRef "DovetailRow" (154 : Nat) "the saw is not sharp enough" ∈ lw_tbl := wT_3 (List.mem_of_getElem? (i := 10) rfl)
theorem tw_491 : Jvm.Cond.instantiable "DovetailRow$Part" (9 : Nat) ∈ wU := wU_3 (List.mem_of_getElem? (i := 11) rfl) rfl
theorem tw_492 : Jvm.Cond.methodLink "DovetailRow" (158 : Nat) ({ cls := "DovetailRow$Part", name := "<init>", desc := "(ILDovetailRow$Board;III)V" } : Jvm.MethodName) ∈ wU := wU_3 (List.mem_of_getElem? (i := 12) rfl) rfl
theorem tw_493 : Jvm.Cond.instanceMethod ({ cls := "DovetailRow$Part", name := "<init>", desc := "(ILDovetailRow$Board;III)V" } : Jvm.MethodName) ∈ wU := wU_3 (List.mem_of_getElem? (i := 13) rfl) rfl
theorem tw_494 : Jvm.Cond.code ({ cls := "DovetailRow$Part", name := "<init>", desc := "(ILDovetailRow$Board;III)V" } : Jvm.MethodName) prog_4_method_1_code (6 : Nat) (Option.none : Option Jvm.ClassFile.FieldType) ∈ wU := wU_3 (List.mem_of_getElem? (i := 14) rfl) rfl
theorem tw_495 : Jvm.Cond.methodLink "DovetailRow$Part" (10 : Nat) ({ cls := "DovetailRow$Wood", name := "<init>", desc := "(III)V" } : Jvm.MethodName) ∈ wU := wU_3 (List.mem_of_getElem? (i := 15) rfl) rfl
theorem tw_496 : Jvm.Cond.fieldLink "DovetailRow$Part" (16 : Nat) "DovetailRow$Part" "number" "I" ∈ wU := wU_3 (List.mem_of_getElem? (i := 16) rfl) rfl
theorem tw_497 : Jvm.Cond.fieldLink "DovetailRow" (309 : Nat) "DovetailRow$Part" "number" "I" ∈ wU := wU_3 (List.mem_of_getElem? (i := 17) rfl) rfl
theorem tw_498 : Jvm.Cond.fieldLink "DovetailRow$Part" (21 : Nat) "DovetailRow$Part" "board" "LDovetailRow$Board;" ∈ wU := wU_3 (List.mem_of_getElem? (i := 18) rfl) rfl
theorem tw_499 : Jvm.Cond.fieldLink "DovetailRow" (185 : Nat) "DovetailRow$Part" "board" "LDovetailRow$Board;" ∈ wU := wU_3 (List.mem_of_getElem? (i := 19) rfl) rfl
theorem tw_500 : Jvm.Cond.fieldLink "DovetailRow$Part" (25 : Nat) "DovetailRow$Part" "from" "I" ∈ wU := wU_3 (List.mem_of_getElem? (i := 20) rfl) rfl
theorem tw_501 : Jvm.Cond.fieldLink "DovetailRow" (303 : Nat) "DovetailRow$Part" "from" "I" ∈ wU := wU_3 (List.mem_of_getElem? (i := 21) rfl) rfl
theorem tw_502 : Jvm.Cond.fieldLink "DovetailRow$Part" (28 : Nat) "DovetailRow$Part" "length" "I" ∈ wU := wU_3 (List.mem_of_getElem? (i := 22) rfl) rfl
theorem tw_503 : Jvm.Cond.fieldLink "DovetailRow" (333 : Nat) "DovetailRow$Part" "length" "I" ∈ wU := wU_3 (List.mem_of_getElem? (i := 23) rfl) rfl
theorem tw_504 : Jvm.Cond.laysFinal "DovetailRow$Part" "DovetailRow$Part" "number" "I" ∈ wU := wU_3 (List.mem_of_getElem? (i := 24) rfl) rfl
theorem tw_505 : Jvm.Cond.soleField "DovetailRow$Part" "number" ∈ wU := wU_3 (List.mem_of_getElem? (i := 25) rfl) rfl
theorem tw_506 : Jvm.Cond.laysFinal "DovetailRow$Part" "DovetailRow$Part" "board" "LDovetailRow$Board;" ∈ wU := wU_3 (List.mem_of_getElem? (i := 26) rfl) rfl
theorem tw_507 : Jvm.Cond.soleField "DovetailRow$Part" "board" ∈ wU := wU_3 (List.mem_of_getElem? (i := 27) rfl) rfl
theorem tw_508 : Jvm.Cond.laysFinal "DovetailRow$Part" "DovetailRow$Part" "from" "I" ∈ wU := wU_3 (List.mem_of_getElem? (i := 28) rfl) rfl
theorem tw_509 : Jvm.Cond.soleField "DovetailRow$Part" "from" ∈ wU := wU_3 (List.mem_of_getElem? (i := 29) rfl) rfl
theorem tw_510 : Jvm.Cond.laysFinal "DovetailRow$Part" "DovetailRow$Part" "length" "I" ∈ wU := wU_3 (List.mem_of_getElem? (i := 30) rfl) rfl
theorem tw_511 : Jvm.Cond.soleField "DovetailRow$Part" "length" ∈ wU := wU_3 (List.mem_of_getElem? (i := 31) rfl) rfl
theorem tw_512 : Jvm.Cond.laysFinal "DovetailRow$Part" "DovetailRow$Wood" "species" "I" ∈ wU := wU_3 (List.mem_of_getElem? (i := 32) rfl) rfl
theorem tw_513 : Jvm.Cond.laysFinal "DovetailRow$Part" "DovetailRow$Wood" "measuredWidth" "I" ∈ wU := wU_3 (List.mem_of_getElem? (i := 33) rfl) rfl
theorem tw_514 : Jvm.Cond.laysFinal "DovetailRow$Part" "DovetailRow$Wood" "measuredMoisture" "I" ∈ wU := wU_3 (List.mem_of_getElem? (i := 34) rfl) rfl
theorem tw_515 : Jvm.Cond.lays "DovetailRow$Part" "DovetailRow$Wood" "moisture" "I" ∈ wU := wU_3 (List.mem_of_getElem? (i := 35) rfl) rfl
theorem tw_516 : Jvm.Cond.lays "DovetailRow$Part" "DovetailRow$Wood" "coats" "I" ∈ wU := wU_3 (List.mem_of_getElem? (i := 36) rfl) rfl
theorem tw_517 : Jvm.Cond.superclass "DovetailRow$Part" "DovetailRow$Wood" ∈ lw_tbl := wT_3 (List.mem_of_getElem? (i := 37) rfl)
theorem tw_518 : Jvm.Cond.methodLink "DovetailRowLaw" (108 : Nat) ({ cls := "DovetailRowLaw", name := "sharpen", desc := "(LDovetailRow;I[J)I" } : Jvm.MethodName) ∈ wU := wU_3 (List.mem_of_getElem? (i := 38) rfl) rfl
theorem tw_519 : Jvm.Cond.static ({ cls := "DovetailRowLaw", name := "sharpen", desc := "(LDovetailRow;I[J)I" } : Jvm.MethodName) ∈ wU := wU_3 (List.mem_of_getElem? (i := 39) rfl) rfl
theorem tw_520 : Jvm.Cond.codeWith ({ cls := "DovetailRowLaw", name := "sharpen", desc := "(LDovetailRow;I[J)I" } : Jvm.MethodName) method_8_code (4 : Nat) (Option.some Jvm.ClassFile.FieldType.int) [((0 : Nat), (9 : Nat), (12 : Nat), (13 : Nat))] ∈ wU := wU_3 (List.mem_of_getElem? (i := 40) rfl) rfl
theorem tw_521 : Jvm.Cond.methodLink "DovetailRowLaw" (35 : Nat) ({ cls := "DovetailRow", name := "sharpen", desc := "(I)I" } : Jvm.MethodName) ∈ wU := wU_3 (List.mem_of_getElem? (i := 41) rfl) rfl
theorem tw_522 : Jvm.Cond.instanceMethod ({ cls := "DovetailRow", name := "sharpen", desc := "(I)I" } : Jvm.MethodName) ∈ wU := wU_3 (List.mem_of_getElem? (i := 42) rfl) rfl
theorem tw_523 : Jvm.Cond.selects "DovetailRow" ({ cls := "DovetailRow", name := "sharpen", desc := "(I)I" } : Jvm.MethodName) ({ cls := "DovetailRow", name := "sharpen", desc := "(I)I" } : Jvm.MethodName) ∈ wU := wU_3 (List.mem_of_getElem? (i := 43) rfl) rfl
theorem tw_524 : Jvm.Cond.code ({ cls := "DovetailRow", name := "sharpen", desc := "(I)I" } : Jvm.MethodName) prog_1_method_7_code (3 : Nat) (Option.some Jvm.ClassFile.FieldType.int) ∈ wU := wU_3 (List.mem_of_getElem? (i := 44) rfl) rfl
theorem tw_525 : Jvm.Cond.stringRef "DovetailRow" (161 : Nat) "there is no such edge" ∈ lw_tbl := wT_3 (List.mem_of_getElem? (i := 45) rfl)
theorem tw_526 : Jvm.Cond.methodLink "DovetailRowLaw" (111 : Nat) ({ cls := "DovetailRowLaw", name := "clearFrom", desc := "(LDovetailRow;II[J)I" } : Jvm.MethodName) ∈ wU := wU_3 (List.mem_of_getElem? (i := 46) rfl) rfl
theorem tw_527 : Jvm.Cond.static ({ cls := "DovetailRowLaw", name := "clearFrom", desc := "(LDovetailRow;II[J)I" } : Jvm.MethodName) ∈ wU := wU_3 (List.mem_of_getElem? (i := 47) rfl) rfl
theorem tw_528 : Jvm.Cond.codeWith ({ cls := "DovetailRowLaw", name := "clearFrom", desc := "(LDovetailRow;II[J)I" } : Jvm.MethodName) method_9_code (5 : Nat) (Option.some Jvm.ClassFile.FieldType.int) [((0 : Nat), (10 : Nat), (13 : Nat), (13 : Nat)), ((0 : Nat), (10 : Nat), (17 : Nat), (15 : Nat))] ∈ wU := wU_3 (List.mem_of_getElem? (i := 48) rfl) rfl
theorem tw_529 : Jvm.Cond.methodLink "DovetailRowLaw" (38 : Nat) ({ cls := "DovetailRow", name := "clearFrom", desc := "(II)I" } : Jvm.MethodName) ∈ wU := wU_3 (List.mem_of_getElem? (i := 49) rfl) rfl
theorem tw_530 : Jvm.Cond.instanceMethod ({ cls := "DovetailRow", name := "clearFrom", desc := "(II)I" } : Jvm.MethodName) ∈ wU := wU_3 (List.mem_of_getElem? (i := 50) rfl) rfl
theorem tw_531 : Jvm.Cond.selects "DovetailRow" ({ cls := "DovetailRow", name := "clearFrom", desc := "(II)I" } : Jvm.MethodName) ({ cls := "DovetailRow", name := "clearFrom", desc := "(II)I" } : Jvm.MethodName) ∈ wU := wU_3 (List.mem_of_getElem? (i := 51) rfl) rfl
theorem tw_532 : Jvm.Cond.code ({ cls := "DovetailRow", name := "clearFrom", desc := "(II)I" } : Jvm.MethodName) prog_1_method_8_code (5 : Nat) (Option.some Jvm.ClassFile.FieldType.int) ∈ wU := wU_3 (List.mem_of_getElem? (i := 52) rfl) rfl
theorem tw_533 : Jvm.Cond.stringRef "DovetailRow" (163 : Nat) "length is out of its range" ∈ lw_tbl := wT_3 (List.mem_of_getElem? (i := 53) rfl)
theorem tw_534 : Jvm.Cond.methodLink "DovetailRow" (165 : Nat) ({ cls := "DovetailRow$Board", name := "isClear", desc := "(II)Z" } : Jvm.MethodName) ∈ wU := wU_3 (List.mem_of_getElem? (i := 54) rfl) rfl
theorem tw_535 : Jvm.Cond.instanceMethod ({ cls := "DovetailRow$Board", name := "isClear", desc := "(II)Z" } : Jvm.MethodName) ∈ wU := wU_3 (List.mem_of_getElem? (i := 55) rfl) rfl
theorem tw_536 : Jvm.Cond.selects "DovetailRow$Board" ({ cls := "DovetailRow$Board", name := "isClear", desc := "(II)Z" } : Jvm.MethodName) ({ cls := "DovetailRow$Board", name := "isClear", desc := "(II)Z" } : Jvm.MethodName) ∈ wU := wU_3 (List.mem_of_getElem? (i := 56) rfl) rfl
theorem tw_537 : Jvm.Cond.code ({ cls := "DovetailRow$Board", name := "isClear", desc := "(II)Z" } : Jvm.MethodName) prog_2_method_3_code (3 : Nat) (Option.some Jvm.ClassFile.FieldType.boolean) ∈ wU := wU_3 (List.mem_of_getElem? (i := 57) rfl) rfl
theorem tw_538 : Jvm.Cond.methodLink "DovetailRow$Board" (40 : Nat) ({ cls := "DovetailRow$Board", name := "hasRoom", desc := "(II)Z" } : Jvm.MethodName) ∈ wU := wU_3 (List.mem_of_getElem? (i := 58) rfl) rfl
theorem tw_539 : Jvm.Cond.methodLink "DovetailRow" (168 : Nat) ({ cls := "DovetailRow", name := "earlierBehind", desc := "(Ljava/util/ArrayList;LDovetailRow$Board;II)I" } : Jvm.MethodName) ∈ wU := wU_3 (List.mem_of_getElem? (i := 59) rfl) rfl
theorem tw_540 : Jvm.Cond.static ({ cls := "DovetailRow", name := "earlierBehind", desc := "(Ljava/util/ArrayList;LDovetailRow$Board;II)I" } : Jvm.MethodName) ∈ wU := wU_3 (List.mem_of_getElem? (i := 60) rfl) rfl
theorem tw_541 : Jvm.Cond.code ({ cls := "DovetailRow", name := "earlierBehind", desc := "(Ljava/util/ArrayList;LDovetailRow$Board;II)I" } : Jvm.MethodName) prog_1_method_35_code (7 : Nat) (Option.some Jvm.ClassFile.FieldType.int) ∈ wU := wU_3 (List.mem_of_getElem? (i := 61) rfl) rfl
theorem tw_542 : Jvm.Cond.methodLink "DovetailRowLaw" (114 : Nat) ({ cls := "DovetailRowLaw", name := "coat", desc := "(LDovetailRow;I[J)I" } : Jvm.MethodName) ∈ wU := wU_3 (List.mem_of_getElem? (i := 62) rfl) rfl
theorem tw_543 : Jvm.Cond.static ({ cls := "DovetailRowLaw", name := "coat", desc := "(LDovetailRow;I[J)I" } : Jvm.MethodName) ∈ wU := wU_3 (List.mem_of_getElem? (i := 63) rfl) rfl
theorem tw_544 : Jvm.Cond.codeWith ({ cls := "DovetailRowLaw", name := "coat", desc := "(LDovetailRow;I[J)I" } : Jvm.MethodName) method_10_code (4 : Nat) (Option.some Jvm.ClassFile.FieldType.int) [((0 : Nat), (9 : Nat), (12 : Nat), (13 : Nat)), ((0 : Nat), (9 : Nat), (15 : Nat), (21 : Nat))] ∈ wU := wU_3 (List.mem_of_getElem? (i := 64) rfl) rfl
theorem tw_545 : Jvm.Cond.methodLink "DovetailRowLaw" (41 : Nat) ({ cls := "DovetailRow", name := "coat", desc := "(I)I" } : Jvm.MethodName) ∈ wU := wU_3 (List.mem_of_getElem? (i := 65) rfl) rfl
theorem tw_546 : Jvm.Cond.instanceMethod ({ cls := "DovetailRow", name := "coat", desc := "(I)I" } : Jvm.MethodName) ∈ wU := wU_3 (List.mem_of_getElem? (i := 66) rfl) rfl
theorem tw_547 : Jvm.Cond.selects "DovetailRow" ({ cls := "DovetailRow", name := "coat", desc := "(I)I" } : Jvm.MethodName) ({ cls := "DovetailRow", name := "coat", desc := "(I)I" } : Jvm.MethodName) ∈ wU := wU_3 (List.mem_of_getElem? (i := 67) rfl) rfl
theorem tw_548 : Jvm.Cond.code ({ cls := "DovetailRow", name := "coat", desc := "(I)I" } : Jvm.MethodName) prog_1_method_9_code (3 : Nat) (Option.some Jvm.ClassFile.FieldType.int) ∈ wU := wU_3 (List.mem_of_getElem? (i := 68) rfl) rfl
theorem tw_549 : Jvm.Cond.methodLink "DovetailRow" (172 : Nat) ({ cls := "DovetailRow", name := "findPart", desc := "(I)LDovetailRow$Part;" } : Jvm.MethodName) ∈ wU := wU_3 (List.mem_of_getElem? (i := 69) rfl) rfl
theorem tw_550 : Jvm.Cond.privateMethod ({ cls := "DovetailRow", name := "findPart", desc := "(I)LDovetailRow$Part;" } : Jvm.MethodName) ∈ lw_tbl := wT_3 (List.mem_of_getElem? (i := 70) rfl)
theorem tw_551 : Jvm.Cond.instanceMethod ({ cls := "DovetailRow", name := "findPart", desc := "(I)LDovetailRow$Part;" } : Jvm.MethodName) ∈ wU := wU_3 (List.mem_of_getElem? (i := 71) rfl) rfl
theorem tw_552 : Jvm.Cond.code ({ cls := "DovetailRow", name := "findPart", desc := "(I)LDovetailRow$Part;" } : Jvm.MethodName) prog_1_method_25_code (2 : Nat) (Option.some (Jvm.ClassFile.FieldType.object "DovetailRow$Part")) ∈ wU := wU_3 (List.mem_of_getElem? (i := 72) rfl) rfl
theorem tw_553 : Jvm.Cond.stringRef "DovetailRow" (176 : Nat) "there is no such part" ∈ lw_tbl := wT_3 (List.mem_of_getElem? (i := 73) rfl)
theorem tw_554 : Jvm.Cond.stringRef "DovetailRow" (181 : Nat) "the part has 6 coats" ∈ lw_tbl := wT_3 (List.mem_of_getElem? (i := 74) rfl)
theorem tw_555 : Jvm.Cond.methodLink "DovetailRowLaw" (117 : Nat) ({ cls := "DovetailRowLaw", name := "match", desc := "(LDovetailRow;II[J)I" } : Jvm.MethodName) ∈ wU := wU_3 (List.mem_of_getElem? (i := 75) rfl) rfl
theorem tw_556 : Jvm.Cond.static ({ cls := "DovetailRowLaw", name := "match", desc := "(LDovetailRow;II[J)I" } : Jvm.MethodName) ∈ wU := wU_3 (List.mem_of_getElem? (i := 76) rfl) rfl
theorem tw_557 : Jvm.Cond.codeWith ({ cls := "DovetailRowLaw", name := "match", desc := "(LDovetailRow;II[J)I" } : Jvm.MethodName) method_11_code (5 : Nat) (Option.some Jvm.ClassFile.FieldType.int) [((0 : Nat), (10 : Nat), (13 : Nat), (13 : Nat)), ((0 : Nat), (10 : Nat), (17 : Nat), (15 : Nat))] ∈ wU := wU_3 (List.mem_of_getElem? (i := 77) rfl) rfl
theorem tw_558 : Jvm.Cond.methodLink "DovetailRowLaw" (44 : Nat) ({ cls := "DovetailRow", name := "match", desc := "(II)I" } : Jvm.MethodName) ∈ wU := wU_3 (List.mem_of_getElem? (i := 78) rfl) rfl
theorem tw_559 : Jvm.Cond.instanceMethod ({ cls := "DovetailRow", name := "match", desc := "(II)I" } : Jvm.MethodName) ∈ wU := wU_3 (List.mem_of_getElem? (i := 79) rfl) rfl
theorem tw_560 : Jvm.Cond.selects "DovetailRow" ({ cls := "DovetailRow", name := "match", desc := "(II)I" } : Jvm.MethodName) ({ cls := "DovetailRow", name := "match", desc := "(II)I" } : Jvm.MethodName) ∈ wU := wU_3 (List.mem_of_getElem? (i := 80) rfl) rfl
theorem tw_561 : Jvm.Cond.code ({ cls := "DovetailRow", name := "match", desc := "(II)I" } : Jvm.MethodName) prog_1_method_10_code (5 : Nat) (Option.some Jvm.ClassFile.FieldType.int) ∈ wU := wU_3 (List.mem_of_getElem? (i := 81) rfl) rfl
theorem tw_562 : Jvm.Cond.stringRef "DovetailRow" (183 : Nat) "both parts are the same" ∈ lw_tbl := wT_3 (List.mem_of_getElem? (i := 82) rfl)
theorem tw_563 : Jvm.Cond.methodLink "DovetailRow" (195 : Nat) ({ cls := "java/lang/Math", name := "abs", desc := "(I)I" } : Jvm.MethodName) ∈ wU := wU_3 (List.mem_of_getElem? (i := 83) rfl) rfl
theorem tw_564 : Jvm.Cond.methodLink "DovetailRowLaw" (120 : Nat) ({ cls := "DovetailRowLaw", name := "joint", desc := "(LDovetailRow;IIIII[J)I" } : Jvm.MethodName) ∈ wU := wU_3 (List.mem_of_getElem? (i := 84) rfl) rfl
theorem tw_565 : Jvm.Cond.static ({ cls := "DovetailRowLaw", name := "joint", desc := "(LDovetailRow;IIIII[J)I" } : Jvm.MethodName) ∈ wU := wU_3 (List.mem_of_getElem? (i := 85) rfl) rfl
theorem tw_566 : Jvm.Cond.codeWith ({ cls := "DovetailRowLaw", name := "joint", desc := "(LDovetailRow;IIIII[J)I" } : Jvm.MethodName) method_12_code (8 : Nat) (Option.some Jvm.ClassFile.FieldType.int) [((0 : Nat), (16 : Nat), (19 : Nat), (13 : Nat)), ((0 : Nat), (16 : Nat), (23 : Nat), (15 : Nat)), ((0 : Nat), (16 : Nat), (27 : Nat), (21 : Nat))] ∈ wU := wU_3 (List.mem_of_getElem? (i := 86) rfl) rfl
theorem tw_567 : Jvm.Cond.methodLink "DovetailRowLaw" (47 : Nat) ({ cls := "DovetailRow", name := "joint", desc := "(IIIII)I" } : Jvm.MethodName) ∈ wU := wU_3 (List.mem_of_getElem? (i := 87) rfl) rfl
theorem tw_568 : Jvm.Cond.instanceMethod ({ cls := "DovetailRow", name := "joint", desc := "(IIIII)I" } : Jvm.MethodName) ∈ wU := wU_3 (List.mem_of_getElem? (i := 88) rfl) rfl
theorem tw_569 : Jvm.Cond.selects "DovetailRow" ({ cls := "DovetailRow", name := "joint", desc := "(IIIII)I" } : Jvm.MethodName) ({ cls := "DovetailRow", name := "joint", desc := "(IIIII)I" } : Jvm.MethodName) ∈ wU := wU_3 (List.mem_of_getElem? (i := 89) rfl) rfl
theorem tw_570 : Jvm.Cond.code ({ cls := "DovetailRow", name := "joint", desc := "(IIIII)I" } : Jvm.MethodName) prog_1_method_11_code (10 : Nat) (Option.some Jvm.ClassFile.FieldType.int) ∈ wU := wU_3 (List.mem_of_getElem? (i := 90) rfl) rfl
theorem tw_571 : Jvm.Cond.methodLink "DovetailRow" (200 : Nat) ({ cls := "DovetailRow", name := "isTongue", desc := "(II)Z" } : Jvm.MethodName) ∈ wU := wU_3 (List.mem_of_getElem? (i := 91) rfl) rfl
theorem tw_572 : Jvm.Cond.static ({ cls := "DovetailRow", name := "isTongue", desc := "(II)Z" } : Jvm.MethodName) ∈ wU := wU_3 (List.mem_of_getElem? (i := 92) rfl) rfl
theorem tw_573 : Jvm.Cond.code ({ cls := "DovetailRow", name := "isTongue", desc := "(II)Z" } : Jvm.MethodName) prog_1_method_36_code (2 : Nat) (Option.some Jvm.ClassFile.FieldType.boolean) ∈ wU := wU_3 (List.mem_of_getElem? (i := 93) rfl) rfl
theorem tw_574 : Jvm.Cond.stringRef "DovetailRow" (203 : Nat) "kind, size or tongue is out of its range" ∈ lw_tbl := wT_3 (List.mem_of_getElem? (i := 94) rfl)
theorem tw_575 : Jvm.Cond.stringRef "DovetailRow" (205 : Nat) "there are 30 joints" ∈ lw_tbl := wT_3 (List.mem_of_getElem? (i := 95) rfl)
theorem tw_576 : Jvm.Cond.methodLink "DovetailRow" (207 : Nat) ({ cls := "DovetailRow", name := "fits", desc := "(ILDovetailRow$Part;II)Z" } : Jvm.MethodName) ∈ wU := wU_3 (List.mem_of_getElem? (i := 96) rfl) rfl
theorem tw_577 : Jvm.Cond.static ({ cls := "DovetailRow", name := "fits", desc := "(ILDovetailRow$Part;II)Z" } : Jvm.MethodName) ∈ wU := wU_3 (List.mem_of_getElem? (i := 97) rfl) rfl
theorem tw_578 : Jvm.Cond.code ({ cls := "DovetailRow", name := "fits", desc := "(ILDovetailRow$Part;II)Z" } : Jvm.MethodName) prog_1_method_37_code (4 : Nat) (Option.some Jvm.ClassFile.FieldType.boolean) ∈ wU := wU_3 (List.mem_of_getElem? (i := 98) rfl) rfl
theorem tw_579 : Jvm.Cond.methodLink "DovetailRow" (278 : Nat) ({ cls := "DovetailRow$Part", name := "widthNow", desc := "()I" } : Jvm.MethodName) ∈ wU := wU_3 (List.mem_of_getElem? (i := 99) rfl) rfl
theorem tw_580 : Jvm.Cond.sameMethod "DovetailRow$Part" "DovetailRow$Wood" "widthNow" "()I" ∈ wU := wU_3 (List.mem_of_getElem? (i := 100) rfl) rfl
theorem tw_581 : Jvm.Cond.selects "DovetailRow$Part" ({ cls := "DovetailRow$Part", name := "widthNow", desc := "()I" } : Jvm.MethodName) ({ cls := "DovetailRow$Wood", name := "widthNow", desc := "()I" } : Jvm.MethodName) ∈ wU := wU_3 (List.mem_of_getElem? (i := 101) rfl) rfl
theorem tw_582 : Jvm.Cond.stringRef "DovetailRow" (211 : Nat) "the size does not fit" ∈ lw_tbl := wT_3 (List.mem_of_getElem? (i := 102) rfl)
theorem tw_583 : Jvm.Cond.stringRef "DovetailRow" (214 : Nat) "the chisel is not sharp enough" ∈ lw_tbl := wT_3 (List.mem_of_getElem? (i := 103) rfl)
theorem tw_584 : Jvm.Cond.instantiable "DovetailRow$Joint" (9 : Nat) ∈ wU := wU_3 (List.mem_of_getElem? (i := 104) rfl) rfl
theorem tw_585 : Jvm.Cond.methodLink "DovetailRow" (218 : Nat) ({ cls := "DovetailRow$Joint", name := "<init>", desc := "(ILDovetailRow$Part;LDovetailRow$Part;II)V" } : Jvm.MethodName) ∈ wU := wU_3 (List.mem_of_getElem? (i := 105) rfl) rfl
theorem tw_586 : Jvm.Cond.instanceMethod ({ cls := "DovetailRow$Joint", name := "<init>", desc := "(ILDovetailRow$Part;LDovetailRow$Part;II)V" } : Jvm.MethodName) ∈ wU := wU_3 (List.mem_of_getElem? (i := 106) rfl) rfl
theorem tw_587 : Jvm.Cond.code ({ cls := "DovetailRow$Joint", name := "<init>", desc := "(ILDovetailRow$Part;LDovetailRow$Part;II)V" } : Jvm.MethodName) prog_3_method_1_code (6 : Nat) (Option.none : Option Jvm.ClassFile.FieldType) ∈ wU := wU_3 (List.mem_of_getElem? (i := 107) rfl) rfl
theorem tw_588 : Jvm.Cond.methodLink "DovetailRow$Joint" (3 : Nat) ({ cls := "java/lang/Object", name := "<init>", desc := "()V" } : Jvm.MethodName) ∈ wU := wU_3 (List.mem_of_getElem? (i := 108) rfl) rfl
theorem tw_589 : Jvm.Cond.fieldLink "DovetailRow$Joint" (25 : Nat) "DovetailRow$Joint" "kind" "I" ∈ wU := wU_3 (List.mem_of_getElem? (i := 109) rfl) rfl
theorem tw_590 : Jvm.Cond.fieldLink "DovetailRow" (271 : Nat) "DovetailRow$Joint" "kind" "I" ∈ wU := wU_3 (List.mem_of_getElem? (i := 110) rfl) rfl
theorem tw_591 : Jvm.Cond.fieldLink "DovetailRow$Joint" (28 : Nat) "DovetailRow$Joint" "part" "LDovetailRow$Part;" ∈ wU := wU_3 (List.mem_of_getElem? (i := 111) rfl) rfl
theorem tw_592 : Jvm.Cond.fieldLink "DovetailRow" (274 : Nat) "DovetailRow$Joint" "part" "LDovetailRow$Part;" ∈ wU := wU_3 (List.mem_of_getElem? (i := 112) rfl) rfl
theorem tw_593 : Jvm.Cond.fieldLink "DovetailRow$Joint" (32 : Nat) "DovetailRow$Joint" "other" "LDovetailRow$Part;" ∈ wU := wU_3 (List.mem_of_getElem? (i := 113) rfl) rfl
theorem tw_594 : Jvm.Cond.fieldLink "DovetailRow" (310 : Nat) "DovetailRow$Joint" "other" "LDovetailRow$Part;" ∈ wU := wU_3 (List.mem_of_getElem? (i := 114) rfl) rfl
theorem tw_595 : Jvm.Cond.fieldLink "DovetailRow$Joint" (38 : Nat) "DovetailRow$Joint" "tongue" "I" ∈ wU := wU_3 (List.mem_of_getElem? (i := 115) rfl) rfl
theorem tw_596 : Jvm.Cond.fieldLink "DovetailRow" (279 : Nat) "DovetailRow$Joint" "tongue" "I" ∈ wU := wU_3 (List.mem_of_getElem? (i := 116) rfl) rfl
theorem tw_597 : Jvm.Cond.fieldLink "DovetailRow$Joint" (35 : Nat) "DovetailRow$Joint" "size" "I" ∈ wU := wU_3 (List.mem_of_getElem? (i := 117) rfl) rfl
theorem tw_598 : Jvm.Cond.fieldLink "DovetailRow" (282 : Nat) "DovetailRow$Joint" "size" "I" ∈ wU := wU_3 (List.mem_of_getElem? (i := 118) rfl) rfl
theorem tw_599 : Jvm.Cond.fieldLink "DovetailRow$Joint" (9 : Nat) "DovetailRow$Joint" "needs" "I" ∈ wU := wU_3 (List.mem_of_getElem? (i := 119) rfl) rfl
theorem tw_600 : Jvm.Cond.fieldLink "DovetailRow" (235 : Nat) "DovetailRow$Joint" "needs" "I" ∈ wU := wU_3 (List.mem_of_getElem? (i := 120) rfl) rfl
theorem tw_601 : Jvm.Cond.fieldLink "DovetailRow$Joint" (15 : Nat) "DovetailRow$Joint" "isGlued" "Z" ∈ wU := wU_3 (List.mem_of_getElem? (i := 121) rfl) rfl
theorem tw_602 : Jvm.Cond.fieldLink "DovetailRow" (229 : Nat) "DovetailRow$Joint" "isGlued" "Z" ∈ wU := wU_3 (List.mem_of_getElem? (i := 122) rfl) rfl
theorem tw_603 : Jvm.Cond.fieldLink "DovetailRow$Joint" (19 : Nat) "DovetailRow$Joint" "isBroken" "Z" ∈ wU := wU_3 (List.mem_of_getElem? (i := 123) rfl) rfl
theorem tw_604 : Jvm.Cond.fieldLink "DovetailRow" (266 : Nat) "DovetailRow$Joint" "isBroken" "Z" ∈ wU := wU_3 (List.mem_of_getElem? (i := 124) rfl) rfl
theorem tw_605 : Jvm.Cond.fieldLink "DovetailRow$Joint" (22 : Nat) "DovetailRow$Joint" "gluedMoisture" "I" ∈ wU := wU_3 (List.mem_of_getElem? (i := 125) rfl) rfl
theorem tw_606 : Jvm.Cond.laysFinal "DovetailRow$Joint" "DovetailRow$Joint" "kind" "I" ∈ wU := wU_3 (List.mem_of_getElem? (i := 126) rfl) rfl
theorem tw_607 : Jvm.Cond.soleField "DovetailRow$Joint" "kind" ∈ wU := wU_3 (List.mem_of_getElem? (i := 127) rfl) rfl
theorem tw_608 : Jvm.Cond.laysFinal "DovetailRow$Joint" "DovetailRow$Joint" "part" "LDovetailRow$Part;" ∈ wU := wU_3 (List.mem_of_getElem? (i := 128) rfl) rfl
theorem tw_609 : Jvm.Cond.soleField "DovetailRow$Joint" "part" ∈ wU := wU_3 (List.mem_of_getElem? (i := 129) rfl) rfl
theorem tw_610 : Jvm.Cond.laysFinal "DovetailRow$Joint" "DovetailRow$Joint" "other" "LDovetailRow$Part;" ∈ wU := wU_3 (List.mem_of_getElem? (i := 130) rfl) rfl
theorem tw_611 : Jvm.Cond.soleField "DovetailRow$Joint" "other" ∈ wU := wU_3 (List.mem_of_getElem? (i := 131) rfl) rfl
theorem tw_612 : Jvm.Cond.laysFinal "DovetailRow$Joint" "DovetailRow$Joint" "tongue" "I" ∈ wU := wU_3 (List.mem_of_getElem? (i := 132) rfl) rfl
theorem tw_613 : Jvm.Cond.soleField "DovetailRow$Joint" "tongue" ∈ wU := wU_3 (List.mem_of_getElem? (i := 133) rfl) rfl
theorem tw_614 : Jvm.Cond.lays "DovetailRow$Joint" "DovetailRow$Joint" "size" "I" ∈ wU := wU_3 (List.mem_of_getElem? (i := 134) rfl) rfl
theorem tw_615 : Jvm.Cond.soleField "DovetailRow$Joint" "size" ∈ wU := wU_3 (List.mem_of_getElem? (i := 135) rfl) rfl
theorem tw_616 : Jvm.Cond.lays "DovetailRow$Joint" "DovetailRow$Joint" "needs" "I" ∈ wU := wU_3 (List.mem_of_getElem? (i := 136) rfl) rfl
theorem tw_617 : Jvm.Cond.soleField "DovetailRow$Joint" "needs" ∈ wU := wU_3 (List.mem_of_getElem? (i := 137) rfl) rfl
theorem tw_618 : Jvm.Cond.lays "DovetailRow$Joint" "DovetailRow$Joint" "isGlued" "Z" ∈ wU := wU_3 (List.mem_of_getElem? (i := 138) rfl) rfl
theorem tw_619 : Jvm.Cond.soleField "DovetailRow$Joint" "isGlued" ∈ wU := wU_3 (List.mem_of_getElem? (i := 139) rfl) rfl
theorem tw_620 : Jvm.Cond.lays "DovetailRow$Joint" "DovetailRow$Joint" "isBroken" "Z" ∈ wU := wU_3 (List.mem_of_getElem? (i := 140) rfl) rfl
theorem tw_621 : Jvm.Cond.soleField "DovetailRow$Joint" "isBroken" ∈ wU := wU_3 (List.mem_of_getElem? (i := 141) rfl) rfl
theorem tw_622 : Jvm.Cond.lays "DovetailRow$Joint" "DovetailRow$Joint" "gluedMoisture" "I" ∈ wU := wU_3 (List.mem_of_getElem? (i := 142) rfl) rfl
theorem tw_623 : Jvm.Cond.soleField "DovetailRow$Joint" "gluedMoisture" ∈ wU := wU_3 (List.mem_of_getElem? (i := 143) rfl) rfl
theorem tw_624 : Jvm.Cond.superclass "DovetailRow$Joint" "java/lang/Object" ∈ lw_tbl := wT_3 (List.mem_of_getElem? (i := 144) rfl)
theorem tw_625 : Jvm.Cond.methodLink "DovetailRowLaw" (124 : Nat) ({ cls := "DovetailRowLaw", name := "need", desc := "(LDovetailRow;II[J)I" } : Jvm.MethodName) ∈ wU := wU_3 (List.mem_of_getElem? (i := 145) rfl) rfl
theorem tw_626 : Jvm.Cond.static ({ cls := "DovetailRowLaw", name := "need", desc := "(LDovetailRow;II[J)I" } : Jvm.MethodName) ∈ wU := wU_3 (List.mem_of_getElem? (i := 146) rfl) rfl
theorem tw_627 : Jvm.Cond.codeWith ({ cls := "DovetailRowLaw", name := "need", desc := "(LDovetailRow;II[J)I" } : Jvm.MethodName) method_13_code (5 : Nat) (Option.some Jvm.ClassFile.FieldType.int) [((0 : Nat), (10 : Nat), (13 : Nat), (13 : Nat)), ((0 : Nat), (10 : Nat), (17 : Nat), (15 : Nat)), ((0 : Nat), (10 : Nat), (21 : Nat), (21 : Nat))] ∈ wU := wU_3 (List.mem_of_getElem? (i := 147) rfl) rfl
theorem tw_628 : Jvm.Cond.methodLink "DovetailRowLaw" (51 : Nat) ({ cls := "DovetailRow", name := "need", desc := "(II)I" } : Jvm.MethodName) ∈ wU := wU_3 (List.mem_of_getElem? (i := 148) rfl) rfl
theorem tw_629 : Jvm.Cond.instanceMethod ({ cls := "DovetailRow", name := "need", desc := "(II)I" } : Jvm.MethodName) ∈ wU := wU_3 (List.mem_of_getElem? (i := 149) rfl) rfl
theorem tw_630 : Jvm.Cond.selects "DovetailRow" ({ cls := "DovetailRow", name := "need", desc := "(II)I" } : Jvm.MethodName) ({ cls := "DovetailRow", name := "need", desc := "(II)I" } : Jvm.MethodName) ∈ wU := wU_3 (List.mem_of_getElem? (i := 150) rfl) rfl
theorem tw_631 : Jvm.Cond.code ({ cls := "DovetailRow", name := "need", desc := "(II)I" } : Jvm.MethodName) prog_1_method_12_code (4 : Nat) (Option.some Jvm.ClassFile.FieldType.int) ∈ wU := wU_3 (List.mem_of_getElem? (i := 151) rfl) rfl
theorem tw_632 : Jvm.Cond.methodLink "DovetailRow" (221 : Nat) ({ cls := "DovetailRow", name := "findJoint", desc := "(I)LDovetailRow$Joint;" } : Jvm.MethodName) ∈ wU := wU_3 (List.mem_of_getElem? (i := 152) rfl) rfl
theorem tw_633 : Jvm.Cond.privateMethod ({ cls := "DovetailRow", name := "findJoint", desc := "(I)LDovetailRow$Joint;" } : Jvm.MethodName) ∈ lw_tbl := wT_3 (List.mem_of_getElem? (i := 153) rfl)
theorem tw_634 : Jvm.Cond.instanceMethod ({ cls := "DovetailRow", name := "findJoint", desc := "(I)LDovetailRow$Joint;" } : Jvm.MethodName) ∈ wU := wU_3 (List.mem_of_getElem? (i := 154) rfl) rfl
theorem tw_635 : Jvm.Cond.code ({ cls := "DovetailRow", name := "findJoint", desc := "(I)LDovetailRow$Joint;" } : Jvm.MethodName) prog_1_method_26_code (2 : Nat) (Option.some (Jvm.ClassFile.FieldType.object "DovetailRow$Joint")) ∈ wU := wU_3 (List.mem_of_getElem? (i := 155) rfl) rfl
theorem tw_636 : Jvm.Cond.stringRef "DovetailRow" (225 : Nat) "there is no such joint" ∈ lw_tbl := wT_3 (List.mem_of_getElem? (i := 156) rfl)
theorem tw_637 : Jvm.Cond.stringRef "DovetailRow" (227 : Nat) "needed is not lower" ∈ lw_tbl := wT_3 (List.mem_of_getElem? (i := 157) rfl)
theorem tw_638 : Jvm.Cond.stringRef "DovetailRow" (233 : Nat) "the joint is glued" ∈ lw_tbl := wT_3 (List.mem_of_getElem? (i := 158) rfl)
theorem tw_639 : Jvm.Cond.methodLink "DovetailRowLaw" (127 : Nat) ({ cls := "DovetailRowLaw", name := "clamps", desc := "(LDovetailRow;I[J)I" } : Jvm.MethodName) ∈ wU := wU_3 (List.mem_of_getElem? (i := 159) rfl) rfl
theorem tw_640 : Jvm.Cond.static ({ cls := "DovetailRowLaw", name := "clamps", desc := "(LDovetailRow;I[J)I" } : Jvm.MethodName) ∈ wU := wU_3 (List.mem_of_getElem? (i := 160) rfl) rfl
theorem tw_641 : Jvm.Cond.codeWith ({ cls := "DovetailRowLaw", name := "clamps", desc := "(LDovetailRow;I[J)I" } : Jvm.MethodName) method_14_code (4 : Nat) (Option.some Jvm.ClassFile.FieldType.int) [((0 : Nat), (9 : Nat), (12 : Nat), (15 : Nat))] ∈ wU := wU_3 (List.mem_of_getElem? (i := 161) rfl) rfl
theorem tw_642 : Jvm.Cond.methodLink "DovetailRowLaw" (54 : Nat) ({ cls := "DovetailRow", name := "clamps", desc := "(I)I" } : Jvm.MethodName) ∈ wU := wU_3 (List.mem_of_getElem? (i := 162) rfl) rfl
theorem tw_643 : Jvm.Cond.instanceMethod ({ cls := "DovetailRow", name := "clamps", desc := "(I)I" } : Jvm.MethodName) ∈ wU := wU_3 (List.mem_of_getElem? (i := 163) rfl) rfl
theorem tw_644 : Jvm.Cond.selects "DovetailRow" ({ cls := "DovetailRow", name := "clamps", desc := "(I)I" } : Jvm.MethodName) ({ cls := "DovetailRow", name := "clamps", desc := "(I)I" } : Jvm.MethodName) ∈ wU := wU_3 (List.mem_of_getElem? (i := 164) rfl) rfl
theorem tw_645 : Jvm.Cond.code ({ cls := "DovetailRow", name := "clamps", desc := "(I)I" } : Jvm.MethodName) prog_1_method_13_code (3 : Nat) (Option.some Jvm.ClassFile.FieldType.int) ∈ wU := wU_3 (List.mem_of_getElem? (i := 165) rfl) rfl
theorem tw_646 : Jvm.Cond.stringRef "DovetailRow" (238 : Nat) "clamps is out of its range" ∈ lw_tbl := wT_3 (List.mem_of_getElem? (i := 166) rfl)
theorem tw_647 : Jvm.Cond.methodLink "DovetailRowLaw" (130 : Nat) ({ cls := "DovetailRowLaw", name := "glue", desc := "(LDovetailRow;I[J)I" } : Jvm.MethodName) ∈ wU := wU_3 (List.mem_of_getElem? (i := 167) rfl) rfl
theorem tw_648 : Jvm.Cond.static ({ cls := "DovetailRowLaw", name := "glue", desc := "(LDovetailRow;I[J)I" } : Jvm.MethodName) ∈ wU := wU_3 (List.mem_of_getElem? (i := 168) rfl) rfl
theorem tw_649 : Jvm.Cond.codeWith ({ cls := "DovetailRowLaw", name := "glue", desc := "(LDovetailRow;I[J)I" } : Jvm.MethodName) method_15_code (4 : Nat) (Option.some Jvm.ClassFile.FieldType.int) [((0 : Nat), (9 : Nat), (12 : Nat), (15 : Nat)), ((0 : Nat), (9 : Nat), (15 : Nat), (21 : Nat))] ∈ wU := wU_3 (List.mem_of_getElem? (i := 169) rfl) rfl
theorem tw_650 : Jvm.Cond.methodLink "DovetailRowLaw" (57 : Nat) ({ cls := "DovetailRow", name := "glue", desc := "(I)I" } : Jvm.MethodName) ∈ wU := wU_3 (List.mem_of_getElem? (i := 170) rfl) rfl
theorem tw_651 : Jvm.Cond.instanceMethod ({ cls := "DovetailRow", name := "glue", desc := "(I)I" } : Jvm.MethodName) ∈ wU := wU_3 (List.mem_of_getElem? (i := 171) rfl) rfl
theorem tw_652 : Jvm.Cond.selects "DovetailRow" ({ cls := "DovetailRow", name := "glue", desc := "(I)I" } : Jvm.MethodName) ({ cls := "DovetailRow", name := "glue", desc := "(I)I" } : Jvm.MethodName) ∈ wU := wU_3 (List.mem_of_getElem? (i := 172) rfl) rfl
theorem tw_653 : Jvm.Cond.code ({ cls := "DovetailRow", name := "glue", desc := "(I)I" } : Jvm.MethodName) prog_1_method_14_code (4 : Nat) (Option.some Jvm.ClassFile.FieldType.int) ∈ wU := wU_3 (List.mem_of_getElem? (i := 173) rfl) rfl
theorem tw_654 : Jvm.Cond.stringRef "DovetailRow" (240 : Nat) "the set is empty, or has a joint that there is not" ∈ lw_tbl := wT_3 (List.mem_of_getElem? (i := 174) rfl)
theorem tw_655 : Jvm.Cond.methodLink "DovetailRow" (242 : Nat) ({ cls := "DovetailRow", name := "canBeGlued", desc := "(I)Z" } : Jvm.MethodName) ∈ wU := wU_3 (List.mem_of_getElem? (i := 175) rfl) rfl
theorem tw_656 : Jvm.Cond.privateMethod ({ cls := "DovetailRow", name := "canBeGlued", desc := "(I)Z" } : Jvm.MethodName) ∈ lw_tbl := wT_3 (List.mem_of_getElem? (i := 176) rfl)
theorem tw_657 : Jvm.Cond.instanceMethod ({ cls := "DovetailRow", name := "canBeGlued", desc := "(I)Z" } : Jvm.MethodName) ∈ wU := wU_3 (List.mem_of_getElem? (i := 177) rfl) rfl
theorem tw_658 : Jvm.Cond.code ({ cls := "DovetailRow", name := "canBeGlued", desc := "(I)Z" } : Jvm.MethodName) prog_1_method_38_code (5 : Nat) (Option.some Jvm.ClassFile.FieldType.boolean) ∈ wU := wU_3 (List.mem_of_getElem? (i := 178) rfl) rfl
theorem tw_659 : Jvm.Cond.methodLink "DovetailRow" (256 : Nat) ({ cls := "DovetailRow", name := "has", desc := "(II)Z" } : Jvm.MethodName) ∈ wU := wU_3 (List.mem_of_getElem? (i := 179) rfl) rfl
theorem tw_660 : Jvm.Cond.static ({ cls := "DovetailRow", name := "has", desc := "(II)Z" } : Jvm.MethodName) ∈ wU := wU_3 (List.mem_of_getElem? (i := 180) rfl) rfl
theorem tw_661 : Jvm.Cond.code ({ cls := "DovetailRow", name := "has", desc := "(II)Z" } : Jvm.MethodName) prog_1_method_23_code (2 : Nat) (Option.some Jvm.ClassFile.FieldType.boolean) ∈ wU := wU_3 (List.mem_of_getElem? (i := 181) rfl) rfl
theorem tw_662 : Jvm.Cond.stringRef "DovetailRow" (246 : Nat) "one is glued, or one that it needs is not glued by then" ∈ lw_tbl := wT_3 (List.mem_of_getElem? (i := 182) rfl)
theorem tw_663 : Jvm.Cond.methodLink "DovetailRow" (248 : Nat) ({ cls := "DovetailRow", name := "minutesOf", desc := "(I)I" } : Jvm.MethodName) ∈ wU := wU_3 (List.mem_of_getElem? (i := 183) rfl) rfl
theorem tw_664 : Jvm.Cond.privateMethod ({ cls := "DovetailRow", name := "minutesOf", desc := "(I)I" } : Jvm.MethodName) ∈ lw_tbl := wT_3 (List.mem_of_getElem? (i := 184) rfl)
theorem tw_665 : Jvm.Cond.instanceMethod ({ cls := "DovetailRow", name := "minutesOf", desc := "(I)I" } : Jvm.MethodName) ∈ wU := wU_3 (List.mem_of_getElem? (i := 185) rfl) rfl
theorem tw_666 : Jvm.Cond.code ({ cls := "DovetailRow", name := "minutesOf", desc := "(I)I" } : Jvm.MethodName) prog_1_method_39_code (4 : Nat) (Option.some Jvm.ClassFile.FieldType.int) ∈ wU := wU_3 (List.mem_of_getElem? (i := 186) rfl) rfl
theorem tw_667 : Jvm.Cond.methodLink "DovetailRow" (251 : Nat) ({ cls := "DovetailRow", name := "clampsOf", desc := "(I)I" } : Jvm.MethodName) ∈ wU := wU_3 (List.mem_of_getElem? (i := 187) rfl) rfl
theorem tw_668 : Jvm.Cond.privateMethod ({ cls := "DovetailRow", name := "clampsOf", desc := "(I)I" } : Jvm.MethodName) ∈ lw_tbl := wT_3 (List.mem_of_getElem? (i := 188) rfl)
theorem tw_669 : Jvm.Cond.instanceMethod ({ cls := "DovetailRow", name := "clampsOf", desc := "(I)I" } : Jvm.MethodName) ∈ wU := wU_3 (List.mem_of_getElem? (i := 189) rfl) rfl
theorem tw_670 : Jvm.Cond.code ({ cls := "DovetailRow", name := "clampsOf", desc := "(I)I" } : Jvm.MethodName) prog_1_method_40_code (4 : Nat) (Option.some Jvm.ClassFile.FieldType.int) ∈ wU := wU_3 (List.mem_of_getElem? (i := 190) rfl) rfl
theorem tw_671 : Jvm.Cond.stringRef "DovetailRow" (254 : Nat) "it would take too long, or too many clamps" ∈ lw_tbl := wT_3 (List.mem_of_getElem? (i := 191) rfl)
theorem tw_672 : Jvm.Cond.methodLink "DovetailRow" (263 : Nat) ({ cls := "DovetailRow$Joint", name := "hold", desc := "()V" } : Jvm.MethodName) ∈ wU := wU_3 (List.mem_of_getElem? (i := 192) rfl) rfl
theorem tw_673 : Jvm.Cond.instanceMethod ({ cls := "DovetailRow$Joint", name := "hold", desc := "()V" } : Jvm.MethodName) ∈ wU := wU_3 (List.mem_of_getElem? (i := 193) rfl) rfl
theorem tw_674 : Jvm.Cond.selects "DovetailRow$Joint" ({ cls := "DovetailRow$Joint", name := "hold", desc := "()V" } : Jvm.MethodName) ({ cls := "DovetailRow$Joint", name := "hold", desc := "()V" } : Jvm.MethodName) ∈ wU := wU_3 (List.mem_of_getElem? (i := 194) rfl) rfl
theorem tw_675 : Jvm.Cond.code ({ cls := "DovetailRow$Joint", name := "hold", desc := "()V" } : Jvm.MethodName) prog_3_method_2_code (1 : Nat) (Option.none : Option Jvm.ClassFile.FieldType) ∈ wU := wU_3 (List.mem_of_getElem? (i := 195) rfl) rfl
theorem tw_676 : Jvm.Cond.methodLink "DovetailRowLaw" (133 : Nat) ({ cls := "DovetailRowLaw", name := "repair", desc := "(LDovetailRow;I[J)I" } : Jvm.MethodName) ∈ wU := wU_3 (List.mem_of_getElem? (i := 196) rfl) rfl
theorem tw_677 : Jvm.Cond.static ({ cls := "DovetailRowLaw", name := "repair", desc := "(LDovetailRow;I[J)I" } : Jvm.MethodName) ∈ wU := wU_3 (List.mem_of_getElem? (i := 197) rfl) rfl
theorem tw_678 : Jvm.Cond.codeWith ({ cls := "DovetailRowLaw", name := "repair", desc := "(LDovetailRow;I[J)I" } : Jvm.MethodName) method_16_code (4 : Nat) (Option.some Jvm.ClassFile.FieldType.int) [((0 : Nat), (9 : Nat), (12 : Nat), (13 : Nat)), ((0 : Nat), (9 : Nat), (15 : Nat), (21 : Nat))] ∈ wU := wU_3 (List.mem_of_getElem? (i := 198) rfl) rfl
theorem tw_679 : Jvm.Cond.methodLink "DovetailRowLaw" (60 : Nat) ({ cls := "DovetailRow", name := "repair", desc := "(I)I" } : Jvm.MethodName) ∈ wU := wU_3 (List.mem_of_getElem? (i := 199) rfl) rfl
theorem tw_680 : Jvm.Cond.instanceMethod ({ cls := "DovetailRow", name := "repair", desc := "(I)I" } : Jvm.MethodName) ∈ wU := wU_3 (List.mem_of_getElem? (i := 200) rfl) rfl
theorem tw_681 : Jvm.Cond.selects "DovetailRow" ({ cls := "DovetailRow", name := "repair", desc := "(I)I" } : Jvm.MethodName) ({ cls := "DovetailRow", name := "repair", desc := "(I)I" } : Jvm.MethodName) ∈ wU := wU_3 (List.mem_of_getElem? (i := 201) rfl) rfl
theorem tw_682 : Jvm.Cond.code ({ cls := "DovetailRow", name := "repair", desc := "(I)I" } : Jvm.MethodName) prog_1_method_15_code (3 : Nat) (Option.some Jvm.ClassFile.FieldType.int) ∈ wU := wU_3 (List.mem_of_getElem? (i := 202) rfl) rfl
theorem tw_683 : Jvm.Cond.stringRef "DovetailRow" (269 : Nat) "the joint is not broken" ∈ lw_tbl := wT_3 (List.mem_of_getElem? (i := 203) rfl)
theorem tw_684 : Jvm.Cond.methodLink "DovetailRowLaw" (136 : Nat) ({ cls := "DovetailRowLaw", name := "through", desc := "(LDovetailRow;I[J)I" } : Jvm.MethodName) ∈ wU := wU_3 (List.mem_of_getElem? (i := 204) rfl) rfl
theorem tw_685 : Jvm.Cond.static ({ cls := "DovetailRowLaw", name := "through", desc := "(LDovetailRow;I[J)I" } : Jvm.MethodName) ∈ wU := wU_3 (List.mem_of_getElem? (i := 205) rfl) rfl
theorem tw_686 : Jvm.Cond.codeWith ({ cls := "DovetailRowLaw", name := "through", desc := "(LDovetailRow;I[J)I" } : Jvm.MethodName) method_17_code (4 : Nat) (Option.some Jvm.ClassFile.FieldType.int) [((0 : Nat), (9 : Nat), (12 : Nat), (15 : Nat))] ∈ wU := wU_3 (List.mem_of_getElem? (i := 206) rfl) rfl
theorem tw_687 : Jvm.Cond.methodLink "DovetailRowLaw" (63 : Nat) ({ cls := "DovetailRow", name := "through", desc := "(I)I" } : Jvm.MethodName) ∈ wU := wU_3 (List.mem_of_getElem? (i := 207) rfl) rfl
theorem tw_688 : Jvm.Cond.instanceMethod ({ cls := "DovetailRow", name := "through", desc := "(I)I" } : Jvm.MethodName) ∈ wU := wU_3 (List.mem_of_getElem? (i := 208) rfl) rfl
theorem tw_689 : Jvm.Cond.selects "DovetailRow" ({ cls := "DovetailRow", name := "through", desc := "(I)I" } : Jvm.MethodName) ({ cls := "DovetailRow", name := "through", desc := "(I)I" } : Jvm.MethodName) ∈ wU := wU_3 (List.mem_of_getElem? (i := 209) rfl) rfl
theorem tw_690 : Jvm.Cond.code ({ cls := "DovetailRow", name := "through", desc := "(I)I" } : Jvm.MethodName) prog_1_method_16_code (5 : Nat) (Option.some Jvm.ClassFile.FieldType.int) ∈ wU := wU_3 (List.mem_of_getElem? (i := 210) rfl) rfl
theorem tw_691 : Jvm.Cond.methodLink "DovetailRow" (288 : Nat) ({ cls := "DovetailRow", name := "monthOfBreak", desc := "(LDovetailRow$Joint;I)I" } : Jvm.MethodName) ∈ wU := wU_3 (List.mem_of_getElem? (i := 211) rfl) rfl
theorem tw_692 : Jvm.Cond.privateMethod ({ cls := "DovetailRow", name := "monthOfBreak", desc := "(LDovetailRow$Joint;I)I" } : Jvm.MethodName) ∈ lw_tbl := wT_3 (List.mem_of_getElem? (i := 212) rfl)
theorem tw_693 : Jvm.Cond.instanceMethod ({ cls := "DovetailRow", name := "monthOfBreak", desc := "(LDovetailRow$Joint;I)I" } : Jvm.MethodName) ∈ wU := wU_3 (List.mem_of_getElem? (i := 213) rfl) rfl
theorem tw_694 : Jvm.Cond.code ({ cls := "DovetailRow", name := "monthOfBreak", desc := "(LDovetailRow$Joint;I)I" } : Jvm.MethodName) prog_1_method_30_code (5 : Nat) (Option.some Jvm.ClassFile.FieldType.int) ∈ wU := wU_3 (List.mem_of_getElem? (i := 214) rfl) rfl
theorem tw_695 : Jvm.Cond.methodLink "DovetailRow" (324 : Nat) ({ cls := "DovetailRow$Part", name := "moistureAfter", desc := "(II)I" } : Jvm.MethodName) ∈ wU := wU_3 (List.mem_of_getElem? (i := 215) rfl) rfl
theorem tw_696 : Jvm.Cond.sameMethod "DovetailRow$Part" "DovetailRow$Wood" "moistureAfter" "(II)I" ∈ wU := wU_3 (List.mem_of_getElem? (i := 216) rfl) rfl
theorem tw_697 : Jvm.Cond.declares ({ cls := "DovetailRow$Wood", name := "moistureAfter", desc := "(II)I" } : Jvm.MethodName) ∈ lw_tbl := wT_3 (List.mem_of_getElem? (i := 217) rfl)
theorem tw_698 : Jvm.Cond.selects "DovetailRow$Part" ({ cls := "DovetailRow$Part", name := "moistureAfter", desc := "(II)I" } : Jvm.MethodName) ({ cls := "DovetailRow$Wood", name := "moistureAfter", desc := "(II)I" } : Jvm.MethodName) ∈ wU := wU_3 (List.mem_of_getElem? (i := 218) rfl) rfl
theorem tw_699 : Jvm.Cond.methodLink "DovetailRowLaw" (139 : Nat) ({ cls := "DovetailRowLaw", name := "breaksIn", desc := "(LDovetailRow;II[J)I" } : Jvm.MethodName) ∈ wU := wU_3 (List.mem_of_getElem? (i := 219) rfl) rfl
theorem tw_700 : Jvm.Cond.static ({ cls := "DovetailRowLaw", name := "breaksIn", desc := "(LDovetailRow;II[J)I" } : Jvm.MethodName) ∈ wU := wU_3 (List.mem_of_getElem? (i := 220) rfl) rfl
theorem tw_701 : Jvm.Cond.codeWith ({ cls := "DovetailRowLaw", name := "breaksIn", desc := "(LDovetailRow;II[J)I" } : Jvm.MethodName) method_18_code (5 : Nat) (Option.some Jvm.ClassFile.FieldType.int) [((0 : Nat), (10 : Nat), (13 : Nat), (13 : Nat)), ((0 : Nat), (10 : Nat), (17 : Nat), (15 : Nat)), ((0 : Nat), (10 : Nat), (21 : Nat), (21 : Nat))] ∈ wU := wU_3 (List.mem_of_getElem? (i := 221) rfl) rfl
theorem tw_702 : Jvm.Cond.methodLink "DovetailRowLaw" (66 : Nat) ({ cls := "DovetailRow", name := "breaksIn", desc := "(II)I" } : Jvm.MethodName) ∈ wU := wU_3 (List.mem_of_getElem? (i := 222) rfl) rfl
theorem tw_703 : Jvm.Cond.instanceMethod ({ cls := "DovetailRow", name := "breaksIn", desc := "(II)I" } : Jvm.MethodName) ∈ wU := wU_3 (List.mem_of_getElem? (i := 223) rfl) rfl
theorem tw_704 : Jvm.Cond.selects "DovetailRow" ({ cls := "DovetailRow", name := "breaksIn", desc := "(II)I" } : Jvm.MethodName) ({ cls := "DovetailRow", name := "breaksIn", desc := "(II)I" } : Jvm.MethodName) ∈ wU := wU_3 (List.mem_of_getElem? (i := 224) rfl) rfl
theorem tw_705 : Jvm.Cond.code ({ cls := "DovetailRow", name := "breaksIn", desc := "(II)I" } : Jvm.MethodName) prog_1_method_17_code (4 : Nat) (Option.some Jvm.ClassFile.FieldType.int) ∈ wU := wU_3 (List.mem_of_getElem? (i := 225) rfl) rfl
theorem tw_706 : Jvm.Cond.stringRef "DovetailRow" (292 : Nat) "the joint is not glued, or is broken" ∈ lw_tbl := wT_3 (List.mem_of_getElem? (i := 226) rfl)
theorem tw_707 : Jvm.Cond.methodLink "DovetailRowLaw" (146 : Nat) ({ cls := "DovetailRowLaw", name := "ofBoard", desc := "(LDovetailRow;II[J)I" } : Jvm.MethodName) ∈ wU := wU_3 (List.mem_of_getElem? (i := 227) rfl) rfl
theorem tw_708 : Jvm.Cond.static ({ cls := "DovetailRowLaw", name := "ofBoard", desc := "(LDovetailRow;II[J)I" } : Jvm.MethodName) ∈ wU := wU_3 (List.mem_of_getElem? (i := 228) rfl) rfl
theorem tw_709 : Jvm.Cond.codeWith ({ cls := "DovetailRowLaw", name := "ofBoard", desc := "(LDovetailRow;II[J)I" } : Jvm.MethodName) method_19_code (5 : Nat) (Option.some Jvm.ClassFile.FieldType.int) [((0 : Nat), (10 : Nat), (13 : Nat), (13 : Nat)), ((0 : Nat), (10 : Nat), (17 : Nat), (15 : Nat))] ∈ wU := wU_3 (List.mem_of_getElem? (i := 229) rfl) rfl
theorem tw_710 : Jvm.Cond.methodLink "DovetailRowLaw" (69 : Nat) ({ cls := "DovetailRow", name := "ofBoard", desc := "(II)I" } : Jvm.MethodName) ∈ wU := wU_3 (List.mem_of_getElem? (i := 230) rfl) rfl
theorem tw_711 : Jvm.Cond.instanceMethod ({ cls := "DovetailRow", name := "ofBoard", desc := "(II)I" } : Jvm.MethodName) ∈ wU := wU_3 (List.mem_of_getElem? (i := 231) rfl) rfl
theorem tw_712 : Jvm.Cond.selects "DovetailRow" ({ cls := "DovetailRow", name := "ofBoard", desc := "(II)I" } : Jvm.MethodName) ({ cls := "DovetailRow", name := "ofBoard", desc := "(II)I" } : Jvm.MethodName) ∈ wU := wU_3 (List.mem_of_getElem? (i := 232) rfl) rfl
theorem tw_713 : Jvm.Cond.code ({ cls := "DovetailRow", name := "ofBoard", desc := "(II)I" } : Jvm.MethodName) prog_1_method_19_code (4 : Nat) (Option.some Jvm.ClassFile.FieldType.int) ∈ wU := wU_3 (List.mem_of_getElem? (i := 233) rfl) rfl
theorem tw_714 : Jvm.Cond.stringRef "DovetailRow" (297 : Nat) "what is out of its range" ∈ lw_tbl := wT_3 (List.mem_of_getElem? (i := 234) rfl)
theorem tw_715 : Jvm.Cond.methodLink "DovetailRowLaw" (149 : Nat) ({ cls := "DovetailRowLaw", name := "ofPart", desc := "(LDovetailRow;II[J)I" } : Jvm.MethodName) ∈ wU := wU_3 (List.mem_of_getElem? (i := 235) rfl) rfl
theorem tw_716 : Jvm.Cond.static ({ cls := "DovetailRowLaw", name := "ofPart", desc := "(LDovetailRow;II[J)I" } : Jvm.MethodName) ∈ wU := wU_3 (List.mem_of_getElem? (i := 236) rfl) rfl
theorem tw_717 : Jvm.Cond.codeWith ({ cls := "DovetailRowLaw", name := "ofPart", desc := "(LDovetailRow;II[J)I" } : Jvm.MethodName) method_20_code (5 : Nat) (Option.some Jvm.ClassFile.FieldType.int) [((0 : Nat), (10 : Nat), (13 : Nat), (13 : Nat)), ((0 : Nat), (10 : Nat), (17 : Nat), (15 : Nat))] ∈ wU := wU_3 (List.mem_of_getElem? (i := 237) rfl) rfl
theorem tw_718 : Jvm.Cond.methodLink "DovetailRowLaw" (72 : Nat) ({ cls := "DovetailRow", name := "ofPart", desc := "(II)I" } : Jvm.MethodName) ∈ wU := wU_3 (List.mem_of_getElem? (i := 238) rfl) rfl
theorem tw_719 : Jvm.Cond.instanceMethod ({ cls := "DovetailRow", name := "ofPart", desc := "(II)I" } : Jvm.MethodName) ∈ wU := wU_3 (List.mem_of_getElem? (i := 239) rfl) rfl
theorem tw_720 : Jvm.Cond.selects "DovetailRow" ({ cls := "DovetailRow", name := "ofPart", desc := "(II)I" } : Jvm.MethodName) ({ cls := "DovetailRow", name := "ofPart", desc := "(II)I" } : Jvm.MethodName) ∈ wU := wU_4 (List.mem_of_getElem? (i := 0) rfl) rfl
theorem tw_721 : Jvm.Cond.code ({ cls := "DovetailRow", name := "ofPart", desc := "(II)I" } : Jvm.MethodName) prog_1_method_20_code (4 : Nat) (Option.some Jvm.ClassFile.FieldType.int) ∈ wU := wU_4 (List.mem_of_getElem? (i := 1) rfl) rfl
theorem tw_722 : Jvm.Cond.methodLink "DovetailRowLaw" (152 : Nat) ({ cls := "DovetailRowLaw", name := "ofJoint", desc := "(LDovetailRow;II[J)I" } : Jvm.MethodName) ∈ wU := wU_4 (List.mem_of_getElem? (i := 2) rfl) rfl
theorem tw_723 : Jvm.Cond.static ({ cls := "DovetailRowLaw", name := "ofJoint", desc := "(LDovetailRow;II[J)I" } : Jvm.MethodName) ∈ wU := wU_4 (List.mem_of_getElem? (i := 3) rfl) rfl
theorem tw_724 : Jvm.Cond.codeWith ({ cls := "DovetailRowLaw", name := "ofJoint", desc := "(LDovetailRow;II[J)I" } : Jvm.MethodName) method_21_code (5 : Nat) (Option.some Jvm.ClassFile.FieldType.int) [((0 : Nat), (10 : Nat), (13 : Nat), (13 : Nat)), ((0 : Nat), (10 : Nat), (17 : Nat), (15 : Nat))] ∈ wU := wU_4 (List.mem_of_getElem? (i := 4) rfl) rfl
theorem tw_725 : Jvm.Cond.methodLink "DovetailRowLaw" (75 : Nat) ({ cls := "DovetailRow", name := "ofJoint", desc := "(II)I" } : Jvm.MethodName) ∈ wU := wU_4 (List.mem_of_getElem? (i := 5) rfl) rfl
theorem tw_726 : Jvm.Cond.instanceMethod ({ cls := "DovetailRow", name := "ofJoint", desc := "(II)I" } : Jvm.MethodName) ∈ wU := wU_4 (List.mem_of_getElem? (i := 6) rfl) rfl
theorem tw_727 : Jvm.Cond.selects "DovetailRow" ({ cls := "DovetailRow", name := "ofJoint", desc := "(II)I" } : Jvm.MethodName) ({ cls := "DovetailRow", name := "ofJoint", desc := "(II)I" } : Jvm.MethodName) ∈ wU := wU_4 (List.mem_of_getElem? (i := 7) rfl) rfl
theorem tw_728 : Jvm.Cond.code ({ cls := "DovetailRow", name := "ofJoint", desc := "(II)I" } : Jvm.MethodName) prog_1_method_21_code (4 : Nat) (Option.some Jvm.ClassFile.FieldType.int) ∈ wU := wU_4 (List.mem_of_getElem? (i := 8) rfl) rfl
theorem tw_729 : Jvm.Cond.methodLink "DovetailRow" (306 : Nat) ({ cls := "DovetailRow$Joint", name := "state", desc := "()I" } : Jvm.MethodName) ∈ wU := wU_4 (List.mem_of_getElem? (i := 9) rfl) rfl
theorem tw_730 : Jvm.Cond.instanceMethod ({ cls := "DovetailRow$Joint", name := "state", desc := "()I" } : Jvm.MethodName) ∈ wU := wU_4 (List.mem_of_getElem? (i := 10) rfl) rfl
theorem tw_731 : Jvm.Cond.selects "DovetailRow$Joint" ({ cls := "DovetailRow$Joint", name := "state", desc := "()I" } : Jvm.MethodName) ({ cls := "DovetailRow$Joint", name := "state", desc := "()I" } : Jvm.MethodName) ∈ wU := wU_4 (List.mem_of_getElem? (i := 11) rfl) rfl
theorem tw_732 : Jvm.Cond.code ({ cls := "DovetailRow$Joint", name := "state", desc := "()I" } : Jvm.MethodName) prog_3_method_5_code (1 : Nat) (Option.some Jvm.ClassFile.FieldType.int) ∈ wU := wU_4 (List.mem_of_getElem? (i := 12) rfl) rfl
theorem tw_733 : Jvm.Cond.methodLink "DovetailRow$Joint" (59 : Nat) ({ cls := "DovetailRow$Part", name := "widthNow", desc := "()I" } : Jvm.MethodName) ∈ wU := wU_4 (List.mem_of_getElem? (i := 13) rfl) rfl
theorem tw_734 : Jvm.Cond.classLink "DovetailRowLaw" (79 : Nat) "DovetailRowModel" ∈ wU := wU_4 (List.mem_of_getElem? (i := 14) rfl) rfl
theorem tw_735 : Jvm.Cond.instantiable "DovetailRowModel" (36 : Nat) ∈ wU := wU_4 (List.mem_of_getElem? (i := 15) rfl) rfl
theorem tw_736 : Jvm.Cond.methodLink "DovetailRowLaw" (81 : Nat) ({ cls := "DovetailRowModel", name := "<init>", desc := "()V" } : Jvm.MethodName) ∈ wU := wU_4 (List.mem_of_getElem? (i := 16) rfl) rfl
theorem tw_737 : Jvm.Cond.instanceMethod ({ cls := "DovetailRowModel", name := "<init>", desc := "()V" } : Jvm.MethodName) ∈ wU := wU_4 (List.mem_of_getElem? (i := 17) rfl) rfl
theorem tw_738 : Jvm.Cond.code ({ cls := "DovetailRowModel", name := "<init>", desc := "()V" } : Jvm.MethodName) prog_8_method_1_code (2 : Nat) (Option.none : Option Jvm.ClassFile.FieldType) ∈ wU := wU_4 (List.mem_of_getElem? (i := 18) rfl) rfl
theorem tw_739 : Jvm.Cond.methodLink "DovetailRowModel" (1 : Nat) ({ cls := "java/lang/Object", name := "<init>", desc := "()V" } : Jvm.MethodName) ∈ wU := wU_4 (List.mem_of_getElem? (i := 19) rfl) rfl
theorem tw_740 : Jvm.Cond.fieldLink "DovetailRowModel" (105 : Nat) "DovetailRowModel" "thrown" "I" ∈ wU := wU_4 (List.mem_of_getElem? (i := 20) rfl) rfl
theorem tw_741 : Jvm.Cond.fieldLink "DovetailRowModel" (140 : Nat) "DovetailRowModel" "month" "I" ∈ wU := wU_4 (List.mem_of_getElem? (i := 21) rfl) rfl
theorem tw_742 : Jvm.Cond.fieldLink "DovetailRowModel" (7 : Nat) "DovetailRowModel" "weather" "[I" ∈ wU := wU_4 (List.mem_of_getElem? (i := 22) rfl) rfl
theorem tw_743 : Jvm.Cond.fieldLink "DovetailRowModel" (13 : Nat) "DovetailRowModel" "sharp" "[I" ∈ wU := wU_4 (List.mem_of_getElem? (i := 23) rfl) rfl
theorem tw_744 : Jvm.Cond.fieldLink "DovetailRowModel" (16 : Nat) "DovetailRowModel" "clamps" "I" ∈ wU := wU_4 (List.mem_of_getElem? (i := 24) rfl) rfl
theorem tw_745 : Jvm.Cond.fieldLink "DovetailRowModel" (108 : Nat) "DovetailRowModel" "boardMany" "I" ∈ wU := wU_4 (List.mem_of_getElem? (i := 25) rfl) rfl
theorem tw_746 : Jvm.Cond.fieldLink "DovetailRowModel" (20 : Nat) "DovetailRowModel" "species" "[I" ∈ wU := wU_4 (List.mem_of_getElem? (i := 26) rfl) rfl
theorem tw_747 : Jvm.Cond.fieldLink "DovetailRowModel" (23 : Nat) "DovetailRowModel" "flitches" "[I" ∈ wU := wU_4 (List.mem_of_getElem? (i := 27) rfl) rfl
theorem tw_748 : Jvm.Cond.fieldLink "DovetailRowModel" (26 : Nat) "DovetailRowModel" "places" "[I" ∈ wU := wU_4 (List.mem_of_getElem? (i := 28) rfl) rfl
theorem tw_749 : Jvm.Cond.fieldLink "DovetailRowModel" (29 : Nat) "DovetailRowModel" "boardWidths" "[I" ∈ wU := wU_4 (List.mem_of_getElem? (i := 29) rfl) rfl
theorem tw_750 : Jvm.Cond.fieldLink "DovetailRowModel" (32 : Nat) "DovetailRowModel" "boardLengths" "[I" ∈ wU := wU_4 (List.mem_of_getElem? (i := 30) rfl) rfl
theorem tw_751 : Jvm.Cond.fieldLink "DovetailRowModel" (35 : Nat) "DovetailRowModel" "boardMeasured" "[I" ∈ wU := wU_4 (List.mem_of_getElem? (i := 31) rfl) rfl
theorem tw_752 : Jvm.Cond.fieldLink "DovetailRowModel" (38 : Nat) "DovetailRowModel" "boardMoist" "[I" ∈ wU := wU_4 (List.mem_of_getElem? (i := 32) rfl) rfl
theorem tw_753 : Jvm.Cond.fieldLink "DovetailRowModel" (41 : Nat) "DovetailRowModel" "knotMany" "[I" ∈ wU := wU_4 (List.mem_of_getElem? (i := 33) rfl) rfl
theorem tw_754 : Jvm.Cond.fieldLink "DovetailRowModel" (44 : Nat) "DovetailRowModel" "knotFrom" "[I" ∈ wU := wU_4 (List.mem_of_getElem? (i := 34) rfl) rfl
theorem tw_755 : Jvm.Cond.fieldLink "DovetailRowModel" (47 : Nat) "DovetailRowModel" "knotTo" "[I" ∈ wU := wU_4 (List.mem_of_getElem? (i := 35) rfl) rfl
theorem tw_756 : Jvm.Cond.fieldLink "DovetailRowModel" (115 : Nat) "DovetailRowModel" "partMany" "I" ∈ wU := wU_4 (List.mem_of_getElem? (i := 36) rfl) rfl
theorem tw_757 : Jvm.Cond.fieldLink "DovetailRowModel" (50 : Nat) "DovetailRowModel" "boards" "[I" ∈ wU := wU_4 (List.mem_of_getElem? (i := 37) rfl) rfl
theorem tw_758 : Jvm.Cond.fieldLink "DovetailRowModel" (53 : Nat) "DovetailRowModel" "froms" "[I" ∈ wU := wU_4 (List.mem_of_getElem? (i := 38) rfl) rfl
theorem tw_759 : Jvm.Cond.fieldLink "DovetailRowModel" (56 : Nat) "DovetailRowModel" "lengths" "[I" ∈ wU := wU_4 (List.mem_of_getElem? (i := 39) rfl) rfl
theorem tw_760 : Jvm.Cond.fieldLink "DovetailRowModel" (59 : Nat) "DovetailRowModel" "widths" "[I" ∈ wU := wU_4 (List.mem_of_getElem? (i := 40) rfl) rfl
theorem tw_761 : Jvm.Cond.fieldLink "DovetailRowModel" (62 : Nat) "DovetailRowModel" "measured" "[I" ∈ wU := wU_4 (List.mem_of_getElem? (i := 41) rfl) rfl
theorem tw_762 : Jvm.Cond.fieldLink "DovetailRowModel" (65 : Nat) "DovetailRowModel" "moist" "[I" ∈ wU := wU_4 (List.mem_of_getElem? (i := 42) rfl) rfl
theorem tw_763 : Jvm.Cond.fieldLink "DovetailRowModel" (68 : Nat) "DovetailRowModel" "coats" "[I" ∈ wU := wU_4 (List.mem_of_getElem? (i := 43) rfl) rfl
theorem tw_764 : Jvm.Cond.fieldLink "DovetailRowModel" (118 : Nat) "DovetailRowModel" "jointMany" "I" ∈ wU := wU_4 (List.mem_of_getElem? (i := 44) rfl) rfl
theorem tw_765 : Jvm.Cond.fieldLink "DovetailRowModel" (71 : Nat) "DovetailRowModel" "kinds" "[I" ∈ wU := wU_4 (List.mem_of_getElem? (i := 45) rfl) rfl
theorem tw_766 : Jvm.Cond.fieldLink "DovetailRowModel" (74 : Nat) "DovetailRowModel" "parts" "[I" ∈ wU := wU_4 (List.mem_of_getElem? (i := 46) rfl) rfl
theorem tw_767 : Jvm.Cond.fieldLink "DovetailRowModel" (77 : Nat) "DovetailRowModel" "others" "[I" ∈ wU := wU_4 (List.mem_of_getElem? (i := 47) rfl) rfl
theorem tw_768 : Jvm.Cond.fieldLink "DovetailRowModel" (80 : Nat) "DovetailRowModel" "sizes" "[I" ∈ wU := wU_4 (List.mem_of_getElem? (i := 48) rfl) rfl
theorem tw_769 : Jvm.Cond.fieldLink "DovetailRowModel" (83 : Nat) "DovetailRowModel" "tongues" "[I" ∈ wU := wU_4 (List.mem_of_getElem? (i := 49) rfl) rfl
theorem tw_770 : Jvm.Cond.fieldLink "DovetailRowModel" (86 : Nat) "DovetailRowModel" "needs" "[I" ∈ wU := wU_4 (List.mem_of_getElem? (i := 50) rfl) rfl
theorem tw_771 : Jvm.Cond.fieldLink "DovetailRowModel" (89 : Nat) "DovetailRowModel" "glued" "[Z" ∈ wU := wU_4 (List.mem_of_getElem? (i := 51) rfl) rfl
theorem tw_772 : Jvm.Cond.fieldLink "DovetailRowModel" (93 : Nat) "DovetailRowModel" "broken" "[Z" ∈ wU := wU_4 (List.mem_of_getElem? (i := 52) rfl) rfl
theorem tw_773 : Jvm.Cond.fieldLink "DovetailRowModel" (96 : Nat) "DovetailRowModel" "gluedMoist" "[I" ∈ wU := wU_4 (List.mem_of_getElem? (i := 53) rfl) rfl
theorem tw_774 : Jvm.Cond.fieldLink "DovetailRowModel" (99 : Nat) "DovetailRowModel" "ahead" "[I" ∈ wU := wU_4 (List.mem_of_getElem? (i := 54) rfl) rfl
theorem tw_775 : Jvm.Cond.fieldLink "DovetailRowModel" (102 : Nat) "DovetailRowModel" "breaks" "[I" ∈ wU := wU_4 (List.mem_of_getElem? (i := 55) rfl) rfl
theorem tw_776 : Jvm.Cond.lays "DovetailRowModel" "DovetailRowModel" "thrown" "I" ∈ wU := wU_4 (List.mem_of_getElem? (i := 56) rfl) rfl
theorem tw_777 : Jvm.Cond.soleField "DovetailRowModel" "thrown" ∈ wU := wU_4 (List.mem_of_getElem? (i := 57) rfl) rfl
theorem tw_778 : Jvm.Cond.lays "DovetailRowModel" "DovetailRowModel" "month" "I" ∈ wU := wU_4 (List.mem_of_getElem? (i := 58) rfl) rfl
theorem tw_779 : Jvm.Cond.soleField "DovetailRowModel" "month" ∈ wU := wU_4 (List.mem_of_getElem? (i := 59) rfl) rfl
theorem tw_780 : Jvm.Cond.laysFinal "DovetailRowModel" "DovetailRowModel" "weather" "[I" ∈ wU := wU_4 (List.mem_of_getElem? (i := 60) rfl) rfl
theorem tw_781 : Jvm.Cond.soleField "DovetailRowModel" "weather" ∈ wU := wU_4 (List.mem_of_getElem? (i := 61) rfl) rfl
theorem tw_782 : Jvm.Cond.laysFinal "DovetailRowModel" "DovetailRowModel" "sharp" "[I" ∈ wU := wU_4 (List.mem_of_getElem? (i := 62) rfl) rfl
theorem tw_783 : Jvm.Cond.soleField "DovetailRowModel" "sharp" ∈ wU := wU_4 (List.mem_of_getElem? (i := 63) rfl) rfl
theorem tw_784 : Jvm.Cond.lays "DovetailRowModel" "DovetailRowModel" "clamps" "I" ∈ wU := wU_4 (List.mem_of_getElem? (i := 64) rfl) rfl
theorem tw_785 : Jvm.Cond.soleField "DovetailRowModel" "clamps" ∈ wU := wU_4 (List.mem_of_getElem? (i := 65) rfl) rfl
theorem tw_786 : Jvm.Cond.lays "DovetailRowModel" "DovetailRowModel" "boardMany" "I" ∈ wU := wU_4 (List.mem_of_getElem? (i := 66) rfl) rfl
theorem tw_787 : Jvm.Cond.soleField "DovetailRowModel" "boardMany" ∈ wU := wU_4 (List.mem_of_getElem? (i := 67) rfl) rfl
theorem tw_788 : Jvm.Cond.laysFinal "DovetailRowModel" "DovetailRowModel" "species" "[I" ∈ wU := wU_4 (List.mem_of_getElem? (i := 68) rfl) rfl
theorem tw_789 : Jvm.Cond.soleField "DovetailRowModel" "species" ∈ wU := wU_4 (List.mem_of_getElem? (i := 69) rfl) rfl
theorem tw_790 : Jvm.Cond.laysFinal "DovetailRowModel" "DovetailRowModel" "flitches" "[I" ∈ wU := wU_4 (List.mem_of_getElem? (i := 70) rfl) rfl
theorem tw_791 : Jvm.Cond.soleField "DovetailRowModel" "flitches" ∈ wU := wU_4 (List.mem_of_getElem? (i := 71) rfl) rfl
theorem tw_792 : Jvm.Cond.laysFinal "DovetailRowModel" "DovetailRowModel" "places" "[I" ∈ wU := wU_4 (List.mem_of_getElem? (i := 72) rfl) rfl
theorem tw_793 : Jvm.Cond.soleField "DovetailRowModel" "places" ∈ wU := wU_4 (List.mem_of_getElem? (i := 73) rfl) rfl
theorem tw_794 : Jvm.Cond.laysFinal "DovetailRowModel" "DovetailRowModel" "boardWidths" "[I" ∈ wU := wU_4 (List.mem_of_getElem? (i := 74) rfl) rfl
theorem tw_795 : Jvm.Cond.soleField "DovetailRowModel" "boardWidths" ∈ wU := wU_4 (List.mem_of_getElem? (i := 75) rfl) rfl
theorem tw_796 : Jvm.Cond.laysFinal "DovetailRowModel" "DovetailRowModel" "boardLengths" "[I" ∈ wU := wU_4 (List.mem_of_getElem? (i := 76) rfl) rfl
theorem tw_797 : Jvm.Cond.soleField "DovetailRowModel" "boardLengths" ∈ wU := wU_4 (List.mem_of_getElem? (i := 77) rfl) rfl
theorem tw_798 : Jvm.Cond.laysFinal "DovetailRowModel" "DovetailRowModel" "boardMeasured" "[I" ∈ wU := wU_4 (List.mem_of_getElem? (i := 78) rfl) rfl
theorem tw_799 : Jvm.Cond.soleField "DovetailRowModel" "boardMeasured" ∈ wU := wU_4 (List.mem_of_getElem? (i := 79) rfl) rfl
theorem tw_800 : Jvm.Cond.laysFinal "DovetailRowModel" "DovetailRowModel" "boardMoist" "[I" ∈ wU := wU_4 (List.mem_of_getElem? (i := 80) rfl) rfl
theorem tw_801 : Jvm.Cond.soleField "DovetailRowModel" "boardMoist" ∈ wU := wU_4 (List.mem_of_getElem? (i := 81) rfl) rfl
theorem tw_802 : Jvm.Cond.laysFinal "DovetailRowModel" "DovetailRowModel" "knotMany" "[I" ∈ wU := wU_4 (List.mem_of_getElem? (i := 82) rfl) rfl
theorem tw_803 : Jvm.Cond.soleField "DovetailRowModel" "knotMany" ∈ wU := wU_4 (List.mem_of_getElem? (i := 83) rfl) rfl
theorem tw_804 : Jvm.Cond.laysFinal "DovetailRowModel" "DovetailRowModel" "knotFrom" "[I" ∈ wU := wU_4 (List.mem_of_getElem? (i := 84) rfl) rfl
theorem tw_805 : Jvm.Cond.soleField "DovetailRowModel" "knotFrom" ∈ wU := wU_4 (List.mem_of_getElem? (i := 85) rfl) rfl
theorem tw_806 : Jvm.Cond.laysFinal "DovetailRowModel" "DovetailRowModel" "knotTo" "[I" ∈ wU := wU_4 (List.mem_of_getElem? (i := 86) rfl) rfl
theorem tw_807 : Jvm.Cond.soleField "DovetailRowModel" "knotTo" ∈ wU := wU_4 (List.mem_of_getElem? (i := 87) rfl) rfl
theorem tw_808 : Jvm.Cond.lays "DovetailRowModel" "DovetailRowModel" "partMany" "I" ∈ wU := wU_4 (List.mem_of_getElem? (i := 88) rfl) rfl
theorem tw_809 : Jvm.Cond.soleField "DovetailRowModel" "partMany" ∈ wU := wU_4 (List.mem_of_getElem? (i := 89) rfl) rfl
theorem tw_810 : Jvm.Cond.laysFinal "DovetailRowModel" "DovetailRowModel" "boards" "[I" ∈ wU := wU_4 (List.mem_of_getElem? (i := 90) rfl) rfl
theorem tw_811 : Jvm.Cond.soleField "DovetailRowModel" "boards" ∈ wU := wU_4 (List.mem_of_getElem? (i := 91) rfl) rfl
theorem tw_812 : Jvm.Cond.laysFinal "DovetailRowModel" "DovetailRowModel" "froms" "[I" ∈ wU := wU_4 (List.mem_of_getElem? (i := 92) rfl) rfl
theorem tw_813 : Jvm.Cond.soleField "DovetailRowModel" "froms" ∈ wU := wU_4 (List.mem_of_getElem? (i := 93) rfl) rfl
theorem tw_814 : Jvm.Cond.laysFinal "DovetailRowModel" "DovetailRowModel" "lengths" "[I" ∈ wU := wU_4 (List.mem_of_getElem? (i := 94) rfl) rfl
theorem tw_815 : Jvm.Cond.soleField "DovetailRowModel" "lengths" ∈ wU := wU_4 (List.mem_of_getElem? (i := 95) rfl) rfl
theorem tw_816 : Jvm.Cond.laysFinal "DovetailRowModel" "DovetailRowModel" "widths" "[I" ∈ wU := wU_4 (List.mem_of_getElem? (i := 96) rfl) rfl
theorem tw_817 : Jvm.Cond.soleField "DovetailRowModel" "widths" ∈ wU := wU_4 (List.mem_of_getElem? (i := 97) rfl) rfl
theorem tw_818 : Jvm.Cond.laysFinal "DovetailRowModel" "DovetailRowModel" "measured" "[I" ∈ wU := wU_4 (List.mem_of_getElem? (i := 98) rfl) rfl
theorem tw_819 : Jvm.Cond.soleField "DovetailRowModel" "measured" ∈ wU := wU_4 (List.mem_of_getElem? (i := 99) rfl) rfl
theorem tw_820 : Jvm.Cond.laysFinal "DovetailRowModel" "DovetailRowModel" "moist" "[I" ∈ wU := wU_4 (List.mem_of_getElem? (i := 100) rfl) rfl
theorem tw_821 : Jvm.Cond.soleField "DovetailRowModel" "moist" ∈ wU := wU_4 (List.mem_of_getElem? (i := 101) rfl) rfl
theorem tw_822 : Jvm.Cond.laysFinal "DovetailRowModel" "DovetailRowModel" "coats" "[I" ∈ wU := wU_4 (List.mem_of_getElem? (i := 102) rfl) rfl
theorem tw_823 : Jvm.Cond.soleField "DovetailRowModel" "coats" ∈ wU := wU_4 (List.mem_of_getElem? (i := 103) rfl) rfl
theorem tw_824 : Jvm.Cond.lays "DovetailRowModel" "DovetailRowModel" "jointMany" "I" ∈ wU := wU_4 (List.mem_of_getElem? (i := 104) rfl) rfl
theorem tw_825 : Jvm.Cond.soleField "DovetailRowModel" "jointMany" ∈ wU := wU_4 (List.mem_of_getElem? (i := 105) rfl) rfl
theorem tw_826 : Jvm.Cond.laysFinal "DovetailRowModel" "DovetailRowModel" "kinds" "[I" ∈ wU := wU_4 (List.mem_of_getElem? (i := 106) rfl) rfl
theorem tw_827 : Jvm.Cond.soleField "DovetailRowModel" "kinds" ∈ wU := wU_4 (List.mem_of_getElem? (i := 107) rfl) rfl
theorem tw_828 : Jvm.Cond.laysFinal "DovetailRowModel" "DovetailRowModel" "parts" "[I" ∈ wU := wU_4 (List.mem_of_getElem? (i := 108) rfl) rfl
theorem tw_829 : Jvm.Cond.soleField "DovetailRowModel" "parts" ∈ wU := wU_4 (List.mem_of_getElem? (i := 109) rfl) rfl
theorem tw_830 : Jvm.Cond.laysFinal "DovetailRowModel" "DovetailRowModel" "others" "[I" ∈ wU := wU_4 (List.mem_of_getElem? (i := 110) rfl) rfl
theorem tw_831 : Jvm.Cond.soleField "DovetailRowModel" "others" ∈ wU := wU_4 (List.mem_of_getElem? (i := 111) rfl) rfl
theorem tw_832 : Jvm.Cond.laysFinal "DovetailRowModel" "DovetailRowModel" "sizes" "[I" ∈ wU := wU_4 (List.mem_of_getElem? (i := 112) rfl) rfl
theorem tw_833 : Jvm.Cond.soleField "DovetailRowModel" "sizes" ∈ wU := wU_4 (List.mem_of_getElem? (i := 113) rfl) rfl
theorem tw_834 : Jvm.Cond.laysFinal "DovetailRowModel" "DovetailRowModel" "tongues" "[I" ∈ wU := wU_4 (List.mem_of_getElem? (i := 114) rfl) rfl
theorem tw_835 : Jvm.Cond.soleField "DovetailRowModel" "tongues" ∈ wU := wU_4 (List.mem_of_getElem? (i := 115) rfl) rfl
theorem tw_836 : Jvm.Cond.laysFinal "DovetailRowModel" "DovetailRowModel" "needs" "[I" ∈ wU := wU_4 (List.mem_of_getElem? (i := 116) rfl) rfl
theorem tw_837 : Jvm.Cond.soleField "DovetailRowModel" "needs" ∈ wU := wU_4 (List.mem_of_getElem? (i := 117) rfl) rfl
theorem tw_838 : Jvm.Cond.laysFinal "DovetailRowModel" "DovetailRowModel" "glued" "[Z" ∈ wU := wU_4 (List.mem_of_getElem? (i := 118) rfl) rfl
theorem tw_839 : Jvm.Cond.soleField "DovetailRowModel" "glued" ∈ wU := wU_4 (List.mem_of_getElem? (i := 119) rfl) rfl
theorem tw_840 : Jvm.Cond.laysFinal "DovetailRowModel" "DovetailRowModel" "broken" "[Z" ∈ wU := wU_4 (List.mem_of_getElem? (i := 120) rfl) rfl
theorem tw_841 : Jvm.Cond.soleField "DovetailRowModel" "broken" ∈ wU := wU_4 (List.mem_of_getElem? (i := 121) rfl) rfl
theorem tw_842 : Jvm.Cond.laysFinal "DovetailRowModel" "DovetailRowModel" "gluedMoist" "[I" ∈ wU := wU_4 (List.mem_of_getElem? (i := 122) rfl) rfl
theorem tw_843 : Jvm.Cond.soleField "DovetailRowModel" "gluedMoist" ∈ wU := wU_4 (List.mem_of_getElem? (i := 123) rfl) rfl
theorem tw_844 : Jvm.Cond.laysFinal "DovetailRowModel" "DovetailRowModel" "ahead" "[I" ∈ wU := wU_4 (List.mem_of_getElem? (i := 124) rfl) rfl
theorem tw_845 : Jvm.Cond.soleField "DovetailRowModel" "ahead" ∈ wU := wU_4 (List.mem_of_getElem? (i := 125) rfl) rfl
theorem tw_846 : Jvm.Cond.laysFinal "DovetailRowModel" "DovetailRowModel" "breaks" "[I" ∈ wU := wU_4 (List.mem_of_getElem? (i := 126) rfl) rfl
theorem tw_847 : Jvm.Cond.soleField "DovetailRowModel" "breaks" ∈ wU := wU_4 (List.mem_of_getElem? (i := 127) rfl) rfl
theorem tw_848 : Jvm.Cond.superclass "DovetailRowModel" "java/lang/Object" ∈ lw_tbl := wT_4 (List.mem_of_getElem? (i := 128) rfl)
theorem tw_849 : Jvm.Cond.arrayClass Jvm.ClassFile.FieldType.boolean ∈ wU := wU_4 (List.mem_of_getElem? (i := 129) rfl) rfl
theorem tw_850 : Jvm.Cond.methodLink "DovetailRowLaw" (88 : Nat) ({ cls := "DovetailRowModel", name := "thrown", desc := "()I" } : Jvm.MethodName) ∈ wU := wU_4 (List.mem_of_getElem? (i := 130) rfl) rfl
theorem tw_851 : Jvm.Cond.instanceMethod ({ cls := "DovetailRowModel", name := "thrown", desc := "()I" } : Jvm.MethodName) ∈ wU := wU_4 (List.mem_of_getElem? (i := 131) rfl) rfl
theorem tw_852 : Jvm.Cond.selects "DovetailRowModel" ({ cls := "DovetailRowModel", name := "thrown", desc := "()I" } : Jvm.MethodName) ({ cls := "DovetailRowModel", name := "thrown", desc := "()I" } : Jvm.MethodName) ∈ wU := wU_4 (List.mem_of_getElem? (i := 132) rfl) rfl
theorem tw_853 : Jvm.Cond.code ({ cls := "DovetailRowModel", name := "thrown", desc := "()I" } : Jvm.MethodName) prog_8_method_2_code (1 : Nat) (Option.some Jvm.ClassFile.FieldType.int) ∈ wU := wU_4 (List.mem_of_getElem? (i := 133) rfl) rfl
theorem tw_854 : Jvm.Cond.methodLink "DovetailRowLaw" (87 : Nat) ({ cls := "DovetailRowModel", name := "weather", desc := "(II)I" } : Jvm.MethodName) ∈ wU := wU_4 (List.mem_of_getElem? (i := 134) rfl) rfl
theorem tw_855 : Jvm.Cond.instanceMethod ({ cls := "DovetailRowModel", name := "weather", desc := "(II)I" } : Jvm.MethodName) ∈ wU := wU_4 (List.mem_of_getElem? (i := 135) rfl) rfl
theorem tw_856 : Jvm.Cond.selects "DovetailRowModel" ({ cls := "DovetailRowModel", name := "weather", desc := "(II)I" } : Jvm.MethodName) ({ cls := "DovetailRowModel", name := "weather", desc := "(II)I" } : Jvm.MethodName) ∈ wU := wU_4 (List.mem_of_getElem? (i := 136) rfl) rfl
theorem tw_857 : Jvm.Cond.code ({ cls := "DovetailRowModel", name := "weather", desc := "(II)I" } : Jvm.MethodName) prog_8_method_10_code (4 : Nat) (Option.some Jvm.ClassFile.FieldType.int) ∈ wU := wU_4 (List.mem_of_getElem? (i := 137) rfl) rfl
theorem tw_858 : Jvm.Cond.methodLink "DovetailRowModel" (111 : Nat) ({ cls := "DovetailRowModel", name := "between", desc := "(III)Z" } : Jvm.MethodName) ∈ wU := wU_4 (List.mem_of_getElem? (i := 138) rfl) rfl
theorem tw_859 : Jvm.Cond.privateMethod ({ cls := "DovetailRowModel", name := "between", desc := "(III)Z" } : Jvm.MethodName) ∈ lw_tbl := wT_4 (List.mem_of_getElem? (i := 139) rfl)
theorem tw_860 : Jvm.Cond.instanceMethod ({ cls := "DovetailRowModel", name := "between", desc := "(III)Z" } : Jvm.MethodName) ∈ wU := wU_4 (List.mem_of_getElem? (i := 140) rfl) rfl
theorem tw_861 : Jvm.Cond.code ({ cls := "DovetailRowModel", name := "between", desc := "(III)Z" } : Jvm.MethodName) prog_8_method_3_code (4 : Nat) (Option.some Jvm.ClassFile.FieldType.boolean) ∈ wU := wU_4 (List.mem_of_getElem? (i := 141) rfl) rfl
theorem tw_862 : Jvm.Cond.methodLink "DovetailRowModel" (121 : Nat) ({ cls := "DovetailRowModel", name := "isMoisture", desc := "(I)Z" } : Jvm.MethodName) ∈ wU := wU_4 (List.mem_of_getElem? (i := 142) rfl) rfl
theorem tw_863 : Jvm.Cond.privateMethod ({ cls := "DovetailRowModel", name := "isMoisture", desc := "(I)Z" } : Jvm.MethodName) ∈ lw_tbl := wT_4 (List.mem_of_getElem? (i := 143) rfl)
theorem tw_864 : Jvm.Cond.instanceMethod ({ cls := "DovetailRowModel", name := "isMoisture", desc := "(I)Z" } : Jvm.MethodName) ∈ wU := wU_4 (List.mem_of_getElem? (i := 144) rfl) rfl
theorem tw_865 : Jvm.Cond.code ({ cls := "DovetailRowModel", name := "isMoisture", desc := "(I)Z" } : Jvm.MethodName) prog_8_method_7_code (2 : Nat) (Option.some Jvm.ClassFile.FieldType.boolean) ∈ wU := wU_4 (List.mem_of_getElem? (i := 145) rfl) rfl
theorem tw_866 : Jvm.Cond.methodLink "DovetailRowLaw" (95 : Nat) ({ cls := "DovetailRowModel", name := "pass", desc := "(I)I" } : Jvm.MethodName) ∈ wU := wU_4 (List.mem_of_getElem? (i := 146) rfl) rfl
theorem tw_867 : Jvm.Cond.instanceMethod ({ cls := "DovetailRowModel", name := "pass", desc := "(I)I" } : Jvm.MethodName) ∈ wU := wU_4 (List.mem_of_getElem? (i := 147) rfl) rfl
theorem tw_868 : Jvm.Cond.selects "DovetailRowModel" ({ cls := "DovetailRowModel", name := "pass", desc := "(I)I" } : Jvm.MethodName) ({ cls := "DovetailRowModel", name := "pass", desc := "(I)I" } : Jvm.MethodName) ∈ wU := wU_4 (List.mem_of_getElem? (i := 148) rfl) rfl
theorem tw_869 : Jvm.Cond.code ({ cls := "DovetailRowModel", name := "pass", desc := "(I)I" } : Jvm.MethodName) prog_8_method_16_code (5 : Nat) (Option.some Jvm.ClassFile.FieldType.int) ∈ wU := wU_4 (List.mem_of_getElem? (i := 149) rfl) rfl
theorem tw_870 : Jvm.Cond.methodLink "DovetailRowModel" (143 : Nat) ({ cls := "DovetailRowModel", name := "behind", desc := "(III)I" } : Jvm.MethodName) ∈ wU := wU_4 (List.mem_of_getElem? (i := 150) rfl) rfl
theorem tw_871 : Jvm.Cond.privateMethod ({ cls := "DovetailRowModel", name := "behind", desc := "(III)I" } : Jvm.MethodName) ∈ lw_tbl := wT_4 (List.mem_of_getElem? (i := 151) rfl)
theorem tw_872 : Jvm.Cond.instanceMethod ({ cls := "DovetailRowModel", name := "behind", desc := "(III)I" } : Jvm.MethodName) ∈ wU := wU_4 (List.mem_of_getElem? (i := 152) rfl) rfl
theorem tw_873 : Jvm.Cond.code ({ cls := "DovetailRowModel", name := "behind", desc := "(III)I" } : Jvm.MethodName) prog_8_method_11_code (6 : Nat) (Option.some Jvm.ClassFile.FieldType.int) ∈ wU := wU_4 (List.mem_of_getElem? (i := 153) rfl) rfl
theorem tw_874 : Jvm.Cond.methodLink "DovetailRowModel" (146 : Nat) ({ cls := "DovetailRowModel", name := "wouldBreak", desc := "(II)Z" } : Jvm.MethodName) ∈ wU := wU_4 (List.mem_of_getElem? (i := 154) rfl) rfl
theorem tw_875 : Jvm.Cond.privateMethod ({ cls := "DovetailRowModel", name := "wouldBreak", desc := "(II)Z" } : Jvm.MethodName) ∈ lw_tbl := wT_4 (List.mem_of_getElem? (i := 155) rfl)
theorem tw_876 : Jvm.Cond.instanceMethod ({ cls := "DovetailRowModel", name := "wouldBreak", desc := "(II)Z" } : Jvm.MethodName) ∈ wU := wU_4 (List.mem_of_getElem? (i := 156) rfl) rfl
theorem tw_877 : Jvm.Cond.code ({ cls := "DovetailRowModel", name := "wouldBreak", desc := "(II)Z" } : Jvm.MethodName) prog_8_method_15_code (5 : Nat) (Option.some Jvm.ClassFile.FieldType.boolean) ∈ wU := wU_4 (List.mem_of_getElem? (i := 157) rfl) rfl
theorem tw_878 : Jvm.Cond.methodLink "DovetailRowModel" (129 : Nat) ({ cls := "DovetailRowModel", name := "speciesOf", desc := "(I)I" } : Jvm.MethodName) ∈ wU := wU_4 (List.mem_of_getElem? (i := 158) rfl) rfl
theorem tw_879 : Jvm.Cond.privateMethod ({ cls := "DovetailRowModel", name := "speciesOf", desc := "(I)I" } : Jvm.MethodName) ∈ lw_tbl := wT_4 (List.mem_of_getElem? (i := 159) rfl)
theorem tw_880 : Jvm.Cond.instanceMethod ({ cls := "DovetailRowModel", name := "speciesOf", desc := "(I)I" } : Jvm.MethodName) ∈ wU := wU_4 (List.mem_of_getElem? (i := 160) rfl) rfl
theorem tw_881 : Jvm.Cond.code ({ cls := "DovetailRowModel", name := "speciesOf", desc := "(I)I" } : Jvm.MethodName) prog_8_method_13_code (2 : Nat) (Option.some Jvm.ClassFile.FieldType.int) ∈ wU := wU_4 (List.mem_of_getElem? (i := 161) rfl) rfl
theorem tw_882 : Jvm.Cond.methodLink "DovetailRowModel" (132 : Nat) ({ cls := "DovetailRowModel", name := "moved", desc := "(III)I" } : Jvm.MethodName) ∈ wU := wU_4 (List.mem_of_getElem? (i := 162) rfl) rfl
theorem tw_883 : Jvm.Cond.privateMethod ({ cls := "DovetailRowModel", name := "moved", desc := "(III)I" } : Jvm.MethodName) ∈ lw_tbl := wT_4 (List.mem_of_getElem? (i := 163) rfl)
theorem tw_884 : Jvm.Cond.instanceMethod ({ cls := "DovetailRowModel", name := "moved", desc := "(III)I" } : Jvm.MethodName) ∈ wU := wU_4 (List.mem_of_getElem? (i := 164) rfl) rfl
theorem tw_885 : Jvm.Cond.code ({ cls := "DovetailRowModel", name := "moved", desc := "(III)I" } : Jvm.MethodName) prog_8_method_12_code (4 : Nat) (Option.some Jvm.ClassFile.FieldType.int) ∈ wU := wU_4 (List.mem_of_getElem? (i := 165) rfl) rfl
theorem tw_886 : Jvm.Cond.methodLink "DovetailRowModel" (125 : Nat) ({ cls := "DovetailRowModel", name := "moves", desc := "(I)I" } : Jvm.MethodName) ∈ wU := wU_4 (List.mem_of_getElem? (i := 166) rfl) rfl
theorem tw_887 : Jvm.Cond.privateMethod ({ cls := "DovetailRowModel", name := "moves", desc := "(I)I" } : Jvm.MethodName) ∈ lw_tbl := wT_4 (List.mem_of_getElem? (i := 167) rfl)
theorem tw_888 : Jvm.Cond.instanceMethod ({ cls := "DovetailRowModel", name := "moves", desc := "(I)I" } : Jvm.MethodName) ∈ wU := wU_4 (List.mem_of_getElem? (i := 168) rfl) rfl
theorem tw_889 : Jvm.Cond.code ({ cls := "DovetailRowModel", name := "moves", desc := "(I)I" } : Jvm.MethodName) prog_8_method_8_code (2 : Nat) (Option.some Jvm.ClassFile.FieldType.int) ∈ wU := wU_4 (List.mem_of_getElem? (i := 169) rfl) rfl
theorem tw_890 : Jvm.Cond.methodLink "DovetailRowModel" (136 : Nat) ({ cls := "DovetailRowModel", name := "widthAt", desc := "(II)I" } : Jvm.MethodName) ∈ wU := wU_4 (List.mem_of_getElem? (i := 170) rfl) rfl
theorem tw_891 : Jvm.Cond.privateMethod ({ cls := "DovetailRowModel", name := "widthAt", desc := "(II)I" } : Jvm.MethodName) ∈ lw_tbl := wT_4 (List.mem_of_getElem? (i := 171) rfl)
theorem tw_892 : Jvm.Cond.instanceMethod ({ cls := "DovetailRowModel", name := "widthAt", desc := "(II)I" } : Jvm.MethodName) ∈ wU := wU_4 (List.mem_of_getElem? (i := 172) rfl) rfl
theorem tw_893 : Jvm.Cond.code ({ cls := "DovetailRowModel", name := "widthAt", desc := "(II)I" } : Jvm.MethodName) prog_8_method_14_code (3 : Nat) (Option.some Jvm.ClassFile.FieldType.int) ∈ wU := wU_4 (List.mem_of_getElem? (i := 173) rfl) rfl
theorem tw_894 : Jvm.Cond.methodLink "DovetailRowLaw" (99 : Nat) ({ cls := "DovetailRowModel", name := "board", desc := "(IIIIII)I" } : Jvm.MethodName) ∈ wU := wU_4 (List.mem_of_getElem? (i := 174) rfl) rfl
theorem tw_895 : Jvm.Cond.instanceMethod ({ cls := "DovetailRowModel", name := "board", desc := "(IIIIII)I" } : Jvm.MethodName) ∈ wU := wU_4 (List.mem_of_getElem? (i := 175) rfl) rfl
theorem tw_896 : Jvm.Cond.selects "DovetailRowModel" ({ cls := "DovetailRowModel", name := "board", desc := "(IIIIII)I" } : Jvm.MethodName) ({ cls := "DovetailRowModel", name := "board", desc := "(IIIIII)I" } : Jvm.MethodName) ∈ wU := wU_4 (List.mem_of_getElem? (i := 176) rfl) rfl
theorem tw_897 : Jvm.Cond.code ({ cls := "DovetailRowModel", name := "board", desc := "(IIIIII)I" } : Jvm.MethodName) prog_8_method_17_code (10 : Nat) (Option.some Jvm.ClassFile.FieldType.int) ∈ wU := wU_4 (List.mem_of_getElem? (i := 177) rfl) rfl
theorem tw_898 : Jvm.Cond.methodLink "DovetailRowLaw" (103 : Nat) ({ cls := "DovetailRowModel", name := "knot", desc := "(III)I" } : Jvm.MethodName) ∈ wU := wU_4 (List.mem_of_getElem? (i := 178) rfl) rfl
theorem tw_899 : Jvm.Cond.instanceMethod ({ cls := "DovetailRowModel", name := "knot", desc := "(III)I" } : Jvm.MethodName) ∈ wU := wU_4 (List.mem_of_getElem? (i := 179) rfl) rfl
theorem tw_900 : Jvm.Cond.selects "DovetailRowModel" ({ cls := "DovetailRowModel", name := "knot", desc := "(III)I" } : Jvm.MethodName) ({ cls := "DovetailRowModel", name := "knot", desc := "(III)I" } : Jvm.MethodName) ∈ wU := wU_4 (List.mem_of_getElem? (i := 180) rfl) rfl
theorem tw_901 : Jvm.Cond.code ({ cls := "DovetailRowModel", name := "knot", desc := "(III)I" } : Jvm.MethodName) prog_8_method_21_code (5 : Nat) (Option.some Jvm.ClassFile.FieldType.int) ∈ wU := wU_4 (List.mem_of_getElem? (i := 181) rfl) rfl
theorem tw_902 : Jvm.Cond.methodLink "DovetailRowModel" (150 : Nat) ({ cls := "DovetailRowModel", name := "isBoard", desc := "(I)Z" } : Jvm.MethodName) ∈ wU := wU_4 (List.mem_of_getElem? (i := 182) rfl) rfl
theorem tw_903 : Jvm.Cond.privateMethod ({ cls := "DovetailRowModel", name := "isBoard", desc := "(I)Z" } : Jvm.MethodName) ∈ lw_tbl := wT_4 (List.mem_of_getElem? (i := 183) rfl)
theorem tw_904 : Jvm.Cond.instanceMethod ({ cls := "DovetailRowModel", name := "isBoard", desc := "(I)Z" } : Jvm.MethodName) ∈ wU := wU_4 (List.mem_of_getElem? (i := 184) rfl) rfl
theorem tw_905 : Jvm.Cond.code ({ cls := "DovetailRowModel", name := "isBoard", desc := "(I)Z" } : Jvm.MethodName) prog_8_method_4_code (2 : Nat) (Option.some Jvm.ClassFile.FieldType.boolean) ∈ wU := wU_4 (List.mem_of_getElem? (i := 185) rfl) rfl
theorem tw_906 : Jvm.Cond.methodLink "DovetailRowModel" (153 : Nat) ({ cls := "DovetailRowModel", name := "isTaken", desc := "(III)Z" } : Jvm.MethodName) ∈ wU := wU_4 (List.mem_of_getElem? (i := 186) rfl) rfl
theorem tw_907 : Jvm.Cond.privateMethod ({ cls := "DovetailRowModel", name := "isTaken", desc := "(III)Z" } : Jvm.MethodName) ∈ lw_tbl := wT_4 (List.mem_of_getElem? (i := 187) rfl)
theorem tw_908 : Jvm.Cond.instanceMethod ({ cls := "DovetailRowModel", name := "isTaken", desc := "(III)Z" } : Jvm.MethodName) ∈ wU := wU_4 (List.mem_of_getElem? (i := 188) rfl) rfl
theorem tw_909 : Jvm.Cond.code ({ cls := "DovetailRowModel", name := "isTaken", desc := "(III)Z" } : Jvm.MethodName) prog_8_method_19_code (6 : Nat) (Option.some Jvm.ClassFile.FieldType.boolean) ∈ wU := wU_4 (List.mem_of_getElem? (i := 189) rfl) rfl
theorem tw_910 : Jvm.Cond.methodLink "DovetailRowLaw" (107 : Nat) ({ cls := "DovetailRowModel", name := "cut", desc := "(IIIIZ)I" } : Jvm.MethodName) ∈ wU := wU_4 (List.mem_of_getElem? (i := 190) rfl) rfl
theorem tw_911 : Jvm.Cond.instanceMethod ({ cls := "DovetailRowModel", name := "cut", desc := "(IIIIZ)I" } : Jvm.MethodName) ∈ wU := wU_4 (List.mem_of_getElem? (i := 191) rfl) rfl
theorem tw_912 : Jvm.Cond.selects "DovetailRowModel" ({ cls := "DovetailRowModel", name := "cut", desc := "(IIIIZ)I" } : Jvm.MethodName) ({ cls := "DovetailRowModel", name := "cut", desc := "(IIIIZ)I" } : Jvm.MethodName) ∈ wU := wU_4 (List.mem_of_getElem? (i := 192) rfl) rfl
theorem tw_913 : Jvm.Cond.code ({ cls := "DovetailRowModel", name := "cut", desc := "(IIIIZ)I" } : Jvm.MethodName) prog_8_method_22_code (8 : Nat) (Option.some Jvm.ClassFile.FieldType.int) ∈ wU := wU_4 (List.mem_of_getElem? (i := 193) rfl) rfl
theorem tw_914 : Jvm.Cond.methodLink "DovetailRowModel" (156 : Nat) ({ cls := "DovetailRowModel", name := "boardWidth", desc := "(I)I" } : Jvm.MethodName) ∈ wU := wU_4 (List.mem_of_getElem? (i := 194) rfl) rfl
theorem tw_915 : Jvm.Cond.privateMethod ({ cls := "DovetailRowModel", name := "boardWidth", desc := "(I)I" } : Jvm.MethodName) ∈ lw_tbl := wT_4 (List.mem_of_getElem? (i := 195) rfl)
theorem tw_916 : Jvm.Cond.instanceMethod ({ cls := "DovetailRowModel", name := "boardWidth", desc := "(I)I" } : Jvm.MethodName) ∈ wU := wU_4 (List.mem_of_getElem? (i := 196) rfl) rfl
theorem tw_917 : Jvm.Cond.code ({ cls := "DovetailRowModel", name := "boardWidth", desc := "(I)I" } : Jvm.MethodName) prog_8_method_18_code (2 : Nat) (Option.some Jvm.ClassFile.FieldType.int) ∈ wU := wU_4 (List.mem_of_getElem? (i := 197) rfl) rfl
theorem tw_918 : Jvm.Cond.methodLink "DovetailRowModel" (159 : Nat) ({ cls := "DovetailRowModel", name := "hasKnot", desc := "(III)Z" } : Jvm.MethodName) ∈ wU := wU_4 (List.mem_of_getElem? (i := 198) rfl) rfl
theorem tw_919 : Jvm.Cond.privateMethod ({ cls := "DovetailRowModel", name := "hasKnot", desc := "(III)Z" } : Jvm.MethodName) ∈ lw_tbl := wT_4 (List.mem_of_getElem? (i := 199) rfl)
theorem tw_920 : Jvm.Cond.instanceMethod ({ cls := "DovetailRowModel", name := "hasKnot", desc := "(III)Z" } : Jvm.MethodName) ∈ wU := wU_4 (List.mem_of_getElem? (i := 200) rfl) rfl
theorem tw_921 : Jvm.Cond.code ({ cls := "DovetailRowModel", name := "hasKnot", desc := "(III)Z" } : Jvm.MethodName) prog_8_method_20_code (6 : Nat) (Option.some Jvm.ClassFile.FieldType.boolean) ∈ wU := wU_4 (List.mem_of_getElem? (i := 201) rfl) rfl
theorem tw_922 : Jvm.Cond.methodLink "DovetailRowModel" (162 : Nat) ({ cls := "DovetailRowModel", name := "hardness", desc := "(I)I" } : Jvm.MethodName) ∈ wU := wU_4 (List.mem_of_getElem? (i := 202) rfl) rfl
theorem tw_923 : Jvm.Cond.privateMethod ({ cls := "DovetailRowModel", name := "hardness", desc := "(I)I" } : Jvm.MethodName) ∈ lw_tbl := wT_4 (List.mem_of_getElem? (i := 203) rfl)
theorem tw_924 : Jvm.Cond.instanceMethod ({ cls := "DovetailRowModel", name := "hardness", desc := "(I)I" } : Jvm.MethodName) ∈ wU := wU_4 (List.mem_of_getElem? (i := 204) rfl) rfl
theorem tw_925 : Jvm.Cond.code ({ cls := "DovetailRowModel", name := "hardness", desc := "(I)I" } : Jvm.MethodName) prog_8_method_9_code (2 : Nat) (Option.some Jvm.ClassFile.FieldType.int) ∈ wU := wU_4 (List.mem_of_getElem? (i := 205) rfl) rfl
theorem tw_926 : Jvm.Cond.methodLink "DovetailRowLaw" (110 : Nat) ({ cls := "DovetailRowModel", name := "sharpen", desc := "(I)I" } : Jvm.MethodName) ∈ wU := wU_4 (List.mem_of_getElem? (i := 206) rfl) rfl
theorem tw_927 : Jvm.Cond.instanceMethod ({ cls := "DovetailRowModel", name := "sharpen", desc := "(I)I" } : Jvm.MethodName) ∈ wU := wU_4 (List.mem_of_getElem? (i := 207) rfl) rfl
theorem tw_928 : Jvm.Cond.selects "DovetailRowModel" ({ cls := "DovetailRowModel", name := "sharpen", desc := "(I)I" } : Jvm.MethodName) ({ cls := "DovetailRowModel", name := "sharpen", desc := "(I)I" } : Jvm.MethodName) ∈ wU := wU_4 (List.mem_of_getElem? (i := 208) rfl) rfl
theorem tw_929 : Jvm.Cond.code ({ cls := "DovetailRowModel", name := "sharpen", desc := "(I)I" } : Jvm.MethodName) prog_8_method_23_code (3 : Nat) (Option.some Jvm.ClassFile.FieldType.int) ∈ wU := wU_4 (List.mem_of_getElem? (i := 209) rfl) rfl
theorem tw_930 : Jvm.Cond.methodLink "DovetailRowLaw" (113 : Nat) ({ cls := "DovetailRowModel", name := "clearFrom", desc := "(II)I" } : Jvm.MethodName) ∈ wU := wU_4 (List.mem_of_getElem? (i := 210) rfl) rfl
theorem tw_931 : Jvm.Cond.instanceMethod ({ cls := "DovetailRowModel", name := "clearFrom", desc := "(II)I" } : Jvm.MethodName) ∈ wU := wU_4 (List.mem_of_getElem? (i := 211) rfl) rfl
theorem tw_932 : Jvm.Cond.selects "DovetailRowModel" ({ cls := "DovetailRowModel", name := "clearFrom", desc := "(II)I" } : Jvm.MethodName) ({ cls := "DovetailRowModel", name := "clearFrom", desc := "(II)I" } : Jvm.MethodName) ∈ wU := wU_4 (List.mem_of_getElem? (i := 212) rfl) rfl
theorem tw_933 : Jvm.Cond.code ({ cls := "DovetailRowModel", name := "clearFrom", desc := "(II)I" } : Jvm.MethodName) prog_8_method_24_code (4 : Nat) (Option.some Jvm.ClassFile.FieldType.int) ∈ wU := wU_4 (List.mem_of_getElem? (i := 213) rfl) rfl
theorem tw_934 : Jvm.Cond.methodLink "DovetailRowLaw" (116 : Nat) ({ cls := "DovetailRowModel", name := "coat", desc := "(I)I" } : Jvm.MethodName) ∈ wU := wU_4 (List.mem_of_getElem? (i := 214) rfl) rfl
theorem tw_935 : Jvm.Cond.instanceMethod ({ cls := "DovetailRowModel", name := "coat", desc := "(I)I" } : Jvm.MethodName) ∈ wU := wU_4 (List.mem_of_getElem? (i := 215) rfl) rfl
theorem tw_936 : Jvm.Cond.selects "DovetailRowModel" ({ cls := "DovetailRowModel", name := "coat", desc := "(I)I" } : Jvm.MethodName) ({ cls := "DovetailRowModel", name := "coat", desc := "(I)I" } : Jvm.MethodName) ∈ wU := wU_4 (List.mem_of_getElem? (i := 216) rfl) rfl
theorem tw_937 : Jvm.Cond.code ({ cls := "DovetailRowModel", name := "coat", desc := "(I)I" } : Jvm.MethodName) prog_8_method_25_code (2 : Nat) (Option.some Jvm.ClassFile.FieldType.int) ∈ wU := wU_4 (List.mem_of_getElem? (i := 217) rfl) rfl
theorem tw_938 : Jvm.Cond.methodLink "DovetailRowModel" (165 : Nat) ({ cls := "DovetailRowModel", name := "isPart", desc := "(I)Z" } : Jvm.MethodName) ∈ wU := wU_4 (List.mem_of_getElem? (i := 218) rfl) rfl
theorem tw_939 : Jvm.Cond.privateMethod ({ cls := "DovetailRowModel", name := "isPart", desc := "(I)Z" } : Jvm.MethodName) ∈ lw_tbl := wT_4 (List.mem_of_getElem? (i := 219) rfl)
theorem tw_940 : Jvm.Cond.instanceMethod ({ cls := "DovetailRowModel", name := "isPart", desc := "(I)Z" } : Jvm.MethodName) ∈ wU := wU_4 (List.mem_of_getElem? (i := 220) rfl) rfl
theorem tw_941 : Jvm.Cond.code ({ cls := "DovetailRowModel", name := "isPart", desc := "(I)Z" } : Jvm.MethodName) prog_8_method_5_code (2 : Nat) (Option.some Jvm.ClassFile.FieldType.boolean) ∈ wU := wU_4 (List.mem_of_getElem? (i := 221) rfl) rfl
theorem tw_942 : Jvm.Cond.methodLink "DovetailRowLaw" (119 : Nat) ({ cls := "DovetailRowModel", name := "match", desc := "(II)I" } : Jvm.MethodName) ∈ wU := wU_4 (List.mem_of_getElem? (i := 222) rfl) rfl
theorem tw_943 : Jvm.Cond.instanceMethod ({ cls := "DovetailRowModel", name := "match", desc := "(II)I" } : Jvm.MethodName) ∈ wU := wU_4 (List.mem_of_getElem? (i := 223) rfl) rfl
theorem tw_944 : Jvm.Cond.selects "DovetailRowModel" ({ cls := "DovetailRowModel", name := "match", desc := "(II)I" } : Jvm.MethodName) ({ cls := "DovetailRowModel", name := "match", desc := "(II)I" } : Jvm.MethodName) ∈ wU := wU_4 (List.mem_of_getElem? (i := 224) rfl) rfl
theorem tw_945 : Jvm.Cond.code ({ cls := "DovetailRowModel", name := "match", desc := "(II)I" } : Jvm.MethodName) prog_8_method_26_code (6 : Nat) (Option.some Jvm.ClassFile.FieldType.int) ∈ wU := wU_4 (List.mem_of_getElem? (i := 225) rfl) rfl
theorem tw_946 : Jvm.Cond.methodLink "DovetailRowLaw" (123 : Nat) ({ cls := "DovetailRowModel", name := "joint", desc := "(IIIII)I" } : Jvm.MethodName) ∈ wU := wU_4 (List.mem_of_getElem? (i := 226) rfl) rfl
theorem tw_947 : Jvm.Cond.instanceMethod ({ cls := "DovetailRowModel", name := "joint", desc := "(IIIII)I" } : Jvm.MethodName) ∈ wU := wU_4 (List.mem_of_getElem? (i := 227) rfl) rfl
theorem tw_948 : Jvm.Cond.selects "DovetailRowModel" ({ cls := "DovetailRowModel", name := "joint", desc := "(IIIII)I" } : Jvm.MethodName) ({ cls := "DovetailRowModel", name := "joint", desc := "(IIIII)I" } : Jvm.MethodName) ∈ wU := wU_4 (List.mem_of_getElem? (i := 228) rfl) rfl
theorem tw_949 : Jvm.Cond.code ({ cls := "DovetailRowModel", name := "joint", desc := "(IIIII)I" } : Jvm.MethodName) prog_8_method_28_code (8 : Nat) (Option.some Jvm.ClassFile.FieldType.int) ∈ wU := wU_4 (List.mem_of_getElem? (i := 229) rfl) rfl
theorem tw_950 : Jvm.Cond.methodLink "DovetailRowModel" (168 : Nat) ({ cls := "DovetailRowModel", name := "fits", desc := "(IIII)Z" } : Jvm.MethodName) ∈ wU := wU_4 (List.mem_of_getElem? (i := 230) rfl) rfl
theorem tw_951 : Jvm.Cond.privateMethod ({ cls := "DovetailRowModel", name := "fits", desc := "(IIII)Z" } : Jvm.MethodName) ∈ lw_tbl := wT_4 (List.mem_of_getElem? (i := 231) rfl)
theorem tw_952 : Jvm.Cond.instanceMethod ({ cls := "DovetailRowModel", name := "fits", desc := "(IIII)Z" } : Jvm.MethodName) ∈ wU := wU_4 (List.mem_of_getElem? (i := 232) rfl) rfl
theorem tw_953 : Jvm.Cond.code ({ cls := "DovetailRowModel", name := "fits", desc := "(IIII)Z" } : Jvm.MethodName) prog_8_method_27_code (6 : Nat) (Option.some Jvm.ClassFile.FieldType.boolean) ∈ wU := wU_4 (List.mem_of_getElem? (i := 233) rfl) rfl
theorem tw_954 : Jvm.Cond.methodLink "DovetailRowLaw" (126 : Nat) ({ cls := "DovetailRowModel", name := "need", desc := "(II)I" } : Jvm.MethodName) ∈ wU := wU_4 (List.mem_of_getElem? (i := 234) rfl) rfl
theorem tw_955 : Jvm.Cond.instanceMethod ({ cls := "DovetailRowModel", name := "need", desc := "(II)I" } : Jvm.MethodName) ∈ wU := wU_4 (List.mem_of_getElem? (i := 235) rfl) rfl
theorem tw_956 : Jvm.Cond.selects "DovetailRowModel" ({ cls := "DovetailRowModel", name := "need", desc := "(II)I" } : Jvm.MethodName) ({ cls := "DovetailRowModel", name := "need", desc := "(II)I" } : Jvm.MethodName) ∈ wU := wU_4 (List.mem_of_getElem? (i := 236) rfl) rfl
theorem tw_957 : Jvm.Cond.code ({ cls := "DovetailRowModel", name := "need", desc := "(II)I" } : Jvm.MethodName) prog_8_method_29_code (3 : Nat) (Option.some Jvm.ClassFile.FieldType.int) ∈ wU := wU_4 (List.mem_of_getElem? (i := 237) rfl) rfl
theorem tw_958 : Jvm.Cond.methodLink "DovetailRowModel" (172 : Nat) ({ cls := "DovetailRowModel", name := "isJoint", desc := "(I)Z" } : Jvm.MethodName) ∈ wU := wU_4 (List.mem_of_getElem? (i := 238) rfl) rfl
theorem tw_959 : Jvm.Cond.privateMethod ({ cls := "DovetailRowModel", name := "isJoint", desc := "(I)Z" } : Jvm.MethodName) ∈ lw_tbl := wT_4 (List.mem_of_getElem? (i := 239) rfl)
theorem tw_960 : Jvm.Cond.instanceMethod ({ cls := "DovetailRowModel", name := "isJoint", desc := "(I)Z" } : Jvm.MethodName) ∈ wU := wU_5 (List.mem_of_getElem? (i := 0) rfl) rfl
theorem tw_961 : Jvm.Cond.code ({ cls := "DovetailRowModel", name := "isJoint", desc := "(I)Z" } : Jvm.MethodName) prog_8_method_6_code (2 : Nat) (Option.some Jvm.ClassFile.FieldType.boolean) ∈ wU := wU_5 (List.mem_of_getElem? (i := 1) rfl) rfl
theorem tw_962 : Jvm.Cond.methodLink "DovetailRowLaw" (129 : Nat) ({ cls := "DovetailRowModel", name := "clamps", desc := "(I)I" } : Jvm.MethodName) ∈ wU := wU_5 (List.mem_of_getElem? (i := 2) rfl) rfl
theorem tw_963 : Jvm.Cond.instanceMethod ({ cls := "DovetailRowModel", name := "clamps", desc := "(I)I" } : Jvm.MethodName) ∈ wU := wU_5 (List.mem_of_getElem? (i := 3) rfl) rfl
theorem tw_964 : Jvm.Cond.selects "DovetailRowModel" ({ cls := "DovetailRowModel", name := "clamps", desc := "(I)I" } : Jvm.MethodName) ({ cls := "DovetailRowModel", name := "clamps", desc := "(I)I" } : Jvm.MethodName) ∈ wU := wU_5 (List.mem_of_getElem? (i := 4) rfl) rfl
theorem tw_965 : Jvm.Cond.code ({ cls := "DovetailRowModel", name := "clamps", desc := "(I)I" } : Jvm.MethodName) prog_8_method_30_code (3 : Nat) (Option.some Jvm.ClassFile.FieldType.int) ∈ wU := wU_5 (List.mem_of_getElem? (i := 5) rfl) rfl
theorem tw_966 : Jvm.Cond.methodLink "DovetailRowLaw" (132 : Nat) ({ cls := "DovetailRowModel", name := "glue", desc := "(I)I" } : Jvm.MethodName) ∈ wU := wU_5 (List.mem_of_getElem? (i := 6) rfl) rfl
theorem tw_967 : Jvm.Cond.instanceMethod ({ cls := "DovetailRowModel", name := "glue", desc := "(I)I" } : Jvm.MethodName) ∈ wU := wU_5 (List.mem_of_getElem? (i := 7) rfl) rfl
theorem tw_968 : Jvm.Cond.selects "DovetailRowModel" ({ cls := "DovetailRowModel", name := "glue", desc := "(I)I" } : Jvm.MethodName) ({ cls := "DovetailRowModel", name := "glue", desc := "(I)I" } : Jvm.MethodName) ∈ wU := wU_5 (List.mem_of_getElem? (i := 8) rfl) rfl
theorem tw_969 : Jvm.Cond.code ({ cls := "DovetailRowModel", name := "glue", desc := "(I)I" } : Jvm.MethodName) prog_8_method_31_code (7 : Nat) (Option.some Jvm.ClassFile.FieldType.int) ∈ wU := wU_5 (List.mem_of_getElem? (i := 9) rfl) rfl
theorem tw_970 : Jvm.Cond.methodLink "DovetailRowLaw" (135 : Nat) ({ cls := "DovetailRowModel", name := "repair", desc := "(I)I" } : Jvm.MethodName) ∈ wU := wU_5 (List.mem_of_getElem? (i := 10) rfl) rfl
theorem tw_971 : Jvm.Cond.instanceMethod ({ cls := "DovetailRowModel", name := "repair", desc := "(I)I" } : Jvm.MethodName) ∈ wU := wU_5 (List.mem_of_getElem? (i := 11) rfl) rfl
theorem tw_972 : Jvm.Cond.selects "DovetailRowModel" ({ cls := "DovetailRowModel", name := "repair", desc := "(I)I" } : Jvm.MethodName) ({ cls := "DovetailRowModel", name := "repair", desc := "(I)I" } : Jvm.MethodName) ∈ wU := wU_5 (List.mem_of_getElem? (i := 12) rfl) rfl
theorem tw_973 : Jvm.Cond.code ({ cls := "DovetailRowModel", name := "repair", desc := "(I)I" } : Jvm.MethodName) prog_8_method_32_code (3 : Nat) (Option.some Jvm.ClassFile.FieldType.int) ∈ wU := wU_5 (List.mem_of_getElem? (i := 13) rfl) rfl
theorem tw_974 : Jvm.Cond.methodLink "DovetailRowLaw" (138 : Nat) ({ cls := "DovetailRowModel", name := "through", desc := "(I)I" } : Jvm.MethodName) ∈ wU := wU_5 (List.mem_of_getElem? (i := 14) rfl) rfl
theorem tw_975 : Jvm.Cond.instanceMethod ({ cls := "DovetailRowModel", name := "through", desc := "(I)I" } : Jvm.MethodName) ∈ wU := wU_5 (List.mem_of_getElem? (i := 15) rfl) rfl
theorem tw_976 : Jvm.Cond.selects "DovetailRowModel" ({ cls := "DovetailRowModel", name := "through", desc := "(I)I" } : Jvm.MethodName) ({ cls := "DovetailRowModel", name := "through", desc := "(I)I" } : Jvm.MethodName) ∈ wU := wU_5 (List.mem_of_getElem? (i := 16) rfl) rfl
theorem tw_977 : Jvm.Cond.code ({ cls := "DovetailRowModel", name := "through", desc := "(I)I" } : Jvm.MethodName) prog_8_method_34_code (4 : Nat) (Option.some Jvm.ClassFile.FieldType.int) ∈ wU := wU_5 (List.mem_of_getElem? (i := 17) rfl) rfl
theorem tw_978 : Jvm.Cond.methodLink "DovetailRowModel" (175 : Nat) ({ cls := "DovetailRowModel", name := "lookAhead", desc := "(I)V" } : Jvm.MethodName) ∈ wU := wU_5 (List.mem_of_getElem? (i := 18) rfl) rfl
theorem tw_979 : Jvm.Cond.privateMethod ({ cls := "DovetailRowModel", name := "lookAhead", desc := "(I)V" } : Jvm.MethodName) ∈ lw_tbl := wT_5 (List.mem_of_getElem? (i := 19) rfl)
theorem tw_980 : Jvm.Cond.instanceMethod ({ cls := "DovetailRowModel", name := "lookAhead", desc := "(I)V" } : Jvm.MethodName) ∈ wU := wU_5 (List.mem_of_getElem? (i := 20) rfl) rfl
theorem tw_981 : Jvm.Cond.code ({ cls := "DovetailRowModel", name := "lookAhead", desc := "(I)V" } : Jvm.MethodName) prog_8_method_33_code (5 : Nat) (Option.none : Option Jvm.ClassFile.FieldType) ∈ wU := wU_5 (List.mem_of_getElem? (i := 21) rfl) rfl
theorem tw_982 : Jvm.Cond.methodLink "DovetailRowLaw" (141 : Nat) ({ cls := "DovetailRowModel", name := "breaksIn", desc := "(II)I" } : Jvm.MethodName) ∈ wU := wU_5 (List.mem_of_getElem? (i := 22) rfl) rfl
theorem tw_983 : Jvm.Cond.instanceMethod ({ cls := "DovetailRowModel", name := "breaksIn", desc := "(II)I" } : Jvm.MethodName) ∈ wU := wU_5 (List.mem_of_getElem? (i := 23) rfl) rfl
theorem tw_984 : Jvm.Cond.selects "DovetailRowModel" ({ cls := "DovetailRowModel", name := "breaksIn", desc := "(II)I" } : Jvm.MethodName) ({ cls := "DovetailRowModel", name := "breaksIn", desc := "(II)I" } : Jvm.MethodName) ∈ wU := wU_5 (List.mem_of_getElem? (i := 24) rfl) rfl
theorem tw_985 : Jvm.Cond.code ({ cls := "DovetailRowModel", name := "breaksIn", desc := "(II)I" } : Jvm.MethodName) prog_8_method_35_code (3 : Nat) (Option.some Jvm.ClassFile.FieldType.int) ∈ wU := wU_5 (List.mem_of_getElem? (i := 25) rfl) rfl
theorem tw_986 : Jvm.Cond.methodLink "DovetailRowLaw" (145 : Nat) ({ cls := "DovetailRowModel", name := "month", desc := "()I" } : Jvm.MethodName) ∈ wU := wU_5 (List.mem_of_getElem? (i := 26) rfl) rfl
theorem tw_987 : Jvm.Cond.instanceMethod ({ cls := "DovetailRowModel", name := "month", desc := "()I" } : Jvm.MethodName) ∈ wU := wU_5 (List.mem_of_getElem? (i := 27) rfl) rfl
theorem tw_988 : Jvm.Cond.selects "DovetailRowModel" ({ cls := "DovetailRowModel", name := "month", desc := "()I" } : Jvm.MethodName) ({ cls := "DovetailRowModel", name := "month", desc := "()I" } : Jvm.MethodName) ∈ wU := wU_5 (List.mem_of_getElem? (i := 28) rfl) rfl
theorem tw_989 : Jvm.Cond.code ({ cls := "DovetailRowModel", name := "month", desc := "()I" } : Jvm.MethodName) prog_8_method_36_code (1 : Nat) (Option.some Jvm.ClassFile.FieldType.int) ∈ wU := wU_5 (List.mem_of_getElem? (i := 29) rfl) rfl
theorem tw_990 : Jvm.Cond.methodLink "DovetailRowLaw" (148 : Nat) ({ cls := "DovetailRowModel", name := "ofBoard", desc := "(II)I" } : Jvm.MethodName) ∈ wU := wU_5 (List.mem_of_getElem? (i := 30) rfl) rfl
theorem tw_991 : Jvm.Cond.instanceMethod ({ cls := "DovetailRowModel", name := "ofBoard", desc := "(II)I" } : Jvm.MethodName) ∈ wU := wU_5 (List.mem_of_getElem? (i := 31) rfl) rfl
theorem tw_992 : Jvm.Cond.selects "DovetailRowModel" ({ cls := "DovetailRowModel", name := "ofBoard", desc := "(II)I" } : Jvm.MethodName) ({ cls := "DovetailRowModel", name := "ofBoard", desc := "(II)I" } : Jvm.MethodName) ∈ wU := wU_5 (List.mem_of_getElem? (i := 32) rfl) rfl
theorem tw_993 : Jvm.Cond.code ({ cls := "DovetailRowModel", name := "ofBoard", desc := "(II)I" } : Jvm.MethodName) prog_8_method_37_code (3 : Nat) (Option.some Jvm.ClassFile.FieldType.int) ∈ wU := wU_5 (List.mem_of_getElem? (i := 33) rfl) rfl
theorem tw_994 : Jvm.Cond.methodLink "DovetailRowLaw" (151 : Nat) ({ cls := "DovetailRowModel", name := "ofPart", desc := "(II)I" } : Jvm.MethodName) ∈ wU := wU_5 (List.mem_of_getElem? (i := 34) rfl) rfl
theorem tw_995 : Jvm.Cond.instanceMethod ({ cls := "DovetailRowModel", name := "ofPart", desc := "(II)I" } : Jvm.MethodName) ∈ wU := wU_5 (List.mem_of_getElem? (i := 35) rfl) rfl
theorem tw_996 : Jvm.Cond.selects "DovetailRowModel" ({ cls := "DovetailRowModel", name := "ofPart", desc := "(II)I" } : Jvm.MethodName) ({ cls := "DovetailRowModel", name := "ofPart", desc := "(II)I" } : Jvm.MethodName) ∈ wU := wU_5 (List.mem_of_getElem? (i := 36) rfl) rfl
theorem tw_997 : Jvm.Cond.code ({ cls := "DovetailRowModel", name := "ofPart", desc := "(II)I" } : Jvm.MethodName) prog_8_method_38_code (3 : Nat) (Option.some Jvm.ClassFile.FieldType.int) ∈ wU := wU_5 (List.mem_of_getElem? (i := 37) rfl) rfl
theorem tw_998 : Jvm.Cond.methodLink "DovetailRowLaw" (154 : Nat) ({ cls := "DovetailRowModel", name := "ofJoint", desc := "(II)I" } : Jvm.MethodName) ∈ wU := wU_5 (List.mem_of_getElem? (i := 38) rfl) rfl
theorem tw_999 : Jvm.Cond.instanceMethod ({ cls := "DovetailRowModel", name := "ofJoint", desc := "(II)I" } : Jvm.MethodName) ∈ wU := wU_5 (List.mem_of_getElem? (i := 39) rfl) rfl
theorem tw_1000 : Jvm.Cond.selects "DovetailRowModel" ({ cls := "DovetailRowModel", name := "ofJoint", desc := "(II)I" } : Jvm.MethodName) ({ cls := "DovetailRowModel", name := "ofJoint", desc := "(II)I" } : Jvm.MethodName) ∈ wU := wU_5 (List.mem_of_getElem? (i := 40) rfl) rfl
theorem tw_1001 : Jvm.Cond.code ({ cls := "DovetailRowModel", name := "ofJoint", desc := "(II)I" } : Jvm.MethodName) prog_8_method_40_code (3 : Nat) (Option.some Jvm.ClassFile.FieldType.int) ∈ wU := wU_5 (List.mem_of_getElem? (i := 41) rfl) rfl
theorem tw_1002 : Jvm.Cond.methodLink "DovetailRowModel" (179 : Nat) ({ cls := "DovetailRowModel", name := "stateOf", desc := "(I)I" } : Jvm.MethodName) ∈ wU := wU_5 (List.mem_of_getElem? (i := 42) rfl) rfl
theorem tw_1003 : Jvm.Cond.privateMethod ({ cls := "DovetailRowModel", name := "stateOf", desc := "(I)I" } : Jvm.MethodName) ∈ lw_tbl := wT_5 (List.mem_of_getElem? (i := 43) rfl)
theorem tw_1004 : Jvm.Cond.instanceMethod ({ cls := "DovetailRowModel", name := "stateOf", desc := "(I)I" } : Jvm.MethodName) ∈ wU := wU_5 (List.mem_of_getElem? (i := 44) rfl) rfl
theorem tw_1005 : Jvm.Cond.code ({ cls := "DovetailRowModel", name := "stateOf", desc := "(I)I" } : Jvm.MethodName) prog_8_method_39_code (3 : Nat) (Option.some Jvm.ClassFile.FieldType.int) ∈ wU := wU_5 (List.mem_of_getElem? (i := 45) rfl) rfl
theorem tw_1006 : Jvm.Cond.arrayClass Jvm.ClassFile.FieldType.long ∈ wU := wU_5 (List.mem_of_getElem? (i := 46) rfl) rfl
theorem tw_1007 : Jvm.Cond.sameMethod "java/lang/Throwable" "java/lang/Throwable" "fillInStackTrace" "(I)Ljava/lang/Throwable;" ∈ wU := wU_5 (List.mem_of_getElem? (i := 47) rfl) rfl
theorem tw_1008 : Jvm.Cond.sameMethod "DovetailRow$Wood" "DovetailRow$Wood" "movementOf" "(II)I" ∈ wU := wU_5 (List.mem_of_getElem? (i := 48) rfl) rfl
theorem tw_1009 : Jvm.Cond.selects "DovetailRow$Board" ({ cls := "DovetailRow$Wood", name := "movementOf", desc := "(II)I" } : Jvm.MethodName) ({ cls := "DovetailRow$Wood", name := "movementOf", desc := "(II)I" } : Jvm.MethodName) ∈ wU := wU_5 (List.mem_of_getElem? (i := 49) rfl) rfl
theorem tw_1010 : Jvm.Cond.selects "DovetailRow$Part" ({ cls := "DovetailRow$Wood", name := "movementOf", desc := "(II)I" } : Jvm.MethodName) ({ cls := "DovetailRow$Wood", name := "movementOf", desc := "(II)I" } : Jvm.MethodName) ∈ wU := wU_5 (List.mem_of_getElem? (i := 50) rfl) rfl
theorem tw_1011 : Jvm.Cond.sameMethod "DovetailRow$Wood" "DovetailRow$Wood" "widthAt" "(I)I" ∈ wU := wU_5 (List.mem_of_getElem? (i := 51) rfl) rfl
theorem tw_1012 : Jvm.Cond.selects "DovetailRow$Board" ({ cls := "DovetailRow$Wood", name := "widthAt", desc := "(I)I" } : Jvm.MethodName) ({ cls := "DovetailRow$Wood", name := "widthAt", desc := "(I)I" } : Jvm.MethodName) ∈ wU := wU_5 (List.mem_of_getElem? (i := 52) rfl) rfl
theorem tw_1013 : Jvm.Cond.selects "DovetailRow$Part" ({ cls := "DovetailRow$Wood", name := "widthAt", desc := "(I)I" } : Jvm.MethodName) ({ cls := "DovetailRow$Wood", name := "widthAt", desc := "(I)I" } : Jvm.MethodName) ∈ wU := wU_5 (List.mem_of_getElem? (i := 53) rfl) rfl
theorem tw_1014 : Jvm.Cond.castable "DovetailRow" "java/lang/Object" ∈ lw_tbl := wT_5 (List.mem_of_getElem? (i := 54) rfl)
theorem tw_1015 : Jvm.Cond.castable "java/util/ArrayList" "java/lang/Object" ∈ lw_tbl := wT_5 (List.mem_of_getElem? (i := 55) rfl)
theorem tw_1016 : Jvm.Cond.castable "DovetailRowModel" "java/lang/Object" ∈ lw_tbl := wT_5 (List.mem_of_getElem? (i := 56) rfl)
theorem tw_1017 : Jvm.Cond.castable "java/lang/IndexOutOfBoundsException" "java/lang/Object" ∈ lw_tbl := wT_5 (List.mem_of_getElem? (i := 57) rfl)
theorem tw_1018 : Jvm.Cond.castable "java/lang/IllegalArgumentException" "java/lang/Object" ∈ lw_tbl := wT_5 (List.mem_of_getElem? (i := 58) rfl)
theorem tw_1019 : Jvm.Cond.castable "java/lang/IllegalStateException" "java/lang/Object" ∈ lw_tbl := wT_5 (List.mem_of_getElem? (i := 59) rfl)
theorem tw_1020 : Jvm.Cond.castable "DovetailRow$Board" "java/lang/Object" ∈ lw_tbl := wT_5 (List.mem_of_getElem? (i := 60) rfl)
theorem tw_1021 : Jvm.Cond.castable "DovetailRow$Span" "java/lang/Object" ∈ lw_tbl := wT_5 (List.mem_of_getElem? (i := 61) rfl)
theorem tw_1022 : Jvm.Cond.castable "DovetailRow$Part" "java/lang/Object" ∈ lw_tbl := wT_5 (List.mem_of_getElem? (i := 62) rfl)
theorem tw_1023 : Jvm.Cond.castable "DovetailRow$Joint" "java/lang/Object" ∈ lw_tbl := wT_5 (List.mem_of_getElem? (i := 63) rfl)
theorem tw_1024 : Jvm.Cond.castable "java/lang/Throwable" "java/lang/Object" ∈ lw_tbl := wT_5 (List.mem_of_getElem? (i := 64) rfl)
theorem tw_1025 : Jvm.Cond.castable "java/lang/String" "java/lang/Object" ∈ lw_tbl := wT_5 (List.mem_of_getElem? (i := 65) rfl)
theorem tw_1026 : Jvm.Cond.sameMethod "[Ljava/lang/Object;" "java/lang/Object" "getClass" "()Ljava/lang/Class;" ∈ wU := wU_5 (List.mem_of_getElem? (i := 66) rfl) rfl
theorem tw_1027 : Jvm.Cond.selects "[Ljava/lang/Object;" ({ cls := "java/lang/Object", name := "getClass", desc := "()Ljava/lang/Class;" } : Jvm.MethodName) ({ cls := "java/lang/Object", name := "getClass", desc := "()Ljava/lang/Class;" } : Jvm.MethodName) ∈ wU := wU_5 (List.mem_of_getElem? (i := 67) rfl) rfl
theorem tw_1028 : Jvm.Cond.declares ({ cls := "java/lang/Object", name := "getClass", desc := "()Ljava/lang/Class;" } : Jvm.MethodName) ∈ lw_tbl := wT_5 (List.mem_of_getElem? (i := 68) rfl)
theorem tw_1029 : Jvm.Cond.castable "[I" "java/lang/Object" ∈ lw_tbl := wT_5 (List.mem_of_getElem? (i := 69) rfl)
theorem tw_1030 : Jvm.Cond.castable "[B" "java/lang/Object" ∈ lw_tbl := wT_5 (List.mem_of_getElem? (i := 70) rfl)
theorem tw_1031 : Jvm.Cond.castable "[Ljava/lang/Object;" "java/lang/Object" ∈ lw_tbl := wT_5 (List.mem_of_getElem? (i := 71) rfl)
theorem tw_1032 : Jvm.Cond.castable "[Z" "java/lang/Object" ∈ lw_tbl := wT_5 (List.mem_of_getElem? (i := 72) rfl)
theorem tw_1033 : Jvm.Cond.castable "[J" "java/lang/Object" ∈ lw_tbl := wT_5 (List.mem_of_getElem? (i := 73) rfl)
theorem tp_0 : Cond.selects "java/lang/Throwable" ⟨"java/lang/Throwable", "fillInStackTrace", "(I)Ljava/lang/Throwable;"⟩ ⟨"java/lang/Throwable", "fillInStackTrace", "(I)Ljava/lang/Throwable;"⟩ ∈ wU := wU_s (List.mem_of_getElem? (i := 0) rfl) rfl
theorem tp_1 : Cond.selects "DovetailRow" ⟨"DovetailRow", "airIn", "(I)I"⟩ ⟨"DovetailRow", "airIn", "(I)I"⟩ ∈ wU := wU_s (List.mem_of_getElem? (i := 1) rfl) rfl
theorem tp_2 : Cond.selects "DovetailRow" ⟨"DovetailRow", "moistenAll", "(I)V"⟩ ⟨"DovetailRow", "moistenAll", "(I)V"⟩ ∈ wU := wU_s (List.mem_of_getElem? (i := 2) rfl) rfl
theorem tp_3 : Cond.selects "DovetailRow" ⟨"DovetailRow", "breakJoints", "()I"⟩ ⟨"DovetailRow", "breakJoints", "()I"⟩ ∈ wU := wU_s (List.mem_of_getElem? (i := 3) rfl) rfl
theorem tp_4 : Cond.selects "DovetailRow" ⟨"DovetailRow", "suitsFlitch", "(III)Z"⟩ ⟨"DovetailRow", "suitsFlitch", "(III)Z"⟩ ∈ wU := wU_s (List.mem_of_getElem? (i := 4) rfl) rfl
theorem tp_5 : Cond.selects "java/util/ArrayList" ⟨"java/util/ArrayList", "add", "(Ljava/lang/Object;[Ljava/lang/Object;I)V"⟩ ⟨"java/util/ArrayList", "add", "(Ljava/lang/Object;[Ljava/lang/Object;I)V"⟩ ∈ wU := wU_s (List.mem_of_getElem? (i := 5) rfl) rfl
theorem tp_6 : Cond.selects "java/util/ArrayList" ⟨"java/util/ArrayList", "grow", "()[Ljava/lang/Object;"⟩ ⟨"java/util/ArrayList", "grow", "()[Ljava/lang/Object;"⟩ ∈ wU := wU_s (List.mem_of_getElem? (i := 6) rfl) rfl
theorem tp_7 : Cond.selects "java/util/ArrayList" ⟨"java/util/ArrayList", "grow", "(I)[Ljava/lang/Object;"⟩ ⟨"java/util/ArrayList", "grow", "(I)[Ljava/lang/Object;"⟩ ∈ wU := wU_s (List.mem_of_getElem? (i := 7) rfl) rfl
theorem tp_8 : Cond.selects "DovetailRow" ⟨"DovetailRow", "findBoard", "(I)LDovetailRow$Board;"⟩ ⟨"DovetailRow", "findBoard", "(I)LDovetailRow$Board;"⟩ ∈ wU := wU_s (List.mem_of_getElem? (i := 8) rfl) rfl
theorem tp_9 : Cond.selects "DovetailRow" ⟨"DovetailRow", "findPart", "(I)LDovetailRow$Part;"⟩ ⟨"DovetailRow", "findPart", "(I)LDovetailRow$Part;"⟩ ∈ wU := wU_s (List.mem_of_getElem? (i := 9) rfl) rfl
theorem tp_10 : Cond.selects "DovetailRow" ⟨"DovetailRow", "findJoint", "(I)LDovetailRow$Joint;"⟩ ⟨"DovetailRow", "findJoint", "(I)LDovetailRow$Joint;"⟩ ∈ wU := wU_s (List.mem_of_getElem? (i := 10) rfl) rfl
theorem tp_11 : Cond.selects "DovetailRow" ⟨"DovetailRow", "canBeGlued", "(I)Z"⟩ ⟨"DovetailRow", "canBeGlued", "(I)Z"⟩ ∈ wU := wU_s (List.mem_of_getElem? (i := 11) rfl) rfl
theorem tp_12 : Cond.selects "DovetailRow" ⟨"DovetailRow", "minutesOf", "(I)I"⟩ ⟨"DovetailRow", "minutesOf", "(I)I"⟩ ∈ wU := wU_s (List.mem_of_getElem? (i := 12) rfl) rfl
theorem tp_13 : Cond.selects "DovetailRow" ⟨"DovetailRow", "clampsOf", "(I)I"⟩ ⟨"DovetailRow", "clampsOf", "(I)I"⟩ ∈ wU := wU_s (List.mem_of_getElem? (i := 13) rfl) rfl
theorem tp_14 : Cond.selects "DovetailRow" ⟨"DovetailRow", "monthOfBreak", "(LDovetailRow$Joint;I)I"⟩ ⟨"DovetailRow", "monthOfBreak", "(LDovetailRow$Joint;I)I"⟩ ∈ wU := wU_s (List.mem_of_getElem? (i := 14) rfl) rfl
theorem tp_15 : Cond.selects "DovetailRowModel" ⟨"DovetailRowModel", "between", "(III)Z"⟩ ⟨"DovetailRowModel", "between", "(III)Z"⟩ ∈ wU := wU_s (List.mem_of_getElem? (i := 15) rfl) rfl
theorem tp_16 : Cond.selects "DovetailRowModel" ⟨"DovetailRowModel", "isMoisture", "(I)Z"⟩ ⟨"DovetailRowModel", "isMoisture", "(I)Z"⟩ ∈ wU := wU_s (List.mem_of_getElem? (i := 16) rfl) rfl
theorem tp_17 : Cond.selects "DovetailRowModel" ⟨"DovetailRowModel", "behind", "(III)I"⟩ ⟨"DovetailRowModel", "behind", "(III)I"⟩ ∈ wU := wU_s (List.mem_of_getElem? (i := 17) rfl) rfl
theorem tp_18 : Cond.selects "DovetailRowModel" ⟨"DovetailRowModel", "wouldBreak", "(II)Z"⟩ ⟨"DovetailRowModel", "wouldBreak", "(II)Z"⟩ ∈ wU := wU_s (List.mem_of_getElem? (i := 18) rfl) rfl
theorem tp_19 : Cond.selects "DovetailRowModel" ⟨"DovetailRowModel", "speciesOf", "(I)I"⟩ ⟨"DovetailRowModel", "speciesOf", "(I)I"⟩ ∈ wU := wU_s (List.mem_of_getElem? (i := 19) rfl) rfl
theorem tp_20 : Cond.selects "DovetailRowModel" ⟨"DovetailRowModel", "moved", "(III)I"⟩ ⟨"DovetailRowModel", "moved", "(III)I"⟩ ∈ wU := wU_s (List.mem_of_getElem? (i := 20) rfl) rfl
theorem tp_21 : Cond.selects "DovetailRowModel" ⟨"DovetailRowModel", "moves", "(I)I"⟩ ⟨"DovetailRowModel", "moves", "(I)I"⟩ ∈ wU := wU_s (List.mem_of_getElem? (i := 21) rfl) rfl
theorem tp_22 : Cond.selects "DovetailRowModel" ⟨"DovetailRowModel", "widthAt", "(II)I"⟩ ⟨"DovetailRowModel", "widthAt", "(II)I"⟩ ∈ wU := wU_s (List.mem_of_getElem? (i := 22) rfl) rfl
theorem tp_23 : Cond.selects "DovetailRowModel" ⟨"DovetailRowModel", "isBoard", "(I)Z"⟩ ⟨"DovetailRowModel", "isBoard", "(I)Z"⟩ ∈ wU := wU_s (List.mem_of_getElem? (i := 23) rfl) rfl
theorem tp_24 : Cond.selects "DovetailRowModel" ⟨"DovetailRowModel", "isTaken", "(III)Z"⟩ ⟨"DovetailRowModel", "isTaken", "(III)Z"⟩ ∈ wU := wU_s (List.mem_of_getElem? (i := 24) rfl) rfl
theorem tp_25 : Cond.selects "DovetailRowModel" ⟨"DovetailRowModel", "boardWidth", "(I)I"⟩ ⟨"DovetailRowModel", "boardWidth", "(I)I"⟩ ∈ wU := wU_s (List.mem_of_getElem? (i := 25) rfl) rfl
theorem tp_26 : Cond.selects "DovetailRowModel" ⟨"DovetailRowModel", "hasKnot", "(III)Z"⟩ ⟨"DovetailRowModel", "hasKnot", "(III)Z"⟩ ∈ wU := wU_s (List.mem_of_getElem? (i := 26) rfl) rfl
theorem tp_27 : Cond.selects "DovetailRowModel" ⟨"DovetailRowModel", "hardness", "(I)I"⟩ ⟨"DovetailRowModel", "hardness", "(I)I"⟩ ∈ wU := wU_s (List.mem_of_getElem? (i := 27) rfl) rfl
theorem tp_28 : Cond.selects "DovetailRowModel" ⟨"DovetailRowModel", "isPart", "(I)Z"⟩ ⟨"DovetailRowModel", "isPart", "(I)Z"⟩ ∈ wU := wU_s (List.mem_of_getElem? (i := 28) rfl) rfl
theorem tp_29 : Cond.selects "DovetailRowModel" ⟨"DovetailRowModel", "fits", "(IIII)Z"⟩ ⟨"DovetailRowModel", "fits", "(IIII)Z"⟩ ∈ wU := wU_s (List.mem_of_getElem? (i := 29) rfl) rfl
theorem tp_30 : Cond.selects "DovetailRowModel" ⟨"DovetailRowModel", "isJoint", "(I)Z"⟩ ⟨"DovetailRowModel", "isJoint", "(I)Z"⟩ ∈ wU := wU_s (List.mem_of_getElem? (i := 30) rfl) rfl
theorem tp_31 : Cond.selects "DovetailRowModel" ⟨"DovetailRowModel", "lookAhead", "(I)V"⟩ ⟨"DovetailRowModel", "lookAhead", "(I)V"⟩ ∈ wU := wU_s (List.mem_of_getElem? (i := 31) rfl) rfl
theorem tp_32 : Cond.selects "DovetailRowModel" ⟨"DovetailRowModel", "stateOf", "(I)I"⟩ ⟨"DovetailRowModel", "stateOf", "(I)I"⟩ ∈ wU := wU_s (List.mem_of_getElem? (i := 32) rfl) rfl
/-- words of a call -/
theorem gU {ws : List Cond} (h : ∀ w ∈ ws, w ∈ wU) : GoodIn wU ws := fun w hw => ⟨h w hw, wU_good (h w hw)⟩
theorem gU_c {y : MethodName} {b : ByteArray} {n : Nat} {r : Option FieldType} (h : Cond.code y b n r ∈ wU) : GoodIn wU (.code y b n r :: wU) := gU fun w hw => (List.mem_cons.mp hw).elim (fun e => e ▸ h) id
theorem gU_V {own C : String} {i : Nat} {y : MethodName} {b : ByteArray} {n : Nat} {r : Option FieldType} (h1 : Cond.methodLink own i y ∈ wU) (h2 : Cond.instanceMethod y ∈ wU) (h3 : Cond.selects C y y ∈ wU) (h4 : Cond.initialized C ∈ wU) (h : Cond.code y b n r ∈ wU) : GoodIn wU (wsV own i C y (.code y b n r :: wU)) := by
  refine gU fun w hw => ?_
  simp only [wsV, List.cons_append, List.nil_append, List.mem_cons] at hw
  rcases hw with rfl | rfl | rfl | rfl | rfl | hw <;> assumption
theorem gU_S {own : String} {i : Nat} {y : MethodName} {b : ByteArray} {n : Nat} {r : Option FieldType} (h1 : Cond.methodLink own i y ∈ wU) (h2 : Cond.static y ∈ wU) (h4 : Cond.initialized own ∈ wU) (h : Cond.code y b n r ∈ wU) : GoodIn wU (wsS own i y (.code y b n r :: wU)) := by
  refine gU fun w hw => ?_
  simp only [wsS, List.cons_append, List.nil_append, List.mem_cons] at hw
  rcases hw with rfl | rfl | rfl | rfl | hw <;> assumption
theorem gU_vS {own : String} {i : Nat} {y : MethodName} {b : ByteArray} {n : Nat} {r : Option FieldType} (h1 : Cond.methodLink own i y ∈ wU) (h2 : Cond.static y ∈ wU) (h4 : Cond.initialized y.cls ∈ wU) (h : Cond.code y b n r ∈ wU) : GoodIn wU (va_wsS own i y (.code y b n r :: wU)) := by
  refine gU fun w hw => ?_
  simp only [va_wsS, List.cons_append, List.nil_append, List.mem_cons] at hw
  rcases hw with rfl | rfl | rfl | rfl | hw <;> assumption
theorem gU_U {own C owner : String} {i : Nat} {x y : MethodName} {b : ByteArray} {n : Nat} {r : Option FieldType} (h1 : Cond.methodLink own i x ∈ wU) (h2 : Cond.sameMethod x.cls owner x.name x.desc ∈ wU) (h3 : Cond.selects C x y ∈ wU) (h4 : Cond.instanceMethod y ∈ wU) (h5 : Cond.initialized y.cls ∈ wU) (h : Cond.code y b n r ∈ wU) : GoodIn wU (va_wsU own i C owner x y (.code y b n r :: wU)) := by
  refine gU fun w hw => ?_
  simp only [va_wsU, List.cons_append, List.nil_append, List.mem_cons] at hw
  rcases hw with rfl | rfl | rfl | rfl | rfl | rfl | hw <;> assumption
end
section
/-! ===== state words: what the two systems' cells hold ===== -/
abbrev GS : Type := Nat → Nat → Int32
def gup (g : GS) (k i : Nat) (v : Int32) : GS := fun a b => if a = k ∧ b = i then v else g a b
theorem gup_s {g : GS} {k i : Nat} {v : Int32} : gup g k i v k i = v := by simp [gup]
theorem gup_k {g : GS} {k i a b : Nat} {v : Int32} (h : a ≠ k) : gup g k i v a b = g a b := by simp [gup, h]
theorem gup_i {g : GS} {k i a b : Nat} {v : Int32} (h : b ≠ i) : gup g k i v a b = g a b := by simp [gup, h]
def bI (b : Bool) : Int32 := if b then 1 else 0
theorem bI_ne {b : Bool} (h : ¬ bI b = 0) : b = true := by cases b <;> simp_all [bI]
theorem bI_eq {b : Bool} (h : bI b = 0) : b = false := by cases b <;> simp_all [bI]
def anyN : Nat → (Nat → Bool) → Bool
  | 0, _ => false
  | n + 1, f => anyN n f || f n
theorem anyN_iff {n : Nat} {f : Nat → Bool} : anyN n f = true ↔ ∃ i, i < n ∧ f i = true := by
  induction n with
  | zero => simp [anyN]
  | succ n ih =>
    simp only [anyN, Bool.or_eq_true, ih]
    constructor
    · rintro (⟨i, h1, h2⟩ | h)
      · exact ⟨i, by omega, h2⟩
      · exact ⟨n, by omega, h⟩
    · rintro ⟨i, h1, h2⟩
      rcases Nat.lt_or_ge i n with h | h
      · exact Or.inl ⟨i, h, h2⟩
      · have : i = n := by omega
        subst this
        exact Or.inr h2
/-- the fixed things of a run: classes and slots; the array classes; the empty list's array; where the law's own cells begin -/
abbrev ZE : Type := va_G × (ClassId × ClassId × ClassId × ClassId) × Nat × Nat
abbrev zD (z : ZE) : va_G := z.1
abbrev zI (z : ZE) : ClassId := z.2.1.1
abbrev zZ (z : ZE) : ClassId := z.2.1.2.1
abbrev zL (z : ZE) : ClassId := z.2.1.2.2.1
abbrev zO (z : ZE) : ClassId := z.2.1.2.2.2
abbrev zd (z : ZE) : Nat := z.2.2.1
abbrev zB (z : ZE) : Nat := z.2.2.2
def zA (z : ZE) : Nat → Prop := fun q => zB z ≤ q
abbrev tysZ (z : ZE) : List (ClassId × FieldType) := [(zI z, .int), (zZ z, .boolean), (zL z, .long), (zO z, .object "java/lang/Object")]
abbrev cI (c : ClassId) (n : Nat) (f : Nat → Int32) : va_E := .inl (c, n, .inl f)
abbrev cL (c : ClassId) (n : Nat) (f : Nat → Int64) : va_E := .inl (c, n, .inr (.inl f))
abbrev cQ (c : ClassId) (n : Nat) (f : Nat → Option Nat) : va_E := .inl (c, n, .inr (.inr (.inr (.inr f))))
/-- counts -/
def nb (g : GS) : Nat := (g 5 0).toNatClampNeg
def np (g : GS) : Nat := (g 16 0).toNatClampNeg
def nj (g : GS) : Nat := (g 24 0).toNatClampNeg
def kn (g : GS) (b : Nat) : Nat := (g 13 b).toNatClampNeg
def pb (g : GS) (p : Nat) : Nat := (g 17 p).toNatClampNeg
def jp (g : GS) (j : Nat) : Nat := (g 26 j).toNatClampNeg
def jo (g : GS) (j : Nat) : Nat := (g 27 j).toNatClampNeg
/-- the parts of a board, by rising numbers -/
def tk (g : GS) (b : Nat) : List Nat := (List.range (np g)).filter (fun p => pb g p == b)
/-- the lists: 0 boards, 1 parts, 2 joints, 3 + 2 b the knots of board b, 4 + 2 b what is taken of it; their lengths -/
def ll (g : GS) (i : Nat) : Nat := if i = 0 then nb g else if i = 1 then np g else if i = 2 then nj g else if i % 2 = 1 then kn g ((i - 3) / 2) else (tk g ((i - 4) / 2)).length
/-- .. and which things they hold: kind and number -/
def lk (i : Nat) : Nat := if i = 0 then 2 else if i = 1 then 3 else if i = 2 then 4 else if i % 2 = 1 then 7 else 8
def li (g : GS) (i j : Nat) : Nat := if i < 3 then j else if i % 2 = 1 then 4 * ((i - 3) / 2) + j else (tk g ((i - 4) / 2)).getD j 0
/-- ghosts: addresses by kind and number; of a list: modCount, its array's length and contents -/
abbrev WG : Type := (Nat → Nat → Nat) × (Nat → Int32) × (Nat → Nat) × (Nat → Nat → Option Nat)
abbrev wad (w : WG) : Nat → Nat → Nat := w.1
abbrev wmc (w : WG) : Nat → Int32 := w.2.1
abbrev wcp (w : WG) : Nat → Nat := w.2.2.1
abbrev wel (w : WG) : Nat → Nat → Option Nat := w.2.2.2
/-- the reference's fields that are arrays; their lengths -/
def isA (i : Nat) : Bool := decide (i < 36) && !(i == 0 || i == 1 || i == 4 || i == 5 || i == 16 || i == 24)
def isZ (i : Nat) : Bool := i == 31 || i == 32
def ln (i : Nat) : Nat := if i = 2 then 12 else if i = 3 then 2 else if i < 14 then 20 else if i < 16 then 80 else if i < 24 then 40 else if i = 34 then 40 else 30
/-- kinds: 0 the shop, 1 its air, 2 boards, 3 parts, 4 joints, 5 lists, 6 lists' arrays, 7 knots' spans, 8 parts' spans, 9 the reference, 10 its arrays, 11 the law's out -/
def lv_e (g : GS) (k i : Nat) : Prop := match k with
  | 0 => i = 0
  | 1 => i = 0
  | 2 => i < nb g
  | 3 => i < np g
  | 4 => i < nj g
  | 5 => i < 3 + 2 * nb g
  | 6 => i < 3 + 2 * nb g ∧ 0 < ll g i
  | 7 => i / 4 < nb g ∧ i % 4 < kn g (i / 4)
  | 8 => i < np g
  | 9 => i = 0
  | 10 => isA i = true
  | 11 => i = 0
  | _ => False
def mf (w : WG) (gm : GS) (i : Nat) : Value := if isA i then .ref (wad w 10 i) else .int (gm i 0)
def ct (z : ZE) (w : WG) (g gm : GS) (o : Nat → Int64) (k i : Nat) : va_E := match k with
  | 0 => .inr (5, [.ref (wad w 5 0), .ref (wad w 5 1), .ref (wad w 5 2), .ref (wad w 1 0), .int (g 1 0), .int (g 3 0), .int (g 3 1), .int (g 4 0)])
  | 1 => cI (zI z) 12 (g 2)
  | 2 => .inr (1, [.int (g 6 i), .int (g 9 i), .int (g 11 i), .int (g 12 i), .int 0, .int (nI i), .int (g 7 i), .int (g 8 i), .int (g 10 i), .ref (wad w 5 (3 + 2 * i)), .ref (wad w 5 (4 + 2 * i))])
  | 3 => .inr (3, [.int (g 6 (pb g i)), .int (g 20 i), .int (g 21 i), .int (g 22 i), .int (g 23 i), .int (nI i), .ref (wad w 2 (pb g i)), .int (g 18 i), .int (g 19 i)])
  | 4 => .inr (2, [.int (g 25 i), .ref (wad w 3 (jp g i)), .ref (wad w 3 (jo g i)), .int (g 29 i), .int (g 28 i), .int (g 30 i), .int (g 31 i), .int (g 32 i), .int (g 33 i)])
  | 5 => .inr (0, [.int (wmc w i), .ref (if ll g i = 0 then zd z else wad w 6 i), .int (nI (ll g i))])
  | 6 => cQ (zO z) (wcp w i) (wel w i)
  | 7 => .inr (4, [.int (g 14 i), .int (g 15 i)])
  | 8 => .inr (4, [.int (g 18 i - 30), .int (g 18 i + g 19 i + 30)])
  | 9 => .inr (6, (List.range 36).map (mf w gm))
  | 10 => cI (if isZ i then zZ z else zI z) (ln i) (gm i)
  | _ => cL (zL z) 1 o
/-- THE WORLD: every live thing lies at its address and holds what the states say; things are apart; what lists hold -/
def WW (z : ZE) (w : WG) (g gm : GS) (o : Nat → Int64) (H : Heap) : Prop :=
  (∀ k i, lv_e g k i → va_at (zD z) vwCl (wad w k i, ct z w g gm o k i) H) ∧
  (∀ k i k' i', lv_e g k i → lv_e g k' i' → wad w k i = wad w k' i' → k = k' ∧ i = i') ∧
  (∀ k i, lv_e g k i → zB z ≤ wad w k i) ∧
  (∀ i, i < 3 + 2 * nb g → ll g i ≤ wcp w i ∧ wcp w i ≤ 100 ∧ ∀ j, j < ll g i → wel w i j = some (wad w (lk i) (li g i j)))
/-- words of the tables that callees' own lists can't hold -/
def nwL : List (String × String) := [(RX0, "java/lang/Object"), (RX1, "java/lang/Object"), (RX2, "java/lang/Object"), (RX3, "java/lang/Object"), ("java/lang/IndexOutOfBoundsException", "java/lang/IndexOutOfBoundsException"), ("java/lang/IllegalArgumentException", "java/lang/IllegalArgumentException"), ("java/lang/IllegalStateException", "java/lang/IllegalStateException")]
def ncL : List (String × String) := [("java/lang/IllegalArgumentException", "java/lang/IndexOutOfBoundsException"), ("java/lang/IllegalStateException", "java/lang/IndexOutOfBoundsException"), ("java/lang/IllegalStateException", "java/lang/IllegalArgumentException")]
/-- the shop's String constants: place and text -/
def strL : List (Nat × String) := [(47, "there is no such month"), (58, "moisture is out of its range"), (61, "months is out of its range"), (65, "the month would be above 1200"), (80, "species, flitch or place is out of its range"), (82, "width, length or moisture is out of its range"), (87, "there are 20 boards"), (92, "the flitch has that place, or is of another species"), (107, "there is no such board"), (112, "from or to is out of its range"), (117, "the board has 4 knots"), (126, "something of the knot is taken up"), (133, "from, length or width is out of its range"), (135, "there are 40 parts"), (144, "the board has no room for it"), (146, "the part would have a knot that is not hidden"), (154, "the saw is not sharp enough"), (161, "there is no such edge"), (163, "length is out of its range"), (176, "there is no such part"), (181, "the part has 6 coats"), (183, "both parts are the same"), (203, "kind, size or tongue is out of its range"), (205, "there are 30 joints"), (211, "the size does not fit"), (214, "the chisel is not sharp enough"), (225, "there is no such joint"), (227, "needed is not lower"), (233, "the joint is glued"), (238, "clamps is out of its range"), (240, "the set is empty, or has a joint that there is not"), (246, "one is glued, or one that it needs is not glued by then"), (254, "it would take too long, or too many clamps"), (269, "the joint is not broken"), (292, "the joint is not glued, or is broken"), (297, "what is out of its range")]
/-- what holds of the machine all along -/
def EV (z : ZE) (U : State) (H : Heap) : Prop :=
  va_K (zD z) vwCl (tysZ z) U ∧
  (vx_Zq Bundle.tN "UNASSIGNED_STACK" Bundle.steD (zA z) U H ∧ vx_Zq Bundle.tN "SUPPRESSED_SENTINEL" Bundle.listD (zA z) U H) ∧
  va_Z "java/util/ArrayList" "DEFAULTCAPACITY_EMPTY_ELEMENTDATA" "[Ljava/lang/Object;" (.ref (zd z)) (zA z) U H ∧
  (zd z < zB z ∧ va_T (.object "java/lang/Object") (zd z) 0 (fun _ => .null) (zA z) U H) ∧
  zB z ≤ H.size ∧
  (va_AO "java/lang/Object" U ∧ va_Dc U ∧ ∃ mi, va_Mi "[Ljava/lang/Object;" mi U) ∧
  (∀ q ∈ nwL, va_Nw (.castable q.1 q.2) U) ∧
  (va_Nw (.methodLinkNest RX4 25 yX5_movingOf RX5) U ∧ va_Nw (.methodLinkNest RX0 34 yX5_touchesAny RX5) U) ∧
  (∀ q ∈ strL, ∃ a, vk_R RX5 q.1 q.2 a U) ∧
  ∀ q ∈ ncL, va_Nc q.1 q.2 U
theorem EV.same {z : ZE} {u U : State} {H : Heap} (hv : u.vm = U.vm) (h : EV z u H) : EV z U H := by
  have hA : u.vm.Alike U.vm := hv ▸ Vm.Alike.refl u.vm
  obtain ⟨h1, ⟨h2, h2b⟩, h3, ⟨h4, h4b⟩, h5, ⟨h6, h6b, mi, h6c⟩, h7, ⟨h8, h8b⟩, h9, h10⟩ := h
  exact ⟨va_K.moved hA h1, ⟨h2.moved hA, h2b.moved hA⟩, h3.moved hA, ⟨h4, h4b.moved hA⟩, h5, ⟨h6.moved hA, h6b.moved hA, mi, h6c.moved hA⟩, fun q hq => va_Nw.same rfl hv (h7 q hq), ⟨va_Nw.same rfl hv h8, va_Nw.same rfl hv h8b⟩, fun q hq => by obtain ⟨a, ha⟩ := h9 q hq; exact ⟨a, vk_R.same hv.symm ha⟩, fun q hq => (h10 q hq).moved hA⟩
theorem EV.warm {z : ZE} {s U : State} {H : Heap} (hW : s.WarmedH U.vm) (h : EV z s H) : EV z U H := by
  have hA : s.vm.Alike U.vm := hW.alike
  obtain ⟨h1, ⟨h2, h2b⟩, h3, ⟨h4, h4b⟩, h5, ⟨h6, h6b, mi, h6c⟩, h7, ⟨h8, h8b⟩, h9, h10⟩ := h
  exact ⟨va_K.moved hA h1, ⟨h2.moved hA, h2b.moved hA⟩, h3.moved hA, ⟨h4, h4b.moved hA⟩, h5, ⟨h6.moved hA, h6b.moved hA, mi, h6c.moved hA⟩, fun q hq => va_Nw.warmC hW (h7 q hq), ⟨va_Nw.warmM hW h8, va_Nw.warmM hW h8b⟩, fun q hq => by obtain ⟨a, ha⟩ := h9 q hq; exact ⟨a, vk_R.warm hW ha⟩, fun q hq => (h10 q hq).moved hA⟩
theorem EV.kept {z : ZE} {U : State} {H H1 : Heap} (h : EV z U H) (hz : H.size ≤ H1.size) (hq : ∀ q : Nat, q < H.size → ¬ zA z q → H1[q]? = H[q]?) : EV z U H1 := by
  obtain ⟨h1, ⟨h2, h2b⟩, h3, ⟨h4, h4b⟩, h5, h6, h7, h8, h9, h10⟩ := h
  exact ⟨h1, ⟨h2.kept hq, h2b.kept hq⟩, h3.kept hq, ⟨h4, h4b.kept hq⟩, Nat.le_trans h5 hz, h6, h7, h8, h9, h10⟩
theorem EV.at {z : ZE} {s U : State} {H : Heap} {locs : List Loc} (h : EV z s s.heap) (hS : va_S (zA z) s.heap H locs) (hU : U.heap = H) (hW : s.WarmedH U.vm) : EV z U U.heap := by
  rw [hU]
  exact (h.kept hS.1 hS.2.1).warm hW
/-- what a contract asks at its start: the arguments, the machine, and of the heap P -/
def PE (z : ZE) (av : List Value) (P : Heap → Prop) : Array Value → State → Prop := fun v U => v = av.toArray ∧ EV z U U.heap ∧ P U.heap
theorem PE.blind {z : ZE} {av : List Value} {P : Heap → Prop} : FrameBlind (PE z av P) := fun a U g mk h => ⟨h.1, EV.same (u := U) (U := U.calling g mk a) rfl h.2.1, h.2.2⟩
theorem P1 {D : va_G} {cl : List vw_C} {q : Nat × va_E} {H : Heap} (h : va_at D cl q H) : va_P D cl [q] H := fun k r hk => by
  cases k with
  | zero => cases hk; exact h
  | succ k => simp at hk
theorem EV.recv {z : ZE} {s : State} {H0 H : Heap} (hE : EV z s H0) {ci a : Nat} {q : vw_C} {fs : List Value} (hat : va_at (zD z) vwCl (a, .inr (ci, fs)) H) (hc : vwCl[ci]? = some q) : ∃ cell : Cell, H[a]? = some cell ∧ cell.vm.isStatics = false ∧ s.vm.findClass q.1 = some cell.cls :=
  va_recv (q0 := 0) (ws := [(a, .inr (ci, fs))]) hE.1 (P1 hat) hc rfl
/-- the world stands while its cells do -/
theorem WW.kept {z : ZE} {w : WG} {g gm : GS} {o : Nat → Int64} {H H1 : Heap} (h : WW z w g gm o H) (hq : ∀ q : Nat, q < H.size → H1[q]? = H[q]?) : WW z w g gm o H1 :=
  ⟨fun k i hl => (h.1 k i hl).kept (hq _ (h.1 k i hl).lt), h.2⟩
theorem WW.sh {z : ZE} {w : WG} {g gm : GS} {o : Nat → Int64} {H : Heap} (h : WW z w g gm o H) : va_at (zD z) vwCl (wad w 0 0, .inr (5, [.ref (wad w 5 0), .ref (wad w 5 1), .ref (wad w 5 2), .ref (wad w 1 0), .int (g 1 0), .int (g 3 0), .int (g 3 1), .int (g 4 0)])) H := h.1 0 0 rfl
theorem WW.air {z : ZE} {w : WG} {g gm : GS} {o : Nat → Int64} {H : Heap} (h : WW z w g gm o H) : va_at (zD z) vwCl (wad w 1 0, cI (zI z) 12 (g 2)) H := h.1 1 0 rfl
theorem WW.bd {z : ZE} {w : WG} {g gm : GS} {o : Nat → Int64} {H : Heap} (h : WW z w g gm o H) {i : Nat} (hi : i < nb g) : va_at (zD z) vwCl (wad w 2 i, .inr (1, [.int (g 6 i), .int (g 9 i), .int (g 11 i), .int (g 12 i), .int 0, .int (nI i), .int (g 7 i), .int (g 8 i), .int (g 10 i), .ref (wad w 5 (3 + 2 * i)), .ref (wad w 5 (4 + 2 * i))])) H := h.1 2 i hi
theorem WW.pt {z : ZE} {w : WG} {g gm : GS} {o : Nat → Int64} {H : Heap} (h : WW z w g gm o H) {i : Nat} (hi : i < np g) : va_at (zD z) vwCl (wad w 3 i, .inr (3, [.int (g 6 (pb g i)), .int (g 20 i), .int (g 21 i), .int (g 22 i), .int (g 23 i), .int (nI i), .ref (wad w 2 (pb g i)), .int (g 18 i), .int (g 19 i)])) H := h.1 3 i hi
theorem WW.jt {z : ZE} {w : WG} {g gm : GS} {o : Nat → Int64} {H : Heap} (h : WW z w g gm o H) {i : Nat} (hi : i < nj g) : va_at (zD z) vwCl (wad w 4 i, .inr (2, [.int (g 25 i), .ref (wad w 3 (jp g i)), .ref (wad w 3 (jo g i)), .int (g 29 i), .int (g 28 i), .int (g 30 i), .int (g 31 i), .int (g 32 i), .int (g 33 i)])) H := h.1 4 i hi
theorem WW.lst {z : ZE} {w : WG} {g gm : GS} {o : Nat → Int64} {H : Heap} (h : WW z w g gm o H) {i : Nat} (hi : i < 3 + 2 * nb g) : va_at (zD z) vwCl (wad w 5 i, .inr (0, [.int (wmc w i), .ref (if ll g i = 0 then zd z else wad w 6 i), .int (nI (ll g i))])) H := h.1 5 i hi
theorem WW.arr {z : ZE} {w : WG} {g gm : GS} {o : Nat → Int64} {H : Heap} (h : WW z w g gm o H) {i : Nat} (hi : i < 3 + 2 * nb g) (h0 : 0 < ll g i) : va_at (zD z) vwCl (wad w 6 i, cQ (zO z) (wcp w i) (wel w i)) H := h.1 6 i ⟨hi, h0⟩
theorem WW.ks {z : ZE} {w : WG} {g gm : GS} {o : Nat → Int64} {H : Heap} (h : WW z w g gm o H) {b j : Nat} (hb : b < nb g) (hj : j < kn g b) (h4 : kn g b ≤ 4) : va_at (zD z) vwCl (wad w 7 (4 * b + j), .inr (4, [.int (g 14 (4 * b + j)), .int (g 15 (4 * b + j))])) H := by
  refine h.1 7 (4 * b + j) ⟨?_, ?_⟩
  · rw [show (4 * b + j) / 4 = b by omega]; exact hb
  · rw [show (4 * b + j) / 4 = b by omega, show (4 * b + j) % 4 = j by omega]; exact hj
theorem WW.ts {z : ZE} {w : WG} {g gm : GS} {o : Nat → Int64} {H : Heap} (h : WW z w g gm o H) {i : Nat} (hi : i < np g) : va_at (zD z) vwCl (wad w 8 i, .inr (4, [.int (g 18 i - 30), .int (g 18 i + g 19 i + 30)])) H := h.1 8 i hi
theorem WW.md {z : ZE} {w : WG} {g gm : GS} {o : Nat → Int64} {H : Heap} (h : WW z w g gm o H) : va_at (zD z) vwCl (wad w 9 0, .inr (6, (List.range 36).map (mf w gm))) H := h.1 9 0 rfl
theorem WW.ma {z : ZE} {w : WG} {g gm : GS} {o : Nat → Int64} {H : Heap} (h : WW z w g gm o H) {i : Nat} (hi : isA i = true) : va_at (zD z) vwCl (wad w 10 i, cI (if isZ i then zZ z else zI z) (ln i) (gm i)) H := h.1 10 i hi
theorem WW.out {z : ZE} {w : WG} {g gm : GS} {o : Nat → Int64} {H : Heap} (h : WW z w g gm o H) : va_at (zD z) vwCl (wad w 11 0, cL (zL z) 1 o) H := h.1 11 0 rfl
/-- one cell of the world is written -/
theorem WW.upd {z : ZE} {w : WG} {g gm : GS} {o : Nat → Int64} {H H1 : Heap} {w' : WG} {g' gm' : GS} {o' : Nat → Int64} (h : WW z w g gm o H) (k0 i0 : Nat) (hl : lv_e g k0 i0)
    (he : va_at (zD z) vwCl (wad w k0 i0, ct z w' g' gm' o' k0 i0) H1) (oq : ∀ q : Nat, q ≠ wad w k0 i0 → H1[q]? = H[q]?) (hw : wad w' = wad w)
    (hlv : ∀ k i, lv_e g' k i → lv_e g k i) (hct : ∀ k i, lv_e g' k i → ¬ (k = k0 ∧ i = i0) → ct z w' g' gm' o' k i = ct z w g gm o k i)
    (hL : ∀ i, i < 3 + 2 * nb g' → ll g' i ≤ wcp w' i ∧ wcp w' i ≤ 100 ∧ ∀ j, j < ll g' i → wel w' i j = some (wad w (lk i) (li g' i j))) : WW z w' g' gm' o' H1 := by
  refine ⟨fun k i hk => ?_, fun k i k' i' h1 h2 h3 => ?_, fun k i h1 => ?_, fun i hi => ?_⟩
  · rw [hw]
    by_cases e : k = k0 ∧ i = i0
    · obtain ⟨rfl, rfl⟩ := e
      exact he
    · rw [hct k i hk e]
      refine (h.1 k i (hlv k i hk)).kept (oq _ fun z9 => e (h.2.1 k i k0 i0 (hlv k i hk) hl z9))
  · rw [hw] at h3
    exact h.2.1 k i k' i' (hlv _ _ h1) (hlv _ _ h2) h3
  · rw [hw]
    exact h.2.2.1 k i (hlv _ _ h1)
  · rw [hw]
    exact hL i hi
end
section
/-! ===== rows over the world: reads, writes, calls of methods that only read ===== -/
section GRW
variable {p : Program} {l : Launch} {e : Env} {R : Room} {s : State} {m : MethodId} {args : Array Value} {below : List Frame} {meth : Method} {c : Code} {H : Heap} {locs : List Loc} {cells slots : Nat} {Q : State → Prop}
variable {cc : ByteArray} {pc nL : Nat} {ls : Array Slot} {rest stk : List Value} {z : ZE} {Ts : List Cond} {own : String}
theorem g_same {ref owner name desc : String} (hts : ∀ w ∈ Ts, w.before args s = true) (h : owner = ref ∨ Cond.sameField ref owner name desc ∈ Ts) : ∀ x, s.fieldFound? owner name desc = some x → s.fieldFound? ref name desc = some x := by
  intro x hx
  rcases h with h | h
  · rw [← h]; exact hx
  · exact u_same (hts _ h) x hx
theorem g_get (S : CallFix p m c cc nL s args Ts own) (hE : EV z s s.heap) {ci a : Nat} {fs : List Value} (hat : va_at (zD z) vwCl (a, .inr (ci, fs)) H) {C ref : String} {T : u_T} {N index : Nat} (hc : vwCl[ci]? = some (C, T, N)) (hin : ∀ w ∈ u_ws C T N, w ∈ Ts) (k : Nat) (hk : k < N)
    (hlink : Cond.fieldLink own index ref (T k).2.1 (T k).2.2.1 ∈ Ts) (hsame : (T k).1 = ref ∨ Cond.sameField ref (T k).1 (T k).2.1 (T k).2.2.1 ∈ Ts) {v : Value} (hv : fs[k]? = some v) (hdg : decode cc pc = .ok (.getfield index, 3))
    (kk : W p l e R s m args below meth c H locs cells slots Q (F0 m (pc + 3) ls (v :: rest))) : W p l e R s m args below meth c H locs cells slots Q (F0 m pc ls (.ref a :: rest)) := by
  obtain ⟨hx, hb, hml, hown, hts⟩ := S
  exact va_get (D := zD z) (ci := ci) (v := v) hx hb hts hin hown hE.1 (P1 hat) 0 rfl hc k hk (hts _ hlink) (g_same hts hsame) hv hdg kk
theorem g_put (S : CallFix p m c cc nL s args Ts own) (hE : EV z s s.heap) {H0 : Heap} (hS : va_S (zA z) H0 H locs) {ci a : Nat} {fs : List Value} (hat : va_at (zD z) vwCl (a, .inr (ci, fs)) H) (hza : zB z ≤ a) {C ref : String} {T : u_T} {N index : Nat} (hc : vwCl[ci]? = some (C, T, N)) (hin : ∀ w ∈ u_ws C T N, w ∈ Ts)
    (ty0 : Nat → FieldType) (hty : ∀ k, k < N → parseFieldDescriptor (T k).2.2.1 = some (ty0 k)) (hnm : ∀ a, a < N → ∀ b, b < N → a ≠ b → (T a).2.1 ≠ (T b).2.1) (k : Nat) (hk : k < N)
    (hlink : Cond.fieldLink own index ref (T k).2.1 (T k).2.2.1 ∈ Ts) (hsame : (T k).1 = ref ∨ Cond.sameField ref (T k).1 (T k).2.1 (T k).2.2.1 ∈ Ts) (hfin : (T k).2.2.2 = false ∨ ((T k).2.2.2 = true ∧ meth.name = "<init>" ∧ (T k).1 = own)) {v : Value} (hn : narrow (ty0 k) v = v) (hfit : fits (ty0 k) v = true) (hl : k < fs.length) (hdg : decode cc pc = .ok (.putfield index, 3))
    (kk : ∀ (H1 : Heap) (locs1 : List Loc), va_at (zD z) vwCl (a, .inr (ci, fs.set k v)) H1 → (∀ q : Nat, q ≠ a → H1[q]? = H[q]?) → H1.size = H.size → va_S (zA z) H0 H1 locs1 → W p l e R s m args below meth c H1 locs1 cells slots Q (F0 m (pc + 3) ls rest)) : W p l e R s m args below meth c H locs cells slots Q (F0 m pc ls (v :: .ref a :: rest)) := by
  obtain ⟨hx, hb, hml, hown, hts⟩ := S
  have hap := va_apart (own := own) hts hin ty0 hty hnm hE.1 hc
  obtain ⟨r, h1, cell, q1, q2, q3, q4⟩ := hat
  cases Option.some.inj (h1.symm.trans hc)
  obtain ⟨hSl, hfc, kC, hkC, hkind⟩ := hE.1.1 ci _ hc
  obtain ⟨cf, kf, fi, f, hi, hsl⟩ := hSl k hk
  have hlay := hts _ (hin _ (u_in_lay hk))
  unfold u_lay at hlay
  have hst := (u_facts hfc hkC (u_lays hts hin hk) hi).1
  have fin : ∀ (H' : Heap), H'[a]? = some (cell.setSlot f.slot v) → (∀ q : Nat, q ≠ a → H'[q]? = H[q]?) → va_at (zD z) vwCl (a, .inr (ci, fs.set k v)) H' := by
    intro H' e1 e3
    rw [hsl] at e1
    exact ⟨_, hc, t_OB.to (V := updV (vp_V fs) k v) ⟨_, e1, q2, q3, t_set q4 hap hk v⟩ (fun j _ => vp_updV_set hl v j)⟩
  rcases hfin with hf | ⟨hf, hin2, hdecl⟩
  · rw [if_neg (by rw [hf]; decide)] at hlay
    have h6 := u_store hfc hkC hkind hlay hi (hty k hk) hn hfit
    exact W.putK hx hb (f := f) ⟨hown, hts _ hlink, ⟨_, _, _, g_same hts hsame _ hi⟩, hst⟩ (by rw [q2]; exact h6) q1 q3 (by rw [hsl]; exact k2_hasslot (q4 k hk)) rfl rfl hdg fun H' e1 e2 e3 => kk H' _ (fin H' e1 e3) e3 e2 (hS.put e2 e3 hza)
  · rw [if_pos hf] at hlay
    have hcf : m.cls = cf := by
      obtain ⟨_, _, c', _, _, _, -, -, hf', -, -, -, hown2, -⟩ := Cond.laysFinal_spec hlay
      have e1 : c' = cf := by have := hi.symm.trans hf'; simp at this; exact this.1.symm
      rw [hdecl] at hown2
      rw [← e1]; exact Option.some.inj (hown.symm.trans hown2)
    have h6 := u_fits hfc hkC hkind (Or.inr hlay) hi (hty k hk) hn hfit
    exact W.putFinK hx hb hown (hts _ hlink) (g_same hts hsame _ hi) hst hcf hin2 (by rw [q2]; exact h6) q1 q3 (by rw [hsl]; exact k2_hasslot (q4 k hk)) rfl rfl hdg fun H' e1 e2 e3 => kk H' _ (fin H' e1 e3) e3 e2 (hS.put e2 e3 hza)
theorem g_iald (S : CallFix p m c cc nL s args Ts own) (hE : EV z s s.heap) {a n : Nat} {f : Nat → Int32} (hat : va_at (zD z) vwCl (a, cI (zI z) n f) H) {i : Int32} (hin : vp_in i n) (hdg : decode cc pc = .ok (.iaload, 1))
    (kk : W p l e R s m args below meth c H locs cells slots Q (F0 m (pc + 1) ls (.int (f i.toNatClampNeg) :: rest))) : W p l e R s m args below meth c H locs cells slots Q (F0 m pc ls (.int i :: .ref a :: rest)) :=
  va_iald S.1 S.2.1 hE.1 (P1 hat) 0 0 rfl rfl hin hdg kk
theorem g_zald (S : CallFix p m c cc nL s args Ts own) (hE : EV z s s.heap) {a n : Nat} {f : Nat → Int32} (hat : va_at (zD z) vwCl (a, cI (zZ z) n f) H) {i : Int32} (hin : vp_in i n) (hdg : decode cc pc = .ok (.baload, 1))
    (kk : W p l e R s m args below meth c H locs cells slots Q (F0 m (pc + 1) ls (.int (f i.toNatClampNeg) :: rest))) : W p l e R s m args below meth c H locs cells slots Q (F0 m pc ls (.int i :: .ref a :: rest)) :=
  va_zald S.1 S.2.1 hE.1 (P1 hat) 0 1 rfl rfl hin hdg kk
theorem g_iast (S : CallFix p m c cc nL s args Ts own) (hE : EV z s s.heap) {H0 : Heap} (hS : va_S (zA z) H0 H locs) {a n : Nat} {f : Nat → Int32} (hat : va_at (zD z) vwCl (a, cI (zI z) n f) H) (hza : zB z ≤ a) {i x : Int32} (hin : vp_in i n) (hdg : decode cc pc = .ok (.iastore, 1))
    (kk : ∀ (H1 : Heap) (locs1 : List Loc), va_at (zD z) vwCl (a, cI (zI z) n (upd f i.toNatClampNeg x)) H1 → (∀ q : Nat, q ≠ a → H1[q]? = H[q]?) → H1.size = H.size → va_S (zA z) H0 H1 locs1 → W p l e R s m args below meth c H1 locs1 cells slots Q (F0 m (pc + 1) ls rest)) : W p l e R s m args below meth c H locs cells slots Q (F0 m pc ls (.int x :: .int i :: .ref a :: rest)) := by
  refine W.iast S.1 S.2.1 hat ((hE.1.2 0 _ rfl).1 n (fun j => .int (f j))) (fun q => by cases q) (by show ¬ (i < 0 ∨ (arrV _ _ _).slots.size ≤ _); rw [arrV_size]; exact hin) rfl rfl hdg fun H1 e1 z1 oq => kk H1 _ ?_ oq z1 (hS.put z1 oq hza)
  show H1[a]? = some (vp_cell _ _)
  rw [e1, vp_cell_i, vp_cell_i, arrV_store]
  congr 2
  funext q
  by_cases hq : q = i.toNatClampNeg
  · subst hq; simp [updV, upd]
  · simp [updV, upd, hq]
theorem g_zast (S : CallFix p m c cc nL s args Ts own) (hE : EV z s s.heap) {H0 : Heap} (hS : va_S (zA z) H0 H locs) {a n : Nat} {f : Nat → Int32} (hat : va_at (zD z) vwCl (a, cI (zZ z) n f) H) (hza : zB z ≤ a) {i x : Int32} (hin : vp_in i n) (hx1 : narrow .boolean (.int x) = .int x) (hdg : decode cc pc = .ok (.bastore, 1))
    (kk : ∀ (H1 : Heap) (locs1 : List Loc), va_at (zD z) vwCl (a, cI (zZ z) n (upd f i.toNatClampNeg x)) H1 → (∀ q : Nat, q ≠ a → H1[q]? = H[q]?) → H1.size = H.size → va_S (zA z) H0 H1 locs1 → W p l e R s m args below meth c H1 locs1 cells slots Q (F0 m (pc + 1) ls rest)) : W p l e R s m args below meth c H locs cells slots Q (F0 m pc ls (.int x :: .int i :: .ref a :: rest)) := by
  refine W.zast S.1 S.2.1 hat ((hE.1.2 1 _ rfl).1 n (fun j => .int (f j))) (fun q => by cases q) (by show ¬ (i < 0 ∨ (arrV _ _ _).slots.size ≤ _); rw [arrV_size]; exact hin) rfl rfl hdg fun H1 e1 z1 oq => kk H1 _ ?_ oq z1 (hS.put z1 oq hza)
  show H1[a]? = some (vp_cell _ _)
  rw [e1, vp_cell_i, vp_cell_i, arrV_store, hx1]
  congr 2
  funext q
  by_cases hq : q = i.toNatClampNeg
  · subst hq; simp [updV, upd]
  · simp [updV, upd, hq]
/-! ends and calls of methods that only read -/
def zF : Nat → Prop := fun _ => False
def rqi (v : Int32) : Array Value → State → Outcome → State → Prop := fun _ st o t => o = .returned (some (.int v)) ∧ t.heap = st.heap
def rqq (r : Option Nat) : Array Value → State → Outcome → State → Prop := fun _ st o t => o = .returned (some (va_rf r)) ∧ t.heap = st.heap
theorem g_iret {v : Int32} (S : CallFix p m c cc nL s args Ts own) (hr : meth.sig.returnType = some .int) (hlocks : meth.locks = false) {x : Int32} (hv : x = v) (hdg : decode cc pc = .ok (.ireturn, 1)) : W p l e R s m args below meth c s.heap [] 0 0 (MQ below (rqi v) args s 0 0 zF) (F0 m pc ls [.int x]) := by
  subst hv
  exact W.iret (v := x) S.1 S.2.1 hr (fun t ht _ => ⟨rfl, ht⟩) (fun _ h => nomatch h) hdg
theorem g_zret {v : Int32} (S : CallFix p m c cc nL s args Ts own) (hr : meth.sig.returnType = some .boolean) (hlocks : meth.locks = false) {x : Int32} (hv : x = v) (hb2 : ∃ b, v = bI b) (hdg : decode cc pc = .ok (.ireturn, 1)) : W p l e R s m args below meth c s.heap [] 0 0 (MQ below (rqi v) args s 0 0 zF) (F0 m pc ls [.int x]) := by
  subst hv
  exact W.zret (v := x) (ty := .boolean) S.1 S.2.1 hr (by obtain ⟨b, rfl⟩ := hb2; cases b <;> decide) (fun t ht _ => ⟨rfl, ht⟩) (fun _ h => nomatch h) hdg
theorem g_aret {r r' : Option Nat} {C : String} (S : CallFix p m c cc nL s args Ts own) (hr : meth.sig.returnType = some (.object C)) (hlocks : meth.locks = false) (hv : r' = r) (hdg : decode cc pc = .ok (.areturn, 1)) : W p l e R s m args below meth c s.heap [] 0 0 (MQ below (rqq r) args s 0 0 zF) (F0 m pc ls [va_rf r']) := by
  subst hv
  exact W.aret (v := va_rf r') (rt := .object C) S.1 S.2.1 hr (Or.inl ⟨_, rfl⟩) (by cases r' <;> simp [va_rf]) (fun t ht _ => ⟨rfl, ht⟩) (fun _ h => nomatch h) hdg
theorem g_run {v : Value} {Qa : State → Outcome → State → Prop} (hr : va_Run p l e R s m args below meth c H locs cells slots 0 0 (F0 m pc ls stk) rest Qa zF) (hQ : ∀ st o t, Qa st o t → o = .returned (some v) ∧ t.heap = st.heap)
    (kk : W p l e R s m args below meth c H locs cells slots Q (F0 m (pc + 3) ls (v :: rest))) : W p l e R s m args below meth c H locs cells slots Q (F0 m pc ls stk) := by
  intro T hT X
  obtain ⟨v9, st₀, t, T', L, h0, X', hL, e1, e2, hq, st⟩ := hr T hT X
  obtain ⟨h8, h9⟩ := hQ _ _ _ hq
  cases h8
  have hn : L = [] := by
    cases L with
    | nil => rfl
    | cons q L => exact (hL q List.mem_cons_self).elim
  subst hn
  rw [List.append_nil] at X'
  obtain ⟨t2, a1, b1⟩ := kk T' (by rw [e1, h9, h0]) X'
  exact ⟨t2, st t2 a1, b1⟩
variable {y x0 : MethodName} {bytes : ByteArray} {maxL n index : Nat} {ret : Option FieldType} {ws : List Cond} {rm : Room} {P : Heap → Prop} {C owner host : String} {b : Addr} {As : List Value}
theorem g_callV {v : Int32} (S : CallFix p m c cc nL s args Ts own) (hE : EV z s s.heap) (hS : va_S (zA z) s.heap H locs) (hM : Met l y ws rm (PE z (.ref b :: As) P) (rqi v) 0 0 zF) (cw : CallW R s args own C index y bytes maxL ret ws rm 0 0 n)
    (hv : ∃ cell : Cell, H[b]? = some cell ∧ cell.vm.isStatics = false ∧ s.vm.findClass C = some cell.cls) (hP : P H) (hn : As.length = n) (hsize : ls.size = nL) (hstack : stk = As.reverse ++ .ref b :: rest) (hW : (rest.map fun v => v.category).sum ≤ 8) (hdg : decode cc pc = .ok (.invokevirtual index, 3)) (hf : cells ≤ R.cells ∧ slots ≤ R.slots)
    (kk : W p l e R s m args below meth c H locs cells slots Q (F0 m (pc + 3) ls (.int v :: rest))) : W p l e R s m args below meth c H locs cells slots Q (F0 m pc ls stk) :=
  g_run (va_runV S hM cw ⟨PE.blind, hv, fun U hU hW => ⟨rfl, hE.at hS hU hW, by rw [hU]; exact hP⟩⟩ rfl hn hsize hstack (lv_room hW) hdg hf) (fun _ _ _ h => h) kk
theorem g_callVq {r : Option Nat} (S : CallFix p m c cc nL s args Ts own) (hE : EV z s s.heap) (hS : va_S (zA z) s.heap H locs) (hM : Met l y ws rm (PE z (.ref b :: As) P) (rqq r) 0 0 zF) (cw : CallW R s args own C index y bytes maxL ret ws rm 0 0 n)
    (hv : ∃ cell : Cell, H[b]? = some cell ∧ cell.vm.isStatics = false ∧ s.vm.findClass C = some cell.cls) (hP : P H) (hn : As.length = n) (hsize : ls.size = nL) (hstack : stk = As.reverse ++ .ref b :: rest) (hW : (rest.map fun v => v.category).sum ≤ 8) (hdg : decode cc pc = .ok (.invokevirtual index, 3)) (hf : cells ≤ R.cells ∧ slots ≤ R.slots)
    (kk : W p l e R s m args below meth c H locs cells slots Q (F0 m (pc + 3) ls (va_rf r :: rest))) : W p l e R s m args below meth c H locs cells slots Q (F0 m pc ls stk) :=
  g_run (va_runV S hM cw ⟨PE.blind, hv, fun U hU hW => ⟨rfl, hE.at hS hU hW, by rw [hU]; exact hP⟩⟩ rfl hn hsize hstack (lv_room hW) hdg hf) (fun _ _ _ h => h) kk
theorem g_callU {v : Int32} (S : CallFix p m c cc nL s args Ts own) (hE : EV z s s.heap) (hS : va_S (zA z) s.heap H locs) (hM : Met l y ws rm (PE z (.ref b :: As) P) (rqi v) 0 0 zF) (cw : va_CU R s args own C owner index x0 y bytes maxL ret ws rm 0 0 n)
    (hv : ∃ cell : Cell, H[b]? = some cell ∧ cell.vm.isStatics = false ∧ s.vm.findClass C = some cell.cls) (hP : P H) (hn : As.length = n) (hsize : ls.size = nL) (hstack : stk = As.reverse ++ .ref b :: rest) (hW : (rest.map fun v => v.category).sum ≤ 8) (hdg : decode cc pc = .ok (.invokevirtual index, 3)) (hf : cells ≤ R.cells ∧ slots ≤ R.slots)
    (kk : W p l e R s m args below meth c H locs cells slots Q (F0 m (pc + 3) ls (.int v :: rest))) : W p l e R s m args below meth c H locs cells slots Q (F0 m pc ls stk) :=
  g_run (va_runU S hM cw ⟨PE.blind, hv, fun U hU hW => ⟨rfl, hE.at hS hU hW, by rw [hU]; exact hP⟩⟩ rfl hn hsize hstack (lv_room hW) hdg hf) (fun _ _ _ h => h) kk
theorem g_callS {v : Int32} (S : CallFix p m c cc nL s args Ts own) (hE : EV z s s.heap) (hS : va_S (zA z) s.heap H locs) (hM : Met l y ws rm (PE z As P) (rqi v) 0 0 zF) (cw : CallB R s args own index y bytes maxL ret ws rm 0 0 n ∧ (Cond.static y).before args s = true)
    (hP : P H) (hn : As.length = n) (hsize : ls.size = nL) (hstack : stk = As.reverse ++ rest) (hW : (rest.map fun v => v.category).sum ≤ 8) (hdg : decode cc pc = .ok (.invokestatic index, 3)) (hf : cells ≤ R.cells ∧ slots ≤ R.slots)
    (kk : W p l e R s m args below meth c H locs cells slots Q (F0 m (pc + 3) ls (.int v :: rest))) : W p l e R s m args below meth c H locs cells slots Q (F0 m pc ls stk) :=
  g_run (va_runS S hM cw ⟨PE.blind, fun U hU hW => ⟨rfl, hE.at hS hU hW, by rw [hU]; exact hP⟩⟩ rfl hn hsize hstack (lv_room hW) hdg hf) (fun _ _ _ h => h) kk
theorem g_callSN {v : Int32} (S : CallFix p m c cc nL s args Ts own) (hE : EV z s s.heap) (hS : va_S (zA z) s.heap H locs) (hM : Met l y ws rm (PE z As P) (rqi v) 0 0 zF) (cw : va_CN R s args own index y host bytes maxL ret ws rm 0 0 n ∧ (Cond.static y).before args s = true ∧ True)
    (hP : P H) (hn : As.length = n) (hsize : ls.size = nL) (hstack : stk = As.reverse ++ rest) (hW : (rest.map fun v => v.category).sum ≤ 8) (hdg : decode cc pc = .ok (.invokestatic index, 3)) (hf : cells ≤ R.cells ∧ slots ≤ R.slots)
    (kk : W p l e R s m args below meth c H locs cells slots Q (F0 m (pc + 3) ls (.int v :: rest))) : W p l e R s m args below meth c H locs cells slots Q (F0 m pc ls stk) :=
  g_run (va_runSN S hM cw ⟨PE.blind, fun U hU hW => ⟨rfl, hE.at hS hU hW, by rw [hU]; exact hP⟩⟩ rfl hn hsize hstack (lv_room hW) hdg hf) (fun _ _ _ h => h) kk
/-! branches over truth values and small naturals; sums of naturals -/
theorem g_if_eq (S : CallFix p m c cc nL s args Ts own) {b : Bool} {off : Int} {tgt : Nat} (hdg : decode cc pc = .ok (.ifCond .eq off, 3)) (ht : (pc : Int) + off = (tgt : Int))
    (kt : b = false → W p l e R s m args below meth c H locs cells slots Q (F0 m tgt ls rest)) (kf : b = true → W p l e R s m args below meth c H locs cells slots Q (F0 m (pc + 3) ls rest)) : W p l e R s m args below meth c H locs cells slots Q (F0 m pc ls (.int (bI b) :: rest)) :=
  lv_if_eq S.1 S.2.1 hdg ht (fun h => kt (bI_eq h)) (fun h => kf (bI_ne h))
theorem g_if_ne (S : CallFix p m c cc nL s args Ts own) {b : Bool} {off : Int} {tgt : Nat} (hdg : decode cc pc = .ok (.ifCond .ne off, 3)) (ht : (pc : Int) + off = (tgt : Int))
    (kt : b = true → W p l e R s m args below meth c H locs cells slots Q (F0 m tgt ls rest)) (kf : b = false → W p l e R s m args below meth c H locs cells slots Q (F0 m (pc + 3) ls rest)) : W p l e R s m args below meth c H locs cells slots Q (F0 m pc ls (.int (bI b) :: rest)) :=
  lv_if_ne S.1 S.2.1 hdg ht (fun h => kt (bI_ne h)) (fun h => kf (bI_eq h))
theorem g_icmp_ge (S : CallFix p m c cc nL s args Ts own) {a b : Nat} (ha : a < 2 ^ 31) (hb : b < 2 ^ 31) {off : Int} {tgt : Nat} (hdg : decode cc pc = .ok (.if_icmp .ge off, 3)) (ht : (pc : Int) + off = (tgt : Int))
    (kt : b ≤ a → W p l e R s m args below meth c H locs cells slots Q (F0 m tgt ls rest)) (kf : a < b → W p l e R s m args below meth c H locs cells slots Q (F0 m (pc + 3) ls rest)) : W p l e R s m args below meth c H locs cells slots Q (F0 m pc ls (.int (nI b) :: .int (nI a) :: rest)) :=
  lv_icmp_ge S.1 S.2.1 hdg ht (fun h => kt ((nI_leI hb ha).mp h)) (fun h => kf (Nat.not_le.mp fun q => h ((nI_leI hb ha).mpr q)))
theorem g_icmp_gt (S : CallFix p m c cc nL s args Ts own) {a b : Nat} (ha : a < 2 ^ 31) (hb : b < 2 ^ 31) {off : Int} {tgt : Nat} (hdg : decode cc pc = .ok (.if_icmp .gt off, 3)) (ht : (pc : Int) + off = (tgt : Int))
    (kt : b < a → W p l e R s m args below meth c H locs cells slots Q (F0 m tgt ls rest)) (kf : a ≤ b → W p l e R s m args below meth c H locs cells slots Q (F0 m (pc + 3) ls rest)) : W p l e R s m args below meth c H locs cells slots Q (F0 m pc ls (.int (nI b) :: .int (nI a) :: rest)) :=
  lv_icmp_gt S.1 S.2.1 hdg ht (fun h => kt ((nI_ltI hb ha).mp h)) (fun h => kf (Nat.not_lt.mp fun q => h ((nI_ltI hb ha).mpr q)))
theorem g_iadd (S : CallFix p m c cc nL s args Ts own) {a b : Nat} (hdg : decode cc pc = .ok (.iadd, 1))
    (kk : W p l e R s m args below meth c H locs cells slots Q (F0 m (pc + 1) ls (.int (nI (a + b)) :: rest))) : W p l e R s m args below meth c H locs cells slots Q (F0 m pc ls (.int (nI b) :: .int (nI a) :: rest)) :=
  lv_iadd S.1 S.2.1 hdg (by rw [nI_add]; exact kk)
end GRW
end
