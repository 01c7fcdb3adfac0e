section
-- ===== PART A: goes FIRST, ahead of the names: the tables' words, and 'selects' of the private methods out of them =====
/-- a private method of a class that the tables say can be made, by its rows of tables_1 -/
def lw_okq (q : MethodName × Nat) : Prop := (q.1.cls ≠ "java/lang/invoke/MethodHandle" ∧ q.1.cls ≠ "java/lang/invoke/VarHandle") ∧ Cond.instantiable q.1.cls q.2 ∈ tables_1 ∧ Cond.privateMethod q.1 ∈ tables_1 ∧ Cond.instanceMethod q.1 ∈ tables_1
theorem lw_p0 : lw_okq (⟨"java/lang/Throwable", "fillInStackTrace", "(I)Ljava/lang/Throwable;"⟩, 6) := ⟨⟨by decide +kernel, by decide +kernel⟩, List.mem_of_getElem? (i := 139) (by decide +kernel), List.mem_of_getElem? (i := 137) (by decide +kernel), List.mem_of_getElem? (i := 138) (by decide +kernel)⟩
theorem lw_p1 : lw_okq (⟨"DovetailRow", "airIn", "(I)I"⟩, 8) := ⟨⟨by decide +kernel, by decide +kernel⟩, List.mem_of_getElem? (i := 25) (by decide +kernel), List.mem_of_getElem? (i := 213) (by decide +kernel), List.mem_of_getElem? (i := 214) (by decide +kernel)⟩
theorem lw_p2 : lw_okq (⟨"DovetailRow", "moistenAll", "(I)V"⟩, 8) := ⟨⟨by decide +kernel, by decide +kernel⟩, List.mem_of_getElem? (i := 25) (by decide +kernel), List.mem_of_getElem? (i := 220) (by decide +kernel), List.mem_of_getElem? (i := 221) (by decide +kernel)⟩
theorem lw_p3 : lw_okq (⟨"DovetailRow", "breakJoints", "()I"⟩, 8) := ⟨⟨by decide +kernel, by decide +kernel⟩, List.mem_of_getElem? (i := 25) (by decide +kernel), List.mem_of_getElem? (i := 262) (by decide +kernel), List.mem_of_getElem? (i := 263) (by decide +kernel)⟩
theorem lw_p4 : lw_okq (⟨"DovetailRow", "suitsFlitch", "(III)Z"⟩, 8) := ⟨⟨by decide +kernel, by decide +kernel⟩, List.mem_of_getElem? (i := 25) (by decide +kernel), List.mem_of_getElem? (i := 304) (by decide +kernel), List.mem_of_getElem? (i := 305) (by decide +kernel)⟩
theorem lw_p5 : lw_okq (⟨"java/util/ArrayList", "add", "(Ljava/lang/Object;[Ljava/lang/Object;I)V"⟩, 3) := ⟨⟨by decide +kernel, by decide +kernel⟩, List.mem_of_getElem? (i := 33) (by decide +kernel), List.mem_of_getElem? (i := 376) (by decide +kernel), List.mem_of_getElem? (i := 377) (by decide +kernel)⟩
theorem lw_p6 : lw_okq (⟨"java/util/ArrayList", "grow", "()[Ljava/lang/Object;"⟩, 3) := ⟨⟨by decide +kernel, by decide +kernel⟩, List.mem_of_getElem? (i := 33) (by decide +kernel), List.mem_of_getElem? (i := 380) (by decide +kernel), List.mem_of_getElem? (i := 381) (by decide +kernel)⟩
theorem lw_p7 : lw_okq (⟨"java/util/ArrayList", "grow", "(I)[Ljava/lang/Object;"⟩, 3) := ⟨⟨by decide +kernel, by decide +kernel⟩, List.mem_of_getElem? (i := 33) (by decide +kernel), List.mem_of_getElem? (i := 384) (by decide +kernel), List.mem_of_getElem? (i := 385) (by decide +kernel)⟩
theorem lw_p8 : lw_okq (⟨"DovetailRow", "findBoard", "(I)LDovetailRow$Board;"⟩, 8) := ⟨⟨by decide +kernel, by decide +kernel⟩, List.mem_of_getElem? (i := 25) (by decide +kernel), List.mem_of_getElem? (i := 436) (by decide +kernel), List.mem_of_getElem? (i := 437) (by decide +kernel)⟩
theorem lw_p9 : lw_okq (⟨"DovetailRow", "findPart", "(I)LDovetailRow$Part;"⟩, 8) := ⟨⟨by decide +kernel, by decide +kernel⟩, List.mem_of_getElem? (i := 25) (by decide +kernel), List.mem_of_getElem? (i := 550) (by decide +kernel), List.mem_of_getElem? (i := 551) (by decide +kernel)⟩
theorem lw_p10 : lw_okq (⟨"DovetailRow", "findJoint", "(I)LDovetailRow$Joint;"⟩, 8) := ⟨⟨by decide +kernel, by decide +kernel⟩, List.mem_of_getElem? (i := 25) (by decide +kernel), List.mem_of_getElem? (i := 633) (by decide +kernel), List.mem_of_getElem? (i := 634) (by decide +kernel)⟩
theorem lw_p11 : lw_okq (⟨"DovetailRow", "canBeGlued", "(I)Z"⟩, 8) := ⟨⟨by decide +kernel, by decide +kernel⟩, List.mem_of_getElem? (i := 25) (by decide +kernel), List.mem_of_getElem? (i := 656) (by decide +kernel), List.mem_of_getElem? (i := 657) (by decide +kernel)⟩
theorem lw_p12 : lw_okq (⟨"DovetailRow", "minutesOf", "(I)I"⟩, 8) := ⟨⟨by decide +kernel, by decide +kernel⟩, List.mem_of_getElem? (i := 25) (by decide +kernel), List.mem_of_getElem? (i := 664) (by decide +kernel), List.mem_of_getElem? (i := 665) (by decide +kernel)⟩
theorem lw_p13 : lw_okq (⟨"DovetailRow", "clampsOf", "(I)I"⟩, 8) := ⟨⟨by decide +kernel, by decide +kernel⟩, List.mem_of_getElem? (i := 25) (by decide +kernel), List.mem_of_getElem? (i := 668) (by decide +kernel), List.mem_of_getElem? (i := 669) (by decide +kernel)⟩
theorem lw_p14 : lw_okq (⟨"DovetailRow", "monthOfBreak", "(LDovetailRow$Joint;I)I"⟩, 8) := ⟨⟨by decide +kernel, by decide +kernel⟩, List.mem_of_getElem? (i := 25) (by decide +kernel), List.mem_of_getElem? (i := 692) (by decide +kernel), List.mem_of_getElem? (i := 693) (by decide +kernel)⟩
theorem lw_p15 : lw_okq (⟨"DovetailRowModel", "between", "(III)Z"⟩, 36) := ⟨⟨by decide +kernel, by decide +kernel⟩, List.mem_of_getElem? (i := 735) (by decide +kernel), List.mem_of_getElem? (i := 859) (by decide +kernel), List.mem_of_getElem? (i := 860) (by decide +kernel)⟩
def lw_privs_1 : List (MethodName × Nat) := [(⟨"java/lang/Throwable", "fillInStackTrace", "(I)Ljava/lang/Throwable;"⟩, 6), (⟨"DovetailRow", "airIn", "(I)I"⟩, 8), (⟨"DovetailRow", "moistenAll", "(I)V"⟩, 8), (⟨"DovetailRow", "breakJoints", "()I"⟩, 8), (⟨"DovetailRow", "suitsFlitch", "(III)Z"⟩, 8), (⟨"java/util/ArrayList", "add", "(Ljava/lang/Object;[Ljava/lang/Object;I)V"⟩, 3), (⟨"java/util/ArrayList", "grow", "()[Ljava/lang/Object;"⟩, 3), (⟨"java/util/ArrayList", "grow", "(I)[Ljava/lang/Object;"⟩, 3), (⟨"DovetailRow", "findBoard", "(I)LDovetailRow$Board;"⟩, 8), (⟨"DovetailRow", "findPart", "(I)LDovetailRow$Part;"⟩, 8), (⟨"DovetailRow", "findJoint", "(I)LDovetailRow$Joint;"⟩, 8), (⟨"DovetailRow", "canBeGlued", "(I)Z"⟩, 8), (⟨"DovetailRow", "minutesOf", "(I)I"⟩, 8), (⟨"DovetailRow", "clampsOf", "(I)I"⟩, 8), (⟨"DovetailRow", "monthOfBreak", "(LDovetailRow$Joint;I)I"⟩, 8), (⟨"DovetailRowModel", "between", "(III)Z"⟩, 36)]
theorem lw_r1 : ∀ q ∈ lw_privs_1, lw_okq q := List.forall_mem_cons.mpr ⟨lw_p0, List.forall_mem_cons.mpr ⟨lw_p1, List.forall_mem_cons.mpr ⟨lw_p2, List.forall_mem_cons.mpr ⟨lw_p3, List.forall_mem_cons.mpr ⟨lw_p4, List.forall_mem_cons.mpr ⟨lw_p5, List.forall_mem_cons.mpr ⟨lw_p6, List.forall_mem_cons.mpr ⟨lw_p7, List.forall_mem_cons.mpr ⟨lw_p8, List.forall_mem_cons.mpr ⟨lw_p9, List.forall_mem_cons.mpr ⟨lw_p10, List.forall_mem_cons.mpr ⟨lw_p11, List.forall_mem_cons.mpr ⟨lw_p12, List.forall_mem_cons.mpr ⟨lw_p13, List.forall_mem_cons.mpr ⟨lw_p14, List.forall_mem_cons.mpr ⟨lw_p15, fun _ h => absurd h List.not_mem_nil⟩⟩⟩⟩⟩⟩⟩⟩⟩⟩⟩⟩⟩⟩⟩⟩
theorem lw_p16 : lw_okq (⟨"DovetailRowModel", "isMoisture", "(I)Z"⟩, 36) := ⟨⟨by decide +kernel, by decide +kernel⟩, List.mem_of_getElem? (i := 735) (by decide +kernel), List.mem_of_getElem? (i := 863) (by decide +kernel), List.mem_of_getElem? (i := 864) (by decide +kernel)⟩
theorem lw_p17 : lw_okq (⟨"DovetailRowModel", "behind", "(III)I"⟩, 36) := ⟨⟨by decide +kernel, by decide +kernel⟩, List.mem_of_getElem? (i := 735) (by decide +kernel), List.mem_of_getElem? (i := 871) (by decide +kernel), List.mem_of_getElem? (i := 872) (by decide +kernel)⟩
theorem lw_p18 : lw_okq (⟨"DovetailRowModel", "wouldBreak", "(II)Z"⟩, 36) := ⟨⟨by decide +kernel, by decide +kernel⟩, List.mem_of_getElem? (i := 735) (by decide +kernel), List.mem_of_getElem? (i := 875) (by decide +kernel), List.mem_of_getElem? (i := 876) (by decide +kernel)⟩
theorem lw_p19 : lw_okq (⟨"DovetailRowModel", "speciesOf", "(I)I"⟩, 36) := ⟨⟨by decide +kernel, by decide +kernel⟩, List.mem_of_getElem? (i := 735) (by decide +kernel), List.mem_of_getElem? (i := 879) (by decide +kernel), List.mem_of_getElem? (i := 880) (by decide +kernel)⟩
theorem lw_p20 : lw_okq (⟨"DovetailRowModel", "moved", "(III)I"⟩, 36) := ⟨⟨by decide +kernel, by decide +kernel⟩, List.mem_of_getElem? (i := 735) (by decide +kernel), List.mem_of_getElem? (i := 883) (by decide +kernel), List.mem_of_getElem? (i := 884) (by decide +kernel)⟩
theorem lw_p21 : lw_okq (⟨"DovetailRowModel", "moves", "(I)I"⟩, 36) := ⟨⟨by decide +kernel, by decide +kernel⟩, List.mem_of_getElem? (i := 735) (by decide +kernel), List.mem_of_getElem? (i := 887) (by decide +kernel), List.mem_of_getElem? (i := 888) (by decide +kernel)⟩
theorem lw_p22 : lw_okq (⟨"DovetailRowModel", "widthAt", "(II)I"⟩, 36) := ⟨⟨by decide +kernel, by decide +kernel⟩, List.mem_of_getElem? (i := 735) (by decide +kernel), List.mem_of_getElem? (i := 891) (by decide +kernel), List.mem_of_getElem? (i := 892) (by decide +kernel)⟩
theorem lw_p23 : lw_okq (⟨"DovetailRowModel", "isBoard", "(I)Z"⟩, 36) := ⟨⟨by decide +kernel, by decide +kernel⟩, List.mem_of_getElem? (i := 735) (by decide +kernel), List.mem_of_getElem? (i := 903) (by decide +kernel), List.mem_of_getElem? (i := 904) (by decide +kernel)⟩
theorem lw_p24 : lw_okq (⟨"DovetailRowModel", "isTaken", "(III)Z"⟩, 36) := ⟨⟨by decide +kernel, by decide +kernel⟩, List.mem_of_getElem? (i := 735) (by decide +kernel), List.mem_of_getElem? (i := 907) (by decide +kernel), List.mem_of_getElem? (i := 908) (by decide +kernel)⟩
theorem lw_p25 : lw_okq (⟨"DovetailRowModel", "boardWidth", "(I)I"⟩, 36) := ⟨⟨by decide +kernel, by decide +kernel⟩, List.mem_of_getElem? (i := 735) (by decide +kernel), List.mem_of_getElem? (i := 915) (by decide +kernel), List.mem_of_getElem? (i := 916) (by decide +kernel)⟩
theorem lw_p26 : lw_okq (⟨"DovetailRowModel", "hasKnot", "(III)Z"⟩, 36) := ⟨⟨by decide +kernel, by decide +kernel⟩, List.mem_of_getElem? (i := 735) (by decide +kernel), List.mem_of_getElem? (i := 919) (by decide +kernel), List.mem_of_getElem? (i := 920) (by decide +kernel)⟩
theorem lw_p27 : lw_okq (⟨"DovetailRowModel", "hardness", "(I)I"⟩, 36) := ⟨⟨by decide +kernel, by decide +kernel⟩, List.mem_of_getElem? (i := 735) (by decide +kernel), List.mem_of_getElem? (i := 923) (by decide +kernel), List.mem_of_getElem? (i := 924) (by decide +kernel)⟩
theorem lw_p28 : lw_okq (⟨"DovetailRowModel", "isPart", "(I)Z"⟩, 36) := ⟨⟨by decide +kernel, by decide +kernel⟩, List.mem_of_getElem? (i := 735) (by decide +kernel), List.mem_of_getElem? (i := 939) (by decide +kernel), List.mem_of_getElem? (i := 940) (by decide +kernel)⟩
theorem lw_p29 : lw_okq (⟨"DovetailRowModel", "fits", "(IIII)Z"⟩, 36) := ⟨⟨by decide +kernel, by decide +kernel⟩, List.mem_of_getElem? (i := 735) (by decide +kernel), List.mem_of_getElem? (i := 951) (by decide +kernel), List.mem_of_getElem? (i := 952) (by decide +kernel)⟩
theorem lw_p30 : lw_okq (⟨"DovetailRowModel", "isJoint", "(I)Z"⟩, 36) := ⟨⟨by decide +kernel, by decide +kernel⟩, List.mem_of_getElem? (i := 735) (by decide +kernel), List.mem_of_getElem? (i := 959) (by decide +kernel), List.mem_of_getElem? (i := 960) (by decide +kernel)⟩
theorem lw_p31 : lw_okq (⟨"DovetailRowModel", "lookAhead", "(I)V"⟩, 36) := ⟨⟨by decide +kernel, by decide +kernel⟩, List.mem_of_getElem? (i := 735) (by decide +kernel), List.mem_of_getElem? (i := 979) (by decide +kernel), List.mem_of_getElem? (i := 980) (by decide +kernel)⟩
def lw_privs_2 : List (MethodName × Nat) := [(⟨"DovetailRowModel", "isMoisture", "(I)Z"⟩, 36), (⟨"DovetailRowModel", "behind", "(III)I"⟩, 36), (⟨"DovetailRowModel", "wouldBreak", "(II)Z"⟩, 36), (⟨"DovetailRowModel", "speciesOf", "(I)I"⟩, 36), (⟨"DovetailRowModel", "moved", "(III)I"⟩, 36), (⟨"DovetailRowModel", "moves", "(I)I"⟩, 36), (⟨"DovetailRowModel", "widthAt", "(II)I"⟩, 36), (⟨"DovetailRowModel", "isBoard", "(I)Z"⟩, 36), (⟨"DovetailRowModel", "isTaken", "(III)Z"⟩, 36), (⟨"DovetailRowModel", "boardWidth", "(I)I"⟩, 36), (⟨"DovetailRowModel", "hasKnot", "(III)Z"⟩, 36), (⟨"DovetailRowModel", "hardness", "(I)I"⟩, 36), (⟨"DovetailRowModel", "isPart", "(I)Z"⟩, 36), (⟨"DovetailRowModel", "fits", "(IIII)Z"⟩, 36), (⟨"DovetailRowModel", "isJoint", "(I)Z"⟩, 36), (⟨"DovetailRowModel", "lookAhead", "(I)V"⟩, 36)]
theorem lw_r2 : ∀ q ∈ lw_privs_2, lw_okq q := List.forall_mem_cons.mpr ⟨lw_p16, List.forall_mem_cons.mpr ⟨lw_p17, List.forall_mem_cons.mpr ⟨lw_p18, List.forall_mem_cons.mpr ⟨lw_p19, List.forall_mem_cons.mpr ⟨lw_p20, List.forall_mem_cons.mpr ⟨lw_p21, List.forall_mem_cons.mpr ⟨lw_p22, List.forall_mem_cons.mpr ⟨lw_p23, List.forall_mem_cons.mpr ⟨lw_p24, List.forall_mem_cons.mpr ⟨lw_p25, List.forall_mem_cons.mpr ⟨lw_p26, List.forall_mem_cons.mpr ⟨lw_p27, List.forall_mem_cons.mpr ⟨lw_p28, List.forall_mem_cons.mpr ⟨lw_p29, List.forall_mem_cons.mpr ⟨lw_p30, List.forall_mem_cons.mpr ⟨lw_p31, fun _ h => absurd h List.not_mem_nil⟩⟩⟩⟩⟩⟩⟩⟩⟩⟩⟩⟩⟩⟩⟩⟩
theorem lw_p32 : lw_okq (⟨"DovetailRowModel", "stateOf", "(I)I"⟩, 36) := ⟨⟨by decide +kernel, by decide +kernel⟩, List.mem_of_getElem? (i := 735) (by decide +kernel), List.mem_of_getElem? (i := 1003) (by decide +kernel), List.mem_of_getElem? (i := 1004) (by decide +kernel)⟩
def lw_privs_3 : List (MethodName × Nat) := [(⟨"DovetailRowModel", "stateOf", "(I)I"⟩, 36)]
theorem lw_r3 : ∀ q ∈ lw_privs_3, lw_okq q := List.forall_mem_cons.mpr ⟨lw_p32, fun _ h => absurd h List.not_mem_nil⟩
def lw_privs : List (MethodName × Nat) := lw_privs_1 ++ (lw_privs_2 ++ (lw_privs_3))
def lw_tbl : List Cond := k2_sels lw_privs ++ tables_1
theorem lw_privs_ok : ∀ q ∈ lw_privs, lw_okq q := by
  show ∀ q ∈ lw_privs_1 ++ (lw_privs_2 ++ (lw_privs_3)), lw_okq q
  exact List.forall_mem_append.mpr ⟨lw_r1, List.forall_mem_append.mpr ⟨lw_r2, lw_r3⟩⟩
-- ===== end of PART A; then your names; then what follows =====
/-! ===== BEGIN words of one list among another's, by their places ===== -/
theorem goodIn_r {big : List Cond} (ws : List Cond) (ps : List Nat) (hp : ws = ps.filterMap (fun i => big[i]?)) (h : ws.all goodWord = true) : GoodIn big ws := by
  intro w hw
  have h1 := List.all_eq_true.mp h w hw
  rw [hp] at hw
  obtain ⟨i, -, hi⟩ := List.mem_filterMap.mp hw
  have hm : w ∈ big := by first | exact List.mem_of_getElem? hi | exact List.getElem?_mem hi
  exact ⟨hm, good_of_word h1⟩
theorem goodIn_app {big a b : List Cond} (ha : GoodIn big a) (hb : GoodIn big b) : GoodIn big (a ++ b) := fun w h => (List.mem_append.mp h).elim (ha w) (hb w)
theorem goodIn_ca {big a b : List Cond} {c : Cond} (ha : GoodIn big (c :: a)) (hb : GoodIn big b) : GoodIn big (c :: (a ++ b)) := fun w h => (List.mem_cons.mp h).elim (fun e => ha w (List.mem_cons.mpr (Or.inl e))) (fun h => (List.mem_append.mp h).elim (fun h => ha w (List.mem_cons.mpr (Or.inr h))) (hb w))
theorem goodIn_sub {big ws : List Cond} (hm : ∀ w ∈ ws, w ∈ big) (h : ws.all goodWord = true) : GoodIn big ws := fun w hw => ⟨hm w hw, good_of_word (List.all_eq_true.mp h w hw)⟩
/-! ===== END ===== -/

/-! ===== BEGIN exceptions that leave a method, and their catching by the caller (launches without stack traces) ===== -/
section VXA
/-! The laws vx_back, vx_callV, vx_callS, vx_callSW, vx_throw0, vx_throwS follow proofs of the library, with one case more: JvmDerived/Free/Laws.lean (Back.of_free), Shelf42/LK1.lean (callV, callS), Shelf/KitTraced.lean (throwNew0V, throwNewS). -/
/-- where a method has thrown q: the class by its name, the cell, what was written, the world -/
def vx_T (XC : String → State → State → Prop) (st : State) (q : Addr) (t : State) (mc ms : Nat) (free : Addr → Prop) : Prop :=
  ∃ (E : String) (ce : Cell) (L : List Loc), XC E st t ∧ t.heap[q]? = some ce ∧ ce.vm = .none ∧ st.vm.findClass E = some ce.cls ∧ st.WarmedH t.vm ∧ st.sameButNew ({ t with vm := st.vm } : State) L mc ms ∧ ∀ z ∈ L, free z.base
def vx_Q (Qc : Array Value → State → Outcome → State → Prop) (XC : String → State → State → Prop) (mc ms : Nat) (free : Addr → Prop) : Array Value → State → Outcome → State → Prop := fun a st o t =>
  (Qc a st o t ∧ ∃ L, FrameEnd st o t L mc ms ∧ ∀ q ∈ L, free q.base) ∨ ∃ q, o = .threw q ∧ vx_T XC st q t mc ms free
/-- a callee that returns or throws -/
def vx_Met (l : Launch) (y : MethodName) (ws : List Cond) (rm : Room) (Pc : Array Value → State → Prop) (Qc : Array Value → State → Outcome → State → Prop) (XC : String → State → State → Prop) (mc ms : Nat) (free : Addr → Prop) : Prop :=
  MetFree l y (headSpec ws rm) Pc (fun _ _ _ _ _ => True) (vx_Q Qc XC mc ms free)
def vx_Post (XC : String → State → State → Prop) (mc ms : Nat) (free : Addr → Prop) : Pt → Array Value → Addr → Pt → Prop := fun A a q B =>
  ∃ (g : JFrame) (mk : MethodId) (t : State) (L : List Loc) (E : String) (ce : Cell), B.U.heap = t.heap ∧ B.U.vm = t.vm ∧ XC E (A.U.calling g mk a) t ∧ t.heap[q]? = some ce ∧ ce.vm = .none ∧ A.U.vm.findClass E = some ce.cls ∧ B.locs = A.locs ++ L ∧ (∀ z ∈ L, free z.base) ∧ B.cells = A.cells + mc ∧ B.slots = A.slots + ms
def vx_Back (l : Launch) (R : Room) (p : Program) (e : Env) (below : List Frame) (s : State) (sargs : Array Value) (y : MethodName) (len W9 : Nat)
    (Pre : Pt → Array Value → Prop) (Post : Pt → Array Value → Option Value → Pt → Prop) (PostX : Pt → Array Value → Addr → Pt → Prop) : Prop :=
  ∀ (m : MethodId) (meth : Method) (c : Code) (A : Pt) (g : JFrame) (ig : Instr) (mk : MethodId) (a : Array Value),
    Stand p l e R s m sargs below meth c A.U A.locs A.cells A.slots → g.method = m → g.locals.size = c.maxLocals → decode c.code g.pc = .ok (ig, len) →
    2 * g.monitorRoom + (g.stack.map fun v => v.category).sum ≤ W9 → A.U.methodNamed? y = some mk → Pre A a →
    (∃ (v : Option Value) (B : Pt), Stand p l e R s m sargs below meth c B.U B.locs B.cells B.slots ∧ Post A a v B ∧
      Steps p.tables e below (doInvoke e (A.U.setTop g) [] mk a).1 (B.U.setTop { g with pc := g.pc + len, stack := v.toList ++ g.stack })) ∨
    (∃ (q : Addr) (B : Pt), Stand p l e R s m sargs below meth c B.U B.locs B.cells B.slots ∧ PostX A a q B ∧
      Steps p.tables e below (doInvoke e (A.U.setTop g) [] mk a).1 ((B.U.setTop g).pushFrame (.throwing q)))
section Payer
variable {l : Launch} {R : Room} {p : Program} {e : Env} {below : List Frame} {s : State} {sargs : Array Value} {y : MethodName} {len W9 : Nat}
theorem vx_back {ws : List Cond} {rm : Room} {Pc : Array Value → State → Prop} {Qc : Array Value → State → Outcome → State → Prop} {XC : String → State → State → Prop} {mc ms : Nat} {free : Addr → Prop} {bytes : ByteArray} {maxL : Nat} {ret : Option FieldType}
    (hM : vx_Met l y ws rm Pc Qc XC mc ms free) (hblind : FrameBlind Pc) (hrc : rm.cells = mc) (hrs : rm.slots = ms)
    (hframes : rm.frames + 1 ≤ R.frames) (hlocals : W9 + (maxL + 11) + rm.locals ≤ R.locals)
    (hws : ∀ w ∈ ws, ∀ a' U, s.WarmedH U.vm → w.before a' U = true) (hcode : Cond.code y bytes maxL ret ∈ ws) (hinit : ∀ a' U, s.WarmedH U.vm → (Cond.initialized y.cls).before a' U = true) :
    vx_Back l R p e below s sargs y len W9 (PreOf R mc ms Pc) (PostOf Qc mc ms free) (vx_Post XC mc ms free) := by
  intro m meth c A g ig mk a X hg hsize hdg hW hn hp
  have h1 : (headSpec ws rm).pre.before a A.U = true := atoms_intro fun w hw => hws w hw _ _ X.warmed
  have h2 : (Cond.code y bytes maxL ret).before a A.U = true := hws _ hcode _ _ X.warmed
  have h3 : (Cond.initialized y.cls).before a A.U = true := hinit _ _ X.warmed
  have h4 : A.cells + (headSpec ws rm).room.cells ≤ R.cells := by rw [show (headSpec ws rm).room.cells = mc from hrc]; exact hp.1
  have h5 : A.slots + (headSpec ws rm).room.slots ≤ R.slots := by rw [show (headSpec ws rm).room.slots = ms from hrs]; exact hp.2.1
  have hPc : Pc a (A.U.calling g mk a) := hblind _ _ _ _ hp.2.2
  obtain ⟨U, Ls, c0, s0⟩ := A
  dsimp only [Pt.U, Pt.locs, Pt.cells, Pt.slots] at h1 h2 h3 h4 h5 X hn hPc ⊢
  obtain ⟨methY, cY, hmY, hcY, -, hlY, -, -, -, -⟩ := Cond.code_spec hn h2
  obtain ⟨kY, hkY, -⟩ := className_of_methodNamed hn
  have hinitY : kY.init = .initialized := Cond.initialized_spec (findClass_of_methodNamed hn) hkY h3
  have h : At U g.method c below := by rw [hg]; exact X.here
  have hlocals9 : W9 + (maxL + 11) + (headSpec ws rm).room.locals ≤ R.locals := hlocals
  have happ : (headSpec ws rm).appliesLoose y e.platform (U.calling g mk a) = true :=
    Spec.appliesLoose_calling (g := g) h hdg hn hkY hinitY
      (X.room_calling (g := g) (R' := (headSpec ws rm).room) hsize hmY hcY hframes (by rw [hlY]; omega) h4 h5) h1
  obtain ⟨mid, hmid⟩ := h.above
  have hfr : (U.setTop g).frames = (.java g :: mid) ++ below := by rw [State.frames_setTop' g h.top, hmid]; rfl
  obtain ⟨o, s₂, hsteps, -, hend, hq⟩ := Steps.callFree hM p X.admits X.cas X.clock (acts := []) hfr happ hPc trivial
  have hq' : vx_Q Qc XC mc ms free a (U.calling g mk a) o s₂ := hq
  rw [State.frames_setTop' g h.top] at hend
  obtain ⟨g₀, hg0⟩ := Option.isSome_iff_exists.mp h.top
  obtain ⟨r, hr⟩ := State.topJava?_eq_some.mp hg0
  have hr' : (({ U with heap := s₂.heap, slotsUsed := s₂.slotsUsed } : State).setVm s₂.vm).frames = .java g₀ :: r := hr
  rcases hq' with ⟨hqc, L, hfe, hL⟩ | ⟨q, rfl, E, ce, L, hx, hce, hcv, hcl, hW₂, hsm, hL⟩
  · obtain ⟨⟨v, rfl⟩, hW₂, e2, q2, q3, q4, q5, q6⟩ := id hfe
    have e3 : s₂ = ({ (U.calling g mk a).setFrames s₂.frames with heap := s₂.heap, slotsUsed := s₂.slotsUsed } : State).setVm s₂.vm := by
      have : s₂ = ({ s₂ with vm := (U.calling g mk a).vm } : State).setVm s₂.vm := rfl
      rw [e2] at this
      exact this
    obtain ⟨c₂, i₂, len₂, hc₂, hd₂, hf₂⟩ := hend
    have hW' : U.WarmedH s₂.vm := hW₂
    have hcc : c₂ = c := by
      have h1 : s₂.code? g.method = U.code? g.method := by
        rw [State.code?_eq, State.code?_eq, hW'.alike.method?]
      exact Option.some.inj (hc₂.symm.trans (h1.trans h.code))
    subst hcc
    have hlen : len₂ = len := by rw [hdg] at hd₂; cases hd₂; rfl
    subst hlen
    have hs₂ : s₂ = (({ U with heap := s₂.heap, slotsUsed := s₂.slotsUsed } : State).setVm s₂.vm).setTop { g with pc := g.pc + len₂, stack := v.toList ++ g.stack } := by
      refine e3.trans ?_
      rw [hf₂, State.calling_eq h.top, State.setFrames_setFrames, State.setTop_of_frames _ hr', hr]
      rfl
    have hsame : U.sameButNew ({ U with heap := s₂.heap, slotsUsed := s₂.slotsUsed } : State) L mc ms := by
      refine ⟨?_, q2, q3, q4, q5, q6⟩
      obtain ⟨t, ht, -⟩ := State.frames_cons hr
      show ({ U with heap := s₂.heap, slotsUsed := s₂.slotsUsed } : State) = { U.setFrames U.frames with heap := s₂.heap, slotsUsed := s₂.slotsUsed }
      rw [State.setFrames_self ht]
    subst hg
    refine Or.inl ⟨v, ⟨(({ U with heap := s₂.heap, slotsUsed := s₂.slotsUsed } : State).setVm s₂.vm), Ls ++ L, c0 + mc, s0 + ms⟩,
      ⟨X.admits, X.cas, X.clock, X.frames, X.room, X.hears, X.method, X.code, (X.here.setHeapUsed s₂.heap s₂.slotsUsed).setVm hW'.alike, X.tail, State.WarmedH.trans X.warmed hW', X.limits, X.bytes, X.same.trans (hsame.setVm s.vm)⟩,
      ⟨g, mk, s₂, L, rfl, rfl, hqc, rfl, hL, rfl, rfl⟩, ?_⟩
    show Steps p.tables e below _ ((({ U with heap := s₂.heap, slotsUsed := s₂.slotsUsed } : State).setVm s₂.vm).setTop { g with pc := g.pc + len₂, stack := v.toList ++ g.stack })
    rw [← hs₂]
    exact hsteps
  · obtain ⟨e2, q2, q3, q4, q5, q6⟩ := id hsm
    have e3 : s₂ = ({ (U.calling g mk a).setFrames s₂.frames with heap := s₂.heap, slotsUsed := s₂.slotsUsed } : State).setVm s₂.vm := by
      have : s₂ = ({ s₂ with vm := (U.calling g mk a).vm } : State).setVm s₂.vm := rfl
      rw [e2] at this
      exact this
    have hf₂ : s₂.frames = .throwing q :: .java g :: U.frames.tail := hend
    have hW' : U.WarmedH s₂.vm := hW₂
    have hs₂ : s₂ = ((({ U with heap := s₂.heap, slotsUsed := s₂.slotsUsed } : State).setVm s₂.vm).setTop g).pushFrame (.throwing q) := by
      refine e3.trans ?_
      rw [hf₂, State.calling_eq h.top, State.setFrames_setFrames, State.pushFrame, State.frames_setTop _ hr', State.setTop_of_frames _ hr', State.setFrames_setFrames, hr]
      rfl
    have hsame : U.sameButNew ({ U with heap := s₂.heap, slotsUsed := s₂.slotsUsed } : State) L mc ms := by
      refine ⟨?_, q2, q3, q4, q5, q6⟩
      obtain ⟨t, ht, -⟩ := State.frames_cons hr
      show ({ U with heap := s₂.heap, slotsUsed := s₂.slotsUsed } : State) = { U.setFrames U.frames with heap := s₂.heap, slotsUsed := s₂.slotsUsed }
      rw [State.setFrames_self ht]
    subst hg
    refine Or.inr ⟨q, ⟨(({ U with heap := s₂.heap, slotsUsed := s₂.slotsUsed } : State).setVm s₂.vm), Ls ++ L, c0 + mc, s0 + ms⟩,
      ⟨X.admits, X.cas, X.clock, X.frames, X.room, X.hears, X.method, X.code, (X.here.setHeapUsed s₂.heap s₂.slotsUsed).setVm hW'.alike, X.tail, State.WarmedH.trans X.warmed hW', X.limits, X.bytes, X.same.trans (hsame.setVm s.vm)⟩,
      ⟨g, mk, s₂, L, E, ce, rfl, rfl, hx, hce, hcv, hcl, rfl, hL, rfl, rfl⟩, ?_⟩
    show Steps p.tables e below _ (((({ U with heap := s₂.heap, slotsUsed := s₂.slotsUsed } : State).setVm s₂.vm).setTop g).pushFrame (.throwing q))
    rw [← hs₂]
    exact hsteps
end Payer
section Calls
variable {p : Program} {l : Launch} {e : Env} {R : Room} {s : State} {m : MethodId} {args : Array Value} {below : List Frame} {meth : Method} {c : Code} {T : State} {locs : List Loc} {cells slots : Nat}
theorem vx_callV (X : Stand p l e R s m args below meth c T locs cells slots) (hexec : p.tables.exec = Jvm.exec) {own C : String} {index : Nat} {y : MethodName} {bytes : ByteArray} {maxL : Nat} {ret : Option FieldType}
    (hown : s.vm.findClass own = some m.cls) (hlink : (Cond.methodLink own index y).before args s = true) (hinst : (Cond.instanceMethod y).before args s = true) (hsel : (Cond.selects C y y).before args s = true)
    (hcode : (Cond.code y bytes maxL ret).before args s = true) (hy : y.cls ≠ "java/lang/invoke/MethodHandle" ∧ y.cls ≠ "java/lang/invoke/VarHandle")
    {W9 : Nat} {Pre : Pt → Array Value → Prop} {Post : Pt → Array Value → Option Value → Pt → Prop} {PostX : Pt → Array Value → Addr → Pt → Prop} (hK : vx_Back l R p e below s args y 3 W9 Pre Post PostX)
    {b : Addr} {cellB : Cell} (hcell : T.heap[b]? = some cellB) (hobj : cellB.vm.isStatics = false) (hcls : s.vm.findClass C = some cellB.cls)
    {g : JFrame} (hg : g.method = m) (hsize : g.locals.size = c.maxLocals) {argsL rest : List Value} (hlen : ∀ sig, parseMethodDescriptor y.desc = some sig → argsL.length = sig.parameters.length)
    (hstack : g.stack = argsL.reverse ++ .ref b :: rest) (hW : 2 * g.monitorRoom + (rest.map fun v => v.category).sum ≤ W9) (hdg : decode c.code g.pc = .ok (.invokevirtual index, 3))
    (hpre : ∀ vm₁, s.WarmedH vm₁ → Pre ⟨T.setVm vm₁, locs, cells, slots⟩ (Value.ref b :: argsL).toArray) :
    (∃ (v : Option Value) (vm₁ : Vm) (B : Pt), s.WarmedH vm₁ ∧ Stand p l e R s m args below meth c B.U B.locs B.cells B.slots ∧ Post ⟨T.setVm vm₁, locs, cells, slots⟩ (Value.ref b :: argsL).toArray v B ∧
      ∀ target, Steps p.tables e below (B.U.setTop { g with pc := g.pc + 3, stack := v.toList ++ rest }) target → Steps p.tables e below (T.setTop g) target) ∨
    (∃ (q : Addr) (vm₁ : Vm) (B : Pt), s.WarmedH vm₁ ∧ Stand p l e R s m args below meth c B.U B.locs B.cells B.slots ∧ PostX ⟨T.setVm vm₁, locs, cells, slots⟩ (Value.ref b :: argsL).toArray q B ∧
      Steps p.tables e below (T.setTop g) ((B.U.setTop { g with stack := rest }).pushFrame (.throwing q))) := by
  obtain ⟨mk, methM, hnamed, hmethM, hstM, habM⟩ := Cond.instanceMethod_spec hinst
  obtain ⟨methM', cM, hmethM', -, -, -, -, -, -, hsigM⟩ := Cond.code_spec hnamed hcode
  cases hmethM.symm.trans hmethM'
  obtain ⟨c2, r2, m2, q1, q2, q3, q4, kP, hkP, hkPi⟩ := Cond.selects_spec hsel
  cases hcls.symm.trans q1
  cases (State.methodFound?_of_named hnamed hy).symm.trans q2
  cases hnamed.symm.trans q3
  have hselP : selectMethod e.platform s.vm cellB.cls mk = .method mk := by rw [Launch.admits_selectMethod X.admits]; exact q4
  obtain ⟨vm₁, X₁, hstep₁⟩ := X.invokevirtual hexec hown hlink hnamed hmethM hstM hkP hkPi hy (a := b) (cell := cellB) hcell
    (fun z h => by rw [h] at hobj; cases hobj) hselP hmethM habM hkP hkPi (g := g) hg (argsL := argsL) (rest := rest) (hlen _ hsigM) hstack hdg
  rcases hK m meth c ⟨T.setVm vm₁, locs, cells, slots⟩ { g with stack := rest } (.invokevirtual index) mk (Value.ref b :: argsL).toArray X₁ hg hsize hdg hW (X₁.named hnamed) (hpre vm₁ X₁.warmed) with ⟨v, B, X', hpost, hsteps⟩ | ⟨q, B, X', hpost, hsteps⟩
  · exact Or.inl ⟨v, vm₁, B, X₁.warmed, X', hpost, fun target h => hstep₁ _ fun acts => by rw [doInvoke_state]; exact hsteps.trans h⟩
  · exact Or.inr ⟨q, vm₁, B, X₁.warmed, X', hpost, hstep₁ _ fun acts => by rw [doInvoke_state]; exact hsteps⟩
theorem vx_callS (X : Stand p l e R s m args below meth c T locs cells slots) (hexec : p.tables.exec = Jvm.exec) {own : String} {index : Nat} {y : MethodName} {bytes : ByteArray} {maxL : Nat} {ret : Option FieldType}
    (hown : s.vm.findClass own = some m.cls) (hlink : (Cond.methodLink own index y).before args s = true) (hstat : (Cond.static y).before args s = true) (hinit : (Cond.initialized y.cls).before args s = true)
    (hcode : (Cond.code y bytes maxL ret).before args s = true) (hy : y.cls ≠ "java/lang/invoke/MethodHandle" ∧ y.cls ≠ "java/lang/invoke/VarHandle")
    {W9 : Nat} {Pre : Pt → Array Value → Prop} {Post : Pt → Array Value → Option Value → Pt → Prop} {PostX : Pt → Array Value → Addr → Pt → Prop} (hK : vx_Back l R p e below s args y 3 W9 Pre Post PostX)
    {g : JFrame} (hg : g.method = m) (hsize : g.locals.size = c.maxLocals) {argsL rest : List Value} (hlen : ∀ sig, parseMethodDescriptor y.desc = some sig → argsL.length = sig.parameters.length)
    (hstack : g.stack = argsL.reverse ++ rest) (hW : 2 * g.monitorRoom + (rest.map fun v => v.category).sum ≤ W9) (hdg : decode c.code g.pc = .ok (.invokestatic index, 3))
    (hpre : ∀ vm₁, s.WarmedH vm₁ → Pre ⟨T.setVm vm₁, locs, cells, slots⟩ argsL.toArray) :
    (∃ (v : Option Value) (vm₁ : Vm) (B : Pt), s.WarmedH vm₁ ∧ Stand p l e R s m args below meth c B.U B.locs B.cells B.slots ∧ Post ⟨T.setVm vm₁, locs, cells, slots⟩ argsL.toArray v B ∧
      ∀ target, Steps p.tables e below (B.U.setTop { g with pc := g.pc + 3, stack := v.toList ++ rest }) target → Steps p.tables e below (T.setTop g) target) ∨
    (∃ (q : Addr) (vm₁ : Vm) (B : Pt), s.WarmedH vm₁ ∧ Stand p l e R s m args below meth c B.U B.locs B.cells B.slots ∧ PostX ⟨T.setVm vm₁, locs, cells, slots⟩ argsL.toArray q B ∧
      Steps p.tables e below (T.setTop g) ((B.U.setTop { g with stack := rest }).pushFrame (.throwing q))) := by
  obtain ⟨mk, hnamed⟩ := Cond.code_named hcode
  obtain ⟨methM, cM, hmethM, -, -, -, -, -, -, hsigM⟩ := Cond.code_spec hnamed hcode
  have hstatic : methM.isStatic = true := Cond.static_spec hnamed hmethM hstat
  obtain ⟨kP, hkP, -⟩ := className_of_methodNamed hnamed
  have hinitP : kP.init = .initialized := Cond.initialized_spec (findClass_of_methodNamed hnamed) hkP hinit
  obtain ⟨vm₁, X₁, hstep₁⟩ := X.invokestatic hexec hown hlink hnamed hmethM hstatic hkP hinitP hy (g := g) hg (argsL := argsL) (rest := rest) (hlen _ hsigM) hstack hdg
  rcases hK m meth c ⟨T.setVm vm₁, locs, cells, slots⟩ { g with stack := rest } (.invokestatic index) mk argsL.toArray X₁ hg hsize hdg hW (X₁.named hnamed) (hpre vm₁ X₁.warmed) with ⟨v, B, X', hpost, hsteps⟩ | ⟨q, B, X', hpost, hsteps⟩
  · exact Or.inl ⟨v, vm₁, B, X₁.warmed, X', hpost, fun target h => hstep₁ _ fun acts => by rw [doInvoke_state]; exact hsteps.trans h⟩
  · exact Or.inr ⟨q, vm₁, B, X₁.warmed, X', hpost, hstep₁ _ fun acts => by rw [doInvoke_state]; exact hsteps⟩
end Calls
theorem vx_cls {s : State} {T : State} {vm₁ : Vm} {E : String} {k : ClassId} (hW : s.WarmedH vm₁) (h : (T.setVm vm₁).vm.findClass E = some k) : s.vm.findClass E = some k := by
  have h1 : vm₁.findClass E = some k := h
  rw [hW.alike.findClass] at h1
  exact h1
/-- the method's frame g, with q thrown over it -/
def vx_W (p : Program) (l : Launch) (e : Env) (R : Room) (s : State) (m : MethodId) (args : Array Value) (below : List Frame) (meth : Method) (c : Code) (H : Heap) (locs : List Loc) (cells slots : Nat) (Q : State → Prop) (g : JFrame) (q : Addr) : Prop :=
  ∀ T : State, T.heap = H → Stand p l e R s m args below meth c T locs cells slots → ∃ t, Steps p.tables e below ((T.setTop g).pushFrame (.throwing q)) t ∧ Q t
def vx_Run (p : Program) (l : Launch) (e : Env) (R : Room) (s : State) (m : MethodId) (args : Array Value) (below : List Frame) (meth : Method) (c : Code) (H : Heap) (locs : List Loc) (cells slots mc ms : Nat) (g : JFrame) (rest : List Value) (Qa : State → Outcome → State → Prop) (XC : String → State → State → Prop) (free : Addr → Prop) : Prop :=
  ∀ T : State, T.heap = H → Stand p l e R s m args below meth c T locs cells slots →
    (∃ (v : Option Value) (st₀ t T' : State) (L : List Loc), st₀.heap = H ∧ Stand p l e R s m args below meth c T' (locs ++ L) (cells + mc) (slots + ms) ∧ (∀ q ∈ L, free q.base) ∧ T'.heap = t.heap ∧ T'.vm = t.vm ∧ Qa st₀ (.returned v) t ∧
      Goes p e below T g T' { g with pc := g.pc + 3, stack := v.toList ++ rest }) ∨
    (∃ (q : Addr) (st₀ t T' : State) (L : List Loc) (E : String) (ce : Cell), st₀.heap = H ∧ Stand p l e R s m args below meth c T' (locs ++ L) (cells + mc) (slots + ms) ∧ (∀ z ∈ L, free z.base) ∧ T'.heap = t.heap ∧ T'.vm = t.vm ∧ XC E st₀ t ∧ t.heap[q]? = some ce ∧ ce.vm = .none ∧ s.vm.findClass E = some ce.cls ∧
      Steps p.tables e below (T.setTop g) ((T'.setTop { g with stack := rest }).pushFrame (.throwing q)))
def vx_X {S : Type} (px : S → Prop) (B : String → S → State → Prop) (A : Nat → Prop) : String → State → State → Prop := fun E st t => ∃ u : S, px u ∧ B E u t ∧ va_F A st t
section Runs
variable {p : Program} {l : Launch} {e : Env} {R : Room} {s : State} {m : MethodId} {args : Array Value} {below : List Frame} {meth : Method} {c : Code} {H : Heap} {locs : List Loc} {cells slots : Nat}
variable {y : MethodName} {bytes cc : ByteArray} {maxL nL mc ms n index : Nat} {ret : Option FieldType} {ws : List Cond} {rm : Room} {Pc : Array Value → State → Prop} {Qc : Array Value → State → Outcome → State → Prop} {XC : String → State → State → Prop} {free : Addr → Prop} {Ts : List Cond} {own C : String} {b : Addr} {As rest : List Value} {g : JFrame}
theorem vx_callBack (cb : CallB R s args own index y bytes maxL ret ws rm mc ms n) (hM : vx_Met l y ws rm Pc Qc XC mc ms free) (hbl : FrameBlind Pc) : vx_Back l R p e below s args y 3 8 (PreOf R mc ms Pc) (PostOf Qc mc ms free) (vx_Post XC mc ms free) := by
  obtain ⟨hrc, hrs, hfr, hlo, hws, hcw, -, hini, -⟩ := cb
  exact vx_back (bytes := bytes) (maxL := maxL) (ret := ret) hM hbl hrc hrs hfr hlo hws hcw (fun a' U hW => word_at hW (Or.inl (by first | rfl | simp [Cond.onTables, Cond.keeps, Cond.steady])) hini)
theorem vx_runV (S : CallFix p m c cc nL s args Ts own) (hM : vx_Met l y ws rm Pc Qc XC mc ms free) (cw : CallW R s args own C index y bytes maxL ret ws rm mc ms n) (hp : PreV s H C b Pc As)
    (hg : g.method = m) (hn : As.length = n) (hsize : g.locals.size = nL) (hstack : g.stack = As.reverse ++ .ref b :: rest) (hW : 2 * g.monitorRoom + (rest.map fun v => v.category).sum ≤ 8) (hdg : decode cc g.pc = .ok (.invokevirtual index, 3)) (hf : cells + mc ≤ R.cells ∧ slots + ms ≤ R.slots) :
    vx_Run p l e R s m args below meth c H locs cells slots mc ms g rest (Qc (Value.ref b :: As).toArray) XC free := by
  have hK : vx_Back l R p e below s args y 3 8 (PreOf R mc ms Pc) (PostOf Qc mc ms free) (vx_Post XC mc ms free) := vx_callBack cw.1 hM hp.1
  obtain ⟨⟨-, -, -, -, -, -, hcode, -, hy, hlen, hl⟩, hin, hse⟩ := cw
  obtain ⟨hx, hb, hml, ho, -⟩ := S
  obtain ⟨-, ⟨cellB, hcB, hoB, hclB⟩, hPc⟩ := hp
  intro T hT X
  rcases vx_callV X hx (C := C) (bytes := bytes) (maxL := maxL) (ret := ret) ho hl hin hse hcode hy hK (by rw [hT]; exact hcB) hoB hclB hg (hsize.trans hml.symm) (argsL := As) (rest := rest) (fun sig h => hn.trans (hlen sig h)) hstack hW (by rw [hb]; exact hdg)
    (fun vm₁ hW₁ => ⟨hf.1, hf.2, hPc (T.setVm vm₁) hT hW₁⟩) with ⟨v, vm₁, ⟨U', l2, c2, s2⟩, hW₁, X', ⟨g', mk, t, L, e1, e2, hq, h1, hL, h2, h3⟩, st⟩ | ⟨q, vm₁, ⟨U', l2, c2, s2⟩, hW₁, X', ⟨g', mk, t, L, E, ce, e1, e2, hq, hce, hcv, hcl, h1, hL, h2, h3⟩, st⟩
  · dsimp only [Pt.U, Pt.locs, Pt.cells, Pt.slots] at X' e1 e2 h1 h2 h3 st
    subst h1; subst h2; subst h3
    exact Or.inl ⟨v, (T.setVm vm₁).calling g' mk (Value.ref b :: As).toArray, t, U', L, hT, X', hL, e1, e2, hq, st⟩
  · dsimp only [Pt.U, Pt.locs, Pt.cells, Pt.slots] at X' e1 e2 h1 h2 h3 st hcl
    subst h1; subst h2; subst h3
    exact Or.inr ⟨q, (T.setVm vm₁).calling g' mk (Value.ref b :: As).toArray, t, U', L, E, ce, hT, X', hL, e1, e2, hq, hce, hcv, vx_cls hW₁ hcl, st⟩
theorem vx_runS (S : CallFix p m c cc nL s args Ts own) (hM : vx_Met l y ws rm Pc Qc XC mc ms free) (cw : CallB R s args own index y bytes maxL ret ws rm mc ms n ∧ (Cond.static y).before args s = true) (hp : PreS s H Pc As)
    (hg : g.method = m) (hn : As.length = n) (hsize : g.locals.size = nL) (hstack : g.stack = As.reverse ++ rest) (hW : 2 * g.monitorRoom + (rest.map fun v => v.category).sum ≤ 8) (hdg : decode cc g.pc = .ok (.invokestatic index, 3)) (hf : cells + mc ≤ R.cells ∧ slots + ms ≤ R.slots) :
    vx_Run p l e R s m args below meth c H locs cells slots mc ms g rest (Qc As.toArray) XC free := by
  have hK : vx_Back l R p e below s args y 3 8 (PreOf R mc ms Pc) (PostOf Qc mc ms free) (vx_Post XC mc ms free) := vx_callBack cw.1 hM hp.1
  obtain ⟨⟨-, -, -, -, -, -, hcode, hini, hy, hlen, hl⟩, hstt⟩ := cw
  obtain ⟨hx, hb, hml, ho, -⟩ := S
  intro T hT X
  rcases vx_callS X hx (bytes := bytes) (maxL := maxL) (ret := ret) ho hl hstt hini hcode hy hK hg (hsize.trans hml.symm) (argsL := As) (rest := rest) (fun sig h => hn.trans (hlen sig h)) hstack hW (by rw [hb]; exact hdg)
    (fun vm₁ hW₁ => ⟨hf.1, hf.2, hp.2 (T.setVm vm₁) hT hW₁⟩) with ⟨v, vm₁, ⟨U', l2, c2, s2⟩, hW₁, X', ⟨g', mk, t, L, e1, e2, hq, h1, hL, h2, h3⟩, st⟩ | ⟨q, vm₁, ⟨U', l2, c2, s2⟩, hW₁, X', ⟨g', mk, t, L, E, ce, e1, e2, hq, hce, hcv, hcl, h1, hL, h2, h3⟩, st⟩
  · dsimp only [Pt.U, Pt.locs, Pt.cells, Pt.slots] at X' e1 e2 h1 h2 h3 st
    subst h1; subst h2; subst h3
    exact Or.inl ⟨v, (T.setVm vm₁).calling g' mk As.toArray, t, U', L, hT, X', hL, e1, e2, hq, st⟩
  · dsimp only [Pt.U, Pt.locs, Pt.cells, Pt.slots] at X' e1 e2 h1 h2 h3 st hcl
    subst h1; subst h2; subst h3
    exact Or.inr ⟨q, (T.setVm vm₁).calling g' mk As.toArray, t, U', L, E, ce, hT, X', hL, e1, e2, hq, hce, hcv, vx_cls hW₁ hcl, st⟩
end Runs
section Rows
variable {p : Program} {l : Launch} {e : Env} {R : Room} {s : State} {m : MethodId} {args : Array Value} {below : List Frame} {meth : Method} {c : Code} {H : Heap} {locs : List Loc} {cells slots : Nat} {Q : State → Prop}
variable {mc ms : Nat} {free : Addr → Prop} {A0 A1 : Nat → Prop} {H0 : Heap} {a : Array Value} {pc : Nat} {ls : Array Slot} {st0 rest : List Value}
theorem vx_keep {st₀ t T' : State} {L : List Loc} (h0 : st₀.heap = H) (e1 : T'.heap = t.heap) (hS : va_S A0 H0 H locs) (hA : ∀ q, q < H.size → A1 q → A0 q) (hf : ∀ q, free q → A0 q) (hL : ∀ q ∈ L, free q.base) (hF : va_F A1 st₀ t) :
    H.size ≤ T'.heap.size ∧ (∀ q : Nat, q < H.size → ¬ A1 q → T'.heap[q]? = H[q]?) ∧ va_S A0 H0 T'.heap (locs ++ L) := by
  obtain ⟨hz, hk⟩ := hF
  rw [h0] at hz hk
  exact ⟨by rw [e1]; exact hz, fun q h1 h2 => by rw [e1]; exact hk q h1 h2,
    ⟨Nat.le_trans hS.1 (by rw [e1]; exact hz), fun q h1 h2 => by rw [e1, hk q (Nat.lt_of_lt_of_le h1 hS.1) (fun z => h2 (hA q (Nat.lt_of_lt_of_le h1 hS.1) z))]; exact hS.2.1 q h1 h2, fun q hq => by
      rcases List.mem_append.mp hq with h | h
      · exact hS.2.2 q h
      · exact hf _ (hL q h)⟩⟩
theorem vx_calli {S SX : Type} {post : Int32 → S → Prop} {px : SX → Prop} {B : S → State → Prop} {BX : String → SX → State → Prop} {AX : Nat → Prop} (hr : vx_Run p l e R s m args below meth c H locs cells slots mc ms (F0 m pc ls st0) rest (va_Qi post B A1 a) (vx_X px BX AX) free) (hS : va_S A0 H0 H locs) (hA : ∀ q, q < H.size → A1 q → A0 q) (hf : ∀ q, free q → A0 q) (hAX : ∀ q, q < H.size → AX q → A0 q)
    (kx : ∀ (E : String) (ce : Cell) (q9 : Addr) (u : SX) (t : State) (H1 : Heap) (locs1 : List Loc), t.heap = H1 → s.vm.Alike t.vm → px u → BX E u t → H.size ≤ H1.size → (∀ q : Nat, q < H.size → ¬ AX q → H1[q]? = H[q]?) → va_S A0 H0 H1 locs1 → H1[q9]? = some ce → ce.vm = .none → s.vm.findClass E = some ce.cls → vx_W p l e R s m args below meth c H1 locs1 (cells + mc) (slots + ms) Q (F0 m pc ls rest) q9)
    (kk : ∀ (r : Int32) (u : S) (t : State) (H1 : Heap) (locs1 : List Loc), t.heap = H1 → s.vm.Alike t.vm → post r u → B u t → H.size ≤ H1.size → (∀ q : Nat, q < H.size → ¬ A1 q → H1[q]? = H[q]?) → va_S A0 H0 H1 locs1 → W p l e R s m args below meth c H1 locs1 (cells + mc) (slots + ms) Q (F0 m (pc + 3) ls (.int r :: rest))) : W p l e R s m args below meth c H locs cells slots Q (F0 m pc ls st0) := by
  intro T hT X
  rcases hr T hT X with ⟨v, st₀, t, T', L, h0, X', hL, e1, e2, ⟨⟨r, u, hv, hp, hb⟩, hF⟩, st⟩ | ⟨q, st₀, t, T', L, E, ce, h0, X', hL, e1, e2, ⟨u, hp, hb, hF⟩, hce, hcv, hcl, st⟩
  · cases hv
    obtain ⟨k1, k2, k3⟩ := vx_keep h0 e1 hS hA hf hL hF
    obtain ⟨t2, a1, b1⟩ := kk r u t T'.heap (locs ++ L) e1.symm (by rw [← e2]; exact X'.warmed.alike) hp hb k1 k2 k3 T' rfl X'
    exact ⟨t2, st t2 a1, b1⟩
  · obtain ⟨k1, k2, k3⟩ := vx_keep h0 e1 hS hAX hf hL hF
    obtain ⟨t2, a1, b1⟩ := kx E ce q u t T'.heap (locs ++ L) e1.symm (by rw [← e2]; exact X'.warmed.alike) hp hb k1 k2 k3 (by rw [e1]; exact hce) hcv hcl T' rfl X'
    exact ⟨t2, st.trans a1, b1⟩
theorem vx_calll {S SX : Type} {post : Int64 → S → Prop} {px : SX → Prop} {B : S → State → Prop} {BX : String → SX → State → Prop} {AX : Nat → Prop} (hr : vx_Run p l e R s m args below meth c H locs cells slots mc ms (F0 m pc ls st0) rest (va_Ql post B A1 a) (vx_X px BX AX) free) (hS : va_S A0 H0 H locs) (hA : ∀ q, q < H.size → A1 q → A0 q) (hf : ∀ q, free q → A0 q) (hAX : ∀ q, q < H.size → AX q → A0 q)
    (kx : ∀ (E : String) (ce : Cell) (q9 : Addr) (u : SX) (t : State) (H1 : Heap) (locs1 : List Loc), t.heap = H1 → s.vm.Alike t.vm → px u → BX E u t → H.size ≤ H1.size → (∀ q : Nat, q < H.size → ¬ AX q → H1[q]? = H[q]?) → va_S A0 H0 H1 locs1 → H1[q9]? = some ce → ce.vm = .none → s.vm.findClass E = some ce.cls → vx_W p l e R s m args below meth c H1 locs1 (cells + mc) (slots + ms) Q (F0 m pc ls rest) q9)
    (kk : ∀ (r : Int64) (u : S) (t : State) (H1 : Heap) (locs1 : List Loc), t.heap = H1 → s.vm.Alike t.vm → post r u → B u t → H.size ≤ H1.size → (∀ q : Nat, q < H.size → ¬ A1 q → H1[q]? = H[q]?) → va_S A0 H0 H1 locs1 → W p l e R s m args below meth c H1 locs1 (cells + mc) (slots + ms) Q (F0 m (pc + 3) ls (.long r :: rest))) : W p l e R s m args below meth c H locs cells slots Q (F0 m pc ls st0) := by
  intro T hT X
  rcases hr T hT X with ⟨v, st₀, t, T', L, h0, X', hL, e1, e2, ⟨⟨r, u, hv, hp, hb⟩, hF⟩, st⟩ | ⟨q, st₀, t, T', L, E, ce, h0, X', hL, e1, e2, ⟨u, hp, hb, hF⟩, hce, hcv, hcl, st⟩
  · cases hv
    obtain ⟨k1, k2, k3⟩ := vx_keep h0 e1 hS hA hf hL hF
    obtain ⟨t2, a1, b1⟩ := kk r u t T'.heap (locs ++ L) e1.symm (by rw [← e2]; exact X'.warmed.alike) hp hb k1 k2 k3 T' rfl X'
    exact ⟨t2, st t2 a1, b1⟩
  · obtain ⟨k1, k2, k3⟩ := vx_keep h0 e1 hS hAX hf hL hF
    obtain ⟨t2, a1, b1⟩ := kx E ce q u t T'.heap (locs ++ L) e1.symm (by rw [← e2]; exact X'.warmed.alike) hp hb k1 k2 k3 (by rw [e1]; exact hce) hcv hcl T' rfl X'
    exact ⟨t2, st.trans a1, b1⟩
theorem vx_callf {S SX : Type} {post : UInt32 → S → Prop} {px : SX → Prop} {B : S → State → Prop} {BX : String → SX → State → Prop} {AX : Nat → Prop} (hr : vx_Run p l e R s m args below meth c H locs cells slots mc ms (F0 m pc ls st0) rest (va_Qf post B A1 a) (vx_X px BX AX) free) (hS : va_S A0 H0 H locs) (hA : ∀ q, q < H.size → A1 q → A0 q) (hf : ∀ q, free q → A0 q) (hAX : ∀ q, q < H.size → AX q → A0 q)
    (kx : ∀ (E : String) (ce : Cell) (q9 : Addr) (u : SX) (t : State) (H1 : Heap) (locs1 : List Loc), t.heap = H1 → s.vm.Alike t.vm → px u → BX E u t → H.size ≤ H1.size → (∀ q : Nat, q < H.size → ¬ AX q → H1[q]? = H[q]?) → va_S A0 H0 H1 locs1 → H1[q9]? = some ce → ce.vm = .none → s.vm.findClass E = some ce.cls → vx_W p l e R s m args below meth c H1 locs1 (cells + mc) (slots + ms) Q (F0 m pc ls rest) q9)
    (kk : ∀ (r : UInt32) (u : S) (t : State) (H1 : Heap) (locs1 : List Loc), t.heap = H1 → s.vm.Alike t.vm → post r u → B u t → H.size ≤ H1.size → (∀ q : Nat, q < H.size → ¬ A1 q → H1[q]? = H[q]?) → va_S A0 H0 H1 locs1 → W p l e R s m args below meth c H1 locs1 (cells + mc) (slots + ms) Q (F0 m (pc + 3) ls (.float r :: rest))) : W p l e R s m args below meth c H locs cells slots Q (F0 m pc ls st0) := by
  intro T hT X
  rcases hr T hT X with ⟨v, st₀, t, T', L, h0, X', hL, e1, e2, ⟨⟨r, u, hv, hp, hb⟩, hF⟩, st⟩ | ⟨q, st₀, t, T', L, E, ce, h0, X', hL, e1, e2, ⟨u, hp, hb, hF⟩, hce, hcv, hcl, st⟩
  · cases hv
    obtain ⟨k1, k2, k3⟩ := vx_keep h0 e1 hS hA hf hL hF
    obtain ⟨t2, a1, b1⟩ := kk r u t T'.heap (locs ++ L) e1.symm (by rw [← e2]; exact X'.warmed.alike) hp hb k1 k2 k3 T' rfl X'
    exact ⟨t2, st t2 a1, b1⟩
  · obtain ⟨k1, k2, k3⟩ := vx_keep h0 e1 hS hAX hf hL hF
    obtain ⟨t2, a1, b1⟩ := kx E ce q u t T'.heap (locs ++ L) e1.symm (by rw [← e2]; exact X'.warmed.alike) hp hb k1 k2 k3 (by rw [e1]; exact hce) hcv hcl T' rfl X'
    exact ⟨t2, st.trans a1, b1⟩
theorem vx_calld {S SX : Type} {post : UInt64 → S → Prop} {px : SX → Prop} {B : S → State → Prop} {BX : String → SX → State → Prop} {AX : Nat → Prop} (hr : vx_Run p l e R s m args below meth c H locs cells slots mc ms (F0 m pc ls st0) rest (va_Qd post B A1 a) (vx_X px BX AX) free) (hS : va_S A0 H0 H locs) (hA : ∀ q, q < H.size → A1 q → A0 q) (hf : ∀ q, free q → A0 q) (hAX : ∀ q, q < H.size → AX q → A0 q)
    (kx : ∀ (E : String) (ce : Cell) (q9 : Addr) (u : SX) (t : State) (H1 : Heap) (locs1 : List Loc), t.heap = H1 → s.vm.Alike t.vm → px u → BX E u t → H.size ≤ H1.size → (∀ q : Nat, q < H.size → ¬ AX q → H1[q]? = H[q]?) → va_S A0 H0 H1 locs1 → H1[q9]? = some ce → ce.vm = .none → s.vm.findClass E = some ce.cls → vx_W p l e R s m args below meth c H1 locs1 (cells + mc) (slots + ms) Q (F0 m pc ls rest) q9)
    (kk : ∀ (r : UInt64) (u : S) (t : State) (H1 : Heap) (locs1 : List Loc), t.heap = H1 → s.vm.Alike t.vm → post r u → B u t → H.size ≤ H1.size → (∀ q : Nat, q < H.size → ¬ A1 q → H1[q]? = H[q]?) → va_S A0 H0 H1 locs1 → W p l e R s m args below meth c H1 locs1 (cells + mc) (slots + ms) Q (F0 m (pc + 3) ls (.double r :: rest))) : W p l e R s m args below meth c H locs cells slots Q (F0 m pc ls st0) := by
  intro T hT X
  rcases hr T hT X with ⟨v, st₀, t, T', L, h0, X', hL, e1, e2, ⟨⟨r, u, hv, hp, hb⟩, hF⟩, st⟩ | ⟨q, st₀, t, T', L, E, ce, h0, X', hL, e1, e2, ⟨u, hp, hb, hF⟩, hce, hcv, hcl, st⟩
  · cases hv
    obtain ⟨k1, k2, k3⟩ := vx_keep h0 e1 hS hA hf hL hF
    obtain ⟨t2, a1, b1⟩ := kk r u t T'.heap (locs ++ L) e1.symm (by rw [← e2]; exact X'.warmed.alike) hp hb k1 k2 k3 T' rfl X'
    exact ⟨t2, st t2 a1, b1⟩
  · obtain ⟨k1, k2, k3⟩ := vx_keep h0 e1 hS hAX hf hL hF
    obtain ⟨t2, a1, b1⟩ := kx E ce q u t T'.heap (locs ++ L) e1.symm (by rw [← e2]; exact X'.warmed.alike) hp hb k1 k2 k3 (by rw [e1]; exact hce) hcv hcl T' rfl X'
    exact ⟨t2, st.trans a1, b1⟩
theorem vx_callv {S SX : Type} {post : S → Prop} {px : SX → Prop} {B : S → State → Prop} {BX : String → SX → State → Prop} {AX : Nat → Prop} (hr : vx_Run p l e R s m args below meth c H locs cells slots mc ms (F0 m pc ls st0) rest (va_Qv post B A1 a) (vx_X px BX AX) free) (hS : va_S A0 H0 H locs) (hA : ∀ q, q < H.size → A1 q → A0 q) (hf : ∀ q, free q → A0 q) (hAX : ∀ q, q < H.size → AX q → A0 q)
    (kx : ∀ (E : String) (ce : Cell) (q9 : Addr) (u : SX) (t : State) (H1 : Heap) (locs1 : List Loc), t.heap = H1 → s.vm.Alike t.vm → px u → BX E u t → H.size ≤ H1.size → (∀ q : Nat, q < H.size → ¬ AX q → H1[q]? = H[q]?) → va_S A0 H0 H1 locs1 → H1[q9]? = some ce → ce.vm = .none → s.vm.findClass E = some ce.cls → vx_W p l e R s m args below meth c H1 locs1 (cells + mc) (slots + ms) Q (F0 m pc ls rest) q9)
    (kk : ∀ (u : S) (t : State) (H1 : Heap) (locs1 : List Loc), t.heap = H1 → s.vm.Alike t.vm → post u → B u t → H.size ≤ H1.size → (∀ q : Nat, q < H.size → ¬ A1 q → H1[q]? = H[q]?) → va_S A0 H0 H1 locs1 → W p l e R s m args below meth c H1 locs1 (cells + mc) (slots + ms) Q (F0 m (pc + 3) ls (rest))) : W p l e R s m args below meth c H locs cells slots Q (F0 m pc ls st0) := by
  intro T hT X
  rcases hr T hT X with ⟨v, st₀, t, T', L, h0, X', hL, e1, e2, ⟨⟨u, hv, hp, hb⟩, hF⟩, st⟩ | ⟨q, st₀, t, T', L, E, ce, h0, X', hL, e1, e2, ⟨u, hp, hb, hF⟩, hce, hcv, hcl, st⟩
  · cases hv
    obtain ⟨k1, k2, k3⟩ := vx_keep h0 e1 hS hA hf hL hF
    obtain ⟨t2, a1, b1⟩ := kk u t T'.heap (locs ++ L) e1.symm (by rw [← e2]; exact X'.warmed.alike) hp hb k1 k2 k3 T' rfl X'
    exact ⟨t2, st t2 a1, b1⟩
  · obtain ⟨k1, k2, k3⟩ := vx_keep h0 e1 hS hAX hf hL hF
    obtain ⟨t2, a1, b1⟩ := kx E ce q u t T'.heap (locs ++ L) e1.symm (by rw [← e2]; exact X'.warmed.alike) hp hb k1 k2 k3 (by rw [e1]; exact hce) hcv hcl T' rfl X'
    exact ⟨t2, st.trans a1, b1⟩
/-- caught by the row x of this method's table; the rows ahead don't take it -/
theorem vx_catch {own name : String} {E : String} {ce : Cell} {q : Addr} (hown : s.vm.findClass own = some m.cls) (pre : List ExceptionTableEntry) (x : ExceptionTableEntry) (suf : List ExceptionTableEntry) (hsplit : c.exceptionTable.toList = pre ++ x :: suf)
    (hpass : ∀ z ∈ pre, covers z pc = false ∨ (z.catchType ≠ 0 ∧ ∃ nm : String, (Cond.classLink own z.catchType nm).before args s = true ∧ va_Nc E nm s)) (hx : covers x pc = true) (h0 : x.catchType ≠ 0)
    (hlink : (Cond.classLink own x.catchType name).before args s = true) (hcast : (Cond.castable E name).before args s = true) (hcell : H[q]? = some ce) (hv : ce.vm = .none) (hcl : s.vm.findClass E = some ce.cls)
    (kk : W p l e R s m args below meth c H locs cells slots Q (F0 m x.handlerPc ls [.ref q])) : vx_W p l e R s m args below meth c H locs cells slots Q (F0 m pc ls rest) q := by
  intro T hT X
  have hpl : e.platform.magicAccessors = ({} : Platform).magicAccessors := by rw [X.admits.platform]
  obtain ⟨c3, c4, hc3, hc4, hasg⟩ := Cond.castable_spec hcast
  cases Option.some.inj (hc3.symm.trans hcl)
  obtain ⟨c5, hc5, hcl5⟩ := Cond.classLink_spec hown hlink e.platform hpl
  cases Option.some.inj (hc4.symm.trans hc5)
  obtain ⟨vm', X', st⟩ := X.thenCaughtThrough q (g := F0 m pc ls rest) rfl (Steps.refl _) (by rw [hT]; exact hcell) (by rw [hv]; rfl) (by obtain ⟨k9, h9, -⟩ := Vm.findClass_spec hcl; exact ⟨k9, h9⟩) pre x suf hsplit
    (fun z hz => by
      rcases hpass z hz with h | ⟨hz0, nm, hl1, hn1⟩
      · exact Or.inl h
      · obtain ⟨c6, hc6, hcl6⟩ := Cond.classLink_spec hown hl1 e.platform hpl
        obtain ⟨a8, b8, h1, h2, h3⟩ := hn1
        cases Option.some.inj (h1.symm.trans hcl)
        cases Option.some.inj (h2.symm.trans hc6)
        exact Or.inr ⟨hz0, _, hcl6, h3⟩) hx (Or.inr ⟨h0, c4, hcl5, hasg⟩)
  obtain ⟨t, a1, b1⟩ := kk (T.setVm vm') hT X'
  exact ⟨t, st.trans a1, b1⟩
end Rows
section Ends
variable {p : Program} {l : Launch} {e : Env} {R : Room} {s : State} {m : MethodId} {args : Array Value} {below : List Frame} {meth : Method} {c : Code} {H : Heap} {locs : List Loc} {cells slots : Nat} {Q : State → Prop}
variable {mc ms : Nat} {free : Addr → Prop} {A0 A1 : Nat → Prop} {H0 : Heap} {a : Array Value} {ls : Array Slot} {st0 rest : List Value}
variable {Qc : Array Value → State → Outcome → State → Prop} {XC : String → State → State → Prop}
/-- what a body that may throw owes at its end -/
def vx_MQ (below : List Frame) (Qc : Array Value → State → Outcome → State → Prop) (XC : String → State → State → Prop) (a : Array Value) (s : State) (mc ms : Nat) (free : Addr → Prop) : State → Prop := fun t =>
  ∃ o, t.status = .running ∧ Ended t below o ∧ vx_Q Qc XC mc ms free a s o t
theorem vx_ret {g : JFrame} {mc ms : Nat} (k : W p l e R s m args below meth c H locs cells slots (MQ below Qc args s mc ms free) g) : W p l e R s m args below meth c H locs cells slots (vx_MQ below Qc XC args s mc ms free) g := by
  intro T hT X
  obtain ⟨t, a1, o, b1, b2, b3, b4⟩ := k T hT X
  exact ⟨t, a1, o, b1, b2, Or.inl ⟨b3, b4⟩⟩
/-- not caught here: it goes on to the caller -/
theorem vx_widen {g : JFrame} {q : Addr} {k n : Nat} (h1 : cells ≤ k) (h2 : slots ≤ n) (kk : vx_W p l e R s m args below meth c H locs k n Q g q) : vx_W p l e R s m args below meth c H locs cells slots Q g q := fun T hT X => kk T hT (stand_widen X h1 h2)
theorem vx_out {pc : Nat} {E : String} {ce : Cell} {q : Addr} {mc ms : Nat} (hout : ∀ x ∈ c.exceptionTable.toList, covers x pc = false) (hlocks : meth.locks = false) (hcell : H[q]? = some ce) (hv : ce.vm = .none) (hcl : s.vm.findClass E = some ce.cls)
    (hx : ∀ t : State, t.heap = H → s.vm.Alike t.vm → XC E s t) (hf : ∀ z ∈ locs, free z.base) (hc : cells ≤ mc) (hs : slots ≤ ms) :
    vx_W p l e R s m args below meth c H locs cells slots (vx_MQ below Qc XC args s mc ms free) (F0 m pc ls rest) q := by
  intro T hT X
  obtain ⟨st1, hrun, hend, hW, hsm⟩ := X.leaveThrown q (g := F0 m pc ls rest) rfl rfl rfl hout hlocks
  have hcell9 : (T.setFrames (.throwing q :: below)).heap[q]? = some ce := by
    show T.heap[q]? = some ce
    rw [hT]; exact hcell
  exact ⟨_, st1, .threw q, hrun, hend, Or.inr ⟨q, rfl, E, ce, locs, hx _ hT hW.alike, hcell9, hv, hcl, hW, hsm.mono hc hs, hf⟩⟩
theorem vx_frame {U : State} {k n : Nat} (h : s.sameButNew ({ U with vm := s.vm } : State) locs k n) : s.heap.size ≤ U.heap.size ∧ ∀ q : Nat, q < s.heap.size → (∀ z ∈ locs, z.base ≠ q) → U.heap[q]? = s.heap[q]? := by
  obtain ⟨-, h2, -, -, -, h6⟩ := h
  refine ⟨h2, fun q hq hz => ?_⟩
  obtain ⟨c9, e1, e2, e3, e4⟩ := h6 q _ (Array.getElem?_eq_getElem hq)
  have hs : c9.slots = (s.heap[q]).slots := Array.ext_getElem? fun i => e4 i fun hm => hz _ hm rfl
  have h9 : c9 = s.heap[q] := by
    rw [hs] at e2
    exact e2
  have e5 : U.heap[q]? = some c9 := e1
  rw [e5, h9, Array.getElem?_eq_getElem hq]
/-- the words of a throw but the four that speak of the heap -/
def vx_no (w : Cond) : Bool := decide (w ≠ .isRef (.static Bundle.tN "UNASSIGNED_STACK" Bundle.steD)) && decide (w ≠ .isRef (.static Bundle.tN "SUPPRESSED_SENTINEL" Bundle.listD)) && decide (w ≠ .laysStatic Bundle.tN "UNASSIGNED_STACK" Bundle.steD) && decide (w ≠ .laysStatic Bundle.tN "SUPPRESSED_SENTINEL" Bundle.listD)
def vx_at0 (own : String) (ic : Nat) (X : String) (names : List String) : List Cond := (Bundle.ownAtoms0 own ic X names).filter vx_no
def vx_atS (own : String) (ic : Nat) (X : String) (names : List String) : List Cond := (Bundle.ownAtoms own ic X names).filter vx_no
/-- a word that the tables alone decide, or a good one -/
def vx_ot (w : Cond) : Bool := w.onTables || goodWord w
theorem vx_ot_at {args a' : Array Value} {s U : State} {w : Cond} (hW : s.WarmedH U.vm) (hvm : s.vm = U.vm) (hg : vx_ot w = true) (h : w.before args s = true) : w.before a' U = true := by
  simp only [vx_ot, Bool.or_eq_true] at hg
  rcases hg with hg | hg
  · exact va_tabs hg hvm h
  · exact word_at hW (good_of_word hg) h
/-- a list's words: the good ones out of the method's own list, the others by premises of their own -/
theorem vx_hat {args : Array Value} {s : State} {L B : List Cond} (h1 : ∀ w ∈ L.filter goodWord, w.before args s = true) (h2 : ∀ w ∈ L.filter (fun w => !goodWord w), w ∈ B) (h3 : ∀ w ∈ B, w.before args s = true) : ∀ w ∈ L, w.before args s = true := by
  intro w hw
  by_cases g : goodWord w = true
  · exact h1 w (List.mem_filter.mpr ⟨hw, g⟩)
  · refine h3 w (h2 w (List.mem_filter.mpr ⟨hw, ?_⟩))
    show (!goodWord w) = true
    cases hgw : goodWord w
    · rfl
    · exact absurd hgw g
theorem vx_c {args : Array Value} {s : State} {w : Cond} {B : List Cond} (h : w.before args s = true) (t : ∀ w ∈ B, w.before args s = true) : ∀ w' ∈ w :: B, w'.before args s = true := fun w' h' => (List.mem_cons.mp h').elim (fun e => by rw [e]; exact h) (t w')
theorem vx_n {args : Array Value} {s : State} : ∀ w ∈ ([] : List Cond), w.before args s = true := fun _ h => nomatch h
theorem vx_own {args : Array Value} {s : State} {L : List Cond} (h1 : ∀ w ∈ L.filter vx_no, w.before args s = true)
    (hU : (Cond.isRef (.static Bundle.tN "UNASSIGNED_STACK" Bundle.steD)).before args s = true) (hN : (Cond.isRef (.static Bundle.tN "SUPPRESSED_SENTINEL" Bundle.listD)).before args s = true)
    (lU : (Cond.laysStatic Bundle.tN "UNASSIGNED_STACK" Bundle.steD).before args s = true) (lN : (Cond.laysStatic Bundle.tN "SUPPRESSED_SENTINEL" Bundle.listD).before args s = true) : ∀ w ∈ L, w.before args s = true := by
  intro w hw
  by_cases e1 : w = .isRef (.static Bundle.tN "UNASSIGNED_STACK" Bundle.steD)
  · rw [e1]; exact hU
  · by_cases e2 : w = .isRef (.static Bundle.tN "SUPPRESSED_SENTINEL" Bundle.listD)
    · rw [e2]; exact hN
    · by_cases e3 : w = .laysStatic Bundle.tN "UNASSIGNED_STACK" Bundle.steD
      · rw [e3]; exact lU
      · by_cases e4 : w = .laysStatic Bundle.tN "SUPPRESSED_SENTINEL" Bundle.listD
        · rw [e4]; exact lN
        · exact h1 w (List.mem_filter.mpr ⟨hw, by unfold vx_no; rw [decide_eq_true e1, decide_eq_true e2, decide_eq_true e3, decide_eq_true e4]; rfl⟩)
/-- where a static field lies, its class's statics cell in H -/
def vx_L (C n d : String) (A : Nat → Prop) (U : State) (H : Heap) : Prop := ∃ (c : ClassId) (k : Class) (i : Nat) (f : Field) (a : Nat) (cell : Cell), U.vm.findClass C = some c ∧ U.fieldFound? C n d = some (c, k, i, f) ∧ f.isStatic = true ∧ k.statics = some a ∧ H[a]? = some cell ∧ cell.vm.isStatics = true ∧ cell.cls = c ∧ f.slot < cell.slots.size ∧ k.staticTypes[f.slot]? = some f.type ∧ ¬ A a
theorem vx_L.moved {C n d : String} {A : Nat → Prop} {u U : State} {H : Heap} (hvm : u.vm.Alike U.vm) (h : vx_L C n d A u H) : vx_L C n d A U H := by
  obtain ⟨c, k, i, f, a, cell, h1, h2, h3, h4, h5, h6, h7, h8, h9, h10⟩ := h
  obtain ⟨k', hi', he⟩ := State.fieldFound?_setVm hvm h2
  exact ⟨c, k', i, f, a, cell, by rw [hvm.findClass]; exact h1, hi', h3, by rw [he]; exact h4, h5, h6, h7, h8, by rw [he]; exact h9, h10⟩
theorem vx_L.kept {C n d : String} {A : Nat → Prop} {U : State} {H H1 : Heap} (h : vx_L C n d A U H) (hq : ∀ a : Nat, a < H.size → ¬ A a → H1[a]? = H[a]?) : vx_L C n d A U H1 := by
  obtain ⟨c, k, i, f, a, cell, h1, h2, h3, h4, h5, h6, h7, h8, h9, h10⟩ := h
  exact ⟨c, k, i, f, a, cell, h1, h2, h3, h4, by rw [hq a (Array.getElem?_eq_some_iff.mp h5).1 h10]; exact h5, h6, h7, h8, h9, h10⟩
theorem vx_L.narrow {C n d : String} {A B : Nat → Prop} {U : State} {H : Heap} (h : vx_L C n d A U H) (hAB : ∀ q, B q → A q) : vx_L C n d B U H := by
  obtain ⟨c, k, i, f, a, cell, h1, h2, h3, h4, h5, h6, h7, h8, h9, h10⟩ := h
  exact ⟨c, k, i, f, a, cell, h1, h2, h3, h4, h5, h6, h7, h8, h9, fun z => h10 (hAB _ z)⟩
theorem vx_L.word {C n d : String} {A : Nat → Prop} {s : State} {args : Array Value} (h : vx_L C n d A s s.heap) : (Cond.laysStatic C n d).before args s = true := by
  obtain ⟨c, k, i, f, a, cell, h1, h2, h3, h4, h5, h6, h7, h8, h9, -⟩ := h
  show (Cond.laysStatic C n d).holds args s none s [] = true
  exact Cond.laysStatic_of h1 h2 h3 h4 h5 h6 h7 h8 h9
/-- .. and what it holds: null or some reference -/
def vx_Zq (C n d : String) (A : Nat → Prop) (U : State) (H : Heap) : Prop := va_Zq C n d A U H ∧ vx_L C n d A U H
theorem vx_Zq.moved {C n d : String} {A : Nat → Prop} {u U : State} {H : Heap} (hvm : u.vm.Alike U.vm) (h : vx_Zq C n d A u H) : vx_Zq C n d A U H := ⟨va_Zq.moved hvm h.1, vx_L.moved hvm h.2⟩
theorem vx_Zq.kept {C n d : String} {A : Nat → Prop} {U : State} {H H1 : Heap} (h : vx_Zq C n d A U H) (hq : ∀ a : Nat, a < H.size → ¬ A a → H1[a]? = H[a]?) : vx_Zq C n d A U H1 := ⟨va_Zq.kept h.1 hq, vx_L.kept h.2 hq⟩
theorem vx_Zq.narrow {C n d : String} {A B : Nat → Prop} {U : State} {H : Heap} (h : vx_Zq C n d A U H) (hAB : ∀ q, B q → A q) : vx_Zq C n d B U H := ⟨va_Zq.narrow h.1 hAB, vx_L.narrow h.2 hAB⟩
theorem vx_Zqof {args : Array Value} {s : State} {C n d : String} {A : Nat → Prop} (hl : (Cond.laysStatic C n d).before args s = true) (hini : (Cond.initialized C).before args s = true) (h : (Cond.isRef (.static C n d)).before args s = true) (hA : ∀ a : Nat, a < s.heap.size → ¬ A a) : vx_Zq C n d A s s.heap := by
  refine ⟨va_Zqof hl hini h hA, ?_⟩
  obtain ⟨c, k, i, f, a, cell, h1, h2, h3, h4, h5, h6, h7, h8, h9⟩ := Cond.laysStatic_spec hl
  exact ⟨c, k, i, f, a, cell, h1, h2, h3, h4, h5, h6, h7, h8, h9, hA a (Array.getElem?_eq_some_iff.mp h5).1⟩
theorem vx_isRef {C n d : String} {v : Value} {A : Nat → Prop} {s : State} {args : Array Value} (h : va_Z C n d v A s s.heap) (hv : v.isRef = true) : (Cond.isRef (.static C n d)).before args s = true := by
  obtain ⟨cf, kf, fi, f, a, cell, h1, h2, h3, h4, h5, h6, h7, -⟩ := h
  have he : (Term.static C n d).eval args s none [] s = some v := by
    simp [Term.eval, State.fieldNamed?, h1, h2, h4, h5, h6, h7]
  simp only [Cond.before, Cond.holds, Cond.value, he]
  cases v <;> simp_all [Value.isRef]
theorem vx_isRefq {C n d : String} {A : Nat → Prop} {s : State} {args : Array Value} (h : va_Zq C n d A s s.heap) : (Cond.isRef (.static C n d)).before args s = true := by
  rcases h with h | ⟨t, h⟩
  · exact vx_isRef h rfl
  · exact vx_isRef h rfl
/-- the same frame, seen from here: as if the method were called anew in this heap -/
theorem vx_rebase {T : State} (X : Stand p l e R s m args below meth c T locs cells slots) {R' : Room} (hf : R'.frames ≤ R.frames) (hl : R'.locals ≤ R.locals) (hc : cells + R'.cells ≤ R.cells) (hs : slots + R'.slots ≤ R.slots) :
    Stand p l e R' ((T.setVm s.vm).setFrames (.invoking m args :: below)) m args below meth c T [] 0 0 := by
  have htop : (T.setVm s.vm).topJava?.isSome := X.here.top
  have hF : ((T.setVm s.vm).setFrames (.invoking m args :: below)).frames = .invoking m args :: below := State.frames_setFrames _ (State.cur_lt_of_top htop)
  obtain ⟨g₀, hg0⟩ := Option.isSome_iff_exists.mp htop
  obtain ⟨r, hr⟩ := State.topJava?_eq_some.mp hg0
  have hl9 : e.platform.stackLimits (T.setVm s.vm).me = e.platform.stackLimits s.me := X.limits
  have hb9 : (T.setVm s.vm).me.stackBytes = s.me.stackBytes := X.bytes
  refine ⟨X.admits, X.cas, X.clock, hF, ?_, X.hears, X.method, X.code, X.here, X.tail, X.warmed, ?_, ?_, ?_⟩
  · have h := X.room
    have hU : ((T.setVm s.vm).setFrames (.invoking m args :: below)).localsInUse = s.localsInUse := by
      rw [State.localsInUse_invoking hF (meth := meth) (c := c) X.method X.code, State.localsInUse_invoking X.frames X.method X.code]
    simp only [State.hasRoom, Bool.and_eq_true, decide_eq_true_eq] at h ⊢
    obtain ⟨⟨⟨⟨h1, h2, h3, h4, h5, h6⟩, h7⟩, h8⟩, h9⟩ := h
    rw [X.frames, List.length_cons] at h2 h3
    have q1 := X.heapSize
    have q2 := X.used
    simp only [hF, hU, List.length_cons, State.stackLimits_setFrames, State.stackBytes_setFrames, hl9, hb9]
    refine ⟨⟨⟨⟨by omega, by omega, by omega, by omega, by omega, h6⟩, ?_⟩, ?_⟩, X.book⟩
    · show T.heap.size + R'.cells ≤ e.platform.maxCells
      omega
    · show T.slotsUsed + R'.slots ≤ e.platform.maxSlots
      omega
  · rw [State.stackLimits_setFrames]; rfl
  · rw [State.stackBytes_setFrames]; rfl
  · refine ⟨?_, Nat.le_refl _, Nat.le_refl _, ?_, ?_, fun a c9 h9 => ⟨c9, h9, rfl, rfl, fun _ _ => rfl⟩⟩
    · obtain ⟨t, ht, -⟩ := State.frames_cons hr
      show T.setVm s.vm = { ((T.setVm s.vm).setFrames (.invoking m args :: below)).setFrames (T.setVm s.vm).frames with heap := T.heap, slotsUsed := T.slotsUsed }
      rw [State.setFrames_setFrames, State.setFrames_self ht]
      rfl
    · show T.slotsUsed = T.slotsUsed + ((T.heap.toList.drop T.heap.size).map (·.slots.size)).sum
      rw [List.drop_eq_nil_of_le (Nat.le_of_eq Array.length_toList)]
      rfl
    · show ((T.heap.toList.drop T.heap.size).map (·.slots.size)).sum ≤ 0
      rw [List.drop_eq_nil_of_le (Nat.le_of_eq Array.length_toList)]
      exact Nat.le_refl _
/-- 'throw new E()': new; dup; invokespecial; athrow -/
theorem vx_throw0 {cc : ByteArray} {pc : Nat} (hexec : p.tables.exec = Jvm.exec) (hb : c.code = cc) (hl : l.stackTraces = false) {own cls : String} {names : List String} {ik ic mc ms : Nat} {A : Nat → Prop}
    (hown : s.vm.findClass own = some m.cls) (hcls : Bundle.fit cls = true) (hnames : ∀ n ∈ names, Bundle.fit n = true)
    (hk : (Cond.classLink own ik cls).before args s = true) (hini : (Cond.initialized cls).before args s = true) (hat : ∀ w ∈ vx_at0 own ic cls names, w.before args s = true)
    (hgood : ∀ w ∈ Cond.classLink own ik cls :: Cond.initialized cls :: vx_at0 own ic cls names, vx_ot w = true)
    (hU : vx_Zq Bundle.tN "UNASSIGNED_STACK" Bundle.steD A s s.heap) (hN : vx_Zq Bundle.tN "SUPPRESSED_SENTINEL" Bundle.listD A s s.heap) (hS : va_S A s.heap H locs) (hsize : ls.size = c.maxLocals)
    (d0 : decode cc pc = .ok (.new ik, 3)) (d3 : decode cc (pc + 3) = .ok (.dup, 1)) (d4 : decode cc (pc + 4) = .ok (.invokespecial ic, 3)) (d7 : decode cc (pc + 7) = .ok (.athrow, 1))
    (hout : ∀ x ∈ c.exceptionTable.toList, covers x (pc + 7) = false)
    (hRframes : names.length + 3 < R.frames) (hRlocals : (rest.map fun v => v.category).sum + (13 * (names.length + 1) + 42) ≤ R.locals) (hRcells : cells + 1 ≤ R.cells) (hRslots : slots + 6 ≤ R.slots) (hlocks : meth.locks = false)
    (hx : ∀ t : State, s.vm.Alike t.vm → H.size ≤ t.heap.size → (∀ q : Nat, q < H.size → t.heap[q]? = H[q]?) → XC cls s t)
    (hf : ∀ z ∈ locs, free z.base) (hc : cells + 1 ≤ mc) (hs : slots + 6 ≤ ms) :
    W p l e R s m args below meth c H locs cells slots (vx_MQ below Qc XC args s mc ms free) (F0 m pc ls rest) := by
  intro T hT X
  have htr : e.platform.stackTraces = false := (show e.platform.stackTraces = l.stackTraces by rw [X.admits.platform]).trans hl
  have Y := vx_rebase X (R' := { frames := R.frames, locals := R.locals, cells := 1, slots := 6 }) (Nat.le_refl _) (Nat.le_refl _) hRcells hRslots
  obtain ⟨s', hA⟩ : ∃ z, z = (T.setVm s.vm).setFrames (.invoking m args :: below) := ⟨_, rfl⟩
  rw [← hA] at Y
  have hvm : s'.vm = s.vm := by rw [hA]; rfl
  have hhp : s'.heap = H := by rw [hA]; exact hT
  have hW0 : s.WarmedH s'.vm := by rw [hvm]; exact State.WarmedH.refl s
  have hat' : ∀ w ∈ vx_at0 own ic cls names, w.before args s' = true := fun w hw => vx_ot_at hW0 hvm.symm (hgood w (List.mem_cons_of_mem _ (List.mem_cons_of_mem _ hw))) (hat w hw)
  have hk' : (Cond.classLink own ik cls).before args s' = true := vx_ot_at hW0 hvm.symm (hgood _ List.mem_cons_self) hk
  have hini' : (Cond.initialized cls).before args s' = true := vx_ot_at hW0 hvm.symm (hgood _ (List.mem_cons_of_mem _ List.mem_cons_self)) hini
  have hU' : vx_Zq Bundle.tN "UNASSIGNED_STACK" Bundle.steD A s' s'.heap := by rw [hhp]; exact vx_Zq.moved hW0.alike (hU.kept hS.2.1)
  have hN' : vx_Zq Bundle.tN "SUPPRESSED_SENTINEL" Bundle.listD A s' s'.heap := by rw [hhp]; exact vx_Zq.moved hW0.alike (hN.kept hS.2.1)
  have h : ∀ w ∈ Bundle.ownAtoms0 own ic cls names, w.before args s' = true := vx_own hat' (vx_isRefq hU'.1) (vx_isRefq hN'.1) hU'.2.word hN'.2.word
  have hown' : s'.vm.findClass own = some m.cls := by rw [hvm]; exact hown
  have hins : (Cond.instantiable cls 6).before args s' = true := h _ (by simp [Bundle.ownAtoms0])
  obtain ⟨vm₁, cX, kX, hfX, hkX, -, -, X₁, st1⟩ := Y.newCold hexec (own := own) (C := cls) (index := ik) (n := 6) hown' hk' hins hini'
    (g := F0 m pc ls rest) rfl (by rw [hb]; exact d0) (Nat.le_refl _) (Nat.le_refl _)
  generalize hT1 : (T.setVm vm₁).pushCell { cls := cX, slots := kX.instanceTypes.map defaultValue, vm := .none } = T1 at X₁ st1
  have hcat : (Value.ref T.heap.size).category = 1 := rfl
  have hcellA : T1.heap[T.heap.size]? = some (freshCell cX kX) := by rw [← hT1]; exact State.heap_pushCell_size _ _
  have d3' : decode c.code (pc + 3) = .ok (.dup, 1) := by rw [hb]; exact d3
  obtain ⟨U, hsteps, hrun, hend, hW, hsame, ce, hce, hO⟩ := X₁.ctorThrow0 hexec htr (own := own) (cls := cls) (names := names) (ic := ic) hown' hcls hnames h (fun x hx => nomatch hx) hfX hkX hcellA (by rw [hhp, hT]; exact Nat.le_refl _)
    (g := { method := m, pc := pc + 4, locals := ls, stack := .ref T.heap.size :: .ref T.heap.size :: rest, locked := none }) rfl hsize rfl rfl (rest := rest) rfl
    (by rw [hb]; exact d4) (by rw [hb]; exact d7) hout hRframes (by simp only [List.map_cons, List.sum_cons, hcat]; omega) hlocks
  obtain ⟨f1, f2⟩ := vx_frame hsame
  rw [hhp] at f1 f2
  have hWs : s.WarmedH U.vm := State.WarmedH.trans hW0 hW
  have hcl : s.vm.findClass cls = some ce.cls := by
    have h9 := hO.cls
    rw [hvm] at h9
    exact h9
  have hall : s.sameButNew ({ U with vm := s.vm } : State) locs mc ms := by
    subst hA
    obtain ⟨e1, e2⟩ := hsame
    rw [State.setFrames_setFrames] at e1
    have h2 : (T.setVm s.vm).sameButNew ({ U with vm := s.vm } : State) [] (0 + 1) (0 + 6) := ⟨e1, e2⟩
    have h3 := X.same.trans h2
    rw [List.append_nil] at h3
    exact h3.mono hc hs
  refine ⟨U, ?_, .threw T.heap.size, hrun, hend, Or.inr ⟨T.heap.size, rfl, cls, ce, locs, hx U hWs.alike f1 (fun q hq => f2 q hq (fun z hz => nomatch hz)), hce, hO.vm, hcl, hWs, hall, hf⟩⟩
  refine st1 _ ?_
  show Steps p.tables e below (T1.setTop { method := m, pc := pc + 3, locals := ls, stack := .ref T.heap.size :: rest, locked := none }) _
  jvm_step X₁.here [X₁.here.top, hexec, d3', Value.category]
  exact hsteps
/-- 'throw new E("text")': new; dup; ldc; invokespecial; athrow -/
theorem vx_throwS {cc : ByteArray} {pc : Nat} (hexec : p.tables.exec = Jvm.exec) (hb : c.code = cc) (hl : l.stackTraces = false) {own cls text : String} {names : List String} {ik is ic mc ms sa : Nat} {A : Nat → Prop}
    (hown : s.vm.findClass own = some m.cls) (hcls : Bundle.fit cls = true) (hnames : ∀ n ∈ names, Bundle.fit n = true)
    (hk : (Cond.classLink own ik cls).before args s = true) (hini : (Cond.initialized cls).before args s = true) (hstr : vk_R own is text sa s) (hat : ∀ w ∈ vx_atS own ic cls names, w.before args s = true)
    (hgood : ∀ w ∈ Cond.classLink own ik cls :: Cond.initialized cls :: vx_atS own ic cls names, vx_ot w = true)
    (hU : vx_Zq Bundle.tN "UNASSIGNED_STACK" Bundle.steD A s s.heap) (hN : vx_Zq Bundle.tN "SUPPRESSED_SENTINEL" Bundle.listD A s s.heap) (hS : va_S A s.heap H locs) (hsize : ls.size = c.maxLocals)
    (d0 : decode cc pc = .ok (.new ik, 3)) (d3 : decode cc (pc + 3) = .ok (.dup, 1)) (d4 : decode cc (pc + 4) = .ok (.ldc is, 2)) (d6 : decode cc (pc + 6) = .ok (.invokespecial ic, 3)) (d9 : decode cc (pc + 9) = .ok (.athrow, 1))
    (hout : ∀ x ∈ c.exceptionTable.toList, covers x (pc + 9) = false)
    (hRframes : names.length + 3 < R.frames) (hRlocals : (rest.map fun v => v.category).sum + (13 * (names.length + 1) + 43) ≤ R.locals) (hRcells : cells + 1 ≤ R.cells) (hRslots : slots + 6 ≤ R.slots) (hlocks : meth.locks = false)
    (hx : ∀ t : State, s.vm.Alike t.vm → H.size ≤ t.heap.size → (∀ q : Nat, q < H.size → t.heap[q]? = H[q]?) → XC cls s t)
    (hf : ∀ z ∈ locs, free z.base) (hc : cells + 1 ≤ mc) (hs : slots + 6 ≤ ms) :
    W p l e R s m args below meth c H locs cells slots (vx_MQ below Qc XC args s mc ms free) (F0 m pc ls rest) := by
  intro T hT X
  have htr : e.platform.stackTraces = false := (show e.platform.stackTraces = l.stackTraces by rw [X.admits.platform]).trans hl
  have Y := vx_rebase X (R' := { frames := R.frames, locals := R.locals, cells := 1, slots := 6 }) (Nat.le_refl _) (Nat.le_refl _) hRcells hRslots
  obtain ⟨s', hA⟩ : ∃ z, z = (T.setVm s.vm).setFrames (.invoking m args :: below) := ⟨_, rfl⟩
  rw [← hA] at Y
  have hvm : s'.vm = s.vm := by rw [hA]; rfl
  have hhp : s'.heap = H := by rw [hA]; exact hT
  have hW0 : s.WarmedH s'.vm := by rw [hvm]; exact State.WarmedH.refl s
  have hat' : ∀ w ∈ vx_atS own ic cls names, w.before args s' = true := fun w hw => vx_ot_at hW0 hvm.symm (hgood w (List.mem_cons_of_mem _ (List.mem_cons_of_mem _ hw))) (hat w hw)
  have hk' : (Cond.classLink own ik cls).before args s' = true := vx_ot_at hW0 hvm.symm (hgood _ List.mem_cons_self) hk
  have hini' : (Cond.initialized cls).before args s' = true := vx_ot_at hW0 hvm.symm (hgood _ (List.mem_cons_of_mem _ List.mem_cons_self)) hini
  have hU' : vx_Zq Bundle.tN "UNASSIGNED_STACK" Bundle.steD A s' s'.heap := by rw [hhp]; exact vx_Zq.moved hW0.alike (hU.kept hS.2.1)
  have hN' : vx_Zq Bundle.tN "SUPPRESSED_SENTINEL" Bundle.listD A s' s'.heap := by rw [hhp]; exact vx_Zq.moved hW0.alike (hN.kept hS.2.1)
  have h : ∀ w ∈ Bundle.ownAtoms own ic cls names, w.before args s' = true := vx_own hat' (vx_isRefq hU'.1) (vx_isRefq hN'.1) hU'.2.word hN'.2.word
  have hown' : s'.vm.findClass own = some m.cls := by rw [hvm]; exact hown
  have hins : (Cond.instantiable cls 6).before args s' = true := h _ (by simp [Bundle.ownAtoms])
  obtain ⟨vm₁, cX, kX, hfX, hkX, -, -, X₁, st1⟩ := Y.newCold hexec (own := own) (C := cls) (index := ik) (n := 6) hown' hk' hins hini'
    (g := F0 m pc ls rest) rfl (by rw [hb]; exact d0) (Nat.le_refl _) (Nat.le_refl _)
  generalize hT1 : (T.setVm vm₁).pushCell { cls := cX, slots := kX.instanceTypes.map defaultValue, vm := .none } = T1 at X₁ st1
  have hcat : (Value.ref T.heap.size).category = 1 := rfl
  have hcellA : T1.heap[T.heap.size]? = some (freshCell cX kX) := by rw [← hT1]; exact State.heap_pushCell_size _ _
  have d3' : decode c.code (pc + 3) = .ok (.dup, 1) := by rw [hb]; exact d3
  have d4' : decode c.code (pc + 4) = .ok (.ldc is, 2) := by rw [hb]; exact d4
  have hstr' : vk_R own is text sa s' := vk_R.warm hW0 hstr
  obtain ⟨U, hsteps, hrun, hend, hW, hsame, ce, hce, hO⟩ := X₁.ctorThrowS hexec htr (own := own) (cls := cls) (names := names) (ic := ic) hown' hcls hnames h (fun x hx => nomatch hx) hfX hkX hcellA (by rw [hhp, hT]; exact Nat.le_refl _) (msg := .ref sa) rfl
    (g := { method := m, pc := pc + 6, locals := ls, stack := .ref sa :: .ref T.heap.size :: .ref T.heap.size :: rest, locked := none }) rfl hsize rfl rfl (rest := rest) rfl
    (by rw [hb]; exact d6) (by rw [hb]; exact d9) hout hRframes (by simp only [List.map_cons, List.sum_cons, hcat]; omega) hlocks
  obtain ⟨f1, f2⟩ := vx_frame hsame
  rw [hhp] at f1 f2
  have hWs : s.WarmedH U.vm := State.WarmedH.trans hW0 hW
  have hcl : s.vm.findClass cls = some ce.cls := by
    have h9 := hO.cls
    rw [hvm] at h9
    exact h9
  have hall : s.sameButNew ({ U with vm := s.vm } : State) locs mc ms := by
    subst hA
    obtain ⟨e1, e2⟩ := hsame
    rw [State.setFrames_setFrames] at e1
    have h2 : (T.setVm s.vm).sameButNew ({ U with vm := s.vm } : State) [] (0 + 1) (0 + 6) := ⟨e1, e2⟩
    have h3 := X.same.trans h2
    rw [List.append_nil] at h3
    exact h3.mono hc hs
  refine ⟨U, ?_, .threw T.heap.size, hrun, hend, Or.inr ⟨T.heap.size, rfl, cls, ce, locs, hx U hWs.alike f1 (fun q hq => f2 q hq (fun z hz => nomatch hz)), hce, hO.vm, hcl, hWs, hall, hf⟩⟩
  refine st1 _ ?_
  show Steps p.tables e below (T1.setTop { method := m, pc := pc + 3, locals := ls, stack := .ref T.heap.size :: rest, locked := none }) _
  jvm_step X₁.here [X₁.here.top, hexec, d3', Value.category]
  exact X₁.ldcString hexec (own := own) (text := text) (index := is) (a := sa) hown' hstr'.1 hstr'.2
    (g := { method := m, pc := pc + 4, locals := ls, stack := .ref T.heap.size :: .ref T.heap.size :: rest, locked := none }) rfl d4' _ hsteps
/-- 'throw new E("text")', the text by a wide index -/
theorem vx_throwSW {cc : ByteArray} {pc : Nat} (hexec : p.tables.exec = Jvm.exec) (hb : c.code = cc) (hl : l.stackTraces = false) {own cls text : String} {names : List String} {ik is ic mc ms sa : Nat} {A : Nat → Prop}
    (hown : s.vm.findClass own = some m.cls) (hcls : Bundle.fit cls = true) (hnames : ∀ n ∈ names, Bundle.fit n = true)
    (hk : (Cond.classLink own ik cls).before args s = true) (hini : (Cond.initialized cls).before args s = true) (hstr : vk_R own is text sa s) (hat : ∀ w ∈ vx_atS own ic cls names, w.before args s = true)
    (hgood : ∀ w ∈ Cond.classLink own ik cls :: Cond.initialized cls :: vx_atS own ic cls names, vx_ot w = true)
    (hU : vx_Zq Bundle.tN "UNASSIGNED_STACK" Bundle.steD A s s.heap) (hN : vx_Zq Bundle.tN "SUPPRESSED_SENTINEL" Bundle.listD A s s.heap) (hS : va_S A s.heap H locs) (hsize : ls.size = c.maxLocals)
    (d0 : decode cc pc = .ok (.new ik, 3)) (d3 : decode cc (pc + 3) = .ok (.dup, 1)) (d4 : decode cc (pc + 4) = .ok (.ldc_w is, 3)) (d7 : decode cc (pc + 7) = .ok (.invokespecial ic, 3)) (d10 : decode cc (pc + 10) = .ok (.athrow, 1))
    (hout : ∀ x ∈ c.exceptionTable.toList, covers x (pc + 10) = false)
    (hRframes : names.length + 3 < R.frames) (hRlocals : (rest.map fun v => v.category).sum + (13 * (names.length + 1) + 43) ≤ R.locals) (hRcells : cells + 1 ≤ R.cells) (hRslots : slots + 6 ≤ R.slots) (hlocks : meth.locks = false)
    (hx : ∀ t : State, s.vm.Alike t.vm → H.size ≤ t.heap.size → (∀ q : Nat, q < H.size → t.heap[q]? = H[q]?) → XC cls s t)
    (hf : ∀ z ∈ locs, free z.base) (hc : cells + 1 ≤ mc) (hs : slots + 6 ≤ ms) :
    W p l e R s m args below meth c H locs cells slots (vx_MQ below Qc XC args s mc ms free) (F0 m pc ls rest) := by
  intro T hT X
  have htr : e.platform.stackTraces = false := (show e.platform.stackTraces = l.stackTraces by rw [X.admits.platform]).trans hl
  have Y := vx_rebase X (R' := { frames := R.frames, locals := R.locals, cells := 1, slots := 6 }) (Nat.le_refl _) (Nat.le_refl _) hRcells hRslots
  obtain ⟨s', hA⟩ : ∃ z, z = (T.setVm s.vm).setFrames (.invoking m args :: below) := ⟨_, rfl⟩
  rw [← hA] at Y
  have hvm : s'.vm = s.vm := by rw [hA]; rfl
  have hhp : s'.heap = H := by rw [hA]; exact hT
  have hW0 : s.WarmedH s'.vm := by rw [hvm]; exact State.WarmedH.refl s
  have hat' : ∀ w ∈ vx_atS own ic cls names, w.before args s' = true := fun w hw => vx_ot_at hW0 hvm.symm (hgood w (List.mem_cons_of_mem _ (List.mem_cons_of_mem _ hw))) (hat w hw)
  have hk' : (Cond.classLink own ik cls).before args s' = true := vx_ot_at hW0 hvm.symm (hgood _ List.mem_cons_self) hk
  have hini' : (Cond.initialized cls).before args s' = true := vx_ot_at hW0 hvm.symm (hgood _ (List.mem_cons_of_mem _ List.mem_cons_self)) hini
  have hU' : vx_Zq Bundle.tN "UNASSIGNED_STACK" Bundle.steD A s' s'.heap := by rw [hhp]; exact vx_Zq.moved hW0.alike (hU.kept hS.2.1)
  have hN' : vx_Zq Bundle.tN "SUPPRESSED_SENTINEL" Bundle.listD A s' s'.heap := by rw [hhp]; exact vx_Zq.moved hW0.alike (hN.kept hS.2.1)
  have h : ∀ w ∈ Bundle.ownAtoms own ic cls names, w.before args s' = true := vx_own hat' (vx_isRefq hU'.1) (vx_isRefq hN'.1) hU'.2.word hN'.2.word
  have hown' : s'.vm.findClass own = some m.cls := by rw [hvm]; exact hown
  have hins : (Cond.instantiable cls 6).before args s' = true := h _ (by simp [Bundle.ownAtoms])
  obtain ⟨vm₁, cX, kX, hfX, hkX, -, -, X₁, st1⟩ := Y.newCold hexec (own := own) (C := cls) (index := ik) (n := 6) hown' hk' hins hini'
    (g := F0 m pc ls rest) rfl (by rw [hb]; exact d0) (Nat.le_refl _) (Nat.le_refl _)
  generalize hT1 : (T.setVm vm₁).pushCell { cls := cX, slots := kX.instanceTypes.map defaultValue, vm := .none } = T1 at X₁ st1
  have hcat : (Value.ref T.heap.size).category = 1 := rfl
  have hcellA : T1.heap[T.heap.size]? = some (freshCell cX kX) := by rw [← hT1]; exact State.heap_pushCell_size _ _
  have d3' : decode c.code (pc + 3) = .ok (.dup, 1) := by rw [hb]; exact d3
  have d4' : decode c.code (pc + 4) = .ok (.ldc_w is, 3) := by rw [hb]; exact d4
  have hstr' : vk_R own is text sa s' := vk_R.warm hW0 hstr
  obtain ⟨U, hsteps, hrun, hend, hW, hsame, ce, hce, hO⟩ := X₁.ctorThrowS hexec htr (own := own) (cls := cls) (names := names) (ic := ic) hown' hcls hnames h (fun x hx => nomatch hx) hfX hkX hcellA (by rw [hhp, hT]; exact Nat.le_refl _) (msg := .ref sa) rfl
    (g := { method := m, pc := pc + 7, locals := ls, stack := .ref sa :: .ref T.heap.size :: .ref T.heap.size :: rest, locked := none }) rfl hsize rfl rfl (rest := rest) rfl
    (by rw [hb]; exact d7) (by rw [hb]; exact d10) hout hRframes (by simp only [List.map_cons, List.sum_cons, hcat]; omega) hlocks
  obtain ⟨f1, f2⟩ := vx_frame hsame
  rw [hhp] at f1 f2
  have hWs : s.WarmedH U.vm := State.WarmedH.trans hW0 hW
  have hcl : s.vm.findClass cls = some ce.cls := by
    have h9 := hO.cls
    rw [hvm] at h9
    exact h9
  have hall : s.sameButNew ({ U with vm := s.vm } : State) locs mc ms := by
    subst hA
    obtain ⟨e1, e2⟩ := hsame
    rw [State.setFrames_setFrames] at e1
    have h2 : (T.setVm s.vm).sameButNew ({ U with vm := s.vm } : State) [] (0 + 1) (0 + 6) := ⟨e1, e2⟩
    have h3 := X.same.trans h2
    rw [List.append_nil] at h3
    exact h3.mono hc hs
  refine ⟨U, ?_, .threw T.heap.size, hrun, hend, Or.inr ⟨T.heap.size, rfl, cls, ce, locs, hx U hWs.alike f1 (fun q hq => f2 q hq (fun z hz => nomatch hz)), hce, hO.vm, hcl, hWs, hall, hf⟩⟩
  refine st1 _ ?_
  show Steps p.tables e below (T1.setTop { method := m, pc := pc + 3, locals := ls, stack := .ref T.heap.size :: rest, locked := none }) _
  jvm_step X₁.here [X₁.here.top, hexec, d3', Value.category]
  exact X₁.ldcStringW hexec (own := own) (text := text) (index := is) (a := sa) hown' hstr'.1 hstr'.2
    (g := { method := m, pc := pc + 4, locals := ls, stack := .ref T.heap.size :: .ref T.heap.size :: rest, locked := none }) rfl d4' _ hsteps
end Ends
section Bodies
variable {l : Launch}
theorem vx_ofW {y : MethodName} {ws ws' : List Cond} {rm : Room} {Pc : Array Value → State → Prop} {Qc : Array Value → State → Outcome → State → Prop} {XC : String → State → State → Prop} {mc ms : Nat} {free : Addr → Prop} {cc : ByteArray} {maxL : Nat} {ret : Option FieldType}
    (hy : plainName y.cls = true) (hw : ws = Cond.code y cc maxL ret :: ws')
    (body : ∀ p e s m args below meth c s₁, BodyLoose p l y (headSpec ws rm) cc maxL ret e s m args below meth c s₁ → c.maxLocals = maxL → (∀ x ∈ c.exceptionTable.toList, False) → Pc args s →
      W p l e (headSpec ws rm).room s m args below meth c s.heap [] 0 0 (vx_MQ below Qc XC args s mc ms free) (entryFrame m args maxL)) : vx_Met l y ws rm Pc Qc XC mc ms free := by
  refine MetFree.of_bodyS (code := cc) (maxLocals := maxL) (ret := ret) hy ?_ ?_
  · intro args s m h hn
    obtain ⟨meth, c, h1, h2, h3, h4, h5, h6, -, -⟩ := Cond.code_spec hn (atoms_spec (ws := ws) h _ (by rw [hw]; exact List.mem_cons_self))
    exact ⟨meth, c, h1, h2, h3, h4, h5, h6⟩
  · intro p e s m args below meth c s₁ B hml hP _
    have hh0 : s₁.heap = s.heap := by rw [B.state]; rfl
    have ht : ∀ x ∈ c.exceptionTable.toList, False := by
      obtain ⟨meth9, c9, h1, h2, -, -, -, -, h7, -⟩ := Cond.code_spec B.named (atoms_spec (ws := ws) B.pre _ (by rw [hw]; exact List.mem_cons_self))
      cases Option.some.inj (h1.symm.trans B.method)
      cases Option.some.inj (h2.symm.trans (Stand.of_body B).code)
      intro x hx
      rw [Array.isEmpty_iff.mp h7] at hx
      cases hx
    obtain ⟨t, a1, o, b1, b2, b3⟩ := body p e s m args below meth c s₁ B hml ht hP s₁ hh0 (Stand.of_body B)
    exact ⟨t, o, a1, b1, b2, b3⟩
/-- the table of a body with handlers -/
theorem vx_table {p : Program} {x y : MethodName} {S : Spec} {cc bytes : ByteArray} {maxL maxL' : Nat} {ret ret' : Option FieldType} {e : Env} {s s₁ : State} {m : MethodId} {args : Array Value} {below : List Frame} {meth : Method} {c : Code} {hh : List (Nat × Nat × Nat × Nat)}
    (B : BodyLoose p l y S cc maxL ret e s m args below meth c s₁) (h : (Cond.codeWith y bytes maxL' ret' hh).before args s = true) : c.exceptionTable.toList = tableOf hh := by
  obtain ⟨m9, meth9, c9, hn9, h1, h2, -, -, h6, -⟩ := Cond.codeWith_spec h
  cases Option.some.inj (hn9.symm.trans B.named)
  cases Option.some.inj (h1.symm.trans B.method)
  cases Option.some.inj (h2.symm.trans (Stand.of_body B).code)
  rw [← h6, table_eq]
end Bodies
end VXA
/-! ===== END ===== -/
/-! ===== BEGIN a static call of a method with an exception table ===== -/
section VXS
variable {p : Program} {l : Launch} {e : Env} {R : Room} {s : State} {m : MethodId} {args : Array Value} {below : List Frame} {meth : Method} {c : Code} {T : State} {H : Heap} {locs : List Loc} {cells slots : Nat}
abbrev vx_CSW (R : Room) (s : State) (args : Array Value) (own : String) (index : Nat) (y : MethodName) (bytes : ByteArray) (maxL : Nat) (ret : Option FieldType) (hh : List (Nat × Nat × Nat × Nat)) (ws : List Cond) (rm : Room) (mc ms n : Nat) : Prop :=
  (rm.cells = mc ∧ rm.slots = ms ∧ rm.frames + 1 ≤ R.frames ∧ 8 + (maxL + 11) + rm.locals ≤ R.locals ∧ (∀ w ∈ ws, ∀ (a' : Array Value) (U : State), s.WarmedH U.vm → w.before a' U = true) ∧ Cond.codeWith y bytes maxL ret hh ∈ ws) ∧
  (Cond.codeWith y bytes maxL ret hh).before args s = true ∧ (Cond.initialized y.cls).before args s = true ∧ (y.cls ≠ "java/lang/invoke/MethodHandle" ∧ y.cls ≠ "java/lang/invoke/VarHandle") ∧
  (∀ sig, parseMethodDescriptor y.desc = some sig → n = sig.parameters.length) ∧ (Cond.methodLink own index y).before args s = true ∧ (Cond.static y).before args s = true
theorem vx_cwSW {own : String} {index maxL mc ms : Nat} {y : MethodName} {bytes : ByteArray} {ret : Option FieldType} {hh : List (Nat × Nat × Nat × Nat)} {Ts ws ws' : List Cond} {rm : Room} (n : Nat) (ht : ∀ w ∈ Ts, w.before args s = true) (hT : GoodIn Ts (va_wsS own index y ws)) (hw : ws = Cond.codeWith y bytes maxL ret hh :: ws') (hrc : rm.cells = mc) (hrs : rm.slots = ms)
    (hd : y.cls ≠ "java/lang/invoke/MethodHandle" ∧ y.cls ≠ "java/lang/invoke/VarHandle" ∧ (parseMethodDescriptor y.desc).map (fun d => d.parameters.length) = some n) (hR : rm.frames + 1 ≤ R.frames ∧ 8 + (maxL + 11) + rm.locals ≤ R.locals) :
    vx_CSW R s args own index y bytes maxL ret hh ws rm mc ms n := by
  have ok : ∀ w ∈ va_wsS own index y ws, w.before args s = true := fun w h => ht w (hT w h).1
  have hG : GoodIn Ts ws := fun w h => hT w (by unfold va_wsS; exact List.mem_append_right _ h)
  have hc : Cond.codeWith y bytes maxL ret hh ∈ ws := by rw [hw]; exact List.mem_cons_self
  refine ⟨⟨hrc, hrs, hR.1, hR.2, pay_in ht hG, hc⟩, ht _ (hG _ hc).1, ok _ (by simp [va_wsS]), ⟨hd.1, hd.2.1⟩, fun sig h => ?_, ok _ (by simp [va_wsS]), ok _ (by simp [va_wsS])⟩
  have h2 := hd.2.2
  rw [h] at h2
  exact (Option.some.inj h2).symm
theorem vx_callSW (X : Stand p l e R s m args below meth c T locs cells slots) (hexec : p.tables.exec = Jvm.exec) {own : String} {index : Nat} {y : MethodName} {bytes : ByteArray} {maxL : Nat} {ret : Option FieldType} {hh : List (Nat × Nat × Nat × Nat)}
    (hown : s.vm.findClass own = some m.cls) (hlink : (Cond.methodLink own index y).before args s = true) (hstat : (Cond.static y).before args s = true) (hinit : (Cond.initialized y.cls).before args s = true)
    (hcode : (Cond.codeWith y bytes maxL ret hh).before args s = true) (hy : y.cls ≠ "java/lang/invoke/MethodHandle" ∧ y.cls ≠ "java/lang/invoke/VarHandle")
    {W9 : Nat} {Pre : Pt → Array Value → Prop} {Post : Pt → Array Value → Option Value → Pt → Prop} (hK : Back l R p e below s args y 3 W9 Pre Post)
    {g : JFrame} (hg : g.method = m) (hsize : g.locals.size = c.maxLocals) {argsL rest : List Value} (hlen : ∀ sig, parseMethodDescriptor y.desc = some sig → argsL.length = sig.parameters.length)
    (hstack : g.stack = argsL.reverse ++ rest) (hW : 2 * g.monitorRoom + (rest.map fun v => v.category).sum ≤ W9) (hdg : decode c.code g.pc = .ok (.invokestatic index, 3))
    (hpre : ∀ vm₁, s.WarmedH vm₁ → Pre ⟨T.setVm vm₁, locs, cells, slots⟩ argsL.toArray) :
    ∃ (v : Option Value) (vm₁ : Vm) (B : Pt), s.WarmedH vm₁ ∧ Stand p l e R s m args below meth c B.U B.locs B.cells B.slots ∧ Post ⟨T.setVm vm₁, locs, cells, slots⟩ argsL.toArray v B ∧
      ∀ target, Steps p.tables e below (B.U.setTop { g with pc := g.pc + 3, stack := v.toList ++ rest }) target → Steps p.tables e below (T.setTop g) target := by
  obtain ⟨mk, methM, cM, hnamed, hmethM, -, -, -, -, -, -, hsigM⟩ := Cond.codeWith_spec hcode
  have hstatic : methM.isStatic = true := Cond.static_spec hnamed hmethM hstat
  obtain ⟨kP, hkP, -⟩ := className_of_methodNamed hnamed
  have hinitP : kP.init = .initialized := Cond.initialized_spec (findClass_of_methodNamed hnamed) hkP hinit
  obtain ⟨vm₁, X₁, hstep₁⟩ := X.invokestatic hexec hown hlink hnamed hmethM hstatic hkP hinitP hy (g := g) hg (argsL := argsL) (rest := rest) (hlen _ hsigM) hstack hdg
  obtain ⟨v, B, X', hpost, hsteps⟩ := hK m meth c ⟨T.setVm vm₁, locs, cells, slots⟩ { g with stack := rest } (.invokestatic index) mk argsL.toArray X₁ hg hsize hdg hW (X₁.named hnamed) (hpre vm₁ X₁.warmed)
  exact ⟨v, vm₁, B, X₁.warmed, X', hpost, fun target h => hstep₁ _ fun acts => by rw [doInvoke_state]; exact hsteps.trans h⟩
theorem vx_runSW {y : MethodName} {bytes cc : ByteArray} {maxL nL mc ms n index : Nat} {ret : Option FieldType} {hh : List (Nat × Nat × Nat × Nat)} {ws : List Cond} {rm : Room} {Pc : Array Value → State → Prop} {Qc : Array Value → State → Outcome → State → Prop} {free : Addr → Prop} {Ts : List Cond} {own : String} {As rest : List Value} {g : JFrame}
    (S : CallFix p m c cc nL s args Ts own) (hM : Met l y ws rm Pc Qc mc ms free) (cw : vx_CSW R s args own index y bytes maxL ret hh ws rm mc ms n) (hp : PreS s H Pc As)
    (hg : g.method = m) (hn : As.length = n) (hsize : g.locals.size = nL) (hstack : g.stack = As.reverse ++ rest) (hW : 2 * g.monitorRoom + (rest.map fun v => v.category).sum ≤ 8) (hdg : decode cc g.pc = .ok (.invokestatic index, 3)) (hf : cells + mc ≤ R.cells ∧ slots + ms ≤ R.slots) :
    va_Run p l e R s m args below meth c H locs cells slots mc ms g rest (Qc As.toArray) (free) := by
  obtain ⟨⟨hrc, hrs, hfr, hlo, hws, hcw⟩, hcode, hini, hy, hlen, hl, hstt⟩ := cw
  have hK : Back l R p e below s args y 3 8 (PreOf R mc ms Pc) (PostOf Qc mc ms free) := va_backW (hh := hh) (bytes := bytes) (maxL := maxL) (ret := ret) hM hp.1 hrc hrs hfr hlo hws hcw (fun a' U hW => word_at hW (Or.inl (by first | rfl | simp [Cond.onTables, Cond.keeps, Cond.steady])) hini)
  obtain ⟨hx, hb, hml, ho, -⟩ := S
  intro T hT X
  obtain ⟨v, vm₁, ⟨U', l2, c2, s2⟩, hW₁, X', ⟨g', mk, t, L, e1, e2, hq, h1, hL, h2, h3⟩, st⟩ := vx_callSW X hx (hh := hh) (bytes := bytes) (maxL := maxL) (ret := ret) ho hl hstt hini hcode hy hK hg (hsize.trans hml.symm) (argsL := As) (rest := rest) (fun sig h => hn.trans (hlen sig h)) hstack hW (by rw [hb]; exact hdg)
    (fun vm₁ hW₁ => ⟨hf.1, hf.2, hp.2 (T.setVm vm₁) hT hW₁⟩)
  dsimp only [Pt.U, Pt.locs, Pt.cells, Pt.slots] at X' e1 e2 h1 h2 h3 st
  subst h1; subst h2; subst h3
  exact ⟨v, (T.setVm vm₁).calling g' mk As.toArray, t, U', L, hT, X', hL, e1, e2, hq, st⟩
/-- not caught here, past rows that name other classes: it goes on to the caller -/
theorem vx_outP {p : Program} {l : Launch} {e : Env} {R : Room} {s : State} {m : MethodId} {args : Array Value} {below : List Frame} {meth : Method} {c : Code} {H : Heap} {locs : List Loc} {cells slots : Nat} {free : Addr → Prop} {ls : Array Slot} {rest : List Value} {Qc : Array Value → State → Outcome → State → Prop} {XC : String → State → State → Prop}
    {pc : Nat} {own E : String} {ce : Cell} {q : Addr} {mc ms : Nat} (hown : s.vm.findClass own = some m.cls) (hlocks : meth.locks = false)
    (hpass : ∀ z ∈ c.exceptionTable.toList, covers z pc = false ∨ (z.catchType ≠ 0 ∧ ∃ nm : String, (Cond.classLink own z.catchType nm).before args s = true ∧ va_Nc E nm s)) (hcell : H[q]? = some ce) (hv : ce.vm = .none) (hcl : s.vm.findClass E = some ce.cls)
    (hx : ∀ t : State, t.heap = H → s.vm.Alike t.vm → XC E s t) (hf : ∀ z ∈ locs, free z.base) (hc : cells ≤ mc) (hs : slots ≤ ms) :
    vx_W p l e R s m args below meth c H locs cells slots (vx_MQ below Qc XC args s mc ms free) (F0 m pc ls rest) q := by
  intro T hT X
  have hpl : e.platform.magicAccessors = ({} : Platform).magicAccessors := by rw [X.admits.platform]
  obtain ⟨vm', hW', X', st⟩ := X.outThrough hlocks q (g := F0 m pc ls rest) rfl rfl rfl (cell := ce) (by rw [hT]; exact hcell) (by rw [hv]; rfl)
    (by obtain ⟨k9, h9, -⟩ := Vm.findClass_spec hcl; exact ⟨k9, h9⟩) (fun z hz => by
      rcases hpass z hz with h | ⟨hz0, nm, hl1, hn1⟩
      · exact Or.inl h
      · obtain ⟨c6, hc6, hcl6⟩ := Cond.classLink_spec hown hl1 e.platform hpl
        obtain ⟨a8, b8, h1, h2, h3⟩ := hn1
        cases Option.some.inj (h1.symm.trans hcl)
        cases Option.some.inj (h2.symm.trans hc6)
        exact Or.inr ⟨hz0, _, hcl6, h3⟩)
  obtain ⟨g₀, hfr⟩ := X'.frames_eq
  have hcell9 : ((T.setVm vm').setFrames (.throwing q :: below)).heap[q]? = some ce := by
    show T.heap[q]? = some ce
    rw [hT]; exact hcell
  have hend : Ended ((T.setVm vm').setFrames (.throwing q :: below)) below (.threw q) := State.frames_setFrames _ (State.cur_lt_of_frames hfr)
  refine ⟨(T.setVm vm').setFrames (.throwing q :: below), ?_, .threw q, X'.here.running, hend, Or.inr ⟨q, rfl, E, ce, locs, hx _ hT (X'.ends _).1.alike, hcell9, hv, hcl, (X'.ends _).1, (X'.ends _).2.mono hc hs, hf⟩⟩
  rw [X.pushThrowing_eq]
  exact st
/-- a thing of a world lies in the heap -/
theorem vx_lt {D : va_G} {cl : List vw_C} {ws : va_W} {H1 : Heap} (h : va_P D cl ws H1) {k : Nat} {q : Nat × va_E} (hk : ws[k]? = some q) : q.1 < H1.size := (h k q hk).lt
end VXS
/-! ===== END ===== -/
/-! ===== BEGIN methods with a table of their own: called by a name, returning or throwing ===== -/
section VXH
/-! vx_backW, vx_callVX, vx_callSX, vx_callVW, vx_runVW, vx_runVX, vx_runSX, vx_ofWH follow the same proofs as their sisters above (Free/Laws.lean, Shelf42/LK1.lean); vx_outP calls Shelf42/NT130.lean (outThrough). -/
section
variable {l : Launch} {R : Room} {p : Program} {e : Env} {below : List Frame} {s : State} {sargs : Array Value} {y : MethodName} {len W9 : Nat}
theorem vx_backW {ws : List Cond} {rm : Room} {Pc : Array Value → State → Prop} {Qc : Array Value → State → Outcome → State → Prop} {XC : String → State → State → Prop} {mc ms : Nat} {free : Addr → Prop} {bytes : ByteArray} {maxL : Nat} {ret : Option FieldType} {hh : List (Nat × Nat × Nat × Nat)}
    (hM : vx_Met l y ws rm Pc Qc XC mc ms free) (hblind : FrameBlind Pc) (hrc : rm.cells = mc) (hrs : rm.slots = ms)
    (hframes : rm.frames + 1 ≤ R.frames) (hlocals : W9 + (maxL + 11) + rm.locals ≤ R.locals)
    (hws : ∀ w ∈ ws, ∀ a' U, s.WarmedH U.vm → w.before a' U = true) (hcode : Cond.codeWith y bytes maxL ret hh ∈ ws) (hinit : ∀ a' U, s.WarmedH U.vm → (Cond.initialized y.cls).before a' U = true) :
    vx_Back l R p e below s sargs y len W9 (PreOf R mc ms Pc) (PostOf Qc mc ms free) (vx_Post XC mc ms free) := by
  intro m meth c A g ig mk a X hg hsize hdg hW hn hp
  have h1 : (headSpec ws rm).pre.before a A.U = true := atoms_intro fun w hw => hws w hw _ _ X.warmed
  have h2 : (Cond.codeWith y bytes maxL ret hh).before a A.U = true := hws _ hcode _ _ X.warmed
  have h3 : (Cond.initialized y.cls).before a A.U = true := hinit _ _ X.warmed
  have h4 : A.cells + (headSpec ws rm).room.cells ≤ R.cells := by rw [show (headSpec ws rm).room.cells = mc from hrc]; exact hp.1
  have h5 : A.slots + (headSpec ws rm).room.slots ≤ R.slots := by rw [show (headSpec ws rm).room.slots = ms from hrs]; exact hp.2.1
  have hPc : Pc a (A.U.calling g mk a) := hblind _ _ _ _ hp.2.2
  obtain ⟨U, Ls, c0, s0⟩ := A
  dsimp only [Pt.U, Pt.locs, Pt.cells, Pt.slots] at h1 h2 h3 h4 h5 X hn hPc ⊢
  obtain ⟨m9, methY, cY, hn9, hmY, hcY, -, hlY, -⟩ := Cond.codeWith_spec h2
  cases Option.some.inj (hn9.symm.trans hn)
  obtain ⟨kY, hkY, -⟩ := className_of_methodNamed hn
  have hinitY : kY.init = .initialized := Cond.initialized_spec (findClass_of_methodNamed hn) hkY h3
  have h : At U g.method c below := by rw [hg]; exact X.here
  have hlocals9 : W9 + (maxL + 11) + (headSpec ws rm).room.locals ≤ R.locals := hlocals
  have happ : (headSpec ws rm).appliesLoose y e.platform (U.calling g mk a) = true :=
    Spec.appliesLoose_calling (g := g) h hdg hn hkY hinitY
      (X.room_calling (g := g) (R' := (headSpec ws rm).room) hsize hmY hcY hframes (by rw [hlY]; omega) h4 h5) h1
  obtain ⟨mid, hmid⟩ := h.above
  have hfr : (U.setTop g).frames = (.java g :: mid) ++ below := by rw [State.frames_setTop' g h.top, hmid]; rfl
  obtain ⟨o, s₂, hsteps, -, hend, hq⟩ := Steps.callFree hM p X.admits X.cas X.clock (acts := []) hfr happ hPc trivial
  have hq' : vx_Q Qc XC mc ms free a (U.calling g mk a) o s₂ := hq
  rw [State.frames_setTop' g h.top] at hend
  obtain ⟨g₀, hg0⟩ := Option.isSome_iff_exists.mp h.top
  obtain ⟨r, hr⟩ := State.topJava?_eq_some.mp hg0
  have hr' : (({ U with heap := s₂.heap, slotsUsed := s₂.slotsUsed } : State).setVm s₂.vm).frames = .java g₀ :: r := hr
  rcases hq' with ⟨hqc, L, hfe, hL⟩ | ⟨q, rfl, E, ce, L, hx, hce, hcv, hcl, hW₂, hsm, hL⟩
  · obtain ⟨⟨v, rfl⟩, hW₂, e2, q2, q3, q4, q5, q6⟩ := id hfe
    have e3 : s₂ = ({ (U.calling g mk a).setFrames s₂.frames with heap := s₂.heap, slotsUsed := s₂.slotsUsed } : State).setVm s₂.vm := by
      have : s₂ = ({ s₂ with vm := (U.calling g mk a).vm } : State).setVm s₂.vm := rfl
      rw [e2] at this
      exact this
    obtain ⟨c₂, i₂, len₂, hc₂, hd₂, hf₂⟩ := hend
    have hW' : U.WarmedH s₂.vm := hW₂
    have hcc : c₂ = c := by
      have h1 : s₂.code? g.method = U.code? g.method := by
        rw [State.code?_eq, State.code?_eq, hW'.alike.method?]
      exact Option.some.inj (hc₂.symm.trans (h1.trans h.code))
    subst hcc
    have hlen : len₂ = len := by rw [hdg] at hd₂; cases hd₂; rfl
    subst hlen
    have hs₂ : s₂ = (({ U with heap := s₂.heap, slotsUsed := s₂.slotsUsed } : State).setVm s₂.vm).setTop { g with pc := g.pc + len₂, stack := v.toList ++ g.stack } := by
      refine e3.trans ?_
      rw [hf₂, State.calling_eq h.top, State.setFrames_setFrames, State.setTop_of_frames _ hr', hr]
      rfl
    have hsame : U.sameButNew ({ U with heap := s₂.heap, slotsUsed := s₂.slotsUsed } : State) L mc ms := by
      refine ⟨?_, q2, q3, q4, q5, q6⟩
      obtain ⟨t, ht, -⟩ := State.frames_cons hr
      show ({ U with heap := s₂.heap, slotsUsed := s₂.slotsUsed } : State) = { U.setFrames U.frames with heap := s₂.heap, slotsUsed := s₂.slotsUsed }
      rw [State.setFrames_self ht]
    subst hg
    refine Or.inl ⟨v, ⟨(({ U with heap := s₂.heap, slotsUsed := s₂.slotsUsed } : State).setVm s₂.vm), Ls ++ L, c0 + mc, s0 + ms⟩,
      ⟨X.admits, X.cas, X.clock, X.frames, X.room, X.hears, X.method, X.code, (X.here.setHeapUsed s₂.heap s₂.slotsUsed).setVm hW'.alike, X.tail, State.WarmedH.trans X.warmed hW', X.limits, X.bytes, X.same.trans (hsame.setVm s.vm)⟩,
      ⟨g, mk, s₂, L, rfl, rfl, hqc, rfl, hL, rfl, rfl⟩, ?_⟩
    show Steps p.tables e below _ ((({ U with heap := s₂.heap, slotsUsed := s₂.slotsUsed } : State).setVm s₂.vm).setTop { g with pc := g.pc + len₂, stack := v.toList ++ g.stack })
    rw [← hs₂]
    exact hsteps
  · obtain ⟨e2, q2, q3, q4, q5, q6⟩ := id hsm
    have e3 : s₂ = ({ (U.calling g mk a).setFrames s₂.frames with heap := s₂.heap, slotsUsed := s₂.slotsUsed } : State).setVm s₂.vm := by
      have : s₂ = ({ s₂ with vm := (U.calling g mk a).vm } : State).setVm s₂.vm := rfl
      rw [e2] at this
      exact this
    have hf₂ : s₂.frames = .throwing q :: .java g :: U.frames.tail := hend
    have hW' : U.WarmedH s₂.vm := hW₂
    have hs₂ : s₂ = ((({ U with heap := s₂.heap, slotsUsed := s₂.slotsUsed } : State).setVm s₂.vm).setTop g).pushFrame (.throwing q) := by
      refine e3.trans ?_
      rw [hf₂, State.calling_eq h.top, State.setFrames_setFrames, State.pushFrame, State.frames_setTop _ hr', State.setTop_of_frames _ hr', State.setFrames_setFrames, hr]
      rfl
    have hsame : U.sameButNew ({ U with heap := s₂.heap, slotsUsed := s₂.slotsUsed } : State) L mc ms := by
      refine ⟨?_, q2, q3, q4, q5, q6⟩
      obtain ⟨t, ht, -⟩ := State.frames_cons hr
      show ({ U with heap := s₂.heap, slotsUsed := s₂.slotsUsed } : State) = { U.setFrames U.frames with heap := s₂.heap, slotsUsed := s₂.slotsUsed }
      rw [State.setFrames_self ht]
    subst hg
    refine Or.inr ⟨q, ⟨(({ U with heap := s₂.heap, slotsUsed := s₂.slotsUsed } : State).setVm s₂.vm), Ls ++ L, c0 + mc, s0 + ms⟩,
      ⟨X.admits, X.cas, X.clock, X.frames, X.room, X.hears, X.method, X.code, (X.here.setHeapUsed s₂.heap s₂.slotsUsed).setVm hW'.alike, X.tail, State.WarmedH.trans X.warmed hW', X.limits, X.bytes, X.same.trans (hsame.setVm s.vm)⟩,
      ⟨g, mk, s₂, L, E, ce, rfl, rfl, hx, hce, hcv, hcl, rfl, hL, rfl, rfl⟩, ?_⟩
    show Steps p.tables e below _ (((({ U with heap := s₂.heap, slotsUsed := s₂.slotsUsed } : State).setVm s₂.vm).setTop g).pushFrame (.throwing q))
    rw [← hs₂]
    exact hsteps
end
variable {p : Program} {l : Launch} {e : Env} {R : Room} {s : State} {m : MethodId} {args : Array Value} {below : List Frame} {meth : Method} {c : Code} {T : State} {H : Heap} {locs : List Loc} {cells slots : Nat}
theorem vx_callVX (X : Stand p l e R s m args below meth c T locs cells slots) (hexec : p.tables.exec = Jvm.exec) {own C : String} {index : Nat} {y : MethodName} {bytes : ByteArray} {maxL : Nat} {ret : Option FieldType} {hh : List (Nat × Nat × Nat × Nat)}
    (hown : s.vm.findClass own = some m.cls) (hlink : (Cond.methodLink own index y).before args s = true) (hinst : (Cond.instanceMethod y).before args s = true) (hsel : (Cond.selects C y y).before args s = true)
    (hcode : (Cond.codeWith y bytes maxL ret hh).before args s = true) (hy : y.cls ≠ "java/lang/invoke/MethodHandle" ∧ y.cls ≠ "java/lang/invoke/VarHandle")
    {W9 : Nat} {Pre : Pt → Array Value → Prop} {Post : Pt → Array Value → Option Value → Pt → Prop} {PostX : Pt → Array Value → Addr → Pt → Prop} (hK : vx_Back l R p e below s args y 3 W9 Pre Post PostX)
    {b : Addr} {cellB : Cell} (hcell : T.heap[b]? = some cellB) (hobj : cellB.vm.isStatics = false) (hcls : s.vm.findClass C = some cellB.cls)
    {g : JFrame} (hg : g.method = m) (hsize : g.locals.size = c.maxLocals) {argsL rest : List Value} (hlen : ∀ sig, parseMethodDescriptor y.desc = some sig → argsL.length = sig.parameters.length)
    (hstack : g.stack = argsL.reverse ++ .ref b :: rest) (hW : 2 * g.monitorRoom + (rest.map fun v => v.category).sum ≤ W9) (hdg : decode c.code g.pc = .ok (.invokevirtual index, 3))
    (hpre : ∀ vm₁, s.WarmedH vm₁ → Pre ⟨T.setVm vm₁, locs, cells, slots⟩ (Value.ref b :: argsL).toArray) :
    (∃ (v : Option Value) (vm₁ : Vm) (B : Pt), s.WarmedH vm₁ ∧ Stand p l e R s m args below meth c B.U B.locs B.cells B.slots ∧ Post ⟨T.setVm vm₁, locs, cells, slots⟩ (Value.ref b :: argsL).toArray v B ∧
      ∀ target, Steps p.tables e below (B.U.setTop { g with pc := g.pc + 3, stack := v.toList ++ rest }) target → Steps p.tables e below (T.setTop g) target) ∨
    (∃ (q : Addr) (vm₁ : Vm) (B : Pt), s.WarmedH vm₁ ∧ Stand p l e R s m args below meth c B.U B.locs B.cells B.slots ∧ PostX ⟨T.setVm vm₁, locs, cells, slots⟩ (Value.ref b :: argsL).toArray q B ∧
      Steps p.tables e below (T.setTop g) ((B.U.setTop { g with stack := rest }).pushFrame (.throwing q))) := by
  obtain ⟨mk, methM, hnamed, hmethM, hstM, habM⟩ := Cond.instanceMethod_spec hinst
  obtain ⟨m8, methM', cM, hn8, hmethM', -, -, -, -, -, -, hsigM⟩ := Cond.codeWith_spec hcode
  cases Option.some.inj (hn8.symm.trans hnamed)
  cases hmethM.symm.trans hmethM'
  obtain ⟨c2, r2, m2, q1, q2, q3, q4, kP, hkP, hkPi⟩ := Cond.selects_spec hsel
  cases hcls.symm.trans q1
  cases (State.methodFound?_of_named hnamed hy).symm.trans q2
  cases hnamed.symm.trans q3
  have hselP : selectMethod e.platform s.vm cellB.cls mk = .method mk := by rw [Launch.admits_selectMethod X.admits]; exact q4
  obtain ⟨vm₁, X₁, hstep₁⟩ := X.invokevirtual hexec hown hlink hnamed hmethM hstM hkP hkPi hy (a := b) (cell := cellB) hcell
    (fun z h => by rw [h] at hobj; cases hobj) hselP hmethM habM hkP hkPi (g := g) hg (argsL := argsL) (rest := rest) (hlen _ hsigM) hstack hdg
  rcases hK m meth c ⟨T.setVm vm₁, locs, cells, slots⟩ { g with stack := rest } (.invokevirtual index) mk (Value.ref b :: argsL).toArray X₁ hg hsize hdg hW (X₁.named hnamed) (hpre vm₁ X₁.warmed) with ⟨v, B, X', hpost, hsteps⟩ | ⟨q, B, X', hpost, hsteps⟩
  · exact Or.inl ⟨v, vm₁, B, X₁.warmed, X', hpost, fun target h => hstep₁ _ fun acts => by rw [doInvoke_state]; exact hsteps.trans h⟩
  · exact Or.inr ⟨q, vm₁, B, X₁.warmed, X', hpost, hstep₁ _ fun acts => by rw [doInvoke_state]; exact hsteps⟩
theorem vx_callSX (X : Stand p l e R s m args below meth c T locs cells slots) (hexec : p.tables.exec = Jvm.exec) {own : String} {index : Nat} {y : MethodName} {bytes : ByteArray} {maxL : Nat} {ret : Option FieldType} {hh : List (Nat × Nat × Nat × Nat)}
    (hown : s.vm.findClass own = some m.cls) (hlink : (Cond.methodLink own index y).before args s = true) (hstat : (Cond.static y).before args s = true) (hinit : (Cond.initialized y.cls).before args s = true)
    (hcode : (Cond.codeWith y bytes maxL ret hh).before args s = true) (hy : y.cls ≠ "java/lang/invoke/MethodHandle" ∧ y.cls ≠ "java/lang/invoke/VarHandle")
    {W9 : Nat} {Pre : Pt → Array Value → Prop} {Post : Pt → Array Value → Option Value → Pt → Prop} {PostX : Pt → Array Value → Addr → Pt → Prop} (hK : vx_Back l R p e below s args y 3 W9 Pre Post PostX)
    {g : JFrame} (hg : g.method = m) (hsize : g.locals.size = c.maxLocals) {argsL rest : List Value} (hlen : ∀ sig, parseMethodDescriptor y.desc = some sig → argsL.length = sig.parameters.length)
    (hstack : g.stack = argsL.reverse ++ rest) (hW : 2 * g.monitorRoom + (rest.map fun v => v.category).sum ≤ W9) (hdg : decode c.code g.pc = .ok (.invokestatic index, 3))
    (hpre : ∀ vm₁, s.WarmedH vm₁ → Pre ⟨T.setVm vm₁, locs, cells, slots⟩ argsL.toArray) :
    (∃ (v : Option Value) (vm₁ : Vm) (B : Pt), s.WarmedH vm₁ ∧ Stand p l e R s m args below meth c B.U B.locs B.cells B.slots ∧ Post ⟨T.setVm vm₁, locs, cells, slots⟩ argsL.toArray v B ∧
      ∀ target, Steps p.tables e below (B.U.setTop { g with pc := g.pc + 3, stack := v.toList ++ rest }) target → Steps p.tables e below (T.setTop g) target) ∨
    (∃ (q : Addr) (vm₁ : Vm) (B : Pt), s.WarmedH vm₁ ∧ Stand p l e R s m args below meth c B.U B.locs B.cells B.slots ∧ PostX ⟨T.setVm vm₁, locs, cells, slots⟩ argsL.toArray q B ∧
      Steps p.tables e below (T.setTop g) ((B.U.setTop { g with stack := rest }).pushFrame (.throwing q))) := by
  obtain ⟨mk, methM, cM, hnamed, hmethM, -, -, -, -, -, -, hsigM⟩ := Cond.codeWith_spec hcode
  have hstatic : methM.isStatic = true := Cond.static_spec hnamed hmethM hstat
  obtain ⟨kP, hkP, -⟩ := className_of_methodNamed hnamed
  have hinitP : kP.init = .initialized := Cond.initialized_spec (findClass_of_methodNamed hnamed) hkP hinit
  obtain ⟨vm₁, X₁, hstep₁⟩ := X.invokestatic hexec hown hlink hnamed hmethM hstatic hkP hinitP hy (g := g) hg (argsL := argsL) (rest := rest) (hlen _ hsigM) hstack hdg
  rcases hK m meth c ⟨T.setVm vm₁, locs, cells, slots⟩ { g with stack := rest } (.invokestatic index) mk argsL.toArray X₁ hg hsize hdg hW (X₁.named hnamed) (hpre vm₁ X₁.warmed) with ⟨v, B, X', hpost, hsteps⟩ | ⟨q, B, X', hpost, hsteps⟩
  · exact Or.inl ⟨v, vm₁, B, X₁.warmed, X', hpost, fun target h => hstep₁ _ fun acts => by rw [doInvoke_state]; exact hsteps.trans h⟩
  · exact Or.inr ⟨q, vm₁, B, X₁.warmed, X', hpost, hstep₁ _ fun acts => by rw [doInvoke_state]; exact hsteps⟩
theorem vx_callVW (X : Stand p l e R s m args below meth c T locs cells slots) (hexec : p.tables.exec = Jvm.exec) {own C : String} {index : Nat} {y : MethodName} {bytes : ByteArray} {maxL : Nat} {ret : Option FieldType} {hh : List (Nat × Nat × Nat × Nat)}
    (hown : s.vm.findClass own = some m.cls) (hlink : (Cond.methodLink own index y).before args s = true) (hinst : (Cond.instanceMethod y).before args s = true) (hsel : (Cond.selects C y y).before args s = true)
    (hcode : (Cond.codeWith y bytes maxL ret hh).before args s = true) (hy : y.cls ≠ "java/lang/invoke/MethodHandle" ∧ y.cls ≠ "java/lang/invoke/VarHandle")
    {W9 : Nat} {Pre : Pt → Array Value → Prop} {Post : Pt → Array Value → Option Value → Pt → Prop} (hK : Back l R p e below s args y 3 W9 Pre Post)
    {b : Addr} {cellB : Cell} (hcell : T.heap[b]? = some cellB) (hobj : cellB.vm.isStatics = false) (hcls : s.vm.findClass C = some cellB.cls)
    {g : JFrame} (hg : g.method = m) (hsize : g.locals.size = c.maxLocals) {argsL rest : List Value} (hlen : ∀ sig, parseMethodDescriptor y.desc = some sig → argsL.length = sig.parameters.length)
    (hstack : g.stack = argsL.reverse ++ .ref b :: rest) (hW : 2 * g.monitorRoom + (rest.map fun v => v.category).sum ≤ W9) (hdg : decode c.code g.pc = .ok (.invokevirtual index, 3))
    (hpre : ∀ vm₁, s.WarmedH vm₁ → Pre ⟨T.setVm vm₁, locs, cells, slots⟩ (Value.ref b :: argsL).toArray) :
    ∃ (v : Option Value) (vm₁ : Vm) (B : Pt), s.WarmedH vm₁ ∧ Stand p l e R s m args below meth c B.U B.locs B.cells B.slots ∧ Post ⟨T.setVm vm₁, locs, cells, slots⟩ (Value.ref b :: argsL).toArray v B ∧
      ∀ target, Steps p.tables e below (B.U.setTop { g with pc := g.pc + 3, stack := v.toList ++ rest }) target → Steps p.tables e below (T.setTop g) target := by
  obtain ⟨mk, methM, hnamed, hmethM, hstM, habM⟩ := Cond.instanceMethod_spec hinst
  obtain ⟨m8, methM', cM, hn8, hmethM', -, -, -, -, -, -, hsigM⟩ := Cond.codeWith_spec hcode
  cases Option.some.inj (hn8.symm.trans hnamed)
  cases hmethM.symm.trans hmethM'
  obtain ⟨c2, r2, m2, q1, q2, q3, q4, kP, hkP, hkPi⟩ := Cond.selects_spec hsel
  cases hcls.symm.trans q1
  cases (State.methodFound?_of_named hnamed hy).symm.trans q2
  cases hnamed.symm.trans q3
  have hselP : selectMethod e.platform s.vm cellB.cls mk = .method mk := by rw [Launch.admits_selectMethod X.admits]; exact q4
  obtain ⟨vm₁, X₁, hstep₁⟩ := X.invokevirtual hexec hown hlink hnamed hmethM hstM hkP hkPi hy (a := b) (cell := cellB) hcell
    (fun z h => by rw [h] at hobj; cases hobj) hselP hmethM habM hkP hkPi (g := g) hg (argsL := argsL) (rest := rest) (hlen _ hsigM) hstack hdg
  obtain ⟨v, B, X', hpost, hsteps⟩ := hK m meth c ⟨T.setVm vm₁, locs, cells, slots⟩ { g with stack := rest } (.invokevirtual index) mk (Value.ref b :: argsL).toArray X₁ hg hsize hdg hW (X₁.named hnamed) (hpre vm₁ X₁.warmed)
  exact ⟨v, vm₁, B, X₁.warmed, X', hpost, fun target h => hstep₁ _ fun acts => by rw [doInvoke_state]; exact hsteps.trans h⟩
abbrev vx_CVW (R : Room) (s : State) (args : Array Value) (own C : String) (index : Nat) (y : MethodName) (bytes : ByteArray) (maxL : Nat) (ret : Option FieldType) (hh : List (Nat × Nat × Nat × Nat)) (ws : List Cond) (rm : Room) (mc ms n : Nat) : Prop :=
  (rm.cells = mc ∧ rm.slots = ms ∧ rm.frames + 1 ≤ R.frames ∧ 8 + (maxL + 11) + rm.locals ≤ R.locals ∧ (∀ w ∈ ws, ∀ (a' : Array Value) (U : State), s.WarmedH U.vm → w.before a' U = true) ∧ Cond.codeWith y bytes maxL ret hh ∈ ws) ∧
  (Cond.codeWith y bytes maxL ret hh).before args s = true ∧ (Cond.initialized y.cls).before args s = true ∧ (y.cls ≠ "java/lang/invoke/MethodHandle" ∧ y.cls ≠ "java/lang/invoke/VarHandle") ∧
  (∀ sig, parseMethodDescriptor y.desc = some sig → n = sig.parameters.length) ∧ (Cond.methodLink own index y).before args s = true ∧ (Cond.instanceMethod y).before args s = true ∧ (Cond.selects C y y).before args s = true
theorem vx_cwVW {own C : String} {index maxL mc ms : Nat} {y : MethodName} {bytes : ByteArray} {ret : Option FieldType} {hh : List (Nat × Nat × Nat × Nat)} {Ts ws ws' : List Cond} {rm : Room} (n : Nat) (ht : ∀ w ∈ Ts, w.before args s = true) (hT : GoodIn Ts (wsV own index C y ws)) (hw : ws = Cond.codeWith y bytes maxL ret hh :: ws') (hrc : rm.cells = mc) (hrs : rm.slots = ms)
    (hd : y.cls = C ∧ y.cls ≠ "java/lang/invoke/MethodHandle" ∧ y.cls ≠ "java/lang/invoke/VarHandle" ∧ (parseMethodDescriptor y.desc).map (fun d => d.parameters.length) = some n) (hR : rm.frames + 1 ≤ R.frames ∧ 8 + (maxL + 11) + rm.locals ≤ R.locals) :
    vx_CVW R s args own C index y bytes maxL ret hh ws rm mc ms n := by
  obtain ⟨hC, hd⟩ := hd
  subst hC
  have ok : ∀ w ∈ wsV own index y.cls y ws, w.before args s = true := fun w h => ht w (hT w h).1
  have hG : GoodIn Ts ws := fun w h => hT w (by unfold wsV; exact List.mem_append_right _ h)
  have hc : Cond.codeWith y bytes maxL ret hh ∈ ws := by rw [hw]; exact List.mem_cons_self
  refine ⟨⟨hrc, hrs, hR.1, hR.2, pay_in ht hG, hc⟩, ht _ (hG _ hc).1, ok _ (by simp [wsV]), ⟨hd.1, hd.2.1⟩, fun sig h => ?_, ok _ (by simp [wsV]), ok _ (by simp [wsV]), ok _ (by simp [wsV])⟩
  have h2 := hd.2.2
  rw [h] at h2
  exact (Option.some.inj h2).symm
theorem vx_runVW {y : MethodName} {bytes cc : ByteArray} {maxL nL mc ms n index : Nat} {ret : Option FieldType} {hh : List (Nat × Nat × Nat × Nat)} {ws : List Cond} {rm : Room} {Pc : Array Value → State → Prop} {Qc : Array Value → State → Outcome → State → Prop} {free : Addr → Prop} {Ts : List Cond} {own C : String} {b : Addr} {As rest : List Value} {g : JFrame}
    (S : CallFix p m c cc nL s args Ts own) (hM : Met l y ws rm Pc Qc mc ms free) (cw : vx_CVW R s args own C index y bytes maxL ret hh ws rm mc ms n) (hp : PreV s H C b Pc As)
    (hg : g.method = m) (hn : As.length = n) (hsize : g.locals.size = nL) (hstack : g.stack = As.reverse ++ .ref b :: rest) (hW : 2 * g.monitorRoom + (rest.map fun v => v.category).sum ≤ 8) (hdg : decode cc g.pc = .ok (.invokevirtual index, 3)) (hf : cells + mc ≤ R.cells ∧ slots + ms ≤ R.slots) :
    va_Run p l e R s m args below meth c H locs cells slots mc ms g rest (Qc (Value.ref b :: As).toArray) free := by
  obtain ⟨⟨hrc, hrs, hfr, hlo, hws, hcw⟩, hcode, hini, hy, hlen, hl, hin, hse⟩ := cw
  have hK : Back l R p e below s args y 3 8 (PreOf R mc ms Pc) (PostOf Qc mc ms free) := va_backW (hh := hh) (bytes := bytes) (maxL := maxL) (ret := ret) hM hp.1 hrc hrs hfr hlo hws hcw (fun a' U hW => word_at hW (Or.inl (by first | rfl | simp [Cond.onTables, Cond.keeps, Cond.steady])) hini)
  obtain ⟨hx, hb, hml, ho, -⟩ := S
  obtain ⟨-, ⟨cellB, hcB, hoB, hclB⟩, hPc⟩ := hp
  intro T hT X
  obtain ⟨v, vm₁, ⟨U', l2, c2, s2⟩, hW₁, X', ⟨g', mk, t, L, e1, e2, hq, h1, hL, h2, h3⟩, st⟩ := vx_callVW X hx (C := C) (hh := hh) (bytes := bytes) (maxL := maxL) (ret := ret) ho hl hin hse hcode hy hK (by rw [hT]; exact hcB) hoB hclB hg (hsize.trans hml.symm) (argsL := As) (rest := rest) (fun sig h => hn.trans (hlen sig h)) hstack hW (by rw [hb]; exact hdg)
    (fun vm₁ hW₁ => ⟨hf.1, hf.2, hPc (T.setVm vm₁) hT hW₁⟩)
  dsimp only [Pt.U, Pt.locs, Pt.cells, Pt.slots] at X' e1 e2 h1 h2 h3 st
  subst h1; subst h2; subst h3
  exact ⟨v, (T.setVm vm₁).calling g' mk (Value.ref b :: As).toArray, t, U', L, hT, X', hL, e1, e2, hq, st⟩
section
variable {y : MethodName} {bytes cc : ByteArray} {maxL nL mc ms n index : Nat} {ret : Option FieldType} {ws : List Cond} {rm : Room} {Pc : Array Value → State → Prop} {Qc : Array Value → State → Outcome → State → Prop} {XC : String → State → State → Prop} {free : Addr → Prop} {Ts : List Cond} {own C : String} {b : Addr} {As rest : List Value} {g : JFrame}
theorem vx_runVX {hh : List (Nat × Nat × Nat × Nat)} (S : CallFix p m c cc nL s args Ts own) (hM : vx_Met l y ws rm Pc Qc XC mc ms free) (cw : vx_CVW R s args own C index y bytes maxL ret hh ws rm mc ms n) (hp : PreV s H C b Pc As)
    (hg : g.method = m) (hn : As.length = n) (hsize : g.locals.size = nL) (hstack : g.stack = As.reverse ++ .ref b :: rest) (hW : 2 * g.monitorRoom + (rest.map fun v => v.category).sum ≤ 8) (hdg : decode cc g.pc = .ok (.invokevirtual index, 3)) (hf : cells + mc ≤ R.cells ∧ slots + ms ≤ R.slots) :
    vx_Run p l e R s m args below meth c H locs cells slots mc ms g rest (Qc (Value.ref b :: As).toArray) XC free := by
  obtain ⟨⟨hrc, hrs, hfr, hlo, hws, hcw⟩, hcode, hini, hy, hlen, hl, hin, hse⟩ := cw
  have hK : vx_Back l R p e below s args y 3 8 (PreOf R mc ms Pc) (PostOf Qc mc ms free) (vx_Post XC mc ms free) := vx_backW (hh := hh) (bytes := bytes) (maxL := maxL) (ret := ret) hM hp.1 hrc hrs hfr hlo hws hcw (fun a' U hW => word_at hW (Or.inl (by first | rfl | simp [Cond.onTables, Cond.keeps, Cond.steady])) hini)
  obtain ⟨hx, hb, hml, ho, -⟩ := S
  obtain ⟨-, ⟨cellB, hcB, hoB, hclB⟩, hPc⟩ := hp
  intro T hT X
  rcases vx_callVX X hx (C := C) (hh := hh) (bytes := bytes) (maxL := maxL) (ret := ret) ho hl hin hse hcode hy hK (by rw [hT]; exact hcB) hoB hclB hg (hsize.trans hml.symm) (argsL := As) (rest := rest) (fun sig h => hn.trans (hlen sig h)) hstack hW (by rw [hb]; exact hdg)
    (fun vm₁ hW₁ => ⟨hf.1, hf.2, hPc (T.setVm vm₁) hT hW₁⟩) with ⟨v, vm₁, ⟨U', l2, c2, s2⟩, hW₁, X', ⟨g', mk, t, L, e1, e2, hq, h1, hL, h2, h3⟩, st⟩ | ⟨q, vm₁, ⟨U', l2, c2, s2⟩, hW₁, X', ⟨g', mk, t, L, E, ce, e1, e2, hq, hce, hcv, hcl, h1, hL, h2, h3⟩, st⟩
  · dsimp only [Pt.U, Pt.locs, Pt.cells, Pt.slots] at X' e1 e2 h1 h2 h3 st
    subst h1; subst h2; subst h3
    exact Or.inl ⟨v, (T.setVm vm₁).calling g' mk (Value.ref b :: As).toArray, t, U', L, hT, X', hL, e1, e2, hq, st⟩
  · dsimp only [Pt.U, Pt.locs, Pt.cells, Pt.slots] at X' e1 e2 h1 h2 h3 st hcl
    subst h1; subst h2; subst h3
    exact Or.inr ⟨q, (T.setVm vm₁).calling g' mk (Value.ref b :: As).toArray, t, U', L, E, ce, hT, X', hL, e1, e2, hq, hce, hcv, vx_cls hW₁ hcl, st⟩
theorem vx_runSX {hh : List (Nat × Nat × Nat × Nat)} (S : CallFix p m c cc nL s args Ts own) (hM : vx_Met l y ws rm Pc Qc XC mc ms free) (cw : vx_CSW R s args own index y bytes maxL ret hh ws rm mc ms n) (hp : PreS s H Pc As)
    (hg : g.method = m) (hn : As.length = n) (hsize : g.locals.size = nL) (hstack : g.stack = As.reverse ++ rest) (hW : 2 * g.monitorRoom + (rest.map fun v => v.category).sum ≤ 8) (hdg : decode cc g.pc = .ok (.invokestatic index, 3)) (hf : cells + mc ≤ R.cells ∧ slots + ms ≤ R.slots) :
    vx_Run p l e R s m args below meth c H locs cells slots mc ms g rest (Qc As.toArray) XC free := by
  obtain ⟨⟨hrc, hrs, hfr, hlo, hws, hcw⟩, hcode, hini, hy, hlen, hl, hstt⟩ := cw
  have hK : vx_Back l R p e below s args y 3 8 (PreOf R mc ms Pc) (PostOf Qc mc ms free) (vx_Post XC mc ms free) := vx_backW (hh := hh) (bytes := bytes) (maxL := maxL) (ret := ret) hM hp.1 hrc hrs hfr hlo hws hcw (fun a' U hW => word_at hW (Or.inl (by first | rfl | simp [Cond.onTables, Cond.keeps, Cond.steady])) hini)
  obtain ⟨hx, hb, hml, ho, -⟩ := S
  intro T hT X
  rcases vx_callSX X hx (hh := hh) (bytes := bytes) (maxL := maxL) (ret := ret) ho hl hstt hini hcode hy hK hg (hsize.trans hml.symm) (argsL := As) (rest := rest) (fun sig h => hn.trans (hlen sig h)) hstack hW (by rw [hb]; exact hdg)
    (fun vm₁ hW₁ => ⟨hf.1, hf.2, hp.2 (T.setVm vm₁) hT hW₁⟩) with ⟨v, vm₁, ⟨U', l2, c2, s2⟩, hW₁, X', ⟨g', mk, t, L, e1, e2, hq, h1, hL, h2, h3⟩, st⟩ | ⟨q, vm₁, ⟨U', l2, c2, s2⟩, hW₁, X', ⟨g', mk, t, L, E, ce, e1, e2, hq, hce, hcv, hcl, h1, hL, h2, h3⟩, st⟩
  · dsimp only [Pt.U, Pt.locs, Pt.cells, Pt.slots] at X' e1 e2 h1 h2 h3 st
    subst h1; subst h2; subst h3
    exact Or.inl ⟨v, (T.setVm vm₁).calling g' mk As.toArray, t, U', L, hT, X', hL, e1, e2, hq, st⟩
  · dsimp only [Pt.U, Pt.locs, Pt.cells, Pt.slots] at X' e1 e2 h1 h2 h3 st hcl
    subst h1; subst h2; subst h3
    exact Or.inr ⟨q, (T.setVm vm₁).calling g' mk As.toArray, t, U', L, E, ce, hT, X', hL, e1, e2, hq, hce, hcv, vx_cls hW₁ hcl, st⟩
end
end VXH
theorem vx_ofWH {l : Launch} {y : MethodName} {ws ws' : List Cond} {rm : Room} {Pc : Array Value → State → Prop} {Qc : Array Value → State → Outcome → State → Prop} {XC : String → State → State → Prop} {mc ms : Nat} {free : Addr → Prop} {cc : ByteArray} {maxL : Nat} {ret : Option FieldType} {hh : List (Nat × Nat × Nat × Nat)}
    (hy : plainName y.cls = true) (hw : ws = Cond.codeWith y cc maxL ret hh :: ws')
    (body : ∀ p e s m args below meth c s₁, BodyLoose p l y (headSpec ws rm) cc maxL ret e s m args below meth c s₁ → c.maxLocals = maxL → Pc args s →
      W p l e (headSpec ws rm).room s m args below meth c s.heap [] 0 0 (vx_MQ below Qc XC args s mc ms free) (entryFrame m args maxL)) : vx_Met l y ws rm Pc Qc XC mc ms free := by
  refine MetFree.of_bodyS (code := cc) (maxLocals := maxL) (ret := ret) hy ?_ ?_
  · intro args s m h hn
    obtain ⟨m9, meth, c, hn9, h1, h2, h3, h4, -, h5, h6, -⟩ := Cond.codeWith_spec (atoms_spec (ws := ws) h _ (by rw [hw]; exact List.mem_cons_self))
    cases hn.symm.trans hn9
    exact ⟨meth, c, h1, h2, h3, h4, h5, h6⟩
  · intro p e s m args below meth c s₁ B hml hP _
    have hh0 : s₁.heap = s.heap := by rw [B.state]; rfl
    obtain ⟨t, a1, o, b1, b2, b3⟩ := body p e s m args below meth c s₁ B hml hP s₁ hh0 (Stand.of_body B)
    exact ⟨t, o, a1, b1, b2, b3⟩
/-! ===== END ===== -/

/-! ===== BEGIN printed: names, fields, word lists, decode rows ===== -/
def RX0 : String := "DovetailRow$Board"
def TX0 : u_T := fun k => match k with
  | 0 => ("DovetailRow$Wood", "species", "I", true)
  | 1 => ("DovetailRow$Wood", "measuredWidth", "I", true)
  | 2 => ("DovetailRow$Wood", "measuredMoisture", "I", true)
  | 3 => ("DovetailRow$Wood", "moisture", "I", false)
  | 4 => ("DovetailRow$Wood", "coats", "I", false)
  | 5 => ("DovetailRow$Board", "number", "I", true)
  | 6 => ("DovetailRow$Board", "flitch", "I", true)
  | 7 => ("DovetailRow$Board", "place", "I", true)
  | 8 => ("DovetailRow$Board", "length", "I", true)
  | 9 => ("DovetailRow$Board", "knots", "Ljava/util/ArrayList;", true)
  | _ => ("DovetailRow$Board", "taken", "Ljava/util/ArrayList;", true)
def tyX0 : Nat → FieldType := fun k => match k with
  | 0 => .int
  | 1 => .int
  | 2 => .int
  | 3 => .int
  | 4 => .int
  | 5 => .int
  | 6 => .int
  | 7 => .int
  | 8 => .int
  | 9 => .object "java/util/ArrayList"
  | _ => .object "java/util/ArrayList"
theorem nmX0 : ∀ a, a < 11 → ∀ b, b < 11 → a ≠ b → (TX0 a).2.1 ≠ (TX0 b).2.1 := by decide +kernel
theorem tyX0_ok : ∀ k, k < 11 → parseFieldDescriptor (TX0 k).2.2.1 = some (tyX0 k) := by decide +kernel
abbrev cX0_init : ByteArray := prog_2_method_1_code
def yX0_init : MethodName := ⟨RX0, "<init>", "(IIIIIII)V"⟩
abbrev cX0_hasRoom : ByteArray := prog_2_method_2_code
def yX0_hasRoom : MethodName := ⟨RX0, "hasRoom", "(II)Z"⟩
abbrev cX0_isClear : ByteArray := prog_2_method_3_code
def yX0_isClear : MethodName := ⟨RX0, "isClear", "(II)Z"⟩
def RX1 : String := "DovetailRow$Joint"
def TX1 : u_T := fun k => match k with
  | 0 => ("DovetailRow$Joint", "kind", "I", true)
  | 1 => ("DovetailRow$Joint", "part", "LDovetailRow$Part;", true)
  | 2 => ("DovetailRow$Joint", "other", "LDovetailRow$Part;", true)
  | 3 => ("DovetailRow$Joint", "tongue", "I", true)
  | 4 => ("DovetailRow$Joint", "size", "I", false)
  | 5 => ("DovetailRow$Joint", "needs", "I", false)
  | 6 => ("DovetailRow$Joint", "isGlued", "Z", false)
  | 7 => ("DovetailRow$Joint", "isBroken", "Z", false)
  | _ => ("DovetailRow$Joint", "gluedMoisture", "I", false)
def tyX1 : Nat → FieldType := fun k => match k with
  | 0 => .int
  | 1 => .object "DovetailRow$Part"
  | 2 => .object "DovetailRow$Part"
  | 3 => .int
  | 4 => .int
  | 5 => .int
  | 6 => .boolean
  | 7 => .boolean
  | _ => .int
theorem nmX1 : ∀ a, a < 9 → ∀ b, b < 9 → a ≠ b → (TX1 a).2.1 ≠ (TX1 b).2.1 := by decide +kernel
theorem tyX1_ok : ∀ k, k < 9 → parseFieldDescriptor (TX1 k).2.2.1 = some (tyX1 k) := by decide +kernel
abbrev cX1_init : ByteArray := prog_3_method_1_code
def yX1_init : MethodName := ⟨RX1, "<init>", "(ILDovetailRow$Part;LDovetailRow$Part;II)V"⟩
abbrev cX1_hold : ByteArray := prog_3_method_2_code
def yX1_hold : MethodName := ⟨RX1, "hold", "()V"⟩
abbrev cX1_isHeld : ByteArray := prog_3_method_3_code
def yX1_isHeld : MethodName := ⟨RX1, "isHeld", "()Z"⟩
abbrev cX1_breaksAt : ByteArray := prog_3_method_4_code
def yX1_breaksAt : MethodName := ⟨RX1, "breaksAt", "(I)Z"⟩
abbrev cX1_state : ByteArray := prog_3_method_5_code
def yX1_state : MethodName := ⟨RX1, "state", "()I"⟩
def RX2 : String := "DovetailRow$Part"
def TX2 : u_T := fun k => match k with
  | 0 => ("DovetailRow$Wood", "species", "I", true)
  | 1 => ("DovetailRow$Wood", "measuredWidth", "I", true)
  | 2 => ("DovetailRow$Wood", "measuredMoisture", "I", true)
  | 3 => ("DovetailRow$Wood", "moisture", "I", false)
  | 4 => ("DovetailRow$Wood", "coats", "I", false)
  | 5 => ("DovetailRow$Part", "number", "I", true)
  | 6 => ("DovetailRow$Part", "board", "LDovetailRow$Board;", true)
  | 7 => ("DovetailRow$Part", "from", "I", true)
  | _ => ("DovetailRow$Part", "length", "I", true)
def tyX2 : Nat → FieldType := fun k => match k with
  | 0 => .int
  | 1 => .int
  | 2 => .int
  | 3 => .int
  | 4 => .int
  | 5 => .int
  | 6 => .object "DovetailRow$Board"
  | 7 => .int
  | _ => .int
theorem nmX2 : ∀ a, a < 9 → ∀ b, b < 9 → a ≠ b → (TX2 a).2.1 ≠ (TX2 b).2.1 := by decide +kernel
theorem tyX2_ok : ∀ k, k < 9 → parseFieldDescriptor (TX2 k).2.2.1 = some (tyX2 k) := by decide +kernel
abbrev cX2_init : ByteArray := prog_4_method_1_code
def yX2_init : MethodName := ⟨RX2, "<init>", "(ILDovetailRow$Board;III)V"⟩
def RX3 : String := "DovetailRow$Span"
def TX3 : u_T := fun k => match k with
  | 0 => ("DovetailRow$Span", "from", "I", true)
  | _ => ("DovetailRow$Span", "to", "I", true)
def tyX3 : Nat → FieldType := fun k => match k with
  | 0 => .int
  | _ => .int
theorem nmX3 : ∀ a, a < 2 → ∀ b, b < 2 → a ≠ b → (TX3 a).2.1 ≠ (TX3 b).2.1 := by decide +kernel
theorem tyX3_ok : ∀ k, k < 2 → parseFieldDescriptor (TX3 k).2.2.1 = some (tyX3 k) := by decide +kernel
abbrev cX3_init : ByteArray := prog_5_method_1_code
def yX3_init : MethodName := ⟨RX3, "<init>", "(II)V"⟩
abbrev cX3_touches : ByteArray := prog_5_method_2_code
def yX3_touches : MethodName := ⟨RX3, "touches", "(II)Z"⟩
def RX4 : String := "DovetailRow$Wood"
def TX4 : u_T := fun k => match k with
  | _ => ("", "", "", false)
def tyX4 : Nat → FieldType := fun k => match k with
  | _ => .int
theorem nmX4 : ∀ a, a < 0 → ∀ b, b < 0 → a ≠ b → (TX4 a).2.1 ≠ (TX4 b).2.1 := by decide +kernel
theorem tyX4_ok : ∀ k, k < 0 → parseFieldDescriptor (TX4 k).2.2.1 = some (tyX4 k) := by decide +kernel
abbrev cX4_init : ByteArray := prog_6_method_1_code
def yX4_init : MethodName := ⟨RX4, "<init>", "(III)V"⟩
abbrev cX4_movementOf : ByteArray := prog_6_method_2_code
def yX4_movementOf : MethodName := ⟨RX4, "movementOf", "(II)I"⟩
abbrev cX4_widthAt : ByteArray := prog_6_method_3_code
def yX4_widthAt : MethodName := ⟨RX4, "widthAt", "(I)I"⟩
abbrev cX4_widthNow : ByteArray := prog_6_method_4_code
def yX4_widthNow : MethodName := ⟨RX4, "widthNow", "()I"⟩
abbrev cX4_moistureAfter : ByteArray := prog_6_method_5_code
def yX4_moistureAfter : MethodName := ⟨RX4, "moistureAfter", "(II)I"⟩
abbrev cX4_moisten : ByteArray := prog_6_method_6_code
def yX4_moisten : MethodName := ⟨RX4, "moisten", "(I)V"⟩
def RX5 : String := "DovetailRow"
def TX5 : u_T := fun k => match k with
  | 0 => ("DovetailRow", "boards", "Ljava/util/ArrayList;", true)
  | 1 => ("DovetailRow", "parts", "Ljava/util/ArrayList;", true)
  | 2 => ("DovetailRow", "joints", "Ljava/util/ArrayList;", true)
  | 3 => ("DovetailRow", "air", "[I", true)
  | 4 => ("DovetailRow", "nextMonth", "I", false)
  | 5 => ("DovetailRow", "saw", "I", false)
  | 6 => ("DovetailRow", "chisel", "I", false)
  | _ => ("DovetailRow", "clampCount", "I", false)
def tyX5 : Nat → FieldType := fun k => match k with
  | 0 => .object "java/util/ArrayList"
  | 1 => .object "java/util/ArrayList"
  | 2 => .object "java/util/ArrayList"
  | 3 => .array .int
  | 4 => .int
  | 5 => .int
  | 6 => .int
  | _ => .int
theorem nmX5 : ∀ a, a < 8 → ∀ b, b < 8 → a ≠ b → (TX5 a).2.1 ≠ (TX5 b).2.1 := by decide +kernel
theorem tyX5_ok : ∀ k, k < 8 → parseFieldDescriptor (TX5 k).2.2.1 = some (tyX5 k) := by decide +kernel
abbrev cX5_init : ByteArray := prog_1_method_1_code
def yX5_init : MethodName := ⟨RX5, "<init>", "()V"⟩
abbrev cX5_weather : ByteArray := prog_1_method_2_code
def yX5_weather : MethodName := ⟨RX5, "weather", "(II)I"⟩
abbrev cX5_pass : ByteArray := prog_1_method_3_code
def yX5_pass : MethodName := ⟨RX5, "pass", "(I)I"⟩
abbrev cX5_board : ByteArray := prog_1_method_4_code
def yX5_board : MethodName := ⟨RX5, "board", "(IIIIII)I"⟩
abbrev cX5_knot : ByteArray := prog_1_method_5_code
def yX5_knot : MethodName := ⟨RX5, "knot", "(III)I"⟩
abbrev cX5_cut : ByteArray := prog_1_method_6_code
def yX5_cut : MethodName := ⟨RX5, "cut", "(IIIIZ)I"⟩
abbrev cX5_sharpen : ByteArray := prog_1_method_7_code
def yX5_sharpen : MethodName := ⟨RX5, "sharpen", "(I)I"⟩
abbrev cX5_clearFrom : ByteArray := prog_1_method_8_code
def yX5_clearFrom : MethodName := ⟨RX5, "clearFrom", "(II)I"⟩
abbrev cX5_coat : ByteArray := prog_1_method_9_code
def yX5_coat : MethodName := ⟨RX5, "coat", "(I)I"⟩
abbrev cX5_match : ByteArray := prog_1_method_10_code
def yX5_match : MethodName := ⟨RX5, "match", "(II)I"⟩
abbrev cX5_joint : ByteArray := prog_1_method_11_code
def yX5_joint : MethodName := ⟨RX5, "joint", "(IIIII)I"⟩
abbrev cX5_need : ByteArray := prog_1_method_12_code
def yX5_need : MethodName := ⟨RX5, "need", "(II)I"⟩
abbrev cX5_clamps : ByteArray := prog_1_method_13_code
def yX5_clamps : MethodName := ⟨RX5, "clamps", "(I)I"⟩
abbrev cX5_glue : ByteArray := prog_1_method_14_code
def yX5_glue : MethodName := ⟨RX5, "glue", "(I)I"⟩
abbrev cX5_repair : ByteArray := prog_1_method_15_code
def yX5_repair : MethodName := ⟨RX5, "repair", "(I)I"⟩
abbrev cX5_through : ByteArray := prog_1_method_16_code
def yX5_through : MethodName := ⟨RX5, "through", "(I)I"⟩
abbrev cX5_breaksIn : ByteArray := prog_1_method_17_code
def yX5_breaksIn : MethodName := ⟨RX5, "breaksIn", "(II)I"⟩
abbrev cX5_month : ByteArray := prog_1_method_18_code
def yX5_month : MethodName := ⟨RX5, "month", "()I"⟩
abbrev cX5_ofBoard : ByteArray := prog_1_method_19_code
def yX5_ofBoard : MethodName := ⟨RX5, "ofBoard", "(II)I"⟩
abbrev cX5_ofPart : ByteArray := prog_1_method_20_code
def yX5_ofPart : MethodName := ⟨RX5, "ofPart", "(II)I"⟩
abbrev cX5_ofJoint : ByteArray := prog_1_method_21_code
def yX5_ofJoint : MethodName := ⟨RX5, "ofJoint", "(II)I"⟩
abbrev cX5_isWithin : ByteArray := prog_1_method_22_code
def yX5_isWithin : MethodName := ⟨RX5, "isWithin", "(III)Z"⟩
abbrev cX5_has : ByteArray := prog_1_method_23_code
def yX5_has : MethodName := ⟨RX5, "has", "(II)Z"⟩
abbrev cX5_findBoard : ByteArray := prog_1_method_24_code
def yX5_findBoard : MethodName := ⟨RX5, "findBoard", "(I)LDovetailRow$Board;"⟩
abbrev cX5_findPart : ByteArray := prog_1_method_25_code
def yX5_findPart : MethodName := ⟨RX5, "findPart", "(I)LDovetailRow$Part;"⟩
abbrev cX5_findJoint : ByteArray := prog_1_method_26_code
def yX5_findJoint : MethodName := ⟨RX5, "findJoint", "(I)LDovetailRow$Joint;"⟩
abbrev cX5_airIn : ByteArray := prog_1_method_27_code
def yX5_airIn : MethodName := ⟨RX5, "airIn", "(I)I"⟩
abbrev cX5_moistenAll : ByteArray := prog_1_method_28_code
def yX5_moistenAll : MethodName := ⟨RX5, "moistenAll", "(I)V"⟩
abbrev cX5_breakJoints : ByteArray := prog_1_method_29_code
def yX5_breakJoints : MethodName := ⟨RX5, "breakJoints", "()I"⟩
abbrev cX5_monthOfBreak : ByteArray := prog_1_method_30_code
def yX5_monthOfBreak : MethodName := ⟨RX5, "monthOfBreak", "(LDovetailRow$Joint;I)I"⟩
abbrev cX5_movingOf : ByteArray := prog_1_method_31_code
def yX5_movingOf : MethodName := ⟨RX5, "movingOf", "(I)I"⟩
abbrev cX5_hardnessOf : ByteArray := prog_1_method_32_code
def yX5_hardnessOf : MethodName := ⟨RX5, "hardnessOf", "(I)I"⟩
abbrev cX5_suitsFlitch : ByteArray := prog_1_method_33_code
def yX5_suitsFlitch : MethodName := ⟨RX5, "suitsFlitch", "(III)Z"⟩
abbrev cX5_touchesAny : ByteArray := prog_1_method_34_code
def yX5_touchesAny : MethodName := ⟨RX5, "touchesAny", "(Ljava/util/ArrayList;II)Z"⟩
abbrev cX5_earlierBehind : ByteArray := prog_1_method_35_code
def yX5_earlierBehind : MethodName := ⟨RX5, "earlierBehind", "(Ljava/util/ArrayList;LDovetailRow$Board;II)I"⟩
abbrev cX5_isTongue : ByteArray := prog_1_method_36_code
def yX5_isTongue : MethodName := ⟨RX5, "isTongue", "(II)Z"⟩
abbrev cX5_fits : ByteArray := prog_1_method_37_code
def yX5_fits : MethodName := ⟨RX5, "fits", "(ILDovetailRow$Part;II)Z"⟩
abbrev cX5_canBeGlued : ByteArray := prog_1_method_38_code
def yX5_canBeGlued : MethodName := ⟨RX5, "canBeGlued", "(I)Z"⟩
abbrev cX5_minutesOf : ByteArray := prog_1_method_39_code
def yX5_minutesOf : MethodName := ⟨RX5, "minutesOf", "(I)I"⟩
abbrev cX5_clampsOf : ByteArray := prog_1_method_40_code
def yX5_clampsOf : MethodName := ⟨RX5, "clampsOf", "(I)I"⟩
def RX6 : String := "DovetailRowModel"
def TX6 : u_T := fun k => match k with
  | 0 => ("DovetailRowModel", "thrown", "I", false)
  | 1 => ("DovetailRowModel", "month", "I", false)
  | 2 => ("DovetailRowModel", "weather", "[I", true)
  | 3 => ("DovetailRowModel", "sharp", "[I", true)
  | 4 => ("DovetailRowModel", "clamps", "I", false)
  | 5 => ("DovetailRowModel", "boardMany", "I", false)
  | 6 => ("DovetailRowModel", "species", "[I", true)
  | 7 => ("DovetailRowModel", "flitches", "[I", true)
  | 8 => ("DovetailRowModel", "places", "[I", true)
  | 9 => ("DovetailRowModel", "boardWidths", "[I", true)
  | 10 => ("DovetailRowModel", "boardLengths", "[I", true)
  | 11 => ("DovetailRowModel", "boardMeasured", "[I", true)
  | 12 => ("DovetailRowModel", "boardMoist", "[I", true)
  | 13 => ("DovetailRowModel", "knotMany", "[I", true)
  | 14 => ("DovetailRowModel", "knotFrom", "[I", true)
  | 15 => ("DovetailRowModel", "knotTo", "[I", true)
  | 16 => ("DovetailRowModel", "partMany", "I", false)
  | 17 => ("DovetailRowModel", "boards", "[I", true)
  | 18 => ("DovetailRowModel", "froms", "[I", true)
  | 19 => ("DovetailRowModel", "lengths", "[I", true)
  | 20 => ("DovetailRowModel", "widths", "[I", true)
  | 21 => ("DovetailRowModel", "measured", "[I", true)
  | 22 => ("DovetailRowModel", "moist", "[I", true)
  | 23 => ("DovetailRowModel", "coats", "[I", true)
  | 24 => ("DovetailRowModel", "jointMany", "I", false)
  | 25 => ("DovetailRowModel", "kinds", "[I", true)
  | 26 => ("DovetailRowModel", "parts", "[I", true)
  | 27 => ("DovetailRowModel", "others", "[I", true)
  | 28 => ("DovetailRowModel", "sizes", "[I", true)
  | 29 => ("DovetailRowModel", "tongues", "[I", true)
  | 30 => ("DovetailRowModel", "needs", "[I", true)
  | 31 => ("DovetailRowModel", "glued", "[Z", true)
  | 32 => ("DovetailRowModel", "broken", "[Z", true)
  | 33 => ("DovetailRowModel", "gluedMoist", "[I", true)
  | 34 => ("DovetailRowModel", "ahead", "[I", true)
  | _ => ("DovetailRowModel", "breaks", "[I", true)
def tyX6 : Nat → FieldType := fun k => match k with
  | 0 => .int
  | 1 => .int
  | 2 => .array .int
  | 3 => .array .int
  | 4 => .int
  | 5 => .int
  | 6 => .array .int
  | 7 => .array .int
  | 8 => .array .int
  | 9 => .array .int
  | 10 => .array .int
  | 11 => .array .int
  | 12 => .array .int
  | 13 => .array .int
  | 14 => .array .int
  | 15 => .array .int
  | 16 => .int
  | 17 => .array .int
  | 18 => .array .int
  | 19 => .array .int
  | 20 => .array .int
  | 21 => .array .int
  | 22 => .array .int
  | 23 => .array .int
  | 24 => .int
  | 25 => .array .int
  | 26 => .array .int
  | 27 => .array .int
  | 28 => .array .int
  | 29 => .array .int
  | 30 => .array .int
  | 31 => .array .boolean
  | 32 => .array .boolean
  | 33 => .array .int
  | 34 => .array .int
  | _ => .array .int
theorem nmX6 : ∀ a, a < 36 → ∀ b, b < 36 → a ≠ b → (TX6 a).2.1 ≠ (TX6 b).2.1 := by decide +kernel
theorem tyX6_ok : ∀ k, k < 36 → parseFieldDescriptor (TX6 k).2.2.1 = some (tyX6 k) := by decide +kernel
abbrev cX6_init : ByteArray := prog_8_method_1_code
def yX6_init : MethodName := ⟨RX6, "<init>", "()V"⟩
abbrev cX6_thrown : ByteArray := prog_8_method_2_code
def yX6_thrown : MethodName := ⟨RX6, "thrown", "()I"⟩
abbrev cX6_between : ByteArray := prog_8_method_3_code
def yX6_between : MethodName := ⟨RX6, "between", "(III)Z"⟩
abbrev cX6_isBoard : ByteArray := prog_8_method_4_code
def yX6_isBoard : MethodName := ⟨RX6, "isBoard", "(I)Z"⟩
abbrev cX6_isPart : ByteArray := prog_8_method_5_code
def yX6_isPart : MethodName := ⟨RX6, "isPart", "(I)Z"⟩
abbrev cX6_isJoint : ByteArray := prog_8_method_6_code
def yX6_isJoint : MethodName := ⟨RX6, "isJoint", "(I)Z"⟩
abbrev cX6_isMoisture : ByteArray := prog_8_method_7_code
def yX6_isMoisture : MethodName := ⟨RX6, "isMoisture", "(I)Z"⟩
abbrev cX6_moves : ByteArray := prog_8_method_8_code
def yX6_moves : MethodName := ⟨RX6, "moves", "(I)I"⟩
abbrev cX6_hardness : ByteArray := prog_8_method_9_code
def yX6_hardness : MethodName := ⟨RX6, "hardness", "(I)I"⟩
abbrev cX6_weather : ByteArray := prog_8_method_10_code
def yX6_weather : MethodName := ⟨RX6, "weather", "(II)I"⟩
abbrev cX6_behind : ByteArray := prog_8_method_11_code
def yX6_behind : MethodName := ⟨RX6, "behind", "(III)I"⟩
abbrev cX6_moved : ByteArray := prog_8_method_12_code
def yX6_moved : MethodName := ⟨RX6, "moved", "(III)I"⟩
abbrev cX6_speciesOf : ByteArray := prog_8_method_13_code
def yX6_speciesOf : MethodName := ⟨RX6, "speciesOf", "(I)I"⟩
abbrev cX6_widthAt : ByteArray := prog_8_method_14_code
def yX6_widthAt : MethodName := ⟨RX6, "widthAt", "(II)I"⟩
abbrev cX6_wouldBreak : ByteArray := prog_8_method_15_code
def yX6_wouldBreak : MethodName := ⟨RX6, "wouldBreak", "(II)Z"⟩
abbrev cX6_pass : ByteArray := prog_8_method_16_code
def yX6_pass : MethodName := ⟨RX6, "pass", "(I)I"⟩
abbrev cX6_board : ByteArray := prog_8_method_17_code
def yX6_board : MethodName := ⟨RX6, "board", "(IIIIII)I"⟩
abbrev cX6_boardWidth : ByteArray := prog_8_method_18_code
def yX6_boardWidth : MethodName := ⟨RX6, "boardWidth", "(I)I"⟩
abbrev cX6_isTaken : ByteArray := prog_8_method_19_code
def yX6_isTaken : MethodName := ⟨RX6, "isTaken", "(III)Z"⟩
abbrev cX6_hasKnot : ByteArray := prog_8_method_20_code
def yX6_hasKnot : MethodName := ⟨RX6, "hasKnot", "(III)Z"⟩
abbrev cX6_knot : ByteArray := prog_8_method_21_code
def yX6_knot : MethodName := ⟨RX6, "knot", "(III)I"⟩
abbrev cX6_cut : ByteArray := prog_8_method_22_code
def yX6_cut : MethodName := ⟨RX6, "cut", "(IIIIZ)I"⟩
abbrev cX6_sharpen : ByteArray := prog_8_method_23_code
def yX6_sharpen : MethodName := ⟨RX6, "sharpen", "(I)I"⟩
abbrev cX6_clearFrom : ByteArray := prog_8_method_24_code
def yX6_clearFrom : MethodName := ⟨RX6, "clearFrom", "(II)I"⟩
abbrev cX6_coat : ByteArray := prog_8_method_25_code
def yX6_coat : MethodName := ⟨RX6, "coat", "(I)I"⟩
abbrev cX6_match : ByteArray := prog_8_method_26_code
def yX6_match : MethodName := ⟨RX6, "match", "(II)I"⟩
abbrev cX6_fits : ByteArray := prog_8_method_27_code
def yX6_fits : MethodName := ⟨RX6, "fits", "(IIII)Z"⟩
abbrev cX6_joint : ByteArray := prog_8_method_28_code
def yX6_joint : MethodName := ⟨RX6, "joint", "(IIIII)I"⟩
abbrev cX6_need : ByteArray := prog_8_method_29_code
def yX6_need : MethodName := ⟨RX6, "need", "(II)I"⟩
abbrev cX6_clamps : ByteArray := prog_8_method_30_code
def yX6_clamps : MethodName := ⟨RX6, "clamps", "(I)I"⟩
abbrev cX6_glue : ByteArray := prog_8_method_31_code
def yX6_glue : MethodName := ⟨RX6, "glue", "(I)I"⟩
abbrev cX6_repair : ByteArray := prog_8_method_32_code
def yX6_repair : MethodName := ⟨RX6, "repair", "(I)I"⟩
abbrev cX6_lookAhead : ByteArray := prog_8_method_33_code
def yX6_lookAhead : MethodName := ⟨RX6, "lookAhead", "(I)V"⟩
abbrev cX6_through : ByteArray := prog_8_method_34_code
def yX6_through : MethodName := ⟨RX6, "through", "(I)I"⟩
abbrev cX6_breaksIn : ByteArray := prog_8_method_35_code
def yX6_breaksIn : MethodName := ⟨RX6, "breaksIn", "(II)I"⟩
abbrev cX6_month : ByteArray := prog_8_method_36_code
def yX6_month : MethodName := ⟨RX6, "month", "()I"⟩
abbrev cX6_ofBoard : ByteArray := prog_8_method_37_code
def yX6_ofBoard : MethodName := ⟨RX6, "ofBoard", "(II)I"⟩
abbrev cX6_ofPart : ByteArray := prog_8_method_38_code
def yX6_ofPart : MethodName := ⟨RX6, "ofPart", "(II)I"⟩
abbrev cX6_stateOf : ByteArray := prog_8_method_39_code
def yX6_stateOf : MethodName := ⟨RX6, "stateOf", "(I)I"⟩
abbrev cX6_ofJoint : ByteArray := prog_8_method_40_code
def yX6_ofJoint : MethodName := ⟨RX6, "ofJoint", "(II)I"⟩
def RJx145de : String := "java/io/Serializable"
def TJx145de : u_T := fun k => match k with
  | _ => ("", "", "", false)
def tyJx145de : Nat → FieldType := fun k => match k with
  | _ => .int
theorem nmJx145de : ∀ a, a < 0 → ∀ b, b < 0 → a ≠ b → (TJx145de a).2.1 ≠ (TJx145de b).2.1 := by decide +kernel
theorem tyJx145de_ok : ∀ k, k < 0 → parseFieldDescriptor (TJx145de k).2.2.1 = some (tyJx145de k) := by decide +kernel
def RJx8e188 : String := "java/lang/Cloneable"
def TJx8e188 : u_T := fun k => match k with
  | _ => ("", "", "", false)
def tyJx8e188 : Nat → FieldType := fun k => match k with
  | _ => .int
theorem nmJx8e188 : ∀ a, a < 0 → ∀ b, b < 0 → a ≠ b → (TJx8e188 a).2.1 ≠ (TJx8e188 b).2.1 := by decide +kernel
theorem tyJx8e188_ok : ∀ k, k < 0 → parseFieldDescriptor (TJx8e188 k).2.2.1 = some (tyJx8e188 k) := by decide +kernel
def RJ6 : String := "java/lang/Integer"
def TJ6 : u_T := fun k => match k with
  | _ => ("", "", "", false)
def tyJ6 : Nat → FieldType := fun k => match k with
  | _ => .int
theorem nmJ6 : ∀ a, a < 0 → ∀ b, b < 0 → a ≠ b → (TJ6 a).2.1 ≠ (TJ6 b).2.1 := by decide +kernel
theorem tyJ6_ok : ∀ k, k < 0 → parseFieldDescriptor (TJ6 k).2.2.1 = some (tyJ6 k) := by decide +kernel
abbrev cJ6_signum_0f7a4 : ByteArray := prog_15_method_56_code
def yJ6_signum_0f7a4 : MethodName := ⟨RJ6, "signum", "(I)I"⟩
def RJxab1ab : String := "java/lang/Iterable"
def TJxab1ab : u_T := fun k => match k with
  | _ => ("", "", "", false)
def tyJxab1ab : Nat → FieldType := fun k => match k with
  | _ => .int
theorem nmJxab1ab : ∀ a, a < 0 → ∀ b, b < 0 → a ≠ b → (TJxab1ab a).2.1 ≠ (TJxab1ab b).2.1 := by decide +kernel
theorem tyJxab1ab_ok : ∀ k, k < 0 → parseFieldDescriptor (TJxab1ab k).2.2.1 = some (tyJxab1ab k) := by decide +kernel
def RJ9 : String := "java/lang/Math"
def TJ9 : u_T := fun k => match k with
  | _ => ("", "", "", false)
def tyJ9 : Nat → FieldType := fun k => match k with
  | _ => .int
theorem nmJ9 : ∀ a, a < 0 → ∀ b, b < 0 → a ≠ b → (TJ9 a).2.1 ≠ (TJ9 b).2.1 := by decide +kernel
theorem tyJ9_ok : ∀ k, k < 0 → parseFieldDescriptor (TJ9 k).2.2.1 = some (tyJ9 k) := by decide +kernel
abbrev cJ9_floorMod_7cf53 : ByteArray := prog_17_method_50_code
def yJ9_floorMod_7cf53 : MethodName := ⟨RJ9, "floorMod", "(II)I"⟩
abbrev cJ9_abs_0f7a4 : ByteArray := prog_17_method_59_code
def yJ9_abs_0f7a4 : MethodName := ⟨RJ9, "abs", "(I)I"⟩
abbrev cJ9_max_7cf53 : ByteArray := prog_17_method_65_code
def yJ9_max_7cf53 : MethodName := ⟨RJ9, "max", "(II)I"⟩
abbrev cJ9_min_7cf53 : ByteArray := prog_17_method_69_code
def yJ9_min_7cf53 : MethodName := ⟨RJ9, "min", "(II)I"⟩
def RJ0 : String := "java/lang/String"
def TJ0 : u_T := fun k => match k with
  | _ => ("", "", "", false)
def tyJ0 : Nat → FieldType := fun k => match k with
  | _ => .int
theorem nmJ0 : ∀ a, a < 0 → ∀ b, b < 0 → a ≠ b → (TJ0 a).2.1 ≠ (TJ0 b).2.1 := by decide +kernel
theorem tyJ0_ok : ∀ k, k < 0 → parseFieldDescriptor (TJ0 k).2.2.1 = some (tyJ0 k) := by decide +kernel
def RJ10 : String := "java/lang/System"
def TJ10 : u_T := fun k => match k with
  | _ => ("", "", "", false)
def tyJ10 : Nat → FieldType := fun k => match k with
  | _ => .int
theorem nmJ10 : ∀ a, a < 0 → ∀ b, b < 0 → a ≠ b → (TJ10 a).2.1 ≠ (TJ10 b).2.1 := by decide +kernel
theorem tyJ10_ok : ∀ k, k < 0 → parseFieldDescriptor (TJ10 k).2.2.1 = some (tyJ10 k) := by decide +kernel
def RJxa1e45 : String := "java/util/AbstractCollection"
def TJxa1e45 : u_T := fun k => match k with
  | _ => ("", "", "", false)
def tyJxa1e45 : Nat → FieldType := fun k => match k with
  | _ => .int
theorem nmJxa1e45 : ∀ a, a < 0 → ∀ b, b < 0 → a ≠ b → (TJxa1e45 a).2.1 ≠ (TJxa1e45 b).2.1 := by decide +kernel
theorem tyJxa1e45_ok : ∀ k, k < 0 → parseFieldDescriptor (TJxa1e45 k).2.2.1 = some (tyJxa1e45 k) := by decide +kernel
abbrev cJxa1e45_init_da8c8 : ByteArray := prog_22_method_1_code
def yJxa1e45_init_da8c8 : MethodName := ⟨RJxa1e45, "<init>", "()V"⟩
def RJxc12de : String := "java/util/AbstractList"
def TJxc12de : u_T := fun k => match k with
  | _ => ("", "", "", false)
def tyJxc12de : Nat → FieldType := fun k => match k with
  | _ => .int
theorem nmJxc12de : ∀ a, a < 0 → ∀ b, b < 0 → a ≠ b → (TJxc12de a).2.1 ≠ (TJxc12de b).2.1 := by decide +kernel
theorem tyJxc12de_ok : ∀ k, k < 0 → parseFieldDescriptor (TJxc12de k).2.2.1 = some (tyJxc12de k) := by decide +kernel
abbrev cJxc12de_init_da8c8 : ByteArray := prog_23_method_1_code
def yJxc12de_init_da8c8 : MethodName := ⟨RJxc12de, "<init>", "()V"⟩
def RJx4a65c : String := "java/util/ArrayList"
def TJx4a65c : u_T := fun k => match k with
  | 0 => ("java/util/AbstractList", "modCount", "I", false)
  | 1 => ("java/util/ArrayList", "elementData", "[Ljava/lang/Object;", false)
  | _ => ("java/util/ArrayList", "size", "I", false)
def tyJx4a65c : Nat → FieldType := fun k => match k with
  | 0 => .int
  | 1 => .array (.object "java/lang/Object")
  | _ => .int
theorem nmJx4a65c : ∀ a, a < 3 → ∀ b, b < 3 → a ≠ b → (TJx4a65c a).2.1 ≠ (TJx4a65c b).2.1 := by decide +kernel
theorem tyJx4a65c_ok : ∀ k, k < 3 → parseFieldDescriptor (TJx4a65c k).2.2.1 = some (tyJx4a65c k) := by decide +kernel
abbrev cJx4a65c_init_da8c8 : ByteArray := prog_24_method_2_code
def yJx4a65c_init_da8c8 : MethodName := ⟨RJx4a65c, "<init>", "()V"⟩
abbrev cJx4a65c_grow_92f84 : ByteArray := prog_24_method_6_code
def yJx4a65c_grow_92f84 : MethodName := ⟨RJx4a65c, "grow", "(I)[Ljava/lang/Object;"⟩
abbrev cJx4a65c_grow_d5877 : ByteArray := prog_24_method_7_code
def yJx4a65c_grow_d5877 : MethodName := ⟨RJx4a65c, "grow", "()[Ljava/lang/Object;"⟩
abbrev cJx4a65c_size_8abf5 : ByteArray := prog_24_method_8_code
def yJx4a65c_size_8abf5 : MethodName := ⟨RJx4a65c, "size", "()I"⟩
abbrev cJx4a65c_elementData_915e3 : ByteArray := prog_24_method_18_code
def yJx4a65c_elementData_915e3 : MethodName := ⟨RJx4a65c, "elementData", "(I)Ljava/lang/Object;"⟩
abbrev cJx4a65c_get_915e3 : ByteArray := prog_24_method_20_code
def yJx4a65c_get_915e3 : MethodName := ⟨RJx4a65c, "get", "(I)Ljava/lang/Object;"⟩
abbrev cJx4a65c_add_72be8 : ByteArray := prog_24_method_24_code
def yJx4a65c_add_72be8 : MethodName := ⟨RJx4a65c, "add", "(Ljava/lang/Object;[Ljava/lang/Object;I)V"⟩
abbrev cJx4a65c_add_9ea2d : ByteArray := prog_24_method_25_code
def yJx4a65c_add_9ea2d : MethodName := ⟨RJx4a65c, "add", "(Ljava/lang/Object;)Z"⟩
def RJ7 : String := "java/util/Arrays"
def TJ7 : u_T := fun k => match k with
  | _ => ("", "", "", false)
def tyJ7 : Nat → FieldType := fun k => match k with
  | _ => .int
theorem nmJ7 : ∀ a, a < 0 → ∀ b, b < 0 → a ≠ b → (TJ7 a).2.1 ≠ (TJ7 b).2.1 := by decide +kernel
theorem tyJ7_ok : ∀ k, k < 0 → parseFieldDescriptor (TJ7 k).2.2.1 = some (tyJ7 k) := by decide +kernel
abbrev cJ7_fill_53178 : ByteArray := prog_25_method_103_code
def yJ7_fill_53178 : MethodName := ⟨RJ7, "fill", "([II)V"⟩
abbrev cJ7_copyOf_1904c : ByteArray := prog_25_method_119_code
def yJ7_copyOf_1904c : MethodName := ⟨RJ7, "copyOf", "([Ljava/lang/Object;I)[Ljava/lang/Object;"⟩
abbrev cJ7_copyOf_6403c : ByteArray := prog_25_method_120_code
def yJ7_copyOf_6403c : MethodName := ⟨RJ7, "copyOf", "([Ljava/lang/Object;ILjava/lang/Class;)[Ljava/lang/Object;"⟩
def RJx5ef63 : String := "java/util/Collection"
def TJx5ef63 : u_T := fun k => match k with
  | _ => ("", "", "", false)
def tyJx5ef63 : Nat → FieldType := fun k => match k with
  | _ => .int
theorem nmJx5ef63 : ∀ a, a < 0 → ∀ b, b < 0 → a ≠ b → (TJx5ef63 a).2.1 ≠ (TJx5ef63 b).2.1 := by decide +kernel
theorem tyJx5ef63_ok : ∀ k, k < 0 → parseFieldDescriptor (TJx5ef63 k).2.2.1 = some (tyJx5ef63 k) := by decide +kernel
def RJxbd725 : String := "java/util/List"
def TJxbd725 : u_T := fun k => match k with
  | _ => ("", "", "", false)
def tyJxbd725 : Nat → FieldType := fun k => match k with
  | _ => .int
theorem nmJxbd725 : ∀ a, a < 0 → ∀ b, b < 0 → a ≠ b → (TJxbd725 a).2.1 ≠ (TJxbd725 b).2.1 := by decide +kernel
theorem tyJxbd725_ok : ∀ k, k < 0 → parseFieldDescriptor (TJxbd725 k).2.2.1 = some (tyJxbd725 k) := by decide +kernel
def RJ15 : String := "java/util/Objects"
def TJ15 : u_T := fun k => match k with
  | _ => ("", "", "", false)
def tyJ15 : Nat → FieldType := fun k => match k with
  | _ => .int
theorem nmJ15 : ∀ a, a < 0 → ∀ b, b < 0 → a ≠ b → (TJ15 a).2.1 ≠ (TJ15 b).2.1 := by decide +kernel
theorem tyJ15_ok : ∀ k, k < 0 → parseFieldDescriptor (TJ15 k).2.2.1 = some (tyJ15 k) := by decide +kernel
abbrev cJ15_checkIndex_7cf53 : ByteArray := prog_28_method_17_code
def yJ15_checkIndex_7cf53 : MethodName := ⟨RJ15, "checkIndex", "(II)I"⟩
def RJxf0a74 : String := "java/util/RandomAccess"
def TJxf0a74 : u_T := fun k => match k with
  | _ => ("", "", "", false)
def tyJxf0a74 : Nat → FieldType := fun k => match k with
  | _ => .int
theorem nmJxf0a74 : ∀ a, a < 0 → ∀ b, b < 0 → a ≠ b → (TJxf0a74 a).2.1 ≠ (TJxf0a74 b).2.1 := by decide +kernel
theorem tyJxf0a74_ok : ∀ k, k < 0 → parseFieldDescriptor (TJxf0a74 k).2.2.1 = some (tyJxf0a74 k) := by decide +kernel
def RJxa66e6 : String := "java/util/SequencedCollection"
def TJxa66e6 : u_T := fun k => match k with
  | _ => ("", "", "", false)
def tyJxa66e6 : Nat → FieldType := fun k => match k with
  | _ => .int
theorem nmJxa66e6 : ∀ a, a < 0 → ∀ b, b < 0 → a ≠ b → (TJxa66e6 a).2.1 ≠ (TJxa66e6 b).2.1 := by decide +kernel
theorem tyJxa66e6_ok : ∀ k, k < 0 → parseFieldDescriptor (TJxa66e6 k).2.2.1 = some (tyJxa66e6 k) := by decide +kernel
def RJ8 : String := "jdk/internal/util/ArraysSupport"
def TJ8 : u_T := fun k => match k with
  | _ => ("", "", "", false)
def tyJ8 : Nat → FieldType := fun k => match k with
  | _ => .int
theorem nmJ8 : ∀ a, a < 0 → ∀ b, b < 0 → a ≠ b → (TJ8 a).2.1 ≠ (TJ8 b).2.1 := by decide +kernel
theorem tyJ8_ok : ∀ k, k < 0 → parseFieldDescriptor (TJ8 k).2.2.1 = some (tyJ8 k) := by decide +kernel
abbrev cJ8_newLength_cabcc : ByteArray := prog_31_method_27_code
def yJ8_newLength_cabcc : MethodName := ⟨RJ8, "newLength", "(III)I"⟩
abbrev cJ8_hugeLength_7cf53 : ByteArray := prog_31_method_28_code
def yJ8_hugeLength_7cf53 : MethodName := ⟨RJ8, "hugeLength", "(II)I"⟩
def RJ3 : String := "jdk/internal/util/Preconditions"
def TJ3 : u_T := fun k => match k with
  | _ => ("", "", "", false)
def tyJ3 : Nat → FieldType := fun k => match k with
  | _ => .int
theorem nmJ3 : ∀ a, a < 0 → ∀ b, b < 0 → a ≠ b → (TJ3 a).2.1 ≠ (TJ3 b).2.1 := by decide +kernel
theorem tyJ3_ok : ∀ k, k < 0 → parseFieldDescriptor (TJ3 k).2.2.1 = some (tyJ3 k) := by decide +kernel
abbrev cJ3_checkIndex_8e157 : ByteArray := prog_32_method_11_code
def yJ3_checkIndex_8e157 : MethodName := ⟨RJ3, "checkIndex", "(IILjava/util/function/BiFunction;)I"⟩
def RL : String := "DovetailRowLaw"
abbrev cL_weather : ByteArray := method_3_code
def yL_weather : MethodName := ⟨RL, "weather", "(LDovetailRow;II[J)I"⟩
abbrev cL_pass : ByteArray := method_4_code
def yL_pass : MethodName := ⟨RL, "pass", "(LDovetailRow;I[J)I"⟩
abbrev cL_board : ByteArray := method_5_code
def yL_board : MethodName := ⟨RL, "board", "(LDovetailRow;IIIIII[J)I"⟩
abbrev cL_knot : ByteArray := method_6_code
def yL_knot : MethodName := ⟨RL, "knot", "(LDovetailRow;III[J)I"⟩
abbrev cL_cut : ByteArray := method_7_code
def yL_cut : MethodName := ⟨RL, "cut", "(LDovetailRow;IIIIZ[J)I"⟩
abbrev cL_sharpen : ByteArray := method_8_code
def yL_sharpen : MethodName := ⟨RL, "sharpen", "(LDovetailRow;I[J)I"⟩
abbrev cL_clearFrom : ByteArray := method_9_code
def yL_clearFrom : MethodName := ⟨RL, "clearFrom", "(LDovetailRow;II[J)I"⟩
abbrev cL_coat : ByteArray := method_10_code
def yL_coat : MethodName := ⟨RL, "coat", "(LDovetailRow;I[J)I"⟩
abbrev cL_match : ByteArray := method_11_code
def yL_match : MethodName := ⟨RL, "match", "(LDovetailRow;II[J)I"⟩
abbrev cL_joint : ByteArray := method_12_code
def yL_joint : MethodName := ⟨RL, "joint", "(LDovetailRow;IIIII[J)I"⟩
abbrev cL_need : ByteArray := method_13_code
def yL_need : MethodName := ⟨RL, "need", "(LDovetailRow;II[J)I"⟩
abbrev cL_clamps : ByteArray := method_14_code
def yL_clamps : MethodName := ⟨RL, "clamps", "(LDovetailRow;I[J)I"⟩
abbrev cL_glue : ByteArray := method_15_code
def yL_glue : MethodName := ⟨RL, "glue", "(LDovetailRow;I[J)I"⟩
abbrev cL_repair : ByteArray := method_16_code
def yL_repair : MethodName := ⟨RL, "repair", "(LDovetailRow;I[J)I"⟩
abbrev cL_through : ByteArray := method_17_code
def yL_through : MethodName := ⟨RL, "through", "(LDovetailRow;I[J)I"⟩
abbrev cL_breaksIn : ByteArray := method_18_code
def yL_breaksIn : MethodName := ⟨RL, "breaksIn", "(LDovetailRow;II[J)I"⟩
abbrev cL_ofBoard : ByteArray := method_19_code
def yL_ofBoard : MethodName := ⟨RL, "ofBoard", "(LDovetailRow;II[J)I"⟩
abbrev cL_ofPart : ByteArray := method_20_code
def yL_ofPart : MethodName := ⟨RL, "ofPart", "(LDovetailRow;II[J)I"⟩
abbrev cL_ofJoint : ByteArray := method_21_code
def yL_ofJoint : MethodName := ⟨RL, "ofJoint", "(LDovetailRow;II[J)I"⟩
abbrev cL_law : ByteArray := code
def yL_law : MethodName := ⟨RL, "law", "([I)Z"⟩
abbrev vwCl : List vw_C := [(RJx4a65c, TJx4a65c, 3), (RX0, TX0, 11), (RX1, TX1, 9), (RX2, TX2, 9), (RX3, TX3, 2), (RX5, TX5, 8), (RX6, TX6, 36)]
end
section
/-! ===== the words of the tables that a method may ask for, each by its place ===== -/
def wU : List Cond := (k2_sels lw_privs ++ tables_1).filter goodWord
theorem wU_tbl : ∀ w ∈ wU, w ∈ lw_tbl := fun _ h => (List.mem_filter.mp h).1
theorem wU_good {w : Cond} (h : w ∈ wU) : (w.onTables && w.keeps) = true ∨ ∃ ty, w = .arrayClass ty := good_of_word (List.mem_filter.mp h).2
theorem wU_s {w : Cond} (h : w ∈ k2_sels lw_privs) (g : goodWord w = true) : w ∈ wU := List.mem_filter.mpr ⟨List.mem_append_left _ h, g⟩
theorem wU_1 {w : Cond} (h : w ∈ tables_1_1) (g : goodWord w = true) : w ∈ wU := List.mem_filter.mpr ⟨List.mem_append_right _ (show w ∈ tables_1_1 ++ (tables_1_2 ++ (tables_1_3 ++ (tables_1_4 ++ tables_1_5))) from List.mem_append_left _ (h)), g⟩
theorem wT_1 {w : Cond} (h : w ∈ tables_1_1) : w ∈ lw_tbl := List.mem_append_right _ (show w ∈ tables_1_1 ++ (tables_1_2 ++ (tables_1_3 ++ (tables_1_4 ++ tables_1_5))) from List.mem_append_left _ (h))
theorem wU_2 {w : Cond} (h : w ∈ tables_1_2) (g : goodWord w = true) : w ∈ wU := List.mem_filter.mpr ⟨List.mem_append_right _ (show w ∈ tables_1_1 ++ (tables_1_2 ++ (tables_1_3 ++ (tables_1_4 ++ tables_1_5))) from List.mem_append_right _ (List.mem_append_left _ (h))), g⟩
theorem wT_2 {w : Cond} (h : w ∈ tables_1_2) : w ∈ lw_tbl := List.mem_append_right _ (show w ∈ tables_1_1 ++ (tables_1_2 ++ (tables_1_3 ++ (tables_1_4 ++ tables_1_5))) from List.mem_append_right _ (List.mem_append_left _ (h)))
theorem wU_3 {w : Cond} (h : w ∈ tables_1_3) (g : goodWord w = true) : w ∈ wU := List.mem_filter.mpr ⟨List.mem_append_right _ (show w ∈ tables_1_1 ++ (tables_1_2 ++ (tables_1_3 ++ (tables_1_4 ++ tables_1_5))) from List.mem_append_right _ (List.mem_append_right _ (List.mem_append_left _ (h)))), g⟩
theorem wT_3 {w : Cond} (h : w ∈ tables_1_3) : w ∈ lw_tbl := List.mem_append_right _ (show w ∈ tables_1_1 ++ (tables_1_2 ++ (tables_1_3 ++ (tables_1_4 ++ tables_1_5))) from List.mem_append_right _ (List.mem_append_right _ (List.mem_append_left _ (h))))
theorem wU_4 {w : Cond} (h : w ∈ tables_1_4) (g : goodWord w = true) : w ∈ wU := List.mem_filter.mpr ⟨List.mem_append_right _ (show w ∈ tables_1_1 ++ (tables_1_2 ++ (tables_1_3 ++ (tables_1_4 ++ tables_1_5))) from List.mem_append_right _ (List.mem_append_right _ (List.mem_append_right _ (List.mem_append_left _ (h))))), g⟩
theorem wT_4 {w : Cond} (h : w ∈ tables_1_4) : w ∈ lw_tbl := List.mem_append_right _ (show w ∈ tables_1_1 ++ (tables_1_2 ++ (tables_1_3 ++ (tables_1_4 ++ tables_1_5))) from List.mem_append_right _ (List.mem_append_right _ (List.mem_append_right _ (List.mem_append_left _ (h)))))
theorem wU_5 {w : Cond} (h : w ∈ tables_1_5) (g : goodWord w = true) : w ∈ wU := List.mem_filter.mpr ⟨List.mem_append_right _ (show w ∈ tables_1_1 ++ (tables_1_2 ++ (tables_1_3 ++ (tables_1_4 ++ tables_1_5))) from List.mem_append_right _ (List.mem_append_right _ (List.mem_append_right _ (List.mem_append_right _ (h))))), g⟩
theorem wT_5 {w : Cond} (h : w ∈ tables_1_5) : w ∈ lw_tbl := List.mem_append_right _ (show w ∈ tables_1_1 ++ (tables_1_2 ++ (tables_1_3 ++ (tables_1_4 ++ tables_1_5))) from List.mem_append_right _ (List.mem_append_right _ (List.mem_append_right _ (List.mem_append_right _ (h)))))
theorem tw_0 : Jvm.Cond.initialized "DovetailRowLaw" ∈ wU := wU_1 (List.mem_of_getElem? (i := 0) rfl) rfl
theorem tw_1 : Jvm.Cond.initialized "DovetailRow" ∈ wU := wU_1 (List.mem_of_getElem? (i := 1) rfl) rfl
theorem tw_2 : Jvm.Cond.initialized "java/util/AbstractCollection" ∈ wU := wU_1 (List.mem_of_getElem? (i := 2) rfl) rfl
theorem tw_3 : Jvm.Cond.initialized "java/util/AbstractList" ∈ wU := wU_1 (List.mem_of_getElem? (i := 3) rfl) rfl
theorem tw_4 : Jvm.Cond.initialized "java/util/ArrayList" ∈ wU := wU_1 (List.mem_of_getElem? (i := 4) rfl) rfl
theorem tw_5 : Jvm.Cond.initialized "java/util/Arrays" ∈ wU := wU_1 (List.mem_of_getElem? (i := 5) rfl) rfl
theorem tw_6 : Jvm.Cond.initialized "DovetailRowModel" ∈ wU := wU_1 (List.mem_of_getElem? (i := 6) rfl) rfl
theorem tw_7 : Jvm.Cond.initialized "java/lang/Throwable" ∈ wU := wU_1 (List.mem_of_getElem? (i := 7) rfl) rfl
theorem tw_8 : Jvm.Cond.initialized "java/lang/Exception" ∈ wU := wU_1 (List.mem_of_getElem? (i := 8) rfl) rfl
theorem tw_9 : Jvm.Cond.initialized "java/lang/RuntimeException" ∈ wU := wU_1 (List.mem_of_getElem? (i := 9) rfl) rfl
theorem tw_10 : Jvm.Cond.initialized "java/lang/IndexOutOfBoundsException" ∈ wU := wU_1 (List.mem_of_getElem? (i := 10) rfl) rfl
theorem tw_11 : Jvm.Cond.initialized "java/lang/IllegalArgumentException" ∈ wU := wU_1 (List.mem_of_getElem? (i := 11) rfl) rfl
theorem tw_12 : Jvm.Cond.initialized "java/lang/IllegalStateException" ∈ wU := wU_1 (List.mem_of_getElem? (i := 12) rfl) rfl
theorem tw_13 : Jvm.Cond.initialized "java/lang/Math" ∈ wU := wU_1 (List.mem_of_getElem? (i := 13) rfl) rfl
theorem tw_14 : Jvm.Cond.initialized "java/util/Objects" ∈ wU := wU_1 (List.mem_of_getElem? (i := 14) rfl) rfl
theorem tw_15 : Jvm.Cond.initialized "jdk/internal/util/Preconditions" ∈ wU := wU_1 (List.mem_of_getElem? (i := 15) rfl) rfl
theorem tw_16 : Jvm.Cond.initialized "java/lang/Integer" ∈ wU := wU_1 (List.mem_of_getElem? (i := 16) rfl) rfl
theorem tw_17 : Jvm.Cond.initialized "DovetailRow$Wood" ∈ wU := wU_1 (List.mem_of_getElem? (i := 17) rfl) rfl
theorem tw_18 : Jvm.Cond.initialized "DovetailRow$Board" ∈ wU := wU_1 (List.mem_of_getElem? (i := 18) rfl) rfl
theorem tw_19 : Jvm.Cond.initialized "jdk/internal/util/ArraysSupport" ∈ wU := wU_1 (List.mem_of_getElem? (i := 19) rfl) rfl
theorem tw_20 : Jvm.Cond.initialized "java/lang/System" ∈ wU := wU_1 (List.mem_of_getElem? (i := 20) rfl) rfl
theorem tw_21 : Jvm.Cond.initialized "DovetailRow$Span" ∈ wU := wU_1 (List.mem_of_getElem? (i := 21) rfl) rfl
theorem tw_22 : Jvm.Cond.initialized "DovetailRow$Part" ∈ wU := wU_1 (List.mem_of_getElem? (i := 22) rfl) rfl
theorem tw_23 : Jvm.Cond.initialized "DovetailRow$Joint" ∈ wU := wU_1 (List.mem_of_getElem? (i := 23) rfl) rfl
theorem tw_24 : Jvm.Cond.classLink "DovetailRowLaw" (8 : Nat) "DovetailRow" ∈ wU := wU_1 (List.mem_of_getElem? (i := 24) rfl) rfl
theorem tw_25 : Jvm.Cond.instantiable "DovetailRow" (8 : Nat) ∈ wU := wU_1 (List.mem_of_getElem? (i := 25) rfl) rfl
theorem tw_26 : Jvm.Cond.methodLink "DovetailRowLaw" (78 : Nat) ({ cls := "DovetailRow", name := "<init>", desc := "()V" } : Jvm.MethodName) ∈ wU := wU_1 (List.mem_of_getElem? (i := 26) rfl) rfl
theorem tw_27 : Jvm.Cond.instanceMethod ({ cls := "DovetailRow", name := "<init>", desc := "()V" } : Jvm.MethodName) ∈ wU := wU_1 (List.mem_of_getElem? (i := 27) rfl) rfl
theorem tw_28 : Jvm.Cond.code ({ cls := "DovetailRow", name := "<init>", desc := "()V" } : Jvm.MethodName) prog_1_method_1_code (1 : Nat) (Option.none : Option Jvm.ClassFile.FieldType) ∈ wU := wU_1 (List.mem_of_getElem? (i := 28) rfl) rfl
theorem tw_29 : Jvm.Cond.methodLink "DovetailRow" (1 : Nat) ({ cls := "java/lang/Object", name := "<init>", desc := "()V" } : Jvm.MethodName) ∈ wU := wU_1 (List.mem_of_getElem? (i := 29) rfl) rfl
theorem tw_30 : Jvm.Cond.instanceMethod ({ cls := "java/lang/Object", name := "<init>", desc := "()V" } : Jvm.MethodName) ∈ wU := wU_1 (List.mem_of_getElem? (i := 30) rfl) rfl
theorem tw_31 : Jvm.Cond.code ({ cls := "java/lang/Object", name := "<init>", desc := "()V" } : Jvm.MethodName) object_method_1_code (1 : Nat) (Option.none : Option Jvm.ClassFile.FieldType) ∈ wU := wU_1 (List.mem_of_getElem? (i := 31) rfl) rfl
theorem tw_32 : Jvm.Cond.classLink "DovetailRow" (7 : Nat) "java/util/ArrayList" ∈ wU := wU_1 (List.mem_of_getElem? (i := 32) rfl) rfl
theorem tw_33 : Jvm.Cond.instantiable "java/util/ArrayList" (3 : Nat) ∈ wU := wU_1 (List.mem_of_getElem? (i := 33) rfl) rfl
theorem tw_34 : Jvm.Cond.methodLink "DovetailRow" (9 : Nat) ({ cls := "java/util/ArrayList", name := "<init>", desc := "()V" } : Jvm.MethodName) ∈ wU := wU_1 (List.mem_of_getElem? (i := 34) rfl) rfl
theorem tw_35 : Jvm.Cond.instanceMethod ({ cls := "java/util/ArrayList", name := "<init>", desc := "()V" } : Jvm.MethodName) ∈ wU := wU_1 (List.mem_of_getElem? (i := 35) rfl) rfl
theorem tw_36 : Jvm.Cond.code ({ cls := "java/util/ArrayList", name := "<init>", desc := "()V" } : Jvm.MethodName) prog_24_method_2_code (1 : Nat) (Option.none : Option Jvm.ClassFile.FieldType) ∈ wU := wU_1 (List.mem_of_getElem? (i := 36) rfl) rfl
theorem tw_37 : Jvm.Cond.methodLink "java/util/ArrayList" (1 : Nat) ({ cls := "java/util/AbstractList", name := "<init>", desc := "()V" } : Jvm.MethodName) ∈ wU := wU_1 (List.mem_of_getElem? (i := 37) rfl) rfl
theorem tw_38 : Jvm.Cond.instanceMethod ({ cls := "java/util/AbstractList", name := "<init>", desc := "()V" } : Jvm.MethodName) ∈ wU := wU_1 (List.mem_of_getElem? (i := 38) rfl) rfl
theorem tw_39 : Jvm.Cond.code ({ cls := "java/util/AbstractList", name := "<init>", desc := "()V" } : Jvm.MethodName) prog_23_method_1_code (1 : Nat) (Option.none : Option Jvm.ClassFile.FieldType) ∈ wU := wU_1 (List.mem_of_getElem? (i := 39) rfl) rfl
theorem tw_40 : Jvm.Cond.methodLink "java/util/AbstractList" (1 : Nat) ({ cls := "java/util/AbstractCollection", name := "<init>", desc := "()V" } : Jvm.MethodName) ∈ wU := wU_1 (List.mem_of_getElem? (i := 40) rfl) rfl
theorem tw_41 : Jvm.Cond.instanceMethod ({ cls := "java/util/AbstractCollection", name := "<init>", desc := "()V" } : Jvm.MethodName) ∈ wU := wU_1 (List.mem_of_getElem? (i := 41) rfl) rfl
theorem tw_42 : Jvm.Cond.code ({ cls := "java/util/AbstractCollection", name := "<init>", desc := "()V" } : Jvm.MethodName) prog_22_method_1_code (1 : Nat) (Option.none : Option Jvm.ClassFile.FieldType) ∈ wU := wU_1 (List.mem_of_getElem? (i := 42) rfl) rfl
theorem tw_43 : Jvm.Cond.methodLink "java/util/AbstractCollection" (1 : Nat) ({ cls := "java/lang/Object", name := "<init>", desc := "()V" } : Jvm.MethodName) ∈ wU := wU_1 (List.mem_of_getElem? (i := 43) rfl) rfl
theorem tw_44 : Jvm.Cond.fieldLink "java/util/ArrayList" (39 : Nat) "java/util/ArrayList" "DEFAULTCAPACITY_EMPTY_ELEMENTDATA" "[Ljava/lang/Object;" ∈ wU := wU_1 (List.mem_of_getElem? (i := 44) rfl) rfl
theorem tw_45 : Jvm.Cond.laysStatic "java/util/ArrayList" "DEFAULTCAPACITY_EMPTY_ELEMENTDATA" "[Ljava/lang/Object;" ∈ lw_tbl := wT_1 (List.mem_of_getElem? (i := 45) rfl)
theorem tw_46 : Jvm.Cond.fieldLink "java/util/ArrayList" (9 : Nat) "java/util/ArrayList" "elementData" "[Ljava/lang/Object;" ∈ wU := wU_1 (List.mem_of_getElem? (i := 46) rfl) rfl
theorem tw_47 : Jvm.Cond.fieldLink "java/util/ArrayList" (48 : Nat) "java/util/ArrayList" "size" "I" ∈ wU := wU_1 (List.mem_of_getElem? (i := 47) rfl) rfl
theorem tw_48 : Jvm.Cond.fieldLink "java/util/AbstractList" (7 : Nat) "java/util/AbstractList" "modCount" "I" ∈ wU := wU_1 (List.mem_of_getElem? (i := 48) rfl) rfl
theorem tw_49 : Jvm.Cond.fieldLink "java/util/ArrayList" (63 : Nat) "java/util/ArrayList" "modCount" "I" ∈ wU := wU_1 (List.mem_of_getElem? (i := 49) rfl) rfl
theorem tw_50 : Jvm.Cond.sameField "java/util/ArrayList" "java/util/AbstractList" "modCount" "I" ∈ wU := wU_1 (List.mem_of_getElem? (i := 50) rfl) rfl
theorem tw_51 : Jvm.Cond.lays "java/util/ArrayList" "java/util/ArrayList" "elementData" "[Ljava/lang/Object;" ∈ wU := wU_1 (List.mem_of_getElem? (i := 51) rfl) rfl
theorem tw_52 : Jvm.Cond.soleField "java/util/ArrayList" "elementData" ∈ wU := wU_1 (List.mem_of_getElem? (i := 52) rfl) rfl
theorem tw_53 : Jvm.Cond.lays "java/util/ArrayList" "java/util/ArrayList" "size" "I" ∈ wU := wU_1 (List.mem_of_getElem? (i := 53) rfl) rfl
theorem tw_54 : Jvm.Cond.soleField "java/util/ArrayList" "size" ∈ wU := wU_1 (List.mem_of_getElem? (i := 54) rfl) rfl
theorem tw_55 : Jvm.Cond.lays "java/util/ArrayList" "java/util/AbstractList" "modCount" "I" ∈ wU := wU_1 (List.mem_of_getElem? (i := 55) rfl) rfl
theorem tw_56 : Jvm.Cond.soleField "java/util/AbstractList" "modCount" ∈ wU := wU_1 (List.mem_of_getElem? (i := 56) rfl) rfl
theorem tw_57 : Jvm.Cond.superclass "java/util/ArrayList" "java/util/AbstractList" ∈ lw_tbl := wT_1 (List.mem_of_getElem? (i := 57) rfl)
theorem tw_58 : Jvm.Cond.methodLink "DovetailRow" (39 : Nat) ({ cls := "java/util/Arrays", name := "fill", desc := "([II)V" } : Jvm.MethodName) ∈ wU := wU_1 (List.mem_of_getElem? (i := 58) rfl) rfl
theorem tw_59 : Jvm.Cond.static ({ cls := "java/util/Arrays", name := "fill", desc := "([II)V" } : Jvm.MethodName) ∈ wU := wU_1 (List.mem_of_getElem? (i := 59) rfl) rfl
theorem tw_60 : Jvm.Cond.code ({ cls := "java/util/Arrays", name := "fill", desc := "([II)V" } : Jvm.MethodName) prog_25_method_103_code (4 : Nat) (Option.none : Option Jvm.ClassFile.FieldType) ∈ wU := wU_1 (List.mem_of_getElem? (i := 60) rfl) rfl
theorem tw_61 : Jvm.Cond.fieldLink "DovetailRow" (10 : Nat) "DovetailRow" "boards" "Ljava/util/ArrayList;" ∈ wU := wU_1 (List.mem_of_getElem? (i := 61) rfl) rfl
theorem tw_62 : Jvm.Cond.fieldLink "DovetailRow" (16 : Nat) "DovetailRow" "parts" "Ljava/util/ArrayList;" ∈ wU := wU_1 (List.mem_of_getElem? (i := 62) rfl) rfl
theorem tw_63 : Jvm.Cond.fieldLink "DovetailRow" (19 : Nat) "DovetailRow" "joints" "Ljava/util/ArrayList;" ∈ wU := wU_1 (List.mem_of_getElem? (i := 63) rfl) rfl
theorem tw_64 : Jvm.Cond.fieldLink "DovetailRow" (22 : Nat) "DovetailRow" "air" "[I" ∈ wU := wU_1 (List.mem_of_getElem? (i := 64) rfl) rfl
theorem tw_65 : Jvm.Cond.fieldLink "DovetailRow" (26 : Nat) "DovetailRow" "nextMonth" "I" ∈ wU := wU_1 (List.mem_of_getElem? (i := 65) rfl) rfl
theorem tw_66 : Jvm.Cond.fieldLink "DovetailRow" (30 : Nat) "DovetailRow" "saw" "I" ∈ wU := wU_1 (List.mem_of_getElem? (i := 66) rfl) rfl
theorem tw_67 : Jvm.Cond.fieldLink "DovetailRow" (33 : Nat) "DovetailRow" "chisel" "I" ∈ wU := wU_1 (List.mem_of_getElem? (i := 67) rfl) rfl
theorem tw_68 : Jvm.Cond.fieldLink "DovetailRow" (36 : Nat) "DovetailRow" "clampCount" "I" ∈ wU := wU_1 (List.mem_of_getElem? (i := 68) rfl) rfl
theorem tw_69 : Jvm.Cond.laysFinal "DovetailRow" "DovetailRow" "boards" "Ljava/util/ArrayList;" ∈ wU := wU_1 (List.mem_of_getElem? (i := 69) rfl) rfl
theorem tw_70 : Jvm.Cond.soleField "DovetailRow" "boards" ∈ wU := wU_1 (List.mem_of_getElem? (i := 70) rfl) rfl
theorem tw_71 : Jvm.Cond.laysFinal "DovetailRow" "DovetailRow" "parts" "Ljava/util/ArrayList;" ∈ wU := wU_1 (List.mem_of_getElem? (i := 71) rfl) rfl
theorem tw_72 : Jvm.Cond.soleField "DovetailRow" "parts" ∈ wU := wU_1 (List.mem_of_getElem? (i := 72) rfl) rfl
theorem tw_73 : Jvm.Cond.laysFinal "DovetailRow" "DovetailRow" "joints" "Ljava/util/ArrayList;" ∈ wU := wU_1 (List.mem_of_getElem? (i := 73) rfl) rfl
theorem tw_74 : Jvm.Cond.soleField "DovetailRow" "joints" ∈ wU := wU_1 (List.mem_of_getElem? (i := 74) rfl) rfl
theorem tw_75 : Jvm.Cond.laysFinal "DovetailRow" "DovetailRow" "air" "[I" ∈ wU := wU_1 (List.mem_of_getElem? (i := 75) rfl) rfl
theorem tw_76 : Jvm.Cond.soleField "DovetailRow" "air" ∈ wU := wU_1 (List.mem_of_getElem? (i := 76) rfl) rfl
theorem tw_77 : Jvm.Cond.lays "DovetailRow" "DovetailRow" "nextMonth" "I" ∈ wU := wU_1 (List.mem_of_getElem? (i := 77) rfl) rfl
theorem tw_78 : Jvm.Cond.soleField "DovetailRow" "nextMonth" ∈ wU := wU_1 (List.mem_of_getElem? (i := 78) rfl) rfl
theorem tw_79 : Jvm.Cond.lays "DovetailRow" "DovetailRow" "saw" "I" ∈ wU := wU_1 (List.mem_of_getElem? (i := 79) rfl) rfl
theorem tw_80 : Jvm.Cond.soleField "DovetailRow" "saw" ∈ wU := wU_1 (List.mem_of_getElem? (i := 80) rfl) rfl
theorem tw_81 : Jvm.Cond.lays "DovetailRow" "DovetailRow" "chisel" "I" ∈ wU := wU_1 (List.mem_of_getElem? (i := 81) rfl) rfl
theorem tw_82 : Jvm.Cond.soleField "DovetailRow" "chisel" ∈ wU := wU_1 (List.mem_of_getElem? (i := 82) rfl) rfl
theorem tw_83 : Jvm.Cond.lays "DovetailRow" "DovetailRow" "clampCount" "I" ∈ wU := wU_1 (List.mem_of_getElem? (i := 83) rfl) rfl
theorem tw_84 : Jvm.Cond.soleField "DovetailRow" "clampCount" ∈ wU := wU_1 (List.mem_of_getElem? (i := 84) rfl) rfl
theorem tw_85 : Jvm.Cond.superclass "DovetailRow" "java/lang/Object" ∈ lw_tbl := wT_1 (List.mem_of_getElem? (i := 85) rfl)
theorem tw_86 : Jvm.Cond.arrayClass Jvm.ClassFile.FieldType.int ∈ wU := wU_1 (List.mem_of_getElem? (i := 86) rfl) rfl
theorem tw_87 : Jvm.Cond.methodLink "DovetailRowLaw" (142 : Nat) ({ cls := "DovetailRow", name := "month", desc := "()I" } : Jvm.MethodName) ∈ wU := wU_1 (List.mem_of_getElem? (i := 87) rfl) rfl
theorem tw_88 : Jvm.Cond.instanceMethod ({ cls := "DovetailRow", name := "month", desc := "()I" } : Jvm.MethodName) ∈ wU := wU_1 (List.mem_of_getElem? (i := 88) rfl) rfl
theorem tw_89 : Jvm.Cond.selects "DovetailRow" ({ cls := "DovetailRow", name := "month", desc := "()I" } : Jvm.MethodName) ({ cls := "DovetailRow", name := "month", desc := "()I" } : Jvm.MethodName) ∈ wU := wU_1 (List.mem_of_getElem? (i := 89) rfl) rfl
theorem tw_90 : Jvm.Cond.code ({ cls := "DovetailRow", name := "month", desc := "()I" } : Jvm.MethodName) prog_1_method_18_code (1 : Nat) (Option.some Jvm.ClassFile.FieldType.int) ∈ wU := wU_1 (List.mem_of_getElem? (i := 90) rfl) rfl
theorem tw_91 : Jvm.Cond.methodLink "DovetailRowLaw" (82 : Nat) ({ cls := "DovetailRowLaw", name := "weather", desc := "(LDovetailRow;II[J)I" } : Jvm.MethodName) ∈ wU := wU_1 (List.mem_of_getElem? (i := 91) rfl) rfl
theorem tw_92 : Jvm.Cond.static ({ cls := "DovetailRowLaw", name := "weather", desc := "(LDovetailRow;II[J)I" } : Jvm.MethodName) ∈ wU := wU_1 (List.mem_of_getElem? (i := 92) rfl) rfl
theorem tw_93 : Jvm.Cond.codeWith ({ cls := "DovetailRowLaw", name := "weather", desc := "(LDovetailRow;II[J)I" } : Jvm.MethodName) method_3_code (5 : Nat) (Option.some Jvm.ClassFile.FieldType.int) [((0 : Nat), (10 : Nat), (13 : Nat), (13 : Nat)), ((0 : Nat), (10 : Nat), (17 : Nat), (15 : Nat))] ∈ wU := wU_1 (List.mem_of_getElem? (i := 93) rfl) rfl
theorem tw_94 : Jvm.Cond.classLink "DovetailRowLaw" (13 : Nat) "java/lang/IndexOutOfBoundsException" ∈ wU := wU_1 (List.mem_of_getElem? (i := 94) rfl) rfl
theorem tw_95 : Jvm.Cond.classLink "DovetailRowLaw" (15 : Nat) "java/lang/IllegalArgumentException" ∈ wU := wU_1 (List.mem_of_getElem? (i := 95) rfl) rfl
theorem tw_96 : Jvm.Cond.methodLink "DovetailRowLaw" (7 : Nat) ({ cls := "DovetailRow", name := "weather", desc := "(II)I" } : Jvm.MethodName) ∈ wU := wU_1 (List.mem_of_getElem? (i := 96) rfl) rfl
theorem tw_97 : Jvm.Cond.instanceMethod ({ cls := "DovetailRow", name := "weather", desc := "(II)I" } : Jvm.MethodName) ∈ wU := wU_1 (List.mem_of_getElem? (i := 97) rfl) rfl
theorem tw_98 : Jvm.Cond.selects "DovetailRow" ({ cls := "DovetailRow", name := "weather", desc := "(II)I" } : Jvm.MethodName) ({ cls := "DovetailRow", name := "weather", desc := "(II)I" } : Jvm.MethodName) ∈ wU := wU_1 (List.mem_of_getElem? (i := 98) rfl) rfl
theorem tw_99 : Jvm.Cond.code ({ cls := "DovetailRow", name := "weather", desc := "(II)I" } : Jvm.MethodName) prog_1_method_2_code (4 : Nat) (Option.some Jvm.ClassFile.FieldType.int) ∈ wU := wU_1 (List.mem_of_getElem? (i := 99) rfl) rfl
theorem tw_100 : Jvm.Cond.classLink "DovetailRow" (45 : Nat) "java/lang/IndexOutOfBoundsException" ∈ wU := wU_1 (List.mem_of_getElem? (i := 100) rfl) rfl
theorem tw_101 : Jvm.Cond.instantiable "java/lang/IndexOutOfBoundsException" (6 : Nat) ∈ wU := wU_1 (List.mem_of_getElem? (i := 101) rfl) rfl
theorem tw_102 : Jvm.Cond.castable "java/lang/IndexOutOfBoundsException" "java/lang/IndexOutOfBoundsException" ∈ lw_tbl := wT_1 (List.mem_of_getElem? (i := 102) rfl)
theorem tw_103 : Jvm.Cond.declares ({ cls := "java/lang/RuntimeException", name := "<init>", desc := "()V" } : Jvm.MethodName) ∈ lw_tbl := wT_1 (List.mem_of_getElem? (i := 103) rfl)
theorem tw_104 : Jvm.Cond.declares ({ cls := "java/lang/RuntimeException", name := "<init>", desc := "(Ljava/lang/String;)V" } : Jvm.MethodName) ∈ lw_tbl := wT_1 (List.mem_of_getElem? (i := 104) rfl)
theorem tw_105 : Jvm.Cond.declares ({ cls := "java/lang/Exception", name := "<init>", desc := "()V" } : Jvm.MethodName) ∈ lw_tbl := wT_1 (List.mem_of_getElem? (i := 105) rfl)
theorem tw_106 : Jvm.Cond.declares ({ cls := "java/lang/Exception", name := "<init>", desc := "(Ljava/lang/String;)V" } : Jvm.MethodName) ∈ lw_tbl := wT_1 (List.mem_of_getElem? (i := 106) rfl)
theorem tw_107 : Jvm.Cond.declares ({ cls := "java/lang/Throwable", name := "<init>", desc := "()V" } : Jvm.MethodName) ∈ lw_tbl := wT_1 (List.mem_of_getElem? (i := 107) rfl)
theorem tw_108 : Jvm.Cond.declares ({ cls := "java/lang/Throwable", name := "<init>", desc := "(Ljava/lang/String;)V" } : Jvm.MethodName) ∈ lw_tbl := wT_1 (List.mem_of_getElem? (i := 108) rfl)
theorem tw_109 : Jvm.Cond.selects "java/lang/IndexOutOfBoundsException" ({ cls := "java/lang/Throwable", name := "fillInStackTrace", desc := "(I)Ljava/lang/Throwable;" } : Jvm.MethodName) ({ cls := "java/lang/Throwable", name := "fillInStackTrace", desc := "(I)Ljava/lang/Throwable;" } : Jvm.MethodName) ∈ wU := wU_1 (List.mem_of_getElem? (i := 109) rfl) rfl
theorem tw_110 : Jvm.Cond.selects "java/lang/IndexOutOfBoundsException" ({ cls := "java/lang/Throwable", name := "fillInStackTrace", desc := "()Ljava/lang/Throwable;" } : Jvm.MethodName) ({ cls := "java/lang/Throwable", name := "fillInStackTrace", desc := "()Ljava/lang/Throwable;" } : Jvm.MethodName) ∈ wU := wU_1 (List.mem_of_getElem? (i := 110) rfl) rfl
theorem tw_111 : Jvm.Cond.lays "java/lang/IndexOutOfBoundsException" "java/lang/Throwable" "cause" "Ljava/lang/Throwable;" ∈ wU := wU_1 (List.mem_of_getElem? (i := 111) rfl) rfl
theorem tw_112 : Jvm.Cond.lays "java/lang/Throwable" "java/lang/Throwable" "cause" "Ljava/lang/Throwable;" ∈ wU := wU_1 (List.mem_of_getElem? (i := 112) rfl) rfl
theorem tw_113 : Jvm.Cond.lays "java/lang/IndexOutOfBoundsException" "java/lang/Throwable" "stackTrace" "[Ljava/lang/StackTraceElement;" ∈ wU := wU_1 (List.mem_of_getElem? (i := 113) rfl) rfl
theorem tw_114 : Jvm.Cond.lays "java/lang/Throwable" "java/lang/Throwable" "stackTrace" "[Ljava/lang/StackTraceElement;" ∈ wU := wU_1 (List.mem_of_getElem? (i := 114) rfl) rfl
theorem tw_115 : Jvm.Cond.lays "java/lang/IndexOutOfBoundsException" "java/lang/Throwable" "suppressedExceptions" "Ljava/util/List;" ∈ wU := wU_1 (List.mem_of_getElem? (i := 115) rfl) rfl
theorem tw_116 : Jvm.Cond.lays "java/lang/Throwable" "java/lang/Throwable" "suppressedExceptions" "Ljava/util/List;" ∈ wU := wU_1 (List.mem_of_getElem? (i := 116) rfl) rfl
theorem tw_117 : Jvm.Cond.lays "java/lang/IndexOutOfBoundsException" "java/lang/Throwable" "detailMessage" "Ljava/lang/String;" ∈ wU := wU_1 (List.mem_of_getElem? (i := 117) rfl) rfl
theorem tw_118 : Jvm.Cond.lays "java/lang/Throwable" "java/lang/Throwable" "detailMessage" "Ljava/lang/String;" ∈ wU := wU_1 (List.mem_of_getElem? (i := 118) rfl) rfl
theorem tw_119 : Jvm.Cond.lays "java/lang/IndexOutOfBoundsException" "java/lang/Throwable" "backtrace" "Ljava/lang/Object;" ∈ wU := wU_1 (List.mem_of_getElem? (i := 119) rfl) rfl
theorem tw_120 : Jvm.Cond.lays "java/lang/Throwable" "java/lang/Throwable" "backtrace" "Ljava/lang/Object;" ∈ wU := wU_1 (List.mem_of_getElem? (i := 120) rfl) rfl
theorem tw_121 : Jvm.Cond.fieldLink "java/lang/Throwable" (198 : Nat) "java/lang/Throwable" "backtrace" "Ljava/lang/Object;" ∈ wU := wU_1 (List.mem_of_getElem? (i := 121) rfl) rfl
theorem tw_122 : Jvm.Cond.superclass "java/lang/Throwable" "java/lang/Object" ∈ lw_tbl := wT_1 (List.mem_of_getElem? (i := 122) rfl)
theorem tw_123 : Jvm.Cond.instanceMethod ({ cls := "java/lang/Throwable", name := "<init>", desc := "()V" } : Jvm.MethodName) ∈ wU := wU_1 (List.mem_of_getElem? (i := 123) rfl) rfl
theorem tw_124 : Jvm.Cond.code ({ cls := "java/lang/Throwable", name := "<init>", desc := "()V" } : Jvm.MethodName) prog_21_method_1_code (1 : Nat) (Option.none : Option Jvm.ClassFile.FieldType) ∈ wU := wU_1 (List.mem_of_getElem? (i := 124) rfl) rfl
theorem tw_125 : Jvm.Cond.methodLink "java/lang/Throwable" (1 : Nat) ({ cls := "java/lang/Object", name := "<init>", desc := "()V" } : Jvm.MethodName) ∈ wU := wU_1 (List.mem_of_getElem? (i := 125) rfl) rfl
theorem tw_126 : Jvm.Cond.fieldLink "java/lang/Throwable" (13 : Nat) "java/lang/Throwable" "UNASSIGNED_STACK" "[Ljava/lang/StackTraceElement;" ∈ wU := wU_1 (List.mem_of_getElem? (i := 126) rfl) rfl
theorem tw_127 : Jvm.Cond.laysStatic "java/lang/Throwable" "UNASSIGNED_STACK" "[Ljava/lang/StackTraceElement;" ∈ lw_tbl := wT_1 (List.mem_of_getElem? (i := 127) rfl)
theorem tw_128 : Jvm.Cond.fieldLink "java/lang/Throwable" (20 : Nat) "java/lang/Throwable" "SUPPRESSED_SENTINEL" "Ljava/util/List;" ∈ wU := wU_1 (List.mem_of_getElem? (i := 128) rfl) rfl
theorem tw_129 : Jvm.Cond.laysStatic "java/lang/Throwable" "SUPPRESSED_SENTINEL" "Ljava/util/List;" ∈ lw_tbl := wT_1 (List.mem_of_getElem? (i := 129) rfl)
theorem tw_130 : Jvm.Cond.methodLink "java/lang/Throwable" (27 : Nat) ({ cls := "java/lang/Throwable", name := "fillInStackTrace", desc := "()Ljava/lang/Throwable;" } : Jvm.MethodName) ∈ wU := wU_1 (List.mem_of_getElem? (i := 130) rfl) rfl
theorem tw_131 : Jvm.Cond.instanceMethod ({ cls := "java/lang/Throwable", name := "fillInStackTrace", desc := "()Ljava/lang/Throwable;" } : Jvm.MethodName) ∈ wU := wU_1 (List.mem_of_getElem? (i := 131) rfl) rfl
theorem tw_132 : Jvm.Cond.sameMethod "java/lang/Throwable" "java/lang/Throwable" "fillInStackTrace" "()Ljava/lang/Throwable;" ∈ wU := wU_1 (List.mem_of_getElem? (i := 132) rfl) rfl
theorem tw_133 : Jvm.Cond.selects "java/lang/IllegalArgumentException" ({ cls := "java/lang/Throwable", name := "fillInStackTrace", desc := "()Ljava/lang/Throwable;" } : Jvm.MethodName) ({ cls := "java/lang/Throwable", name := "fillInStackTrace", desc := "()Ljava/lang/Throwable;" } : Jvm.MethodName) ∈ wU := wU_1 (List.mem_of_getElem? (i := 133) rfl) rfl
theorem tw_134 : Jvm.Cond.selects "java/lang/IllegalStateException" ({ cls := "java/lang/Throwable", name := "fillInStackTrace", desc := "()Ljava/lang/Throwable;" } : Jvm.MethodName) ({ cls := "java/lang/Throwable", name := "fillInStackTrace", desc := "()Ljava/lang/Throwable;" } : Jvm.MethodName) ∈ wU := wU_1 (List.mem_of_getElem? (i := 134) rfl) rfl
theorem tw_135 : Jvm.Cond.codeSync ({ cls := "java/lang/Throwable", name := "fillInStackTrace", desc := "()Ljava/lang/Throwable;" } : Jvm.MethodName) prog_21_method_18_code (1 : Nat) (Option.some (Jvm.ClassFile.FieldType.object "java/lang/Throwable")) ∈ lw_tbl := wT_1 (List.mem_of_getElem? (i := 135) rfl)
theorem tw_136 : Jvm.Cond.methodLink "java/lang/Throwable" (202 : Nat) ({ cls := "java/lang/Throwable", name := "fillInStackTrace", desc := "(I)Ljava/lang/Throwable;" } : Jvm.MethodName) ∈ wU := wU_1 (List.mem_of_getElem? (i := 136) rfl) rfl
theorem tw_137 : Jvm.Cond.privateMethod ({ cls := "java/lang/Throwable", name := "fillInStackTrace", desc := "(I)Ljava/lang/Throwable;" } : Jvm.MethodName) ∈ lw_tbl := wT_1 (List.mem_of_getElem? (i := 137) rfl)
theorem tw_138 : Jvm.Cond.instanceMethod ({ cls := "java/lang/Throwable", name := "fillInStackTrace", desc := "(I)Ljava/lang/Throwable;" } : Jvm.MethodName) ∈ wU := wU_1 (List.mem_of_getElem? (i := 138) rfl) rfl
theorem tw_139 : Jvm.Cond.instantiable "java/lang/Throwable" (6 : Nat) ∈ wU := wU_1 (List.mem_of_getElem? (i := 139) rfl) rfl
theorem tw_140 : Jvm.Cond.native ({ cls := "java/lang/Throwable", name := "fillInStackTrace", desc := "(I)Ljava/lang/Throwable;" } : Jvm.MethodName) ∈ lw_tbl := wT_1 (List.mem_of_getElem? (i := 140) rfl)
theorem tw_141 : Jvm.Cond.stringRef "DovetailRow" (47 : Nat) "there is no such month" ∈ lw_tbl := wT_1 (List.mem_of_getElem? (i := 141) rfl)
theorem tw_142 : Jvm.Cond.methodLink "DovetailRow" (49 : Nat) ({ cls := "java/lang/IndexOutOfBoundsException", name := "<init>", desc := "(Ljava/lang/String;)V" } : Jvm.MethodName) ∈ wU := wU_1 (List.mem_of_getElem? (i := 142) rfl) rfl
theorem tw_143 : Jvm.Cond.instanceMethod ({ cls := "java/lang/IndexOutOfBoundsException", name := "<init>", desc := "(Ljava/lang/String;)V" } : Jvm.MethodName) ∈ wU := wU_1 (List.mem_of_getElem? (i := 143) rfl) rfl
theorem tw_144 : Jvm.Cond.code ({ cls := "java/lang/IndexOutOfBoundsException", name := "<init>", desc := "(Ljava/lang/String;)V" } : Jvm.MethodName) prog_14_method_2_code (2 : Nat) (Option.none : Option Jvm.ClassFile.FieldType) ∈ wU := wU_1 (List.mem_of_getElem? (i := 144) rfl) rfl
theorem tw_145 : Jvm.Cond.methodLink "java/lang/IndexOutOfBoundsException" (7 : Nat) ({ cls := "java/lang/RuntimeException", name := "<init>", desc := "(Ljava/lang/String;)V" } : Jvm.MethodName) ∈ wU := wU_1 (List.mem_of_getElem? (i := 145) rfl) rfl
theorem tw_146 : Jvm.Cond.instanceMethod ({ cls := "java/lang/RuntimeException", name := "<init>", desc := "(Ljava/lang/String;)V" } : Jvm.MethodName) ∈ wU := wU_1 (List.mem_of_getElem? (i := 146) rfl) rfl
theorem tw_147 : Jvm.Cond.code ({ cls := "java/lang/RuntimeException", name := "<init>", desc := "(Ljava/lang/String;)V" } : Jvm.MethodName) prog_18_method_2_code (2 : Nat) (Option.none : Option Jvm.ClassFile.FieldType) ∈ wU := wU_1 (List.mem_of_getElem? (i := 147) rfl) rfl
theorem tw_148 : Jvm.Cond.methodLink "java/lang/RuntimeException" (7 : Nat) ({ cls := "java/lang/Exception", name := "<init>", desc := "(Ljava/lang/String;)V" } : Jvm.MethodName) ∈ wU := wU_1 (List.mem_of_getElem? (i := 148) rfl) rfl
theorem tw_149 : Jvm.Cond.instanceMethod ({ cls := "java/lang/Exception", name := "<init>", desc := "(Ljava/lang/String;)V" } : Jvm.MethodName) ∈ wU := wU_1 (List.mem_of_getElem? (i := 149) rfl) rfl
theorem tw_150 : Jvm.Cond.code ({ cls := "java/lang/Exception", name := "<init>", desc := "(Ljava/lang/String;)V" } : Jvm.MethodName) prog_11_method_2_code (2 : Nat) (Option.none : Option Jvm.ClassFile.FieldType) ∈ wU := wU_1 (List.mem_of_getElem? (i := 150) rfl) rfl
theorem tw_151 : Jvm.Cond.methodLink "java/lang/Exception" (7 : Nat) ({ cls := "java/lang/Throwable", name := "<init>", desc := "(Ljava/lang/String;)V" } : Jvm.MethodName) ∈ wU := wU_1 (List.mem_of_getElem? (i := 151) rfl) rfl
theorem tw_152 : Jvm.Cond.instanceMethod ({ cls := "java/lang/Throwable", name := "<init>", desc := "(Ljava/lang/String;)V" } : Jvm.MethodName) ∈ wU := wU_1 (List.mem_of_getElem? (i := 152) rfl) rfl
theorem tw_153 : Jvm.Cond.code ({ cls := "java/lang/Throwable", name := "<init>", desc := "(Ljava/lang/String;)V" } : Jvm.MethodName) prog_21_method_2_code (2 : Nat) (Option.none : Option Jvm.ClassFile.FieldType) ∈ wU := wU_1 (List.mem_of_getElem? (i := 153) rfl) rfl
theorem tw_154 : Jvm.Cond.fieldLink "java/lang/Throwable" (198 : Nat) "java/lang/Throwable" "backtrace" "Ljava/lang/Object;" ∈ wU := wU_1 (List.mem_of_getElem? (i := 154) rfl) rfl
theorem tw_155 : Jvm.Cond.fieldLink "java/lang/Throwable" (31 : Nat) "java/lang/Throwable" "detailMessage" "Ljava/lang/String;" ∈ wU := wU_1 (List.mem_of_getElem? (i := 155) rfl) rfl
theorem tw_156 : Jvm.Cond.fieldLink "java/lang/Throwable" (7 : Nat) "java/lang/Throwable" "cause" "Ljava/lang/Throwable;" ∈ wU := wU_1 (List.mem_of_getElem? (i := 156) rfl) rfl
theorem tw_157 : Jvm.Cond.fieldLink "java/lang/Throwable" (17 : Nat) "java/lang/Throwable" "stackTrace" "[Ljava/lang/StackTraceElement;" ∈ wU := wU_1 (List.mem_of_getElem? (i := 157) rfl) rfl
theorem tw_158 : Jvm.Cond.fieldLink "java/lang/Throwable" (24 : Nat) "java/lang/Throwable" "suppressedExceptions" "Ljava/util/List;" ∈ wU := wU_1 (List.mem_of_getElem? (i := 158) rfl) rfl
theorem tw_159 : Jvm.Cond.soleField "java/lang/Throwable" "backtrace" ∈ wU := wU_1 (List.mem_of_getElem? (i := 159) rfl) rfl
theorem tw_160 : Jvm.Cond.soleField "java/lang/Throwable" "detailMessage" ∈ wU := wU_1 (List.mem_of_getElem? (i := 160) rfl) rfl
theorem tw_161 : Jvm.Cond.soleField "java/lang/Throwable" "cause" ∈ wU := wU_1 (List.mem_of_getElem? (i := 161) rfl) rfl
theorem tw_162 : Jvm.Cond.soleField "java/lang/Throwable" "stackTrace" ∈ wU := wU_1 (List.mem_of_getElem? (i := 162) rfl) rfl
theorem tw_163 : Jvm.Cond.lays "java/lang/IndexOutOfBoundsException" "java/lang/Throwable" "depth" "I" ∈ wU := wU_1 (List.mem_of_getElem? (i := 163) rfl) rfl
theorem tw_164 : Jvm.Cond.soleField "java/lang/Throwable" "depth" ∈ wU := wU_1 (List.mem_of_getElem? (i := 164) rfl) rfl
theorem tw_165 : Jvm.Cond.soleField "java/lang/Throwable" "suppressedExceptions" ∈ wU := wU_1 (List.mem_of_getElem? (i := 165) rfl) rfl
theorem tw_166 : Jvm.Cond.superclass "java/lang/IndexOutOfBoundsException" "java/lang/RuntimeException" ∈ lw_tbl := wT_1 (List.mem_of_getElem? (i := 166) rfl)
theorem tw_167 : Jvm.Cond.arrayClass Jvm.ClassFile.FieldType.byte ∈ wU := wU_1 (List.mem_of_getElem? (i := 167) rfl) rfl
theorem tw_168 : Jvm.Cond.methodLink "DovetailRow" (52 : Nat) ({ cls := "DovetailRow", name := "isWithin", desc := "(III)Z" } : Jvm.MethodName) ∈ wU := wU_1 (List.mem_of_getElem? (i := 168) rfl) rfl
theorem tw_169 : Jvm.Cond.static ({ cls := "DovetailRow", name := "isWithin", desc := "(III)Z" } : Jvm.MethodName) ∈ wU := wU_1 (List.mem_of_getElem? (i := 169) rfl) rfl
theorem tw_170 : Jvm.Cond.code ({ cls := "DovetailRow", name := "isWithin", desc := "(III)Z" } : Jvm.MethodName) prog_1_method_22_code (3 : Nat) (Option.some Jvm.ClassFile.FieldType.boolean) ∈ wU := wU_1 (List.mem_of_getElem? (i := 170) rfl) rfl
theorem tw_171 : Jvm.Cond.classLink "DovetailRow" (56 : Nat) "java/lang/IllegalArgumentException" ∈ wU := wU_1 (List.mem_of_getElem? (i := 171) rfl) rfl
theorem tw_172 : Jvm.Cond.instantiable "java/lang/IllegalArgumentException" (6 : Nat) ∈ wU := wU_1 (List.mem_of_getElem? (i := 172) rfl) rfl
theorem tw_173 : Jvm.Cond.castable "java/lang/IllegalArgumentException" "java/lang/IllegalArgumentException" ∈ lw_tbl := wT_1 (List.mem_of_getElem? (i := 173) rfl)
theorem tw_174 : Jvm.Cond.selects "java/lang/IllegalArgumentException" ({ cls := "java/lang/Throwable", name := "fillInStackTrace", desc := "(I)Ljava/lang/Throwable;" } : Jvm.MethodName) ({ cls := "java/lang/Throwable", name := "fillInStackTrace", desc := "(I)Ljava/lang/Throwable;" } : Jvm.MethodName) ∈ wU := wU_1 (List.mem_of_getElem? (i := 174) rfl) rfl
theorem tw_175 : Jvm.Cond.lays "java/lang/IllegalArgumentException" "java/lang/Throwable" "cause" "Ljava/lang/Throwable;" ∈ wU := wU_1 (List.mem_of_getElem? (i := 175) rfl) rfl
theorem tw_176 : Jvm.Cond.lays "java/lang/IllegalArgumentException" "java/lang/Throwable" "stackTrace" "[Ljava/lang/StackTraceElement;" ∈ wU := wU_1 (List.mem_of_getElem? (i := 176) rfl) rfl
theorem tw_177 : Jvm.Cond.lays "java/lang/IllegalArgumentException" "java/lang/Throwable" "suppressedExceptions" "Ljava/util/List;" ∈ wU := wU_1 (List.mem_of_getElem? (i := 177) rfl) rfl
theorem tw_178 : Jvm.Cond.lays "java/lang/IllegalArgumentException" "java/lang/Throwable" "detailMessage" "Ljava/lang/String;" ∈ wU := wU_1 (List.mem_of_getElem? (i := 178) rfl) rfl
theorem tw_179 : Jvm.Cond.lays "java/lang/IllegalArgumentException" "java/lang/Throwable" "backtrace" "Ljava/lang/Object;" ∈ wU := wU_1 (List.mem_of_getElem? (i := 179) rfl) rfl
theorem tw_180 : Jvm.Cond.stringRef "DovetailRow" (58 : Nat) "moisture is out of its range" ∈ lw_tbl := wT_1 (List.mem_of_getElem? (i := 180) rfl)
theorem tw_181 : Jvm.Cond.methodLink "DovetailRow" (60 : Nat) ({ cls := "java/lang/IllegalArgumentException", name := "<init>", desc := "(Ljava/lang/String;)V" } : Jvm.MethodName) ∈ wU := wU_1 (List.mem_of_getElem? (i := 181) rfl) rfl
theorem tw_182 : Jvm.Cond.instanceMethod ({ cls := "java/lang/IllegalArgumentException", name := "<init>", desc := "(Ljava/lang/String;)V" } : Jvm.MethodName) ∈ wU := wU_1 (List.mem_of_getElem? (i := 182) rfl) rfl
theorem tw_183 : Jvm.Cond.code ({ cls := "java/lang/IllegalArgumentException", name := "<init>", desc := "(Ljava/lang/String;)V" } : Jvm.MethodName) prog_12_method_2_code (2 : Nat) (Option.none : Option Jvm.ClassFile.FieldType) ∈ wU := wU_1 (List.mem_of_getElem? (i := 183) rfl) rfl
theorem tw_184 : Jvm.Cond.methodLink "java/lang/IllegalArgumentException" (7 : Nat) ({ cls := "java/lang/RuntimeException", name := "<init>", desc := "(Ljava/lang/String;)V" } : Jvm.MethodName) ∈ wU := wU_1 (List.mem_of_getElem? (i := 184) rfl) rfl
theorem tw_185 : Jvm.Cond.lays "java/lang/IllegalArgumentException" "java/lang/Throwable" "depth" "I" ∈ wU := wU_1 (List.mem_of_getElem? (i := 185) rfl) rfl
theorem tw_186 : Jvm.Cond.superclass "java/lang/IllegalArgumentException" "java/lang/RuntimeException" ∈ lw_tbl := wT_1 (List.mem_of_getElem? (i := 186) rfl)
theorem tw_187 : Jvm.Cond.methodLink "DovetailRowLaw" (92 : Nat) ({ cls := "DovetailRowLaw", name := "pass", desc := "(LDovetailRow;I[J)I" } : Jvm.MethodName) ∈ wU := wU_1 (List.mem_of_getElem? (i := 187) rfl) rfl
theorem tw_188 : Jvm.Cond.static ({ cls := "DovetailRowLaw", name := "pass", desc := "(LDovetailRow;I[J)I" } : Jvm.MethodName) ∈ wU := wU_1 (List.mem_of_getElem? (i := 188) rfl) rfl
theorem tw_189 : Jvm.Cond.codeWith ({ cls := "DovetailRowLaw", name := "pass", desc := "(LDovetailRow;I[J)I" } : Jvm.MethodName) method_4_code (4 : Nat) (Option.some Jvm.ClassFile.FieldType.int) [((0 : Nat), (9 : Nat), (12 : Nat), (15 : Nat)), ((0 : Nat), (9 : Nat), (15 : Nat), (21 : Nat))] ∈ wU := wU_1 (List.mem_of_getElem? (i := 189) rfl) rfl
theorem tw_190 : Jvm.Cond.classLink "DovetailRowLaw" (21 : Nat) "java/lang/IllegalStateException" ∈ wU := wU_1 (List.mem_of_getElem? (i := 190) rfl) rfl
theorem tw_191 : Jvm.Cond.methodLink "DovetailRowLaw" (17 : Nat) ({ cls := "DovetailRow", name := "pass", desc := "(I)I" } : Jvm.MethodName) ∈ wU := wU_1 (List.mem_of_getElem? (i := 191) rfl) rfl
theorem tw_192 : Jvm.Cond.instanceMethod ({ cls := "DovetailRow", name := "pass", desc := "(I)I" } : Jvm.MethodName) ∈ wU := wU_1 (List.mem_of_getElem? (i := 192) rfl) rfl
theorem tw_193 : Jvm.Cond.selects "DovetailRow" ({ cls := "DovetailRow", name := "pass", desc := "(I)I" } : Jvm.MethodName) ({ cls := "DovetailRow", name := "pass", desc := "(I)I" } : Jvm.MethodName) ∈ wU := wU_1 (List.mem_of_getElem? (i := 193) rfl) rfl
theorem tw_194 : Jvm.Cond.code ({ cls := "DovetailRow", name := "pass", desc := "(I)I" } : Jvm.MethodName) prog_1_method_3_code (4 : Nat) (Option.some Jvm.ClassFile.FieldType.int) ∈ wU := wU_1 (List.mem_of_getElem? (i := 194) rfl) rfl
theorem tw_195 : Jvm.Cond.stringRef "DovetailRow" (61 : Nat) "months is out of its range" ∈ lw_tbl := wT_1 (List.mem_of_getElem? (i := 195) rfl)
theorem tw_196 : Jvm.Cond.classLink "DovetailRow" (63 : Nat) "java/lang/IllegalStateException" ∈ wU := wU_1 (List.mem_of_getElem? (i := 196) rfl) rfl
theorem tw_197 : Jvm.Cond.instantiable "java/lang/IllegalStateException" (6 : Nat) ∈ wU := wU_1 (List.mem_of_getElem? (i := 197) rfl) rfl
theorem tw_198 : Jvm.Cond.castable "java/lang/IllegalStateException" "java/lang/IllegalStateException" ∈ lw_tbl := wT_1 (List.mem_of_getElem? (i := 198) rfl)
theorem tw_199 : Jvm.Cond.selects "java/lang/IllegalStateException" ({ cls := "java/lang/Throwable", name := "fillInStackTrace", desc := "(I)Ljava/lang/Throwable;" } : Jvm.MethodName) ({ cls := "java/lang/Throwable", name := "fillInStackTrace", desc := "(I)Ljava/lang/Throwable;" } : Jvm.MethodName) ∈ wU := wU_1 (List.mem_of_getElem? (i := 199) rfl) rfl
theorem tw_200 : Jvm.Cond.lays "java/lang/IllegalStateException" "java/lang/Throwable" "cause" "Ljava/lang/Throwable;" ∈ wU := wU_1 (List.mem_of_getElem? (i := 200) rfl) rfl
theorem tw_201 : Jvm.Cond.lays "java/lang/IllegalStateException" "java/lang/Throwable" "stackTrace" "[Ljava/lang/StackTraceElement;" ∈ wU := wU_1 (List.mem_of_getElem? (i := 201) rfl) rfl
theorem tw_202 : Jvm.Cond.lays "java/lang/IllegalStateException" "java/lang/Throwable" "suppressedExceptions" "Ljava/util/List;" ∈ wU := wU_1 (List.mem_of_getElem? (i := 202) rfl) rfl
theorem tw_203 : Jvm.Cond.lays "java/lang/IllegalStateException" "java/lang/Throwable" "detailMessage" "Ljava/lang/String;" ∈ wU := wU_1 (List.mem_of_getElem? (i := 203) rfl) rfl
theorem tw_204 : Jvm.Cond.lays "java/lang/IllegalStateException" "java/lang/Throwable" "backtrace" "Ljava/lang/Object;" ∈ wU := wU_1 (List.mem_of_getElem? (i := 204) rfl) rfl
theorem tw_205 : Jvm.Cond.stringRef "DovetailRow" (65 : Nat) "the month would be above 1200" ∈ lw_tbl := wT_1 (List.mem_of_getElem? (i := 205) rfl)
theorem tw_206 : Jvm.Cond.methodLink "DovetailRow" (67 : Nat) ({ cls := "java/lang/IllegalStateException", name := "<init>", desc := "(Ljava/lang/String;)V" } : Jvm.MethodName) ∈ wU := wU_1 (List.mem_of_getElem? (i := 206) rfl) rfl
theorem tw_207 : Jvm.Cond.instanceMethod ({ cls := "java/lang/IllegalStateException", name := "<init>", desc := "(Ljava/lang/String;)V" } : Jvm.MethodName) ∈ wU := wU_1 (List.mem_of_getElem? (i := 207) rfl) rfl
theorem tw_208 : Jvm.Cond.code ({ cls := "java/lang/IllegalStateException", name := "<init>", desc := "(Ljava/lang/String;)V" } : Jvm.MethodName) prog_13_method_2_code (2 : Nat) (Option.none : Option Jvm.ClassFile.FieldType) ∈ wU := wU_1 (List.mem_of_getElem? (i := 208) rfl) rfl
theorem tw_209 : Jvm.Cond.methodLink "java/lang/IllegalStateException" (7 : Nat) ({ cls := "java/lang/RuntimeException", name := "<init>", desc := "(Ljava/lang/String;)V" } : Jvm.MethodName) ∈ wU := wU_1 (List.mem_of_getElem? (i := 209) rfl) rfl
theorem tw_210 : Jvm.Cond.lays "java/lang/IllegalStateException" "java/lang/Throwable" "depth" "I" ∈ wU := wU_1 (List.mem_of_getElem? (i := 210) rfl) rfl
theorem tw_211 : Jvm.Cond.superclass "java/lang/IllegalStateException" "java/lang/RuntimeException" ∈ lw_tbl := wT_1 (List.mem_of_getElem? (i := 211) rfl)
theorem tw_212 : Jvm.Cond.methodLink "DovetailRow" (68 : Nat) ({ cls := "DovetailRow", name := "airIn", desc := "(I)I" } : Jvm.MethodName) ∈ wU := wU_1 (List.mem_of_getElem? (i := 212) rfl) rfl
theorem tw_213 : Jvm.Cond.privateMethod ({ cls := "DovetailRow", name := "airIn", desc := "(I)I" } : Jvm.MethodName) ∈ lw_tbl := wT_1 (List.mem_of_getElem? (i := 213) rfl)
theorem tw_214 : Jvm.Cond.instanceMethod ({ cls := "DovetailRow", name := "airIn", desc := "(I)I" } : Jvm.MethodName) ∈ wU := wU_1 (List.mem_of_getElem? (i := 214) rfl) rfl
theorem tw_215 : Jvm.Cond.code ({ cls := "DovetailRow", name := "airIn", desc := "(I)I" } : Jvm.MethodName) prog_1_method_27_code (2 : Nat) (Option.some Jvm.ClassFile.FieldType.int) ∈ wU := wU_1 (List.mem_of_getElem? (i := 215) rfl) rfl
theorem tw_216 : Jvm.Cond.methodLink "DovetailRow" (313 : Nat) ({ cls := "java/lang/Math", name := "floorMod", desc := "(II)I" } : Jvm.MethodName) ∈ wU := wU_1 (List.mem_of_getElem? (i := 216) rfl) rfl
theorem tw_217 : Jvm.Cond.static ({ cls := "java/lang/Math", name := "floorMod", desc := "(II)I" } : Jvm.MethodName) ∈ wU := wU_1 (List.mem_of_getElem? (i := 217) rfl) rfl
theorem tw_218 : Jvm.Cond.code ({ cls := "java/lang/Math", name := "floorMod", desc := "(II)I" } : Jvm.MethodName) prog_17_method_50_code (3 : Nat) (Option.some Jvm.ClassFile.FieldType.int) ∈ wU := wU_1 (List.mem_of_getElem? (i := 218) rfl) rfl
theorem tw_219 : Jvm.Cond.methodLink "DovetailRow" (72 : Nat) ({ cls := "DovetailRow", name := "moistenAll", desc := "(I)V" } : Jvm.MethodName) ∈ wU := wU_1 (List.mem_of_getElem? (i := 219) rfl) rfl
theorem tw_220 : Jvm.Cond.privateMethod ({ cls := "DovetailRow", name := "moistenAll", desc := "(I)V" } : Jvm.MethodName) ∈ lw_tbl := wT_1 (List.mem_of_getElem? (i := 220) rfl)
theorem tw_221 : Jvm.Cond.instanceMethod ({ cls := "DovetailRow", name := "moistenAll", desc := "(I)V" } : Jvm.MethodName) ∈ wU := wU_1 (List.mem_of_getElem? (i := 221) rfl) rfl
theorem tw_222 : Jvm.Cond.code ({ cls := "DovetailRow", name := "moistenAll", desc := "(I)V" } : Jvm.MethodName) prog_1_method_28_code (3 : Nat) (Option.none : Option Jvm.ClassFile.FieldType) ∈ wU := wU_1 (List.mem_of_getElem? (i := 222) rfl) rfl
theorem tw_223 : Jvm.Cond.methodLink "DovetailRow" (84 : Nat) ({ cls := "java/util/ArrayList", name := "size", desc := "()I" } : Jvm.MethodName) ∈ wU := wU_1 (List.mem_of_getElem? (i := 223) rfl) rfl
theorem tw_224 : Jvm.Cond.instanceMethod ({ cls := "java/util/ArrayList", name := "size", desc := "()I" } : Jvm.MethodName) ∈ wU := wU_1 (List.mem_of_getElem? (i := 224) rfl) rfl
theorem tw_225 : Jvm.Cond.selects "java/util/ArrayList" ({ cls := "java/util/ArrayList", name := "size", desc := "()I" } : Jvm.MethodName) ({ cls := "java/util/ArrayList", name := "size", desc := "()I" } : Jvm.MethodName) ∈ wU := wU_1 (List.mem_of_getElem? (i := 225) rfl) rfl
theorem tw_226 : Jvm.Cond.code ({ cls := "java/util/ArrayList", name := "size", desc := "()I" } : Jvm.MethodName) prog_24_method_8_code (1 : Nat) (Option.some Jvm.ClassFile.FieldType.int) ∈ wU := wU_1 (List.mem_of_getElem? (i := 226) rfl) rfl
theorem tw_227 : Jvm.Cond.methodLink "DovetailRow" (259 : Nat) ({ cls := "java/util/ArrayList", name := "get", desc := "(I)Ljava/lang/Object;" } : Jvm.MethodName) ∈ wU := wU_1 (List.mem_of_getElem? (i := 227) rfl) rfl
theorem tw_228 : Jvm.Cond.instanceMethod ({ cls := "java/util/ArrayList", name := "get", desc := "(I)Ljava/lang/Object;" } : Jvm.MethodName) ∈ wU := wU_1 (List.mem_of_getElem? (i := 228) rfl) rfl
theorem tw_229 : Jvm.Cond.selects "java/util/ArrayList" ({ cls := "java/util/ArrayList", name := "get", desc := "(I)Ljava/lang/Object;" } : Jvm.MethodName) ({ cls := "java/util/ArrayList", name := "get", desc := "(I)Ljava/lang/Object;" } : Jvm.MethodName) ∈ wU := wU_1 (List.mem_of_getElem? (i := 229) rfl) rfl
theorem tw_230 : Jvm.Cond.code ({ cls := "java/util/ArrayList", name := "get", desc := "(I)Ljava/lang/Object;" } : Jvm.MethodName) prog_24_method_20_code (2 : Nat) (Option.some (Jvm.ClassFile.FieldType.object "java/lang/Object")) ∈ wU := wU_1 (List.mem_of_getElem? (i := 230) rfl) rfl
theorem tw_231 : Jvm.Cond.methodLink "java/util/ArrayList" (118 : Nat) ({ cls := "java/util/Objects", name := "checkIndex", desc := "(II)I" } : Jvm.MethodName) ∈ wU := wU_1 (List.mem_of_getElem? (i := 231) rfl) rfl
theorem tw_232 : Jvm.Cond.static ({ cls := "java/util/Objects", name := "checkIndex", desc := "(II)I" } : Jvm.MethodName) ∈ wU := wU_1 (List.mem_of_getElem? (i := 232) rfl) rfl
theorem tw_233 : Jvm.Cond.code ({ cls := "java/util/Objects", name := "checkIndex", desc := "(II)I" } : Jvm.MethodName) prog_28_method_17_code (2 : Nat) (Option.some Jvm.ClassFile.FieldType.int) ∈ wU := wU_1 (List.mem_of_getElem? (i := 233) rfl) rfl
theorem tw_234 : Jvm.Cond.methodLink "java/util/Objects" (105 : Nat) ({ cls := "jdk/internal/util/Preconditions", name := "checkIndex", desc := "(IILjava/util/function/BiFunction;)I" } : Jvm.MethodName) ∈ wU := wU_1 (List.mem_of_getElem? (i := 234) rfl) rfl
theorem tw_235 : Jvm.Cond.static ({ cls := "jdk/internal/util/Preconditions", name := "checkIndex", desc := "(IILjava/util/function/BiFunction;)I" } : Jvm.MethodName) ∈ wU := wU_1 (List.mem_of_getElem? (i := 235) rfl) rfl
theorem tw_236 : Jvm.Cond.code ({ cls := "jdk/internal/util/Preconditions", name := "checkIndex", desc := "(IILjava/util/function/BiFunction;)I" } : Jvm.MethodName) prog_32_method_11_code (3 : Nat) (Option.some Jvm.ClassFile.FieldType.int) ∈ wU := wU_1 (List.mem_of_getElem? (i := 236) rfl) rfl
theorem tw_237 : Jvm.Cond.methodLink "java/util/ArrayList" (123 : Nat) ({ cls := "java/util/ArrayList", name := "elementData", desc := "(I)Ljava/lang/Object;" } : Jvm.MethodName) ∈ wU := wU_1 (List.mem_of_getElem? (i := 237) rfl) rfl
theorem tw_238 : Jvm.Cond.instanceMethod ({ cls := "java/util/ArrayList", name := "elementData", desc := "(I)Ljava/lang/Object;" } : Jvm.MethodName) ∈ wU := wU_1 (List.mem_of_getElem? (i := 238) rfl) rfl
theorem tw_239 : Jvm.Cond.selects "java/util/ArrayList" ({ cls := "java/util/ArrayList", name := "elementData", desc := "(I)Ljava/lang/Object;" } : Jvm.MethodName) ({ cls := "java/util/ArrayList", name := "elementData", desc := "(I)Ljava/lang/Object;" } : Jvm.MethodName) ∈ wU := wU_1 (List.mem_of_getElem? (i := 239) rfl) rfl
theorem tw_240 : Jvm.Cond.code ({ cls := "java/util/ArrayList", name := "elementData", desc := "(I)Ljava/lang/Object;" } : Jvm.MethodName) prog_24_method_18_code (2 : Nat) (Option.some (Jvm.ClassFile.FieldType.object "java/lang/Object")) ∈ wU := wU_2 (List.mem_of_getElem? (i := 0) rfl) rfl
theorem tw_241 : Jvm.Cond.classLink "DovetailRow" (94 : Nat) "DovetailRow$Board" ∈ wU := wU_2 (List.mem_of_getElem? (i := 1) rfl) rfl
theorem tw_242 : Jvm.Cond.methodLink "DovetailRow" (317 : Nat) ({ cls := "DovetailRow$Board", name := "moisten", desc := "(I)V" } : Jvm.MethodName) ∈ wU := wU_2 (List.mem_of_getElem? (i := 2) rfl) rfl
theorem tw_243 : Jvm.Cond.sameMethod "DovetailRow$Board" "DovetailRow$Wood" "moisten" "(I)V" ∈ wU := wU_2 (List.mem_of_getElem? (i := 3) rfl) rfl
theorem tw_244 : Jvm.Cond.declares ({ cls := "DovetailRow$Wood", name := "moisten", desc := "(I)V" } : Jvm.MethodName) ∈ lw_tbl := wT_2 (List.mem_of_getElem? (i := 4) rfl)
theorem tw_245 : Jvm.Cond.selects "DovetailRow$Board" ({ cls := "DovetailRow$Board", name := "moisten", desc := "(I)V" } : Jvm.MethodName) ({ cls := "DovetailRow$Wood", name := "moisten", desc := "(I)V" } : Jvm.MethodName) ∈ wU := wU_2 (List.mem_of_getElem? (i := 5) rfl) rfl
theorem tw_246 : Jvm.Cond.instanceMethod ({ cls := "DovetailRow$Wood", name := "moisten", desc := "(I)V" } : Jvm.MethodName) ∈ wU := wU_2 (List.mem_of_getElem? (i := 6) rfl) rfl
theorem tw_247 : Jvm.Cond.code ({ cls := "DovetailRow$Wood", name := "moisten", desc := "(I)V" } : Jvm.MethodName) prog_6_method_6_code (2 : Nat) (Option.none : Option Jvm.ClassFile.FieldType) ∈ wU := wU_2 (List.mem_of_getElem? (i := 7) rfl) rfl
theorem tw_248 : Jvm.Cond.methodLink "DovetailRow$Wood" (43 : Nat) ({ cls := "DovetailRow$Wood", name := "moistureAfter", desc := "(II)I" } : Jvm.MethodName) ∈ wU := wU_2 (List.mem_of_getElem? (i := 8) rfl) rfl
theorem tw_249 : Jvm.Cond.instanceMethod ({ cls := "DovetailRow$Wood", name := "moistureAfter", desc := "(II)I" } : Jvm.MethodName) ∈ wU := wU_2 (List.mem_of_getElem? (i := 9) rfl) rfl
theorem tw_250 : Jvm.Cond.sameMethod "DovetailRow$Wood" "DovetailRow$Wood" "moistureAfter" "(II)I" ∈ wU := wU_2 (List.mem_of_getElem? (i := 10) rfl) rfl
theorem tw_251 : Jvm.Cond.selects "DovetailRow$Board" ({ cls := "DovetailRow$Wood", name := "moistureAfter", desc := "(II)I" } : Jvm.MethodName) ({ cls := "DovetailRow$Wood", name := "moistureAfter", desc := "(II)I" } : Jvm.MethodName) ∈ wU := wU_2 (List.mem_of_getElem? (i := 11) rfl) rfl
theorem tw_252 : Jvm.Cond.selects "DovetailRow$Part" ({ cls := "DovetailRow$Wood", name := "moistureAfter", desc := "(II)I" } : Jvm.MethodName) ({ cls := "DovetailRow$Wood", name := "moistureAfter", desc := "(II)I" } : Jvm.MethodName) ∈ wU := wU_2 (List.mem_of_getElem? (i := 12) rfl) rfl
theorem tw_253 : Jvm.Cond.code ({ cls := "DovetailRow$Wood", name := "moistureAfter", desc := "(II)I" } : Jvm.MethodName) prog_6_method_5_code (5 : Nat) (Option.some Jvm.ClassFile.FieldType.int) ∈ wU := wU_2 (List.mem_of_getElem? (i := 13) rfl) rfl
theorem tw_254 : Jvm.Cond.methodLink "DovetailRow$Wood" (38 : Nat) ({ cls := "java/lang/Integer", name := "signum", desc := "(I)I" } : Jvm.MethodName) ∈ wU := wU_2 (List.mem_of_getElem? (i := 14) rfl) rfl
theorem tw_255 : Jvm.Cond.static ({ cls := "java/lang/Integer", name := "signum", desc := "(I)I" } : Jvm.MethodName) ∈ wU := wU_2 (List.mem_of_getElem? (i := 15) rfl) rfl
theorem tw_256 : Jvm.Cond.code ({ cls := "java/lang/Integer", name := "signum", desc := "(I)I" } : Jvm.MethodName) prog_15_method_56_code (1 : Nat) (Option.some Jvm.ClassFile.FieldType.int) ∈ wU := wU_2 (List.mem_of_getElem? (i := 16) rfl) rfl
theorem tw_257 : Jvm.Cond.classLink "DovetailRow" (156 : Nat) "DovetailRow$Part" ∈ wU := wU_2 (List.mem_of_getElem? (i := 17) rfl) rfl
theorem tw_258 : Jvm.Cond.methodLink "DovetailRow" (320 : Nat) ({ cls := "DovetailRow$Part", name := "moisten", desc := "(I)V" } : Jvm.MethodName) ∈ wU := wU_2 (List.mem_of_getElem? (i := 18) rfl) rfl
theorem tw_259 : Jvm.Cond.sameMethod "DovetailRow$Part" "DovetailRow$Wood" "moisten" "(I)V" ∈ wU := wU_2 (List.mem_of_getElem? (i := 19) rfl) rfl
theorem tw_260 : Jvm.Cond.selects "DovetailRow$Part" ({ cls := "DovetailRow$Part", name := "moisten", desc := "(I)V" } : Jvm.MethodName) ({ cls := "DovetailRow$Wood", name := "moisten", desc := "(I)V" } : Jvm.MethodName) ∈ wU := wU_2 (List.mem_of_getElem? (i := 20) rfl) rfl
theorem tw_261 : Jvm.Cond.methodLink "DovetailRow" (76 : Nat) ({ cls := "DovetailRow", name := "breakJoints", desc := "()I" } : Jvm.MethodName) ∈ wU := wU_2 (List.mem_of_getElem? (i := 21) rfl) rfl
theorem tw_262 : Jvm.Cond.privateMethod ({ cls := "DovetailRow", name := "breakJoints", desc := "()I" } : Jvm.MethodName) ∈ lw_tbl := wT_2 (List.mem_of_getElem? (i := 22) rfl)
theorem tw_263 : Jvm.Cond.instanceMethod ({ cls := "DovetailRow", name := "breakJoints", desc := "()I" } : Jvm.MethodName) ∈ wU := wU_2 (List.mem_of_getElem? (i := 23) rfl) rfl
theorem tw_264 : Jvm.Cond.code ({ cls := "DovetailRow", name := "breakJoints", desc := "()I" } : Jvm.MethodName) prog_1_method_29_code (4 : Nat) (Option.some Jvm.ClassFile.FieldType.int) ∈ wU := wU_2 (List.mem_of_getElem? (i := 24) rfl) rfl
theorem tw_265 : Jvm.Cond.classLink "DovetailRow" (216 : Nat) "DovetailRow$Joint" ∈ wU := wU_2 (List.mem_of_getElem? (i := 25) rfl) rfl
theorem tw_266 : Jvm.Cond.methodLink "DovetailRow" (284 : Nat) ({ cls := "DovetailRow$Joint", name := "isHeld", desc := "()Z" } : Jvm.MethodName) ∈ wU := wU_2 (List.mem_of_getElem? (i := 26) rfl) rfl
theorem tw_267 : Jvm.Cond.instanceMethod ({ cls := "DovetailRow$Joint", name := "isHeld", desc := "()Z" } : Jvm.MethodName) ∈ wU := wU_2 (List.mem_of_getElem? (i := 27) rfl) rfl
theorem tw_268 : Jvm.Cond.selects "DovetailRow$Joint" ({ cls := "DovetailRow$Joint", name := "isHeld", desc := "()Z" } : Jvm.MethodName) ({ cls := "DovetailRow$Joint", name := "isHeld", desc := "()Z" } : Jvm.MethodName) ∈ wU := wU_2 (List.mem_of_getElem? (i := 28) rfl) rfl
theorem tw_269 : Jvm.Cond.code ({ cls := "DovetailRow$Joint", name := "isHeld", desc := "()Z" } : Jvm.MethodName) prog_3_method_3_code (1 : Nat) (Option.some Jvm.ClassFile.FieldType.boolean) ∈ wU := wU_2 (List.mem_of_getElem? (i := 29) rfl) rfl
theorem tw_270 : Jvm.Cond.methodLink "DovetailRow" (321 : Nat) ({ cls := "DovetailRow$Joint", name := "breaksAt", desc := "(I)Z" } : Jvm.MethodName) ∈ wU := wU_2 (List.mem_of_getElem? (i := 30) rfl) rfl
theorem tw_271 : Jvm.Cond.instanceMethod ({ cls := "DovetailRow$Joint", name := "breaksAt", desc := "(I)Z" } : Jvm.MethodName) ∈ wU := wU_2 (List.mem_of_getElem? (i := 31) rfl) rfl
theorem tw_272 : Jvm.Cond.selects "DovetailRow$Joint" ({ cls := "DovetailRow$Joint", name := "breaksAt", desc := "(I)Z" } : Jvm.MethodName) ({ cls := "DovetailRow$Joint", name := "breaksAt", desc := "(I)Z" } : Jvm.MethodName) ∈ wU := wU_2 (List.mem_of_getElem? (i := 32) rfl) rfl
theorem tw_273 : Jvm.Cond.code ({ cls := "DovetailRow$Joint", name := "breaksAt", desc := "(I)Z" } : Jvm.MethodName) prog_3_method_4_code (2 : Nat) (Option.some Jvm.ClassFile.FieldType.boolean) ∈ wU := wU_2 (List.mem_of_getElem? (i := 33) rfl) rfl
theorem tw_274 : Jvm.Cond.methodLink "DovetailRow$Joint" (46 : Nat) ({ cls := "DovetailRow$Part", name := "movementOf", desc := "(II)I" } : Jvm.MethodName) ∈ wU := wU_2 (List.mem_of_getElem? (i := 34) rfl) rfl
theorem tw_275 : Jvm.Cond.sameMethod "DovetailRow$Part" "DovetailRow$Wood" "movementOf" "(II)I" ∈ wU := wU_2 (List.mem_of_getElem? (i := 35) rfl) rfl
theorem tw_276 : Jvm.Cond.declares ({ cls := "DovetailRow$Wood", name := "movementOf", desc := "(II)I" } : Jvm.MethodName) ∈ lw_tbl := wT_2 (List.mem_of_getElem? (i := 36) rfl)
theorem tw_277 : Jvm.Cond.selects "DovetailRow$Part" ({ cls := "DovetailRow$Part", name := "movementOf", desc := "(II)I" } : Jvm.MethodName) ({ cls := "DovetailRow$Wood", name := "movementOf", desc := "(II)I" } : Jvm.MethodName) ∈ wU := wU_2 (List.mem_of_getElem? (i := 37) rfl) rfl
theorem tw_278 : Jvm.Cond.instanceMethod ({ cls := "DovetailRow$Wood", name := "movementOf", desc := "(II)I" } : Jvm.MethodName) ∈ wU := wU_2 (List.mem_of_getElem? (i := 38) rfl) rfl
theorem tw_279 : Jvm.Cond.code ({ cls := "DovetailRow$Wood", name := "movementOf", desc := "(II)I" } : Jvm.MethodName) prog_6_method_2_code (3 : Nat) (Option.some Jvm.ClassFile.FieldType.int) ∈ wU := wU_2 (List.mem_of_getElem? (i := 39) rfl) rfl
theorem tw_280 : Jvm.Cond.methodLinkNest "DovetailRow$Wood" (25 : Nat) ({ cls := "DovetailRow", name := "movingOf", desc := "(I)I" } : Jvm.MethodName) "DovetailRow" ∈ lw_tbl := wT_2 (List.mem_of_getElem? (i := 40) rfl)
theorem tw_281 : Jvm.Cond.static ({ cls := "DovetailRow", name := "movingOf", desc := "(I)I" } : Jvm.MethodName) ∈ wU := wU_2 (List.mem_of_getElem? (i := 41) rfl) rfl
theorem tw_282 : Jvm.Cond.code ({ cls := "DovetailRow", name := "movingOf", desc := "(I)I" } : Jvm.MethodName) prog_1_method_31_code (1 : Nat) (Option.some Jvm.ClassFile.FieldType.int) ∈ wU := wU_2 (List.mem_of_getElem? (i := 42) rfl) rfl
theorem tw_283 : Jvm.Cond.methodLink "DovetailRow$Joint" (50 : Nat) ({ cls := "java/lang/Math", name := "abs", desc := "(I)I" } : Jvm.MethodName) ∈ wU := wU_2 (List.mem_of_getElem? (i := 43) rfl) rfl
theorem tw_284 : Jvm.Cond.static ({ cls := "java/lang/Math", name := "abs", desc := "(I)I" } : Jvm.MethodName) ∈ wU := wU_2 (List.mem_of_getElem? (i := 44) rfl) rfl
theorem tw_285 : Jvm.Cond.code ({ cls := "java/lang/Math", name := "abs", desc := "(I)I" } : Jvm.MethodName) prog_17_method_59_code (1 : Nat) (Option.some Jvm.ClassFile.FieldType.int) ∈ wU := wU_2 (List.mem_of_getElem? (i := 45) rfl) rfl
theorem tw_286 : Jvm.Cond.methodLink "DovetailRow$Joint" (56 : Nat) ({ cls := "DovetailRow$Part", name := "widthAt", desc := "(I)I" } : Jvm.MethodName) ∈ wU := wU_2 (List.mem_of_getElem? (i := 46) rfl) rfl
theorem tw_287 : Jvm.Cond.sameMethod "DovetailRow$Part" "DovetailRow$Wood" "widthAt" "(I)I" ∈ wU := wU_2 (List.mem_of_getElem? (i := 47) rfl) rfl
theorem tw_288 : Jvm.Cond.declares ({ cls := "DovetailRow$Wood", name := "widthAt", desc := "(I)I" } : Jvm.MethodName) ∈ lw_tbl := wT_2 (List.mem_of_getElem? (i := 48) rfl)
theorem tw_289 : Jvm.Cond.selects "DovetailRow$Part" ({ cls := "DovetailRow$Part", name := "widthAt", desc := "(I)I" } : Jvm.MethodName) ({ cls := "DovetailRow$Wood", name := "widthAt", desc := "(I)I" } : Jvm.MethodName) ∈ wU := wU_2 (List.mem_of_getElem? (i := 49) rfl) rfl
theorem tw_290 : Jvm.Cond.instanceMethod ({ cls := "DovetailRow$Wood", name := "widthAt", desc := "(I)I" } : Jvm.MethodName) ∈ wU := wU_2 (List.mem_of_getElem? (i := 50) rfl) rfl
theorem tw_291 : Jvm.Cond.code ({ cls := "DovetailRow$Wood", name := "widthAt", desc := "(I)I" } : Jvm.MethodName) prog_6_method_3_code (2 : Nat) (Option.some Jvm.ClassFile.FieldType.int) ∈ wU := wU_2 (List.mem_of_getElem? (i := 51) rfl) rfl
theorem tw_292 : Jvm.Cond.methodLink "DovetailRow$Wood" (31 : Nat) ({ cls := "DovetailRow$Wood", name := "movementOf", desc := "(II)I" } : Jvm.MethodName) ∈ wU := wU_2 (List.mem_of_getElem? (i := 52) rfl) rfl
theorem tw_293 : Jvm.Cond.methodLink "DovetailRowLaw" (96 : Nat) ({ cls := "DovetailRowLaw", name := "board", desc := "(LDovetailRow;IIIIII[J)I" } : Jvm.MethodName) ∈ wU := wU_2 (List.mem_of_getElem? (i := 53) rfl) rfl
theorem tw_294 : Jvm.Cond.static ({ cls := "DovetailRowLaw", name := "board", desc := "(LDovetailRow;IIIIII[J)I" } : Jvm.MethodName) ∈ wU := wU_2 (List.mem_of_getElem? (i := 54) rfl) rfl
theorem tw_295 : Jvm.Cond.codeWith ({ cls := "DovetailRowLaw", name := "board", desc := "(LDovetailRow;IIIIII[J)I" } : Jvm.MethodName) method_5_code (9 : Nat) (Option.some Jvm.ClassFile.FieldType.int) [((0 : Nat), (18 : Nat), (21 : Nat), (15 : Nat)), ((0 : Nat), (18 : Nat), (25 : Nat), (21 : Nat))] ∈ wU := wU_2 (List.mem_of_getElem? (i := 55) rfl) rfl
theorem tw_296 : Jvm.Cond.methodLink "DovetailRowLaw" (23 : Nat) ({ cls := "DovetailRow", name := "board", desc := "(IIIIII)I" } : Jvm.MethodName) ∈ wU := wU_2 (List.mem_of_getElem? (i := 56) rfl) rfl
theorem tw_297 : Jvm.Cond.instanceMethod ({ cls := "DovetailRow", name := "board", desc := "(IIIIII)I" } : Jvm.MethodName) ∈ wU := wU_2 (List.mem_of_getElem? (i := 57) rfl) rfl
theorem tw_298 : Jvm.Cond.selects "DovetailRow" ({ cls := "DovetailRow", name := "board", desc := "(IIIIII)I" } : Jvm.MethodName) ({ cls := "DovetailRow", name := "board", desc := "(IIIIII)I" } : Jvm.MethodName) ∈ wU := wU_2 (List.mem_of_getElem? (i := 58) rfl) rfl
theorem tw_299 : Jvm.Cond.code ({ cls := "DovetailRow", name := "board", desc := "(IIIIII)I" } : Jvm.MethodName) prog_1_method_4_code (8 : Nat) (Option.some Jvm.ClassFile.FieldType.int) ∈ wU := wU_2 (List.mem_of_getElem? (i := 59) rfl) rfl
theorem tw_300 : Jvm.Cond.stringRef "DovetailRow" (80 : Nat) "species, flitch or place is out of its range" ∈ lw_tbl := wT_2 (List.mem_of_getElem? (i := 60) rfl)
theorem tw_301 : Jvm.Cond.stringRef "DovetailRow" (82 : Nat) "width, length or moisture is out of its range" ∈ lw_tbl := wT_2 (List.mem_of_getElem? (i := 61) rfl)
theorem tw_302 : Jvm.Cond.stringRef "DovetailRow" (87 : Nat) "there are 20 boards" ∈ lw_tbl := wT_2 (List.mem_of_getElem? (i := 62) rfl)
theorem tw_303 : Jvm.Cond.methodLink "DovetailRow" (89 : Nat) ({ cls := "DovetailRow", name := "suitsFlitch", desc := "(III)Z" } : Jvm.MethodName) ∈ wU := wU_2 (List.mem_of_getElem? (i := 63) rfl) rfl
theorem tw_304 : Jvm.Cond.privateMethod ({ cls := "DovetailRow", name := "suitsFlitch", desc := "(III)Z" } : Jvm.MethodName) ∈ lw_tbl := wT_2 (List.mem_of_getElem? (i := 64) rfl)
theorem tw_305 : Jvm.Cond.instanceMethod ({ cls := "DovetailRow", name := "suitsFlitch", desc := "(III)Z" } : Jvm.MethodName) ∈ wU := wU_2 (List.mem_of_getElem? (i := 65) rfl) rfl
theorem tw_306 : Jvm.Cond.code ({ cls := "DovetailRow", name := "suitsFlitch", desc := "(III)Z" } : Jvm.MethodName) prog_1_method_33_code (6 : Nat) (Option.some Jvm.ClassFile.FieldType.boolean) ∈ wU := wU_2 (List.mem_of_getElem? (i := 66) rfl) rfl
theorem tw_307 : Jvm.Cond.stringRef "DovetailRow" (92 : Nat) "the flitch has that place, or is of another species" ∈ lw_tbl := wT_2 (List.mem_of_getElem? (i := 67) rfl)
theorem tw_308 : Jvm.Cond.instantiable "DovetailRow$Board" (11 : Nat) ∈ wU := wU_2 (List.mem_of_getElem? (i := 68) rfl) rfl
theorem tw_309 : Jvm.Cond.methodLink "DovetailRow" (96 : Nat) ({ cls := "DovetailRow$Board", name := "<init>", desc := "(IIIIIII)V" } : Jvm.MethodName) ∈ wU := wU_2 (List.mem_of_getElem? (i := 69) rfl) rfl
theorem tw_310 : Jvm.Cond.instanceMethod ({ cls := "DovetailRow$Board", name := "<init>", desc := "(IIIIIII)V" } : Jvm.MethodName) ∈ wU := wU_2 (List.mem_of_getElem? (i := 70) rfl) rfl
theorem tw_311 : Jvm.Cond.code ({ cls := "DovetailRow$Board", name := "<init>", desc := "(IIIIIII)V" } : Jvm.MethodName) prog_2_method_1_code (8 : Nat) (Option.none : Option Jvm.ClassFile.FieldType) ∈ wU := wU_2 (List.mem_of_getElem? (i := 71) rfl) rfl
theorem tw_312 : Jvm.Cond.methodLink "DovetailRow$Board" (1 : Nat) ({ cls := "DovetailRow$Wood", name := "<init>", desc := "(III)V" } : Jvm.MethodName) ∈ wU := wU_2 (List.mem_of_getElem? (i := 72) rfl) rfl
theorem tw_313 : Jvm.Cond.instanceMethod ({ cls := "DovetailRow$Wood", name := "<init>", desc := "(III)V" } : Jvm.MethodName) ∈ wU := wU_2 (List.mem_of_getElem? (i := 73) rfl) rfl
theorem tw_314 : Jvm.Cond.code ({ cls := "DovetailRow$Wood", name := "<init>", desc := "(III)V" } : Jvm.MethodName) prog_6_method_1_code (4 : Nat) (Option.none : Option Jvm.ClassFile.FieldType) ∈ wU := wU_2 (List.mem_of_getElem? (i := 74) rfl) rfl
theorem tw_315 : Jvm.Cond.methodLink "DovetailRow$Wood" (1 : Nat) ({ cls := "java/lang/Object", name := "<init>", desc := "()V" } : Jvm.MethodName) ∈ wU := wU_2 (List.mem_of_getElem? (i := 75) rfl) rfl
theorem tw_316 : Jvm.Cond.classLink "DovetailRow$Board" (7 : Nat) "java/util/ArrayList" ∈ wU := wU_2 (List.mem_of_getElem? (i := 76) rfl) rfl
theorem tw_317 : Jvm.Cond.methodLink "DovetailRow$Board" (9 : Nat) ({ cls := "java/util/ArrayList", name := "<init>", desc := "()V" } : Jvm.MethodName) ∈ wU := wU_2 (List.mem_of_getElem? (i := 77) rfl) rfl
theorem tw_318 : Jvm.Cond.fieldLink "DovetailRow$Board" (21 : Nat) "DovetailRow$Board" "number" "I" ∈ wU := wU_2 (List.mem_of_getElem? (i := 78) rfl) rfl
theorem tw_319 : Jvm.Cond.fieldLink "DovetailRow" (299 : Nat) "DovetailRow$Board" "number" "I" ∈ wU := wU_2 (List.mem_of_getElem? (i := 79) rfl) rfl
theorem tw_320 : Jvm.Cond.fieldLink "DovetailRow$Board" (25 : Nat) "DovetailRow$Board" "flitch" "I" ∈ wU := wU_2 (List.mem_of_getElem? (i := 80) rfl) rfl
theorem tw_321 : Jvm.Cond.fieldLink "DovetailRow" (189 : Nat) "DovetailRow$Board" "flitch" "I" ∈ wU := wU_2 (List.mem_of_getElem? (i := 81) rfl) rfl
theorem tw_322 : Jvm.Cond.fieldLink "DovetailRow$Board" (28 : Nat) "DovetailRow$Board" "place" "I" ∈ wU := wU_2 (List.mem_of_getElem? (i := 82) rfl) rfl
theorem tw_323 : Jvm.Cond.fieldLink "DovetailRow" (192 : Nat) "DovetailRow$Board" "place" "I" ∈ wU := wU_2 (List.mem_of_getElem? (i := 83) rfl) rfl
theorem tw_324 : Jvm.Cond.fieldLink "DovetailRow$Board" (31 : Nat) "DovetailRow$Board" "length" "I" ∈ wU := wU_2 (List.mem_of_getElem? (i := 84) rfl) rfl
theorem tw_325 : Jvm.Cond.fieldLink "DovetailRow" (109 : Nat) "DovetailRow$Board" "length" "I" ∈ wU := wU_2 (List.mem_of_getElem? (i := 85) rfl) rfl
theorem tw_326 : Jvm.Cond.fieldLink "DovetailRow$Board" (12 : Nat) "DovetailRow$Board" "knots" "Ljava/util/ArrayList;" ∈ wU := wU_2 (List.mem_of_getElem? (i := 86) rfl) rfl
theorem tw_327 : Jvm.Cond.fieldLink "DovetailRow" (114 : Nat) "DovetailRow$Board" "knots" "Ljava/util/ArrayList;" ∈ wU := wU_2 (List.mem_of_getElem? (i := 87) rfl) rfl
theorem tw_328 : Jvm.Cond.fieldLink "DovetailRow$Board" (18 : Nat) "DovetailRow$Board" "taken" "Ljava/util/ArrayList;" ∈ wU := wU_2 (List.mem_of_getElem? (i := 88) rfl) rfl
theorem tw_329 : Jvm.Cond.fieldLink "DovetailRow" (119 : Nat) "DovetailRow$Board" "taken" "Ljava/util/ArrayList;" ∈ wU := wU_2 (List.mem_of_getElem? (i := 89) rfl) rfl
theorem tw_330 : Jvm.Cond.fieldLink "DovetailRow$Part" (1 : Nat) "DovetailRow$Board" "species" "I" ∈ wU := wU_2 (List.mem_of_getElem? (i := 90) rfl) rfl
theorem tw_331 : Jvm.Cond.sameField "DovetailRow$Board" "DovetailRow$Wood" "species" "I" ∈ wU := wU_2 (List.mem_of_getElem? (i := 91) rfl) rfl
theorem tw_332 : Jvm.Cond.fieldLink "DovetailRow$Wood" (13 : Nat) "DovetailRow$Wood" "species" "I" ∈ wU := wU_2 (List.mem_of_getElem? (i := 92) rfl) rfl
theorem tw_333 : Jvm.Cond.fieldLink "DovetailRow" (148 : Nat) "DovetailRow$Board" "species" "I" ∈ wU := wU_2 (List.mem_of_getElem? (i := 93) rfl) rfl
theorem tw_334 : Jvm.Cond.fieldLink "DovetailRow" (213 : Nat) "DovetailRow$Part" "species" "I" ∈ wU := wU_2 (List.mem_of_getElem? (i := 94) rfl) rfl
theorem tw_335 : Jvm.Cond.sameField "DovetailRow$Part" "DovetailRow$Wood" "species" "I" ∈ wU := wU_2 (List.mem_of_getElem? (i := 95) rfl) rfl
theorem tw_336 : Jvm.Cond.fieldLink "DovetailRow$Wood" (16 : Nat) "DovetailRow$Wood" "measuredWidth" "I" ∈ wU := wU_2 (List.mem_of_getElem? (i := 96) rfl) rfl
theorem tw_337 : Jvm.Cond.fieldLink "DovetailRow$Wood" (19 : Nat) "DovetailRow$Wood" "measuredMoisture" "I" ∈ wU := wU_2 (List.mem_of_getElem? (i := 97) rfl) rfl
theorem tw_338 : Jvm.Cond.fieldLink "DovetailRow$Part" (7 : Nat) "DovetailRow$Board" "moisture" "I" ∈ wU := wU_2 (List.mem_of_getElem? (i := 98) rfl) rfl
theorem tw_339 : Jvm.Cond.sameField "DovetailRow$Board" "DovetailRow$Wood" "moisture" "I" ∈ wU := wU_2 (List.mem_of_getElem? (i := 99) rfl) rfl
theorem tw_340 : Jvm.Cond.fieldLink "DovetailRow$Wood" (22 : Nat) "DovetailRow$Wood" "moisture" "I" ∈ wU := wU_2 (List.mem_of_getElem? (i := 100) rfl) rfl
theorem tw_341 : Jvm.Cond.fieldLink "DovetailRow$Joint" (41 : Nat) "DovetailRow$Part" "moisture" "I" ∈ wU := wU_2 (List.mem_of_getElem? (i := 101) rfl) rfl
theorem tw_342 : Jvm.Cond.sameField "DovetailRow$Part" "DovetailRow$Wood" "moisture" "I" ∈ wU := wU_2 (List.mem_of_getElem? (i := 102) rfl) rfl
theorem tw_343 : Jvm.Cond.fieldLink "DovetailRow" (294 : Nat) "DovetailRow$Board" "moisture" "I" ∈ wU := wU_2 (List.mem_of_getElem? (i := 103) rfl) rfl
theorem tw_344 : Jvm.Cond.fieldLink "DovetailRow" (302 : Nat) "DovetailRow$Part" "moisture" "I" ∈ wU := wU_2 (List.mem_of_getElem? (i := 104) rfl) rfl
theorem tw_345 : Jvm.Cond.fieldLink "DovetailRow$Wood" (7 : Nat) "DovetailRow$Wood" "coats" "I" ∈ wU := wU_2 (List.mem_of_getElem? (i := 105) rfl) rfl
theorem tw_346 : Jvm.Cond.fieldLink "DovetailRow" (178 : Nat) "DovetailRow$Part" "coats" "I" ∈ wU := wU_2 (List.mem_of_getElem? (i := 106) rfl) rfl
theorem tw_347 : Jvm.Cond.sameField "DovetailRow$Part" "DovetailRow$Wood" "coats" "I" ∈ wU := wU_2 (List.mem_of_getElem? (i := 107) rfl) rfl
theorem tw_348 : Jvm.Cond.laysFinal "DovetailRow$Board" "DovetailRow$Board" "number" "I" ∈ wU := wU_2 (List.mem_of_getElem? (i := 108) rfl) rfl
theorem tw_349 : Jvm.Cond.soleField "DovetailRow$Board" "number" ∈ wU := wU_2 (List.mem_of_getElem? (i := 109) rfl) rfl
theorem tw_350 : Jvm.Cond.laysFinal "DovetailRow$Board" "DovetailRow$Board" "flitch" "I" ∈ wU := wU_2 (List.mem_of_getElem? (i := 110) rfl) rfl
theorem tw_351 : Jvm.Cond.soleField "DovetailRow$Board" "flitch" ∈ wU := wU_2 (List.mem_of_getElem? (i := 111) rfl) rfl
theorem tw_352 : Jvm.Cond.laysFinal "DovetailRow$Board" "DovetailRow$Board" "place" "I" ∈ wU := wU_2 (List.mem_of_getElem? (i := 112) rfl) rfl
theorem tw_353 : Jvm.Cond.soleField "DovetailRow$Board" "place" ∈ wU := wU_2 (List.mem_of_getElem? (i := 113) rfl) rfl
theorem tw_354 : Jvm.Cond.laysFinal "DovetailRow$Board" "DovetailRow$Board" "length" "I" ∈ wU := wU_2 (List.mem_of_getElem? (i := 114) rfl) rfl
theorem tw_355 : Jvm.Cond.soleField "DovetailRow$Board" "length" ∈ wU := wU_2 (List.mem_of_getElem? (i := 115) rfl) rfl
theorem tw_356 : Jvm.Cond.laysFinal "DovetailRow$Board" "DovetailRow$Board" "knots" "Ljava/util/ArrayList;" ∈ wU := wU_2 (List.mem_of_getElem? (i := 116) rfl) rfl
theorem tw_357 : Jvm.Cond.soleField "DovetailRow$Board" "knots" ∈ wU := wU_2 (List.mem_of_getElem? (i := 117) rfl) rfl
theorem tw_358 : Jvm.Cond.laysFinal "DovetailRow$Board" "DovetailRow$Board" "taken" "Ljava/util/ArrayList;" ∈ wU := wU_2 (List.mem_of_getElem? (i := 118) rfl) rfl
theorem tw_359 : Jvm.Cond.soleField "DovetailRow$Board" "taken" ∈ wU := wU_2 (List.mem_of_getElem? (i := 119) rfl) rfl
theorem tw_360 : Jvm.Cond.laysFinal "DovetailRow$Board" "DovetailRow$Wood" "species" "I" ∈ wU := wU_2 (List.mem_of_getElem? (i := 120) rfl) rfl
theorem tw_361 : Jvm.Cond.soleField "DovetailRow$Wood" "species" ∈ wU := wU_2 (List.mem_of_getElem? (i := 121) rfl) rfl
theorem tw_362 : Jvm.Cond.laysFinal "DovetailRow$Board" "DovetailRow$Wood" "measuredWidth" "I" ∈ wU := wU_2 (List.mem_of_getElem? (i := 122) rfl) rfl
theorem tw_363 : Jvm.Cond.soleField "DovetailRow$Wood" "measuredWidth" ∈ wU := wU_2 (List.mem_of_getElem? (i := 123) rfl) rfl
theorem tw_364 : Jvm.Cond.laysFinal "DovetailRow$Board" "DovetailRow$Wood" "measuredMoisture" "I" ∈ wU := wU_2 (List.mem_of_getElem? (i := 124) rfl) rfl
theorem tw_365 : Jvm.Cond.soleField "DovetailRow$Wood" "measuredMoisture" ∈ wU := wU_2 (List.mem_of_getElem? (i := 125) rfl) rfl
theorem tw_366 : Jvm.Cond.lays "DovetailRow$Board" "DovetailRow$Wood" "moisture" "I" ∈ wU := wU_2 (List.mem_of_getElem? (i := 126) rfl) rfl
theorem tw_367 : Jvm.Cond.soleField "DovetailRow$Wood" "moisture" ∈ wU := wU_2 (List.mem_of_getElem? (i := 127) rfl) rfl
theorem tw_368 : Jvm.Cond.lays "DovetailRow$Board" "DovetailRow$Wood" "coats" "I" ∈ wU := wU_2 (List.mem_of_getElem? (i := 128) rfl) rfl
theorem tw_369 : Jvm.Cond.soleField "DovetailRow$Wood" "coats" ∈ wU := wU_2 (List.mem_of_getElem? (i := 129) rfl) rfl
theorem tw_370 : Jvm.Cond.superclass "DovetailRow$Board" "DovetailRow$Wood" ∈ lw_tbl := wT_2 (List.mem_of_getElem? (i := 130) rfl)
theorem tw_371 : Jvm.Cond.methodLink "DovetailRow" (99 : Nat) ({ cls := "java/util/ArrayList", name := "add", desc := "(Ljava/lang/Object;)Z" } : Jvm.MethodName) ∈ wU := wU_2 (List.mem_of_getElem? (i := 131) rfl) rfl
theorem tw_372 : Jvm.Cond.instanceMethod ({ cls := "java/util/ArrayList", name := "add", desc := "(Ljava/lang/Object;)Z" } : Jvm.MethodName) ∈ wU := wU_2 (List.mem_of_getElem? (i := 132) rfl) rfl
theorem tw_373 : Jvm.Cond.selects "java/util/ArrayList" ({ cls := "java/util/ArrayList", name := "add", desc := "(Ljava/lang/Object;)Z" } : Jvm.MethodName) ({ cls := "java/util/ArrayList", name := "add", desc := "(Ljava/lang/Object;)Z" } : Jvm.MethodName) ∈ wU := wU_2 (List.mem_of_getElem? (i := 133) rfl) rfl
theorem tw_374 : Jvm.Cond.code ({ cls := "java/util/ArrayList", name := "add", desc := "(Ljava/lang/Object;)Z" } : Jvm.MethodName) prog_24_method_25_code (2 : Nat) (Option.some Jvm.ClassFile.FieldType.boolean) ∈ wU := wU_2 (List.mem_of_getElem? (i := 134) rfl) rfl
theorem tw_375 : Jvm.Cond.methodLink "java/util/ArrayList" (131 : Nat) ({ cls := "java/util/ArrayList", name := "add", desc := "(Ljava/lang/Object;[Ljava/lang/Object;I)V" } : Jvm.MethodName) ∈ wU := wU_2 (List.mem_of_getElem? (i := 135) rfl) rfl
theorem tw_376 : Jvm.Cond.privateMethod ({ cls := "java/util/ArrayList", name := "add", desc := "(Ljava/lang/Object;[Ljava/lang/Object;I)V" } : Jvm.MethodName) ∈ lw_tbl := wT_2 (List.mem_of_getElem? (i := 136) rfl)
theorem tw_377 : Jvm.Cond.instanceMethod ({ cls := "java/util/ArrayList", name := "add", desc := "(Ljava/lang/Object;[Ljava/lang/Object;I)V" } : Jvm.MethodName) ∈ wU := wU_2 (List.mem_of_getElem? (i := 137) rfl) rfl
theorem tw_378 : Jvm.Cond.code ({ cls := "java/util/ArrayList", name := "add", desc := "(Ljava/lang/Object;[Ljava/lang/Object;I)V" } : Jvm.MethodName) prog_24_method_24_code (4 : Nat) (Option.none : Option Jvm.ClassFile.FieldType) ∈ wU := wU_2 (List.mem_of_getElem? (i := 138) rfl) rfl
theorem tw_379 : Jvm.Cond.methodLink "java/util/ArrayList" (129 : Nat) ({ cls := "java/util/ArrayList", name := "grow", desc := "()[Ljava/lang/Object;" } : Jvm.MethodName) ∈ wU := wU_2 (List.mem_of_getElem? (i := 139) rfl) rfl
theorem tw_380 : Jvm.Cond.privateMethod ({ cls := "java/util/ArrayList", name := "grow", desc := "()[Ljava/lang/Object;" } : Jvm.MethodName) ∈ lw_tbl := wT_2 (List.mem_of_getElem? (i := 140) rfl)
theorem tw_381 : Jvm.Cond.instanceMethod ({ cls := "java/util/ArrayList", name := "grow", desc := "()[Ljava/lang/Object;" } : Jvm.MethodName) ∈ wU := wU_2 (List.mem_of_getElem? (i := 141) rfl) rfl
theorem tw_382 : Jvm.Cond.code ({ cls := "java/util/ArrayList", name := "grow", desc := "()[Ljava/lang/Object;" } : Jvm.MethodName) prog_24_method_7_code (1 : Nat) (Option.some (Jvm.ClassFile.FieldType.array (Jvm.ClassFile.FieldType.object "java/lang/Object"))) ∈ wU := wU_2 (List.mem_of_getElem? (i := 142) rfl) rfl
theorem tw_383 : Jvm.Cond.methodLink "java/util/ArrayList" (69 : Nat) ({ cls := "java/util/ArrayList", name := "grow", desc := "(I)[Ljava/lang/Object;" } : Jvm.MethodName) ∈ wU := wU_2 (List.mem_of_getElem? (i := 143) rfl) rfl
theorem tw_384 : Jvm.Cond.privateMethod ({ cls := "java/util/ArrayList", name := "grow", desc := "(I)[Ljava/lang/Object;" } : Jvm.MethodName) ∈ lw_tbl := wT_2 (List.mem_of_getElem? (i := 144) rfl)
theorem tw_385 : Jvm.Cond.instanceMethod ({ cls := "java/util/ArrayList", name := "grow", desc := "(I)[Ljava/lang/Object;" } : Jvm.MethodName) ∈ wU := wU_2 (List.mem_of_getElem? (i := 145) rfl) rfl
theorem tw_386 : Jvm.Cond.code ({ cls := "java/util/ArrayList", name := "grow", desc := "(I)[Ljava/lang/Object;" } : Jvm.MethodName) prog_24_method_6_code (4 : Nat) (Option.some (Jvm.ClassFile.FieldType.array (Jvm.ClassFile.FieldType.object "java/lang/Object"))) ∈ wU := wU_2 (List.mem_of_getElem? (i := 146) rfl) rfl
theorem tw_387 : Jvm.Cond.methodLink "java/util/ArrayList" (73 : Nat) ({ cls := "jdk/internal/util/ArraysSupport", name := "newLength", desc := "(III)I" } : Jvm.MethodName) ∈ wU := wU_2 (List.mem_of_getElem? (i := 147) rfl) rfl
theorem tw_388 : Jvm.Cond.static ({ cls := "jdk/internal/util/ArraysSupport", name := "newLength", desc := "(III)I" } : Jvm.MethodName) ∈ wU := wU_2 (List.mem_of_getElem? (i := 148) rfl) rfl
theorem tw_389 : Jvm.Cond.code ({ cls := "jdk/internal/util/ArraysSupport", name := "newLength", desc := "(III)I" } : Jvm.MethodName) prog_31_method_27_code (4 : Nat) (Option.some Jvm.ClassFile.FieldType.int) ∈ wU := wU_2 (List.mem_of_getElem? (i := 149) rfl) rfl
theorem tw_390 : Jvm.Cond.methodLink "jdk/internal/util/ArraysSupport" (194 : Nat) ({ cls := "java/lang/Math", name := "max", desc := "(II)I" } : Jvm.MethodName) ∈ wU := wU_2 (List.mem_of_getElem? (i := 150) rfl) rfl
theorem tw_391 : Jvm.Cond.static ({ cls := "java/lang/Math", name := "max", desc := "(II)I" } : Jvm.MethodName) ∈ wU := wU_2 (List.mem_of_getElem? (i := 151) rfl) rfl
theorem tw_392 : Jvm.Cond.code ({ cls := "java/lang/Math", name := "max", desc := "(II)I" } : Jvm.MethodName) prog_17_method_65_code (2 : Nat) (Option.some Jvm.ClassFile.FieldType.int) ∈ wU := wU_2 (List.mem_of_getElem? (i := 152) rfl) rfl
theorem tw_393 : Jvm.Cond.constant "jdk/internal/util/ArraysSupport" (200 : Nat) (2147483639 : Int32) ∈ wU := wU_2 (List.mem_of_getElem? (i := 153) rfl) rfl
theorem tw_394 : Jvm.Cond.methodLink "jdk/internal/util/ArraysSupport" (201 : Nat) ({ cls := "jdk/internal/util/ArraysSupport", name := "hugeLength", desc := "(II)I" } : Jvm.MethodName) ∈ wU := wU_2 (List.mem_of_getElem? (i := 154) rfl) rfl
theorem tw_395 : Jvm.Cond.static ({ cls := "jdk/internal/util/ArraysSupport", name := "hugeLength", desc := "(II)I" } : Jvm.MethodName) ∈ wU := wU_2 (List.mem_of_getElem? (i := 155) rfl) rfl
theorem tw_396 : Jvm.Cond.code ({ cls := "jdk/internal/util/ArraysSupport", name := "hugeLength", desc := "(II)I" } : Jvm.MethodName) prog_31_method_28_code (3 : Nat) (Option.some Jvm.ClassFile.FieldType.int) ∈ wU := wU_2 (List.mem_of_getElem? (i := 156) rfl) rfl
theorem tw_397 : Jvm.Cond.methodLink "java/util/ArrayList" (66 : Nat) ({ cls := "java/util/Arrays", name := "copyOf", desc := "([Ljava/lang/Object;I)[Ljava/lang/Object;" } : Jvm.MethodName) ∈ wU := wU_2 (List.mem_of_getElem? (i := 157) rfl) rfl
theorem tw_398 : Jvm.Cond.static ({ cls := "java/util/Arrays", name := "copyOf", desc := "([Ljava/lang/Object;I)[Ljava/lang/Object;" } : Jvm.MethodName) ∈ wU := wU_2 (List.mem_of_getElem? (i := 158) rfl) rfl
theorem tw_399 : Jvm.Cond.code ({ cls := "java/util/Arrays", name := "copyOf", desc := "([Ljava/lang/Object;I)[Ljava/lang/Object;" } : Jvm.MethodName) prog_25_method_119_code (2 : Nat) (Option.some (Jvm.ClassFile.FieldType.array (Jvm.ClassFile.FieldType.object "java/lang/Object"))) ∈ wU := wU_2 (List.mem_of_getElem? (i := 159) rfl) rfl
theorem tw_400 : Jvm.Cond.methodLink "java/util/Arrays" (86 : Nat) ({ cls := "java/lang/Object", name := "getClass", desc := "()Ljava/lang/Class;" } : Jvm.MethodName) ∈ wU := wU_2 (List.mem_of_getElem? (i := 160) rfl) rfl
theorem tw_401 : Jvm.Cond.instanceMethod ({ cls := "java/lang/Object", name := "getClass", desc := "()Ljava/lang/Class;" } : Jvm.MethodName) ∈ wU := wU_2 (List.mem_of_getElem? (i := 161) rfl) rfl
theorem tw_402 : Jvm.Cond.sameMethod "java/lang/Object" "java/lang/Object" "getClass" "()Ljava/lang/Class;" ∈ wU := wU_2 (List.mem_of_getElem? (i := 162) rfl) rfl
theorem tw_403 : Jvm.Cond.selects "DovetailRow" ({ cls := "java/lang/Object", name := "getClass", desc := "()Ljava/lang/Class;" } : Jvm.MethodName) ({ cls := "java/lang/Object", name := "getClass", desc := "()Ljava/lang/Class;" } : Jvm.MethodName) ∈ wU := wU_2 (List.mem_of_getElem? (i := 163) rfl) rfl
theorem tw_404 : Jvm.Cond.selects "DovetailRow$Board" ({ cls := "java/lang/Object", name := "getClass", desc := "()Ljava/lang/Class;" } : Jvm.MethodName) ({ cls := "java/lang/Object", name := "getClass", desc := "()Ljava/lang/Class;" } : Jvm.MethodName) ∈ wU := wU_2 (List.mem_of_getElem? (i := 164) rfl) rfl
theorem tw_405 : Jvm.Cond.selects "DovetailRow$Joint" ({ cls := "java/lang/Object", name := "getClass", desc := "()Ljava/lang/Class;" } : Jvm.MethodName) ({ cls := "java/lang/Object", name := "getClass", desc := "()Ljava/lang/Class;" } : Jvm.MethodName) ∈ wU := wU_2 (List.mem_of_getElem? (i := 165) rfl) rfl
theorem tw_406 : Jvm.Cond.selects "DovetailRow$Part" ({ cls := "java/lang/Object", name := "getClass", desc := "()Ljava/lang/Class;" } : Jvm.MethodName) ({ cls := "java/lang/Object", name := "getClass", desc := "()Ljava/lang/Class;" } : Jvm.MethodName) ∈ wU := wU_2 (List.mem_of_getElem? (i := 166) rfl) rfl
theorem tw_407 : Jvm.Cond.selects "DovetailRow$Span" ({ cls := "java/lang/Object", name := "getClass", desc := "()Ljava/lang/Class;" } : Jvm.MethodName) ({ cls := "java/lang/Object", name := "getClass", desc := "()Ljava/lang/Class;" } : Jvm.MethodName) ∈ wU := wU_2 (List.mem_of_getElem? (i := 167) rfl) rfl
theorem tw_408 : Jvm.Cond.selects "DovetailRowModel" ({ cls := "java/lang/Object", name := "getClass", desc := "()Ljava/lang/Class;" } : Jvm.MethodName) ({ cls := "java/lang/Object", name := "getClass", desc := "()Ljava/lang/Class;" } : Jvm.MethodName) ∈ wU := wU_2 (List.mem_of_getElem? (i := 168) rfl) rfl
theorem tw_409 : Jvm.Cond.selects "java/lang/IllegalArgumentException" ({ cls := "java/lang/Object", name := "getClass", desc := "()Ljava/lang/Class;" } : Jvm.MethodName) ({ cls := "java/lang/Object", name := "getClass", desc := "()Ljava/lang/Class;" } : Jvm.MethodName) ∈ wU := wU_2 (List.mem_of_getElem? (i := 169) rfl) rfl
theorem tw_410 : Jvm.Cond.selects "java/lang/IllegalStateException" ({ cls := "java/lang/Object", name := "getClass", desc := "()Ljava/lang/Class;" } : Jvm.MethodName) ({ cls := "java/lang/Object", name := "getClass", desc := "()Ljava/lang/Class;" } : Jvm.MethodName) ∈ wU := wU_2 (List.mem_of_getElem? (i := 170) rfl) rfl
theorem tw_411 : Jvm.Cond.selects "java/lang/IndexOutOfBoundsException" ({ cls := "java/lang/Object", name := "getClass", desc := "()Ljava/lang/Class;" } : Jvm.MethodName) ({ cls := "java/lang/Object", name := "getClass", desc := "()Ljava/lang/Class;" } : Jvm.MethodName) ∈ wU := wU_2 (List.mem_of_getElem? (i := 171) rfl) rfl
theorem tw_412 : Jvm.Cond.selects "java/util/ArrayList" ({ cls := "java/lang/Object", name := "getClass", desc := "()Ljava/lang/Class;" } : Jvm.MethodName) ({ cls := "java/lang/Object", name := "getClass", desc := "()Ljava/lang/Class;" } : Jvm.MethodName) ∈ wU := wU_2 (List.mem_of_getElem? (i := 172) rfl) rfl
theorem tw_413 : Jvm.Cond.native ({ cls := "java/lang/Object", name := "getClass", desc := "()Ljava/lang/Class;" } : Jvm.MethodName) ∈ lw_tbl := wT_2 (List.mem_of_getElem? (i := 173) rfl)
theorem tw_414 : Jvm.Cond.methodLink "java/util/Arrays" (300 : Nat) ({ cls := "java/util/Arrays", name := "copyOf", desc := "([Ljava/lang/Object;ILjava/lang/Class;)[Ljava/lang/Object;" } : Jvm.MethodName) ∈ wU := wU_2 (List.mem_of_getElem? (i := 174) rfl) rfl
theorem tw_415 : Jvm.Cond.static ({ cls := "java/util/Arrays", name := "copyOf", desc := "([Ljava/lang/Object;ILjava/lang/Class;)[Ljava/lang/Object;" } : Jvm.MethodName) ∈ wU := wU_2 (List.mem_of_getElem? (i := 175) rfl) rfl
theorem tw_416 : Jvm.Cond.code ({ cls := "java/util/Arrays", name := "copyOf", desc := "([Ljava/lang/Object;ILjava/lang/Class;)[Ljava/lang/Object;" } : Jvm.MethodName) prog_25_method_120_code (4 : Nat) (Option.some (Jvm.ClassFile.FieldType.array (Jvm.ClassFile.FieldType.object "java/lang/Object"))) ∈ wU := wU_2 (List.mem_of_getElem? (i := 176) rfl) rfl
theorem tw_417 : Jvm.Cond.classLink "java/util/Arrays" (110 : Nat) "[Ljava/lang/Object;" ∈ wU := wU_2 (List.mem_of_getElem? (i := 177) rfl) rfl
theorem tw_418 : Jvm.Cond.arrayOver (Jvm.ClassFile.FieldType.object "java/lang/Object") ∈ lw_tbl := wT_2 (List.mem_of_getElem? (i := 178) rfl)
theorem tw_419 : Jvm.Cond.classLink "java/util/Arrays" (2 : Nat) "java/lang/Object" ∈ wU := wU_2 (List.mem_of_getElem? (i := 179) rfl) rfl
theorem tw_420 : Jvm.Cond.methodLink "java/util/Arrays" (304 : Nat) ({ cls := "java/lang/Math", name := "min", desc := "(II)I" } : Jvm.MethodName) ∈ wU := wU_2 (List.mem_of_getElem? (i := 180) rfl) rfl
theorem tw_421 : Jvm.Cond.static ({ cls := "java/lang/Math", name := "min", desc := "(II)I" } : Jvm.MethodName) ∈ wU := wU_2 (List.mem_of_getElem? (i := 181) rfl) rfl
theorem tw_422 : Jvm.Cond.code ({ cls := "java/lang/Math", name := "min", desc := "(II)I" } : Jvm.MethodName) prog_17_method_69_code (2 : Nat) (Option.some Jvm.ClassFile.FieldType.int) ∈ wU := wU_2 (List.mem_of_getElem? (i := 182) rfl) rfl
theorem tw_423 : Jvm.Cond.methodLink "java/util/Arrays" (150 : Nat) ({ cls := "java/lang/System", name := "arraycopy", desc := "(Ljava/lang/Object;ILjava/lang/Object;II)V" } : Jvm.MethodName) ∈ wU := wU_2 (List.mem_of_getElem? (i := 183) rfl) rfl
theorem tw_424 : Jvm.Cond.static ({ cls := "java/lang/System", name := "arraycopy", desc := "(Ljava/lang/Object;ILjava/lang/Object;II)V" } : Jvm.MethodName) ∈ wU := wU_2 (List.mem_of_getElem? (i := 184) rfl) rfl
theorem tw_425 : Jvm.Cond.native ({ cls := "java/lang/System", name := "arraycopy", desc := "(Ljava/lang/Object;ILjava/lang/Object;II)V" } : Jvm.MethodName) ∈ lw_tbl := wT_2 (List.mem_of_getElem? (i := 185) rfl)
theorem tw_426 : Jvm.Cond.methodLink "java/util/ArrayList" (79 : Nat) ({ cls := "java/lang/Math", name := "max", desc := "(II)I" } : Jvm.MethodName) ∈ wU := wU_2 (List.mem_of_getElem? (i := 186) rfl) rfl
theorem tw_427 : Jvm.Cond.classLink "java/util/ArrayList" (7 : Nat) "java/lang/Object" ∈ wU := wU_2 (List.mem_of_getElem? (i := 187) rfl) rfl
theorem tw_428 : Jvm.Cond.methodLink "DovetailRowLaw" (100 : Nat) ({ cls := "DovetailRowLaw", name := "knot", desc := "(LDovetailRow;III[J)I" } : Jvm.MethodName) ∈ wU := wU_2 (List.mem_of_getElem? (i := 188) rfl) rfl
theorem tw_429 : Jvm.Cond.static ({ cls := "DovetailRowLaw", name := "knot", desc := "(LDovetailRow;III[J)I" } : Jvm.MethodName) ∈ wU := wU_2 (List.mem_of_getElem? (i := 189) rfl) rfl
theorem tw_430 : Jvm.Cond.codeWith ({ cls := "DovetailRowLaw", name := "knot", desc := "(LDovetailRow;III[J)I" } : Jvm.MethodName) method_6_code (6 : Nat) (Option.some Jvm.ClassFile.FieldType.int) [((0 : Nat), (12 : Nat), (15 : Nat), (13 : Nat)), ((0 : Nat), (12 : Nat), (19 : Nat), (15 : Nat)), ((0 : Nat), (12 : Nat), (23 : Nat), (21 : Nat))] ∈ wU := wU_2 (List.mem_of_getElem? (i := 190) rfl) rfl
theorem tw_431 : Jvm.Cond.methodLink "DovetailRowLaw" (27 : Nat) ({ cls := "DovetailRow", name := "knot", desc := "(III)I" } : Jvm.MethodName) ∈ wU := wU_2 (List.mem_of_getElem? (i := 191) rfl) rfl
theorem tw_432 : Jvm.Cond.instanceMethod ({ cls := "DovetailRow", name := "knot", desc := "(III)I" } : Jvm.MethodName) ∈ wU := wU_2 (List.mem_of_getElem? (i := 192) rfl) rfl
theorem tw_433 : Jvm.Cond.selects "DovetailRow" ({ cls := "DovetailRow", name := "knot", desc := "(III)I" } : Jvm.MethodName) ({ cls := "DovetailRow", name := "knot", desc := "(III)I" } : Jvm.MethodName) ∈ wU := wU_2 (List.mem_of_getElem? (i := 193) rfl) rfl
theorem tw_434 : Jvm.Cond.code ({ cls := "DovetailRow", name := "knot", desc := "(III)I" } : Jvm.MethodName) prog_1_method_5_code (5 : Nat) (Option.some Jvm.ClassFile.FieldType.int) ∈ wU := wU_2 (List.mem_of_getElem? (i := 194) rfl) rfl
theorem tw_435 : Jvm.Cond.methodLink "DovetailRow" (103 : Nat) ({ cls := "DovetailRow", name := "findBoard", desc := "(I)LDovetailRow$Board;" } : Jvm.MethodName) ∈ wU := wU_2 (List.mem_of_getElem? (i := 195) rfl) rfl
theorem tw_436 : Jvm.Cond.privateMethod ({ cls := "DovetailRow", name := "findBoard", desc := "(I)LDovetailRow$Board;" } : Jvm.MethodName) ∈ lw_tbl := wT_2 (List.mem_of_getElem? (i := 196) rfl)
theorem tw_437 : Jvm.Cond.instanceMethod ({ cls := "DovetailRow", name := "findBoard", desc := "(I)LDovetailRow$Board;" } : Jvm.MethodName) ∈ wU := wU_2 (List.mem_of_getElem? (i := 197) rfl) rfl
theorem tw_438 : Jvm.Cond.code ({ cls := "DovetailRow", name := "findBoard", desc := "(I)LDovetailRow$Board;" } : Jvm.MethodName) prog_1_method_24_code (2 : Nat) (Option.some (Jvm.ClassFile.FieldType.object "DovetailRow$Board")) ∈ wU := wU_2 (List.mem_of_getElem? (i := 198) rfl) rfl
theorem tw_439 : Jvm.Cond.stringRef "DovetailRow" (107 : Nat) "there is no such board" ∈ lw_tbl := wT_2 (List.mem_of_getElem? (i := 199) rfl)
theorem tw_440 : Jvm.Cond.stringRef "DovetailRow" (112 : Nat) "from or to is out of its range" ∈ lw_tbl := wT_2 (List.mem_of_getElem? (i := 200) rfl)
theorem tw_441 : Jvm.Cond.stringRef "DovetailRow" (117 : Nat) "the board has 4 knots" ∈ lw_tbl := wT_2 (List.mem_of_getElem? (i := 201) rfl)
theorem tw_442 : Jvm.Cond.methodLink "DovetailRow" (122 : Nat) ({ cls := "DovetailRow", name := "touchesAny", desc := "(Ljava/util/ArrayList;II)Z" } : Jvm.MethodName) ∈ wU := wU_2 (List.mem_of_getElem? (i := 202) rfl) rfl
theorem tw_443 : Jvm.Cond.static ({ cls := "DovetailRow", name := "touchesAny", desc := "(Ljava/util/ArrayList;II)Z" } : Jvm.MethodName) ∈ wU := wU_2 (List.mem_of_getElem? (i := 203) rfl) rfl
theorem tw_444 : Jvm.Cond.code ({ cls := "DovetailRow", name := "touchesAny", desc := "(Ljava/util/ArrayList;II)Z" } : Jvm.MethodName) prog_1_method_34_code (4 : Nat) (Option.some Jvm.ClassFile.FieldType.boolean) ∈ wU := wU_2 (List.mem_of_getElem? (i := 204) rfl) rfl
theorem tw_445 : Jvm.Cond.classLink "DovetailRow" (128 : Nat) "DovetailRow$Span" ∈ wU := wU_2 (List.mem_of_getElem? (i := 205) rfl) rfl
theorem tw_446 : Jvm.Cond.methodLink "DovetailRow" (327 : Nat) ({ cls := "DovetailRow$Span", name := "touches", desc := "(II)Z" } : Jvm.MethodName) ∈ wU := wU_2 (List.mem_of_getElem? (i := 206) rfl) rfl
theorem tw_447 : Jvm.Cond.instanceMethod ({ cls := "DovetailRow$Span", name := "touches", desc := "(II)Z" } : Jvm.MethodName) ∈ wU := wU_2 (List.mem_of_getElem? (i := 207) rfl) rfl
theorem tw_448 : Jvm.Cond.selects "DovetailRow$Span" ({ cls := "DovetailRow$Span", name := "touches", desc := "(II)Z" } : Jvm.MethodName) ({ cls := "DovetailRow$Span", name := "touches", desc := "(II)Z" } : Jvm.MethodName) ∈ wU := wU_2 (List.mem_of_getElem? (i := 208) rfl) rfl
theorem tw_449 : Jvm.Cond.code ({ cls := "DovetailRow$Span", name := "touches", desc := "(II)Z" } : Jvm.MethodName) prog_5_method_2_code (3 : Nat) (Option.some Jvm.ClassFile.FieldType.boolean) ∈ wU := wU_2 (List.mem_of_getElem? (i := 209) rfl) rfl
theorem tw_450 : Jvm.Cond.stringRef "DovetailRow" (126 : Nat) "something of the knot is taken up" ∈ lw_tbl := wT_2 (List.mem_of_getElem? (i := 210) rfl)
theorem tw_451 : Jvm.Cond.instantiable "DovetailRow$Span" (2 : Nat) ∈ wU := wU_2 (List.mem_of_getElem? (i := 211) rfl) rfl
theorem tw_452 : Jvm.Cond.methodLink "DovetailRow" (130 : Nat) ({ cls := "DovetailRow$Span", name := "<init>", desc := "(II)V" } : Jvm.MethodName) ∈ wU := wU_2 (List.mem_of_getElem? (i := 212) rfl) rfl
theorem tw_453 : Jvm.Cond.instanceMethod ({ cls := "DovetailRow$Span", name := "<init>", desc := "(II)V" } : Jvm.MethodName) ∈ wU := wU_2 (List.mem_of_getElem? (i := 213) rfl) rfl
theorem tw_454 : Jvm.Cond.code ({ cls := "DovetailRow$Span", name := "<init>", desc := "(II)V" } : Jvm.MethodName) prog_5_method_1_code (3 : Nat) (Option.none : Option Jvm.ClassFile.FieldType) ∈ wU := wU_2 (List.mem_of_getElem? (i := 214) rfl) rfl
theorem tw_455 : Jvm.Cond.methodLink "DovetailRow$Span" (1 : Nat) ({ cls := "java/lang/Object", name := "<init>", desc := "()V" } : Jvm.MethodName) ∈ wU := wU_2 (List.mem_of_getElem? (i := 215) rfl) rfl
theorem tw_456 : Jvm.Cond.fieldLink "DovetailRow$Span" (7 : Nat) "DovetailRow$Span" "from" "I" ∈ wU := wU_2 (List.mem_of_getElem? (i := 216) rfl) rfl
theorem tw_457 : Jvm.Cond.fieldLink "DovetailRow$Span" (13 : Nat) "DovetailRow$Span" "to" "I" ∈ wU := wU_2 (List.mem_of_getElem? (i := 217) rfl) rfl
theorem tw_458 : Jvm.Cond.fieldLink "DovetailRow" (330 : Nat) "DovetailRow$Span" "to" "I" ∈ wU := wU_2 (List.mem_of_getElem? (i := 218) rfl) rfl
theorem tw_459 : Jvm.Cond.laysFinal "DovetailRow$Span" "DovetailRow$Span" "from" "I" ∈ wU := wU_2 (List.mem_of_getElem? (i := 219) rfl) rfl
theorem tw_460 : Jvm.Cond.soleField "DovetailRow$Span" "from" ∈ wU := wU_2 (List.mem_of_getElem? (i := 220) rfl) rfl
theorem tw_461 : Jvm.Cond.laysFinal "DovetailRow$Span" "DovetailRow$Span" "to" "I" ∈ wU := wU_2 (List.mem_of_getElem? (i := 221) rfl) rfl
theorem tw_462 : Jvm.Cond.soleField "DovetailRow$Span" "to" ∈ wU := wU_2 (List.mem_of_getElem? (i := 222) rfl) rfl
theorem tw_463 : Jvm.Cond.superclass "DovetailRow$Span" "java/lang/Object" ∈ lw_tbl := wT_2 (List.mem_of_getElem? (i := 223) rfl)
theorem tw_464 : Jvm.Cond.methodLink "DovetailRowLaw" (104 : Nat) ({ cls := "DovetailRowLaw", name := "cut", desc := "(LDovetailRow;IIIIZ[J)I" } : Jvm.MethodName) ∈ wU := wU_2 (List.mem_of_getElem? (i := 224) rfl) rfl
theorem tw_465 : Jvm.Cond.static ({ cls := "DovetailRowLaw", name := "cut", desc := "(LDovetailRow;IIIIZ[J)I" } : Jvm.MethodName) ∈ wU := wU_2 (List.mem_of_getElem? (i := 225) rfl) rfl
theorem tw_466 : Jvm.Cond.codeWith ({ cls := "DovetailRowLaw", name := "cut", desc := "(LDovetailRow;IIIIZ[J)I" } : Jvm.MethodName) method_7_code (8 : Nat) (Option.some Jvm.ClassFile.FieldType.int) [((0 : Nat), (16 : Nat), (19 : Nat), (13 : Nat)), ((0 : Nat), (16 : Nat), (23 : Nat), (15 : Nat)), ((0 : Nat), (16 : Nat), (27 : Nat), (21 : Nat))] ∈ wU := wU_2 (List.mem_of_getElem? (i := 226) rfl) rfl
theorem tw_467 : Jvm.Cond.methodLink "DovetailRowLaw" (31 : Nat) ({ cls := "DovetailRow", name := "cut", desc := "(IIIIZ)I" } : Jvm.MethodName) ∈ wU := wU_2 (List.mem_of_getElem? (i := 227) rfl) rfl
theorem tw_468 : Jvm.Cond.instanceMethod ({ cls := "DovetailRow", name := "cut", desc := "(IIIIZ)I" } : Jvm.MethodName) ∈ wU := wU_2 (List.mem_of_getElem? (i := 228) rfl) rfl
theorem tw_469 : Jvm.Cond.selects "DovetailRow" ({ cls := "DovetailRow", name := "cut", desc := "(IIIIZ)I" } : Jvm.MethodName) ({ cls := "DovetailRow", name := "cut", desc := "(IIIIZ)I" } : Jvm.MethodName) ∈ wU := wU_2 (List.mem_of_getElem? (i := 229) rfl) rfl
theorem tw_470 : Jvm.Cond.code ({ cls := "DovetailRow", name := "cut", desc := "(IIIIZ)I" } : Jvm.MethodName) prog_1_method_6_code (9 : Nat) (Option.some Jvm.ClassFile.FieldType.int) ∈ wU := wU_2 (List.mem_of_getElem? (i := 230) rfl) rfl
theorem tw_471 : Jvm.Cond.stringRef "DovetailRow" (133 : Nat) "from, length or width is out of its range" ∈ lw_tbl := wT_2 (List.mem_of_getElem? (i := 231) rfl)
theorem tw_472 : Jvm.Cond.stringRef "DovetailRow" (135 : Nat) "there are 40 parts" ∈ lw_tbl := wT_2 (List.mem_of_getElem? (i := 232) rfl)
theorem tw_473 : Jvm.Cond.methodLink "DovetailRow" (137 : Nat) ({ cls := "DovetailRow$Board", name := "hasRoom", desc := "(II)Z" } : Jvm.MethodName) ∈ wU := wU_2 (List.mem_of_getElem? (i := 233) rfl) rfl
theorem tw_474 : Jvm.Cond.instanceMethod ({ cls := "DovetailRow$Board", name := "hasRoom", desc := "(II)Z" } : Jvm.MethodName) ∈ wU := wU_2 (List.mem_of_getElem? (i := 234) rfl) rfl
theorem tw_475 : Jvm.Cond.selects "DovetailRow$Board" ({ cls := "DovetailRow$Board", name := "hasRoom", desc := "(II)Z" } : Jvm.MethodName) ({ cls := "DovetailRow$Board", name := "hasRoom", desc := "(II)Z" } : Jvm.MethodName) ∈ wU := wU_2 (List.mem_of_getElem? (i := 235) rfl) rfl
theorem tw_476 : Jvm.Cond.code ({ cls := "DovetailRow$Board", name := "hasRoom", desc := "(II)Z" } : Jvm.MethodName) prog_2_method_2_code (3 : Nat) (Option.some Jvm.ClassFile.FieldType.boolean) ∈ wU := wU_2 (List.mem_of_getElem? (i := 236) rfl) rfl
theorem tw_477 : Jvm.Cond.methodLinkNest "DovetailRow$Board" (34 : Nat) ({ cls := "DovetailRow", name := "touchesAny", desc := "(Ljava/util/ArrayList;II)Z" } : Jvm.MethodName) "DovetailRow" ∈ lw_tbl := wT_2 (List.mem_of_getElem? (i := 237) rfl)
theorem tw_478 : Jvm.Cond.methodLink "DovetailRow" (141 : Nat) ({ cls := "DovetailRow$Board", name := "widthNow", desc := "()I" } : Jvm.MethodName) ∈ wU := wU_2 (List.mem_of_getElem? (i := 238) rfl) rfl
theorem tw_479 : Jvm.Cond.sameMethod "DovetailRow$Board" "DovetailRow$Wood" "widthNow" "()I" ∈ wU := wU_2 (List.mem_of_getElem? (i := 239) rfl) rfl
theorem tw_480 : Jvm.Cond.declares ({ cls := "DovetailRow$Wood", name := "widthNow", desc := "()I" } : Jvm.MethodName) ∈ lw_tbl := wT_3 (List.mem_of_getElem? (i := 0) rfl)
theorem tw_481 : Jvm.Cond.selects "DovetailRow$Board" ({ cls := "DovetailRow$Board", name := "widthNow", desc := "()I" } : Jvm.MethodName) ({ cls := "DovetailRow$Wood", name := "widthNow", desc := "()I" } : Jvm.MethodName) ∈ wU := wU_3 (List.mem_of_getElem? (i := 1) rfl) rfl
theorem tw_482 : Jvm.Cond.instanceMethod ({ cls := "DovetailRow$Wood", name := "widthNow", desc := "()I" } : Jvm.MethodName) ∈ wU := wU_3 (List.mem_of_getElem? (i := 2) rfl) rfl
theorem tw_483 : Jvm.Cond.code ({ cls := "DovetailRow$Wood", name := "widthNow", desc := "()I" } : Jvm.MethodName) prog_6_method_4_code (1 : Nat) (Option.some Jvm.ClassFile.FieldType.int) ∈ wU := wU_3 (List.mem_of_getElem? (i := 3) rfl) rfl
theorem tw_484 : Jvm.Cond.methodLink "DovetailRow$Wood" (35 : Nat) ({ cls := "DovetailRow$Wood", name := "widthAt", desc := "(I)I" } : Jvm.MethodName) ∈ wU := wU_3 (List.mem_of_getElem? (i := 4) rfl) rfl
theorem tw_485 : Jvm.Cond.stringRef "DovetailRow" (144 : Nat) "the board has no room for it" ∈ lw_tbl := wT_3 (List.mem_of_getElem? (i := 5) rfl)
theorem tw_486 : Jvm.Cond.stringRef "DovetailRow" (146 : Nat) "the part would have a knot that is not hidden" ∈ lw_tbl := wT_3 (List.mem_of_getElem? (i := 6) rfl)
theorem tw_487 : Jvm.Cond.methodLink "DovetailRow" (151 : Nat) ({ cls := "DovetailRow", name := "hardnessOf", desc := "(I)I" } : Jvm.MethodName) ∈ wU := wU_3 (List.mem_of_getElem? (i := 7) rfl) rfl
theorem tw_488 : Jvm.Cond.static ({ cls := "DovetailRow", name := "hardnessOf", desc := "(I)I" } : Jvm.MethodName) ∈ wU := wU_3 (List.mem_of_getElem? (i := 8) rfl) rfl
theorem tw_489 : Jvm.Cond.code ({ cls := "DovetailRow", name := "hardnessOf", desc := "(I)I" } : Jvm.MethodName) prog_1_method_32_code (1 : Nat) (Option.some Jvm.ClassFile.FieldType.int) ∈ wU := wU_3 (List.mem_of_getElem? (i := 9) rfl) rfl
theorem tw_490 : Jvm.Cond.stringRef "DovetailRow" (154 : Nat) "the saw is not sharp enough" ∈ lw_tbl := wT_3 (List.mem_of_getElem? (i := 10) rfl)
theorem tw_491 : Jvm.Cond.instantiable "DovetailRow$Part" (9 : Nat) ∈ wU := wU_3 (List.mem_of_getElem? (i := 11) rfl) rfl
theorem tw_492 : Jvm.Cond.methodLink "DovetailRow" (158 : Nat) ({ cls := "DovetailRow$Part", name := "<init>", desc := "(ILDovetailRow$Board;III)V" } : Jvm.MethodName) ∈ wU := wU_3 (List.mem_of_getElem? (i := 12) rfl) rfl
theorem tw_493 : Jvm.Cond.instanceMethod ({ cls := "DovetailRow$Part", name := "<init>", desc := "(ILDovetailRow$Board;III)V" } : Jvm.MethodName) ∈ wU := wU_3 (List.mem_of_getElem? (i := 13) rfl) rfl
theorem tw_494 : Jvm.Cond.code ({ cls := "DovetailRow$Part", name := "<init>", desc := "(ILDovetailRow$Board;III)V" } : Jvm.MethodName) prog_4_method_1_code (6 : Nat) (Option.none : Option Jvm.ClassFile.FieldType) ∈ wU := wU_3 (List.mem_of_getElem? (i := 14) rfl) rfl
theorem tw_495 : Jvm.Cond.methodLink "DovetailRow$Part" (10 : Nat) ({ cls := "DovetailRow$Wood", name := "<init>", desc := "(III)V" } : Jvm.MethodName) ∈ wU := wU_3 (List.mem_of_getElem? (i := 15) rfl) rfl
theorem tw_496 : Jvm.Cond.fieldLink "DovetailRow$Part" (16 : Nat) "DovetailRow$Part" "number" "I" ∈ wU := wU_3 (List.mem_of_getElem? (i := 16) rfl) rfl
theorem tw_497 : Jvm.Cond.fieldLink "DovetailRow" (309 : Nat) "DovetailRow$Part" "number" "I" ∈ wU := wU_3 (List.mem_of_getElem? (i := 17) rfl) rfl
theorem tw_498 : Jvm.Cond.fieldLink "DovetailRow$Part" (21 : Nat) "DovetailRow$Part" "board" "LDovetailRow$Board;" ∈ wU := wU_3 (List.mem_of_getElem? (i := 18) rfl) rfl
theorem tw_499 : Jvm.Cond.fieldLink "DovetailRow" (185 : Nat) "DovetailRow$Part" "board" "LDovetailRow$Board;" ∈ wU := wU_3 (List.mem_of_getElem? (i := 19) rfl) rfl
theorem tw_500 : Jvm.Cond.fieldLink "DovetailRow$Part" (25 : Nat) "DovetailRow$Part" "from" "I" ∈ wU := wU_3 (List.mem_of_getElem? (i := 20) rfl) rfl
theorem tw_501 : Jvm.Cond.fieldLink "DovetailRow" (303 : Nat) "DovetailRow$Part" "from" "I" ∈ wU := wU_3 (List.mem_of_getElem? (i := 21) rfl) rfl
theorem tw_502 : Jvm.Cond.fieldLink "DovetailRow$Part" (28 : Nat) "DovetailRow$Part" "length" "I" ∈ wU := wU_3 (List.mem_of_getElem? (i := 22) rfl) rfl
theorem tw_503 : Jvm.Cond.fieldLink "DovetailRow" (333 : Nat) "DovetailRow$Part" "length" "I" ∈ wU := wU_3 (List.mem_of_getElem? (i := 23) rfl) rfl
theorem tw_504 : Jvm.Cond.laysFinal "DovetailRow$Part" "DovetailRow$Part" "number" "I" ∈ wU := wU_3 (List.mem_of_getElem? (i := 24) rfl) rfl
theorem tw_505 : Jvm.Cond.soleField "DovetailRow$Part" "number" ∈ wU := wU_3 (List.mem_of_getElem? (i := 25) rfl) rfl
theorem tw_506 : Jvm.Cond.laysFinal "DovetailRow$Part" "DovetailRow$Part" "board" "LDovetailRow$Board;" ∈ wU := wU_3 (List.mem_of_getElem? (i := 26) rfl) rfl
theorem tw_507 : Jvm.Cond.soleField "DovetailRow$Part" "board" ∈ wU := wU_3 (List.mem_of_getElem? (i := 27) rfl) rfl
theorem tw_508 : Jvm.Cond.laysFinal "DovetailRow$Part" "DovetailRow$Part" "from" "I" ∈ wU := wU_3 (List.mem_of_getElem? (i := 28) rfl) rfl
theorem tw_509 : Jvm.Cond.soleField "DovetailRow$Part" "from" ∈ wU := wU_3 (List.mem_of_getElem? (i := 29) rfl) rfl
theorem tw_510 : Jvm.Cond.laysFinal "DovetailRow$Part" "DovetailRow$Part" "length" "I" ∈ wU := wU_3 (List.mem_of_getElem? (i := 30) rfl) rfl
theorem tw_511 : Jvm.Cond.soleField "DovetailRow$Part" "length" ∈ wU := wU_3 (List.mem_of_getElem? (i := 31) rfl) rfl
theorem tw_512 : Jvm.Cond.laysFinal "DovetailRow$Part" "DovetailRow$Wood" "species" "I" ∈ wU := wU_3 (List.mem_of_getElem? (i := 32) rfl) rfl
theorem tw_513 : Jvm.Cond.laysFinal "DovetailRow$Part" "DovetailRow$Wood" "measuredWidth" "I" ∈ wU := wU_3 (List.mem_of_getElem? (i := 33) rfl) rfl
theorem tw_514 : Jvm.Cond.laysFinal "DovetailRow$Part" "DovetailRow$Wood" "measuredMoisture" "I" ∈ wU := wU_3 (List.mem_of_getElem? (i := 34) rfl) rfl
theorem tw_515 : Jvm.Cond.lays "DovetailRow$Part" "DovetailRow$Wood" "moisture" "I" ∈ wU := wU_3 (List.mem_of_getElem? (i := 35) rfl) rfl
theorem tw_516 : Jvm.Cond.lays "DovetailRow$Part" "DovetailRow$Wood" "coats" "I" ∈ wU := wU_3 (List.mem_of_getElem? (i := 36) rfl) rfl
theorem tw_517 : Jvm.Cond.superclass "DovetailRow$Part" "DovetailRow$Wood" ∈ lw_tbl := wT_3 (List.mem_of_getElem? (i := 37) rfl)
theorem tw_518 : Jvm.Cond.methodLink "DovetailRowLaw" (108 : Nat) ({ cls := "DovetailRowLaw", name := "sharpen", desc := "(LDovetailRow;I[J)I" } : Jvm.MethodName) ∈ wU := wU_3 (List.mem_of_getElem? (i := 38) rfl) rfl
theorem tw_519 : Jvm.Cond.static ({ cls := "DovetailRowLaw", name := "sharpen", desc := "(LDovetailRow;I[J)I" } : Jvm.MethodName) ∈ wU := wU_3 (List.mem_of_getElem? (i := 39) rfl) rfl
theorem tw_520 : Jvm.Cond.codeWith ({ cls := "DovetailRowLaw", name := "sharpen", desc := "(LDovetailRow;I[J)I" } : Jvm.MethodName) method_8_code (4 : Nat) (Option.some Jvm.ClassFile.FieldType.int) [((0 : Nat), (9 : Nat), (12 : Nat), (13 : Nat))] ∈ wU := wU_3 (List.mem_of_getElem? (i := 40) rfl) rfl
theorem tw_521 : Jvm.Cond.methodLink "DovetailRowLaw" (35 : Nat) ({ cls := "DovetailRow", name := "sharpen", desc := "(I)I" } : Jvm.MethodName) ∈ wU := wU_3 (List.mem_of_getElem? (i := 41) rfl) rfl
theorem tw_522 : Jvm.Cond.instanceMethod ({ cls := "DovetailRow", name := "sharpen", desc := "(I)I" } : Jvm.MethodName) ∈ wU := wU_3 (List.mem_of_getElem? (i := 42) rfl) rfl
theorem tw_523 : Jvm.Cond.selects "DovetailRow" ({ cls := "DovetailRow", name := "sharpen", desc := "(I)I" } : Jvm.MethodName) ({ cls := "DovetailRow", name := "sharpen", desc := "(I)I" } : Jvm.MethodName) ∈ wU := wU_3 (List.mem_of_getElem? (i := 43) rfl) rfl
theorem tw_524 : Jvm.Cond.code ({ cls := "DovetailRow", name := "sharpen", desc := "(I)I" } : Jvm.MethodName) prog_1_method_7_code (3 : Nat) (Option.some Jvm.ClassFile.FieldType.int) ∈ wU := wU_3 (List.mem_of_getElem? (i := 44) rfl) rfl
theorem tw_525 : Jvm.Cond.stringRef "DovetailRow" (161 : Nat) "there is no such edge" ∈ lw_tbl := wT_3 (List.mem_of_getElem? (i := 45) rfl)
theorem tw_526 : Jvm.Cond.methodLink "DovetailRowLaw" (111 : Nat) ({ cls := "DovetailRowLaw", name := "clearFrom", desc := "(LDovetailRow;II[J)I" } : Jvm.MethodName) ∈ wU := wU_3 (List.mem_of_getElem? (i := 46) rfl) rfl
theorem tw_527 : Jvm.Cond.static ({ cls := "DovetailRowLaw", name := "clearFrom", desc := "(LDovetailRow;II[J)I" } : Jvm.MethodName) ∈ wU := wU_3 (List.mem_of_getElem? (i := 47) rfl) rfl
theorem tw_528 : Jvm.Cond.codeWith ({ cls := "DovetailRowLaw", name := "clearFrom", desc := "(LDovetailRow;II[J)I" } : Jvm.MethodName) method_9_code (5 : Nat) (Option.some Jvm.ClassFile.FieldType.int) [((0 : Nat), (10 : Nat), (13 : Nat), (13 : Nat)), ((0 : Nat), (10 : Nat), (17 : Nat), (15 : Nat))] ∈ wU := wU_3 (List.mem_of_getElem? (i := 48) rfl) rfl
theorem tw_529 : Jvm.Cond.methodLink "DovetailRowLaw" (38 : Nat) ({ cls := "DovetailRow", name := "clearFrom", desc := "(II)I" } : Jvm.MethodName) ∈ wU := wU_3 (List.mem_of_getElem? (i := 49) rfl) rfl
theorem tw_530 : Jvm.Cond.instanceMethod ({ cls := "DovetailRow", name := "clearFrom", desc := "(II)I" } : Jvm.MethodName) ∈ wU := wU_3 (List.mem_of_getElem? (i := 50) rfl) rfl
theorem tw_531 : Jvm.Cond.selects "DovetailRow" ({ cls := "DovetailRow", name := "clearFrom", desc := "(II)I" } : Jvm.MethodName) ({ cls := "DovetailRow", name := "clearFrom", desc := "(II)I" } : Jvm.MethodName) ∈ wU := wU_3 (List.mem_of_getElem? (i := 51) rfl) rfl
theorem tw_532 : Jvm.Cond.code ({ cls := "DovetailRow", name := "clearFrom", desc := "(II)I" } : Jvm.MethodName) prog_1_method_8_code (5 : Nat) (Option.some Jvm.ClassFile.FieldType.int) ∈ wU := wU_3 (List.mem_of_getElem? (i := 52) rfl) rfl
theorem tw_533 : Jvm.Cond.stringRef "DovetailRow" (163 : Nat) "length is out of its range" ∈ lw_tbl := wT_3 (List.mem_of_getElem? (i := 53) rfl)
theorem tw_534 : Jvm.Cond.methodLink "DovetailRow" (165 : Nat) ({ cls := "DovetailRow$Board", name := "isClear", desc := "(II)Z" } : Jvm.MethodName) ∈ wU := wU_3 (List.mem_of_getElem? (i := 54) rfl) rfl
theorem tw_535 : Jvm.Cond.instanceMethod ({ cls := "DovetailRow$Board", name := "isClear", desc := "(II)Z" } : Jvm.MethodName) ∈ wU := wU_3 (List.mem_of_getElem? (i := 55) rfl) rfl
theorem tw_536 : Jvm.Cond.selects "DovetailRow$Board" ({ cls := "DovetailRow$Board", name := "isClear", desc := "(II)Z" } : Jvm.MethodName) ({ cls := "DovetailRow$Board", name := "isClear", desc := "(II)Z" } : Jvm.MethodName) ∈ wU := wU_3 (List.mem_of_getElem? (i := 56) rfl) rfl
theorem tw_537 : Jvm.Cond.code ({ cls := "DovetailRow$Board", name := "isClear", desc := "(II)Z" } : Jvm.MethodName) prog_2_method_3_code (3 : Nat) (Option.some Jvm.ClassFile.FieldType.boolean) ∈ wU := wU_3 (List.mem_of_getElem? (i := 57) rfl) rfl
theorem tw_538 : Jvm.Cond.methodLink "DovetailRow$Board" (40 : Nat) ({ cls := "DovetailRow$Board", name := "hasRoom", desc := "(II)Z" } : Jvm.MethodName) ∈ wU := wU_3 (List.mem_of_getElem? (i := 58) rfl) rfl
theorem tw_539 : Jvm.Cond.methodLink "DovetailRow" (168 : Nat) ({ cls := "DovetailRow", name := "earlierBehind", desc := "(Ljava/util/ArrayList;LDovetailRow$Board;II)I" } : Jvm.MethodName) ∈ wU := wU_3 (List.mem_of_getElem? (i := 59) rfl) rfl
theorem tw_540 : Jvm.Cond.static ({ cls := "DovetailRow", name := "earlierBehind", desc := "(Ljava/util/ArrayList;LDovetailRow$Board;II)I" } : Jvm.MethodName) ∈ wU := wU_3 (List.mem_of_getElem? (i := 60) rfl) rfl
theorem tw_541 : Jvm.Cond.code ({ cls := "DovetailRow", name := "earlierBehind", desc := "(Ljava/util/ArrayList;LDovetailRow$Board;II)I" } : Jvm.MethodName) prog_1_method_35_code (7 : Nat) (Option.some Jvm.ClassFile.FieldType.int) ∈ wU := wU_3 (List.mem_of_getElem? (i := 61) rfl) rfl
theorem tw_542 : Jvm.Cond.methodLink "DovetailRowLaw" (114 : Nat) ({ cls := "DovetailRowLaw", name := "coat", desc := "(LDovetailRow;I[J)I" } : Jvm.MethodName) ∈ wU := wU_3 (List.mem_of_getElem? (i := 62) rfl) rfl
theorem tw_543 : Jvm.Cond.static ({ cls := "DovetailRowLaw", name := "coat", desc := "(LDovetailRow;I[J)I" } : Jvm.MethodName) ∈ wU := wU_3 (List.mem_of_getElem? (i := 63) rfl) rfl
theorem tw_544 : Jvm.Cond.codeWith ({ cls := "DovetailRowLaw", name := "coat", desc := "(LDovetailRow;I[J)I" } : Jvm.MethodName) method_10_code (4 : Nat) (Option.some Jvm.ClassFile.FieldType.int) [((0 : Nat), (9 : Nat), (12 : Nat), (13 : Nat)), ((0 : Nat), (9 : Nat), (15 : Nat), (21 : Nat))] ∈ wU := wU_3 (List.mem_of_getElem? (i := 64) rfl) rfl
theorem tw_545 : Jvm.Cond.methodLink "DovetailRowLaw" (41 : Nat) ({ cls := "DovetailRow", name := "coat", desc := "(I)I" } : Jvm.MethodName) ∈ wU := wU_3 (List.mem_of_getElem? (i := 65) rfl) rfl
theorem tw_546 : Jvm.Cond.instanceMethod ({ cls := "DovetailRow", name := "coat", desc := "(I)I" } : Jvm.MethodName) ∈ wU := wU_3 (List.mem_of_getElem? (i := 66) rfl) rfl
theorem tw_547 : Jvm.Cond.selects "DovetailRow" ({ cls := "DovetailRow", name := "coat", desc := "(I)I" } : Jvm.MethodName) ({ cls := "DovetailRow", name := "coat", desc := "(I)I" } : Jvm.MethodName) ∈ wU := wU_3 (List.mem_of_getElem? (i := 67) rfl) rfl
theorem tw_548 : Jvm.Cond.code ({ cls := "DovetailRow", name := "coat", desc := "(I)I" } : Jvm.MethodName) prog_1_method_9_code (3 : Nat) (Option.some Jvm.ClassFile.FieldType.int) ∈ wU := wU_3 (List.mem_of_getElem? (i := 68) rfl) rfl
theorem tw_549 : Jvm.Cond.methodLink "DovetailRow" (172 : Nat) ({ cls := "DovetailRow", name := "findPart", desc := "(I)LDovetailRow$Part;" } : Jvm.MethodName) ∈ wU := wU_3 (List.mem_of_getElem? (i := 69) rfl) rfl
theorem tw_550 : Jvm.Cond.privateMethod ({ cls := "DovetailRow", name := "findPart", desc := "(I)LDovetailRow$Part;" } : Jvm.MethodName) ∈ lw_tbl := wT_3 (List.mem_of_getElem? (i := 70) rfl)
theorem tw_551 : Jvm.Cond.instanceMethod ({ cls := "DovetailRow", name := "findPart", desc := "(I)LDovetailRow$Part;" } : Jvm.MethodName) ∈ wU := wU_3 (List.mem_of_getElem? (i := 71) rfl) rfl
theorem tw_552 : Jvm.Cond.code ({ cls := "DovetailRow", name := "findPart", desc := "(I)LDovetailRow$Part;" } : Jvm.MethodName) prog_1_method_25_code (2 : Nat) (Option.some (Jvm.ClassFile.FieldType.object "DovetailRow$Part")) ∈ wU := wU_3 (List.mem_of_getElem? (i := 72) rfl) rfl
theorem tw_553 : Jvm.Cond.stringRef "DovetailRow" (176 : Nat) "there is no such part" ∈ lw_tbl := wT_3 (List.mem_of_getElem? (i := 73) rfl)
theorem tw_554 : Jvm.Cond.stringRef "DovetailRow" (181 : Nat) "the part has 6 coats" ∈ lw_tbl := wT_3 (List.mem_of_getElem? (i := 74) rfl)
theorem tw_555 : Jvm.Cond.methodLink "DovetailRowLaw" (117 : Nat) ({ cls := "DovetailRowLaw", name := "match", desc := "(LDovetailRow;II[J)I" } : Jvm.MethodName) ∈ wU := wU_3 (List.mem_of_getElem? (i := 75) rfl) rfl
theorem tw_556 : Jvm.Cond.static ({ cls := "DovetailRowLaw", name := "match", desc := "(LDovetailRow;II[J)I" } : Jvm.MethodName) ∈ wU := wU_3 (List.mem_of_getElem? (i := 76) rfl) rfl
theorem tw_557 : Jvm.Cond.codeWith ({ cls := "DovetailRowLaw", name := "match", desc := "(LDovetailRow;II[J)I" } : Jvm.MethodName) method_11_code (5 : Nat) (Option.some Jvm.ClassFile.FieldType.int) [((0 : Nat), (10 : Nat), (13 : Nat), (13 : Nat)), ((0 : Nat), (10 : Nat), (17 : Nat), (15 : Nat))] ∈ wU := wU_3 (List.mem_of_getElem? (i := 77) rfl) rfl
theorem tw_558 : Jvm.Cond.methodLink "DovetailRowLaw" (44 : Nat) ({ cls := "DovetailRow", name := "match", desc := "(II)I" } : Jvm.MethodName) ∈ wU := wU_3 (List.mem_of_getElem? (i := 78) rfl) rfl
theorem tw_559 : Jvm.Cond.instanceMethod ({ cls := "DovetailRow", name := "match", desc := "(II)I" } : Jvm.MethodName) ∈ wU := wU_3 (List.mem_of_getElem? (i := 79) rfl) rfl
theorem tw_560 : Jvm.Cond.selects "DovetailRow" ({ cls := "DovetailRow", name := "match", desc := "(II)I" } : Jvm.MethodName) ({ cls := "DovetailRow", name := "match", desc := "(II)I" } : Jvm.MethodName) ∈ wU := wU_3 (List.mem_of_getElem? (i := 80) rfl) rfl
theorem tw_561 : Jvm.Cond.code ({ cls := "DovetailRow", name := "match", desc := "(II)I" } : Jvm.MethodName) prog_1_method_10_code (5 : Nat) (Option.some Jvm.ClassFile.FieldType.int) ∈ wU := wU_3 (List.mem_of_getElem? (i := 81) rfl) rfl
theorem tw_562 : Jvm.Cond.stringRef "DovetailRow" (183 : Nat) "both parts are the same" ∈ lw_tbl := wT_3 (List.mem_of_getElem? (i := 82) rfl)
theorem tw_563 : Jvm.Cond.methodLink "DovetailRow" (195 : Nat) ({ cls := "java/lang/Math", name := "abs", desc := "(I)I" } : Jvm.MethodName) ∈ wU := wU_3 (List.mem_of_getElem? (i := 83) rfl) rfl
theorem tw_564 : Jvm.Cond.methodLink "DovetailRowLaw" (120 : Nat) ({ cls := "DovetailRowLaw", name := "joint", desc := "(LDovetailRow;IIIII[J)I" } : Jvm.MethodName) ∈ wU := wU_3 (List.mem_of_getElem? (i := 84) rfl) rfl
theorem tw_565 : Jvm.Cond.static ({ cls := "DovetailRowLaw", name := "joint", desc := "(LDovetailRow;IIIII[J)I" } : Jvm.MethodName) ∈ wU := wU_3 (List.mem_of_getElem? (i := 85) rfl) rfl
theorem tw_566 : Jvm.Cond.codeWith ({ cls := "DovetailRowLaw", name := "joint", desc := "(LDovetailRow;IIIII[J)I" } : Jvm.MethodName) method_12_code (8 : Nat) (Option.some Jvm.ClassFile.FieldType.int) [((0 : Nat), (16 : Nat), (19 : Nat), (13 : Nat)), ((0 : Nat), (16 : Nat), (23 : Nat), (15 : Nat)), ((0 : Nat), (16 : Nat), (27 : Nat), (21 : Nat))] ∈ wU := wU_3 (List.mem_of_getElem? (i := 86) rfl) rfl
theorem tw_567 : Jvm.Cond.methodLink "DovetailRowLaw" (47 : Nat) ({ cls := "DovetailRow", name := "joint", desc := "(IIIII)I" } : Jvm.MethodName) ∈ wU := wU_3 (List.mem_of_getElem? (i := 87) rfl) rfl
theorem tw_568 : Jvm.Cond.instanceMethod ({ cls := "DovetailRow", name := "joint", desc := "(IIIII)I" } : Jvm.MethodName) ∈ wU := wU_3 (List.mem_of_getElem? (i := 88) rfl) rfl
theorem tw_569 : Jvm.Cond.selects "DovetailRow" ({ cls := "DovetailRow", name := "joint", desc := "(IIIII)I" } : Jvm.MethodName) ({ cls := "DovetailRow", name := "joint", desc := "(IIIII)I" } : Jvm.MethodName) ∈ wU := wU_3 (List.mem_of_getElem? (i := 89) rfl) rfl
theorem tw_570 : Jvm.Cond.code ({ cls := "DovetailRow", name := "joint", desc := "(IIIII)I" } : Jvm.MethodName) prog_1_method_11_code (10 : Nat) (Option.some Jvm.ClassFile.FieldType.int) ∈ wU := wU_3 (List.mem_of_getElem? (i := 90) rfl) rfl
theorem tw_571 : Jvm.Cond.methodLink "DovetailRow" (200 : Nat) ({ cls := "DovetailRow", name := "isTongue", desc := "(II)Z" } : Jvm.MethodName) ∈ wU := wU_3 (List.mem_of_getElem? (i := 91) rfl) rfl
theorem tw_572 : Jvm.Cond.static ({ cls := "DovetailRow", name := "isTongue", desc := "(II)Z" } : Jvm.MethodName) ∈ wU := wU_3 (List.mem_of_getElem? (i := 92) rfl) rfl
theorem tw_573 : Jvm.Cond.code ({ cls := "DovetailRow", name := "isTongue", desc := "(II)Z" } : Jvm.MethodName) prog_1_method_36_code (2 : Nat) (Option.some Jvm.ClassFile.FieldType.boolean) ∈ wU := wU_3 (List.mem_of_getElem? (i := 93) rfl) rfl
theorem tw_574 : Jvm.Cond.stringRef "DovetailRow" (203 : Nat) "kind, size or tongue is out of its range" ∈ lw_tbl := wT_3 (List.mem_of_getElem? (i := 94) rfl)
theorem tw_575 : Jvm.Cond.stringRef "DovetailRow" (205 : Nat) "there are 30 joints" ∈ lw_tbl := wT_3 (List.mem_of_getElem? (i := 95) rfl)
theorem tw_576 : Jvm.Cond.methodLink "DovetailRow" (207 : Nat) ({ cls := "DovetailRow", name := "fits", desc := "(ILDovetailRow$Part;II)Z" } : Jvm.MethodName) ∈ wU := wU_3 (List.mem_of_getElem? (i := 96) rfl) rfl
theorem tw_577 : Jvm.Cond.static ({ cls := "DovetailRow", name := "fits", desc := "(ILDovetailRow$Part;II)Z" } : Jvm.MethodName) ∈ wU := wU_3 (List.mem_of_getElem? (i := 97) rfl) rfl
theorem tw_578 : Jvm.Cond.code ({ cls := "DovetailRow", name := "fits", desc := "(ILDovetailRow$Part;II)Z" } : Jvm.MethodName) prog_1_method_37_code (4 : Nat) (Option.some Jvm.ClassFile.FieldType.boolean) ∈ wU := wU_3 (List.mem_of_getElem? (i := 98) rfl) rfl
theorem tw_579 : Jvm.Cond.methodLink "DovetailRow" (278 : Nat) ({ cls := "DovetailRow$Part", name := "widthNow", desc := "()I" } : Jvm.MethodName) ∈ wU := wU_3 (List.mem_of_getElem? (i := 99) rfl) rfl
theorem tw_580 : Jvm.Cond.sameMethod "DovetailRow$Part" "DovetailRow$Wood" "widthNow" "()I" ∈ wU := wU_3 (List.mem_of_getElem? (i := 100) rfl) rfl
theorem tw_581 : Jvm.Cond.selects "DovetailRow$Part" ({ cls := "DovetailRow$Part", name := "widthNow", desc := "()I" } : Jvm.MethodName) ({ cls := "DovetailRow$Wood", name := "widthNow", desc := "()I" } : Jvm.MethodName) ∈ wU := wU_3 (List.mem_of_getElem? (i := 101) rfl) rfl
theorem tw_582 : Jvm.Cond.stringRef "DovetailRow" (211 : Nat) "the size does not fit" ∈ lw_tbl := wT_3 (List.mem_of_getElem? (i := 102) rfl)
theorem tw_583 : Jvm.Cond.stringRef "DovetailRow" (214 : Nat) "the chisel is not sharp enough" ∈ lw_tbl := wT_3 (List.mem_of_getElem? (i := 103) rfl)
theorem tw_584 : Jvm.Cond.instantiable "DovetailRow$Joint" (9 : Nat) ∈ wU := wU_3 (List.mem_of_getElem? (i := 104) rfl) rfl
theorem tw_585 : Jvm.Cond.methodLink "DovetailRow" (218 : Nat) ({ cls := "DovetailRow$Joint", name := "<init>", desc := "(ILDovetailRow$Part;LDovetailRow$Part;II)V" } : Jvm.MethodName) ∈ wU := wU_3 (List.mem_of_getElem? (i := 105) rfl) rfl
theorem tw_586 : Jvm.Cond.instanceMethod ({ cls := "DovetailRow$Joint", name := "<init>", desc := "(ILDovetailRow$Part;LDovetailRow$Part;II)V" } : Jvm.MethodName) ∈ wU := wU_3 (List.mem_of_getElem? (i := 106) rfl) rfl
theorem tw_587 : Jvm.Cond.code ({ cls := "DovetailRow$Joint", name := "<init>", desc := "(ILDovetailRow$Part;LDovetailRow$Part;II)V" } : Jvm.MethodName) prog_3_method_1_code (6 : Nat) (Option.none : Option Jvm.ClassFile.FieldType) ∈ wU := wU_3 (List.mem_of_getElem? (i := 107) rfl) rfl
theorem tw_588 : Jvm.Cond.methodLink "DovetailRow$Joint" (3 : Nat) ({ cls := "java/lang/Object", name := "<init>", desc := "()V" } : Jvm.MethodName) ∈ wU := wU_3 (List.mem_of_getElem? (i := 108) rfl) rfl
theorem tw_589 : Jvm.Cond.fieldLink "DovetailRow$Joint" (25 : Nat) "DovetailRow$Joint" "kind" "I" ∈ wU := wU_3 (List.mem_of_getElem? (i := 109) rfl) rfl
theorem tw_590 : Jvm.Cond.fieldLink "DovetailRow" (271 : Nat) "DovetailRow$Joint" "kind" "I" ∈ wU := wU_3 (List.mem_of_getElem? (i := 110) rfl) rfl
theorem tw_591 : Jvm.Cond.fieldLink "DovetailRow$Joint" (28 : Nat) "DovetailRow$Joint" "part" "LDovetailRow$Part;" ∈ wU := wU_3 (List.mem_of_getElem? (i := 111) rfl) rfl
theorem tw_592 : Jvm.Cond.fieldLink "DovetailRow" (274 : Nat) "DovetailRow$Joint" "part" "LDovetailRow$Part;" ∈ wU := wU_3 (List.mem_of_getElem? (i := 112) rfl) rfl
theorem tw_593 : Jvm.Cond.fieldLink "DovetailRow$Joint" (32 : Nat) "DovetailRow$Joint" "other" "LDovetailRow$Part;" ∈ wU := wU_3 (List.mem_of_getElem? (i := 113) rfl) rfl
theorem tw_594 : Jvm.Cond.fieldLink "DovetailRow" (310 : Nat) "DovetailRow$Joint" "other" "LDovetailRow$Part;" ∈ wU := wU_3 (List.mem_of_getElem? (i := 114) rfl) rfl
theorem tw_595 : Jvm.Cond.fieldLink "DovetailRow$Joint" (38 : Nat) "DovetailRow$Joint" "tongue" "I" ∈ wU := wU_3 (List.mem_of_getElem? (i := 115) rfl) rfl
theorem tw_596 : Jvm.Cond.fieldLink "DovetailRow" (279 : Nat) "DovetailRow$Joint" "tongue" "I" ∈ wU := wU_3 (List.mem_of_getElem? (i := 116) rfl) rfl
theorem tw_597 : Jvm.Cond.fieldLink "DovetailRow$Joint" (35 : Nat) "DovetailRow$Joint" "size" "I" ∈ wU := wU_3 (List.mem_of_getElem? (i := 117) rfl) rfl
theorem tw_598 : Jvm.Cond.fieldLink "DovetailRow" (282 : Nat) "DovetailRow$Joint" "size" "I" ∈ wU := wU_3 (List.mem_of_getElem? (i := 118) rfl) rfl
theorem tw_599 : Jvm.Cond.fieldLink "DovetailRow$Joint" (9 : Nat) "DovetailRow$Joint" "needs" "I" ∈ wU := wU_3 (List.mem_of_getElem? (i := 119) rfl) rfl
theorem tw_600 : Jvm.Cond.fieldLink "DovetailRow" (235 : Nat) "DovetailRow$Joint" "needs" "I" ∈ wU := wU_3 (List.mem_of_getElem? (i := 120) rfl) rfl
theorem tw_601 : Jvm.Cond.fieldLink "DovetailRow$Joint" (15 : Nat) "DovetailRow$Joint" "isGlued" "Z" ∈ wU := wU_3 (List.mem_of_getElem? (i := 121) rfl) rfl
theorem tw_602 : Jvm.Cond.fieldLink "DovetailRow" (229 : Nat) "DovetailRow$Joint" "isGlued" "Z" ∈ wU := wU_3 (List.mem_of_getElem? (i := 122) rfl) rfl
theorem tw_603 : Jvm.Cond.fieldLink "DovetailRow$Joint" (19 : Nat) "DovetailRow$Joint" "isBroken" "Z" ∈ wU := wU_3 (List.mem_of_getElem? (i := 123) rfl) rfl
theorem tw_604 : Jvm.Cond.fieldLink "DovetailRow" (266 : Nat) "DovetailRow$Joint" "isBroken" "Z" ∈ wU := wU_3 (List.mem_of_getElem? (i := 124) rfl) rfl
theorem tw_605 : Jvm.Cond.fieldLink "DovetailRow$Joint" (22 : Nat) "DovetailRow$Joint" "gluedMoisture" "I" ∈ wU := wU_3 (List.mem_of_getElem? (i := 125) rfl) rfl
theorem tw_606 : Jvm.Cond.laysFinal "DovetailRow$Joint" "DovetailRow$Joint" "kind" "I" ∈ wU := wU_3 (List.mem_of_getElem? (i := 126) rfl) rfl
theorem tw_607 : Jvm.Cond.soleField "DovetailRow$Joint" "kind" ∈ wU := wU_3 (List.mem_of_getElem? (i := 127) rfl) rfl
theorem tw_608 : Jvm.Cond.laysFinal "DovetailRow$Joint" "DovetailRow$Joint" "part" "LDovetailRow$Part;" ∈ wU := wU_3 (List.mem_of_getElem? (i := 128) rfl) rfl
theorem tw_609 : Jvm.Cond.soleField "DovetailRow$Joint" "part" ∈ wU := wU_3 (List.mem_of_getElem? (i := 129) rfl) rfl
theorem tw_610 : Jvm.Cond.laysFinal "DovetailRow$Joint" "DovetailRow$Joint" "other" "LDovetailRow$Part;" ∈ wU := wU_3 (List.mem_of_getElem? (i := 130) rfl) rfl
theorem tw_611 : Jvm.Cond.soleField "DovetailRow$Joint" "other" ∈ wU := wU_3 (List.mem_of_getElem? (i := 131) rfl) rfl
theorem tw_612 : Jvm.Cond.laysFinal "DovetailRow$Joint" "DovetailRow$Joint" "tongue" "I" ∈ wU := wU_3 (List.mem_of_getElem? (i := 132) rfl) rfl
theorem tw_613 : Jvm.Cond.soleField "DovetailRow$Joint" "tongue" ∈ wU := wU_3 (List.mem_of_getElem? (i := 133) rfl) rfl
theorem tw_614 : Jvm.Cond.lays "DovetailRow$Joint" "DovetailRow$Joint" "size" "I" ∈ wU := wU_3 (List.mem_of_getElem? (i := 134) rfl) rfl
theorem tw_615 : Jvm.Cond.soleField "DovetailRow$Joint" "size" ∈ wU := wU_3 (List.mem_of_getElem? (i := 135) rfl) rfl
theorem tw_616 : Jvm.Cond.lays "DovetailRow$Joint" "DovetailRow$Joint" "needs" "I" ∈ wU := wU_3 (List.mem_of_getElem? (i := 136) rfl) rfl
theorem tw_617 : Jvm.Cond.soleField "DovetailRow$Joint" "needs" ∈ wU := wU_3 (List.mem_of_getElem? (i := 137) rfl) rfl
theorem tw_618 : Jvm.Cond.lays "DovetailRow$Joint" "DovetailRow$Joint" "isGlued" "Z" ∈ wU := wU_3 (List.mem_of_getElem? (i := 138) rfl) rfl
theorem tw_619 : Jvm.Cond.soleField "DovetailRow$Joint" "isGlued" ∈ wU := wU_3 (List.mem_of_getElem? (i := 139) rfl) rfl
theorem tw_620 : Jvm.Cond.lays "DovetailRow$Joint" "DovetailRow$Joint" "isBroken" "Z" ∈ wU := wU_3 (List.mem_of_getElem? (i := 140) rfl) rfl
theorem tw_621 : Jvm.Cond.soleField "DovetailRow$Joint" "isBroken" ∈ wU := wU_3 (List.mem_of_getElem? (i := 141) rfl) rfl
theorem tw_622 : Jvm.Cond.lays "DovetailRow$Joint" "DovetailRow$Joint" "gluedMoisture" "I" ∈ wU := wU_3 (List.mem_of_getElem? (i := 142) rfl) rfl
theorem tw_623 : Jvm.Cond.soleField "DovetailRow$Joint" "gluedMoisture" ∈ wU := wU_3 (List.mem_of_getElem? (i := 143) rfl) rfl
theorem tw_624 : Jvm.Cond.superclass "DovetailRow$Joint" "java/lang/Object" ∈ lw_tbl := wT_3 (List.mem_of_getElem? (i := 144) rfl)
theorem tw_625 : Jvm.Cond.methodLink "DovetailRowLaw" (124 : Nat) ({ cls := "DovetailRowLaw", name := "need", desc := "(LDovetailRow;II[J)I" } : Jvm.MethodName) ∈ wU := wU_3 (List.mem_of_getElem? (i := 145) rfl) rfl
theorem tw_626 : Jvm.Cond.static ({ cls := "DovetailRowLaw", name := "need", desc := "(LDovetailRow;II[J)I" } : Jvm.MethodName) ∈ wU := wU_3 (List.mem_of_getElem? (i := 146) rfl) rfl
theorem tw_627 : Jvm.Cond.codeWith ({ cls := "DovetailRowLaw", name := "need", desc := "(LDovetailRow;II[J)I" } : Jvm.MethodName) method_13_code (5 : Nat) (Option.some Jvm.ClassFile.FieldType.int) [((0 : Nat), (10 : Nat), (13 : Nat), (13 : Nat)), ((0 : Nat), (10 : Nat), (17 : Nat), (15 : Nat)), ((0 : Nat), (10 : Nat), (21 : Nat), (21 : Nat))] ∈ wU := wU_3 (List.mem_of_getElem? (i := 147) rfl) rfl
theorem tw_628 : Jvm.Cond.methodLink "DovetailRowLaw" (51 : Nat) ({ cls := "DovetailRow", name := "need", desc := "(II)I" } : Jvm.MethodName) ∈ wU := wU_3 (List.mem_of_getElem? (i := 148) rfl) rfl
theorem tw_629 : Jvm.Cond.instanceMethod ({ cls := "DovetailRow", name := "need", desc := "(II)I" } : Jvm.MethodName) ∈ wU := wU_3 (List.mem_of_getElem? (i := 149) rfl) rfl
theorem tw_630 : Jvm.Cond.selects "DovetailRow" ({ cls := "DovetailRow", name := "need", desc := "(II)I" } : Jvm.MethodName) ({ cls := "DovetailRow", name := "need", desc := "(II)I" } : Jvm.MethodName) ∈ wU := wU_3 (List.mem_of_getElem? (i := 150) rfl) rfl
theorem tw_631 : Jvm.Cond.code ({ cls := "DovetailRow", name := "need", desc := "(II)I" } : Jvm.MethodName) prog_1_method_12_code (4 : Nat) (Option.some Jvm.ClassFile.FieldType.int) ∈ wU := wU_3 (List.mem_of_getElem? (i := 151) rfl) rfl
theorem tw_632 : Jvm.Cond.methodLink "DovetailRow" (221 : Nat) ({ cls := "DovetailRow", name := "findJoint", desc := "(I)LDovetailRow$Joint;" } : Jvm.MethodName) ∈ wU := wU_3 (List.mem_of_getElem? (i := 152) rfl) rfl
theorem tw_633 : Jvm.Cond.privateMethod ({ cls := "DovetailRow", name := "findJoint", desc := "(I)LDovetailRow$Joint;" } : Jvm.MethodName) ∈ lw_tbl := wT_3 (List.mem_of_getElem? (i := 153) rfl)
theorem tw_634 : Jvm.Cond.instanceMethod ({ cls := "DovetailRow", name := "findJoint", desc := "(I)LDovetailRow$Joint;" } : Jvm.MethodName) ∈ wU := wU_3 (List.mem_of_getElem? (i := 154) rfl) rfl
theorem tw_635 : Jvm.Cond.code ({ cls := "DovetailRow", name := "findJoint", desc := "(I)LDovetailRow$Joint;" } : Jvm.MethodName) prog_1_method_26_code (2 : Nat) (Option.some (Jvm.ClassFile.FieldType.object "DovetailRow$Joint")) ∈ wU := wU_3 (List.mem_of_getElem? (i := 155) rfl) rfl
theorem tw_636 : Jvm.Cond.stringRef "DovetailRow" (225 : Nat) "there is no such joint" ∈ lw_tbl := wT_3 (List.mem_of_getElem? (i := 156) rfl)
theorem tw_637 : Jvm.Cond.stringRef "DovetailRow" (227 : Nat) "needed is not lower" ∈ lw_tbl := wT_3 (List.mem_of_getElem? (i := 157) rfl)
theorem tw_638 : Jvm.Cond.stringRef "DovetailRow" (233 : Nat) "the joint is glued" ∈ lw_tbl := wT_3 (List.mem_of_getElem? (i := 158) rfl)
theorem tw_639 : Jvm.Cond.methodLink "DovetailRowLaw" (127 : Nat) ({ cls := "DovetailRowLaw", name := "clamps", desc := "(LDovetailRow;I[J)I" } : Jvm.MethodName) ∈ wU := wU_3 (List.mem_of_getElem? (i := 159) rfl) rfl
theorem tw_640 : Jvm.Cond.static ({ cls := "DovetailRowLaw", name := "clamps", desc := "(LDovetailRow;I[J)I" } : Jvm.MethodName) ∈ wU := wU_3 (List.mem_of_getElem? (i := 160) rfl) rfl
theorem tw_641 : Jvm.Cond.codeWith ({ cls := "DovetailRowLaw", name := "clamps", desc := "(LDovetailRow;I[J)I" } : Jvm.MethodName) method_14_code (4 : Nat) (Option.some Jvm.ClassFile.FieldType.int) [((0 : Nat), (9 : Nat), (12 : Nat), (15 : Nat))] ∈ wU := wU_3 (List.mem_of_getElem? (i := 161) rfl) rfl
theorem tw_642 : Jvm.Cond.methodLink "DovetailRowLaw" (54 : Nat) ({ cls := "DovetailRow", name := "clamps", desc := "(I)I" } : Jvm.MethodName) ∈ wU := wU_3 (List.mem_of_getElem? (i := 162) rfl) rfl
theorem tw_643 : Jvm.Cond.instanceMethod ({ cls := "DovetailRow", name := "clamps", desc := "(I)I" } : Jvm.MethodName) ∈ wU := wU_3 (List.mem_of_getElem? (i := 163) rfl) rfl
theorem tw_644 : Jvm.Cond.selects "DovetailRow" ({ cls := "DovetailRow", name := "clamps", desc := "(I)I" } : Jvm.MethodName) ({ cls := "DovetailRow", name := "clamps", desc := "(I)I" } : Jvm.MethodName) ∈ wU := wU_3 (List.mem_of_getElem? (i := 164) rfl) rfl
theorem tw_645 : Jvm.Cond.code ({ cls := "DovetailRow", name := "clamps", desc := "(I)I" } : Jvm.MethodName) prog_1_method_13_code (3 : Nat) (Option.some Jvm.ClassFile.FieldType.int) ∈ wU := wU_3 (List.mem_of_getElem? (i := 165) rfl) rfl
theorem tw_646 : Jvm.Cond.stringRef "DovetailRow" (238 : Nat) "clamps is out of its range" ∈ lw_tbl := wT_3 (List.mem_of_getElem? (i := 166) rfl)
theorem tw_647 : Jvm.Cond.methodLink "DovetailRowLaw" (130 : Nat) ({ cls := "DovetailRowLaw", name := "glue", desc := "(LDovetailRow;I[J)I" } : Jvm.MethodName) ∈ wU := wU_3 (List.mem_of_getElem? (i := 167) rfl) rfl
theorem tw_648 : Jvm.Cond.static ({ cls := "DovetailRowLaw", name := "glue", desc := "(LDovetailRow;I[J)I" } : Jvm.MethodName) ∈ wU := wU_3 (List.mem_of_getElem? (i := 168) rfl) rfl
theorem tw_649 : Jvm.Cond.codeWith ({ cls := "DovetailRowLaw", name := "glue", desc := "(LDovetailRow;I[J)I" } : Jvm.MethodName) method_15_code (4 : Nat) (Option.some Jvm.ClassFile.FieldType.int) [((0 : Nat), (9 : Nat), (12 : Nat), (15 : Nat)), ((0 : Nat), (9 : Nat), (15 : Nat), (21 : Nat))] ∈ wU := wU_3 (List.mem_of_getElem? (i := 169) rfl) rfl
theorem tw_650 : Jvm.Cond.methodLink "DovetailRowLaw" (57 : Nat) ({ cls := "DovetailRow", name := "glue", desc := "(I)I" } : Jvm.MethodName) ∈ wU := wU_3 (List.mem_of_getElem? (i := 170) rfl) rfl
theorem tw_651 : Jvm.Cond.instanceMethod ({ cls := "DovetailRow", name := "glue", desc := "(I)I" } : Jvm.MethodName) ∈ wU := wU_3 (List.mem_of_getElem? (i := 171) rfl) rfl
theorem tw_652 : Jvm.Cond.selects "DovetailRow" ({ cls := "DovetailRow", name := "glue", desc := "(I)I" } : Jvm.MethodName) ({ cls := "DovetailRow", name := "glue", desc := "(I)I" } : Jvm.MethodName) ∈ wU := wU_3 (List.mem_of_getElem? (i := 172) rfl) rfl
theorem tw_653 : Jvm.Cond.code ({ cls := "DovetailRow", name := "glue", desc := "(I)I" } : Jvm.MethodName) prog_1_method_14_code (4 : Nat) (Option.some Jvm.ClassFile.FieldType.int) ∈ wU := wU_3 (List.mem_of_getElem? (i := 173) rfl) rfl
theorem tw_654 : Jvm.Cond.stringRef "DovetailRow" (240 : Nat) "the set is empty, or has a joint that there is not" ∈ lw_tbl := wT_3 (List.mem_of_getElem? (i := 174) rfl)
theorem tw_655 : Jvm.Cond.methodLink "DovetailRow" (242 : Nat) ({ cls := "DovetailRow", name := "canBeGlued", desc := "(I)Z" } : Jvm.MethodName) ∈ wU := wU_3 (List.mem_of_getElem? (i := 175) rfl) rfl
theorem tw_656 : Jvm.Cond.privateMethod ({ cls := "DovetailRow", name := "canBeGlued", desc := "(I)Z" } : Jvm.MethodName) ∈ lw_tbl := wT_3 (List.mem_of_getElem? (i := 176) rfl)
theorem tw_657 : Jvm.Cond.instanceMethod ({ cls := "DovetailRow", name := "canBeGlued", desc := "(I)Z" } : Jvm.MethodName) ∈ wU := wU_3 (List.mem_of_getElem? (i := 177) rfl) rfl
theorem tw_658 : Jvm.Cond.code ({ cls := "DovetailRow", name := "canBeGlued", desc := "(I)Z" } : Jvm.MethodName) prog_1_method_38_code (5 : Nat) (Option.some Jvm.ClassFile.FieldType.boolean) ∈ wU := wU_3 (List.mem_of_getElem? (i := 178) rfl) rfl
theorem tw_659 : Jvm.Cond.methodLink "DovetailRow" (256 : Nat) ({ cls := "DovetailRow", name := "has", desc := "(II)Z" } : Jvm.MethodName) ∈ wU := wU_3 (List.mem_of_getElem? (i := 179) rfl) rfl
theorem tw_660 : Jvm.Cond.static ({ cls := "DovetailRow", name := "has", desc := "(II)Z" } : Jvm.MethodName) ∈ wU := wU_3 (List.mem_of_getElem? (i := 180) rfl) rfl
theorem tw_661 : Jvm.Cond.code ({ cls := "DovetailRow", name := "has", desc := "(II)Z" } : Jvm.MethodName) prog_1_method_23_code (2 : Nat) (Option.some Jvm.ClassFile.FieldType.boolean) ∈ wU := wU_3 (List.mem_of_getElem? (i := 181) rfl) rfl
theorem tw_662 : Jvm.Cond.stringRef "DovetailRow" (246 : Nat) "one is glued, or one that it needs is not glued by then" ∈ lw_tbl := wT_3 (List.mem_of_getElem? (i := 182) rfl)
theorem tw_663 : Jvm.Cond.methodLink "DovetailRow" (248 : Nat) ({ cls := "DovetailRow", name := "minutesOf", desc := "(I)I" } : Jvm.MethodName) ∈ wU := wU_3 (List.mem_of_getElem? (i := 183) rfl) rfl
theorem tw_664 : Jvm.Cond.privateMethod ({ cls := "DovetailRow", name := "minutesOf", desc := "(I)I" } : Jvm.MethodName) ∈ lw_tbl := wT_3 (List.mem_of_getElem? (i := 184) rfl)
theorem tw_665 : Jvm.Cond.instanceMethod ({ cls := "DovetailRow", name := "minutesOf", desc := "(I)I" } : Jvm.MethodName) ∈ wU := wU_3 (List.mem_of_getElem? (i := 185) rfl) rfl
theorem tw_666 : Jvm.Cond.code ({ cls := "DovetailRow", name := "minutesOf", desc := "(I)I" } : Jvm.MethodName) prog_1_method_39_code (4 : Nat) (Option.some Jvm.ClassFile.FieldType.int) ∈ wU := wU_3 (List.mem_of_getElem? (i := 186) rfl) rfl
theorem tw_667 : Jvm.Cond.methodLink "DovetailRow" (251 : Nat) ({ cls := "DovetailRow", name := "clampsOf", desc := "(I)I" } : Jvm.MethodName) ∈ wU := wU_3 (List.mem_of_getElem? (i := 187) rfl) rfl
theorem tw_668 : Jvm.Cond.privateMethod ({ cls := "DovetailRow", name := "clampsOf", desc := "(I)I" } : Jvm.MethodName) ∈ lw_tbl := wT_3 (List.mem_of_getElem? (i := 188) rfl)
theorem tw_669 : Jvm.Cond.instanceMethod ({ cls := "DovetailRow", name := "clampsOf", desc := "(I)I" } : Jvm.MethodName) ∈ wU := wU_3 (List.mem_of_getElem? (i := 189) rfl) rfl
theorem tw_670 : Jvm.Cond.code ({ cls := "DovetailRow", name := "clampsOf", desc := "(I)I" } : Jvm.MethodName) prog_1_method_40_code (4 : Nat) (Option.some Jvm.ClassFile.FieldType.int) ∈ wU := wU_3 (List.mem_of_getElem? (i := 190) rfl) rfl
theorem tw_671 : Jvm.Cond.stringRef "DovetailRow" (254 : Nat) "it would take too long, or too many clamps" ∈ lw_tbl := wT_3 (List.mem_of_getElem? (i := 191) rfl)
theorem tw_672 : Jvm.Cond.methodLink "DovetailRow" (263 : Nat) ({ cls := "DovetailRow$Joint", name := "hold", desc := "()V" } : Jvm.MethodName) ∈ wU := wU_3 (List.mem_of_getElem? (i := 192) rfl) rfl
theorem tw_673 : Jvm.Cond.instanceMethod ({ cls := "DovetailRow$Joint", name := "hold", desc := "()V" } : Jvm.MethodName) ∈ wU := wU_3 (List.mem_of_getElem? (i := 193) rfl) rfl
theorem tw_674 : Jvm.Cond.selects "DovetailRow$Joint" ({ cls := "DovetailRow$Joint", name := "hold", desc := "()V" } : Jvm.MethodName) ({ cls := "DovetailRow$Joint", name := "hold", desc := "()V" } : Jvm.MethodName) ∈ wU := wU_3 (List.mem_of_getElem? (i := 194) rfl) rfl
theorem tw_675 : Jvm.Cond.code ({ cls := "DovetailRow$Joint", name := "hold", desc := "()V" } : Jvm.MethodName) prog_3_method_2_code (1 : Nat) (Option.none : Option Jvm.ClassFile.FieldType) ∈ wU := wU_3 (List.mem_of_getElem? (i := 195) rfl) rfl
theorem tw_676 : Jvm.Cond.methodLink "DovetailRowLaw" (133 : Nat) ({ cls := "DovetailRowLaw", name := "repair", desc := "(LDovetailRow;I[J)I" } : Jvm.MethodName) ∈ wU := wU_3 (List.mem_of_getElem? (i := 196) rfl) rfl
theorem tw_677 : Jvm.Cond.static ({ cls := "DovetailRowLaw", name := "repair", desc := "(LDovetailRow;I[J)I" } : Jvm.MethodName) ∈ wU := wU_3 (List.mem_of_getElem? (i := 197) rfl) rfl
theorem tw_678 : Jvm.Cond.codeWith ({ cls := "DovetailRowLaw", name := "repair", desc := "(LDovetailRow;I[J)I" } : Jvm.MethodName) method_16_code (4 : Nat) (Option.some Jvm.ClassFile.FieldType.int) [((0 : Nat), (9 : Nat), (12 : Nat), (13 : Nat)), ((0 : Nat), (9 : Nat), (15 : Nat), (21 : Nat))] ∈ wU := wU_3 (List.mem_of_getElem? (i := 198) rfl) rfl
theorem tw_679 : Jvm.Cond.methodLink "DovetailRowLaw" (60 : Nat) ({ cls := "DovetailRow", name := "repair", desc := "(I)I" } : Jvm.MethodName) ∈ wU := wU_3 (List.mem_of_getElem? (i := 199) rfl) rfl
theorem tw_680 : Jvm.Cond.instanceMethod ({ cls := "DovetailRow", name := "repair", desc := "(I)I" } : Jvm.MethodName) ∈ wU := wU_3 (List.mem_of_getElem? (i := 200) rfl) rfl
theorem tw_681 : Jvm.Cond.selects "DovetailRow" ({ cls := "DovetailRow", name := "repair", desc := "(I)I" } : Jvm.MethodName) ({ cls := "DovetailRow", name := "repair", desc := "(I)I" } : Jvm.MethodName) ∈ wU := wU_3 (List.mem_of_getElem? (i := 201) rfl) rfl
theorem tw_682 : Jvm.Cond.code ({ cls := "DovetailRow", name := "repair", desc := "(I)I" } : Jvm.MethodName) prog_1_method_15_code (3 : Nat) (Option.some Jvm.ClassFile.FieldType.int) ∈ wU := wU_3 (List.mem_of_getElem? (i := 202) rfl) rfl
theorem tw_683 : Jvm.Cond.stringRef "DovetailRow" (269 : Nat) "the joint is not broken" ∈ lw_tbl := wT_3 (List.mem_of_getElem? (i := 203) rfl)
theorem tw_684 : Jvm.Cond.methodLink "DovetailRowLaw" (136 : Nat) ({ cls := "DovetailRowLaw", name := "through", desc := "(LDovetailRow;I[J)I" } : Jvm.MethodName) ∈ wU := wU_3 (List.mem_of_getElem? (i := 204) rfl) rfl
theorem tw_685 : Jvm.Cond.static ({ cls := "DovetailRowLaw", name := "through", desc := "(LDovetailRow;I[J)I" } : Jvm.MethodName) ∈ wU := wU_3 (List.mem_of_getElem? (i := 205) rfl) rfl
theorem tw_686 : Jvm.Cond.codeWith ({ cls := "DovetailRowLaw", name := "through", desc := "(LDovetailRow;I[J)I" } : Jvm.MethodName) method_17_code (4 : Nat) (Option.some Jvm.ClassFile.FieldType.int) [((0 : Nat), (9 : Nat), (12 : Nat), (15 : Nat))] ∈ wU := wU_3 (List.mem_of_getElem? (i := 206) rfl) rfl
theorem tw_687 : Jvm.Cond.methodLink "DovetailRowLaw" (63 : Nat) ({ cls := "DovetailRow", name := "through", desc := "(I)I" } : Jvm.MethodName) ∈ wU := wU_3 (List.mem_of_getElem? (i := 207) rfl) rfl
theorem tw_688 : Jvm.Cond.instanceMethod ({ cls := "DovetailRow", name := "through", desc := "(I)I" } : Jvm.MethodName) ∈ wU := wU_3 (List.mem_of_getElem? (i := 208) rfl) rfl
theorem tw_689 : Jvm.Cond.selects "DovetailRow" ({ cls := "DovetailRow", name := "through", desc := "(I)I" } : Jvm.MethodName) ({ cls := "DovetailRow", name := "through", desc := "(I)I" } : Jvm.MethodName) ∈ wU := wU_3 (List.mem_of_getElem? (i := 209) rfl) rfl
theorem tw_690 : Jvm.Cond.code ({ cls := "DovetailRow", name := "through", desc := "(I)I" } : Jvm.MethodName) prog_1_method_16_code (5 : Nat) (Option.some Jvm.ClassFile.FieldType.int) ∈ wU := wU_3 (List.mem_of_getElem? (i := 210) rfl) rfl
theorem tw_691 : Jvm.Cond.methodLink "DovetailRow" (288 : Nat) ({ cls := "DovetailRow", name := "monthOfBreak", desc := "(LDovetailRow$Joint;I)I" } : Jvm.MethodName) ∈ wU := wU_3 (List.mem_of_getElem? (i := 211) rfl) rfl
theorem tw_692 : Jvm.Cond.privateMethod ({ cls := "DovetailRow", name := "monthOfBreak", desc := "(LDovetailRow$Joint;I)I" } : Jvm.MethodName) ∈ lw_tbl := wT_3 (List.mem_of_getElem? (i := 212) rfl)
theorem tw_693 : Jvm.Cond.instanceMethod ({ cls := "DovetailRow", name := "monthOfBreak", desc := "(LDovetailRow$Joint;I)I" } : Jvm.MethodName) ∈ wU := wU_3 (List.mem_of_getElem? (i := 213) rfl) rfl
theorem tw_694 : Jvm.Cond.code ({ cls := "DovetailRow", name := "monthOfBreak", desc := "(LDovetailRow$Joint;I)I" } : Jvm.MethodName) prog_1_method_30_code (5 : Nat) (Option.some Jvm.ClassFile.FieldType.int) ∈ wU := wU_3 (List.mem_of_getElem? (i := 214) rfl) rfl
theorem tw_695 : Jvm.Cond.methodLink "DovetailRow" (324 : Nat) ({ cls := "DovetailRow$Part", name := "moistureAfter", desc := "(II)I" } : Jvm.MethodName) ∈ wU := wU_3 (List.mem_of_getElem? (i := 215) rfl) rfl
theorem tw_696 : Jvm.Cond.sameMethod "DovetailRow$Part" "DovetailRow$Wood" "moistureAfter" "(II)I" ∈ wU := wU_3 (List.mem_of_getElem? (i := 216) rfl) rfl
theorem tw_697 : Jvm.Cond.declares ({ cls := "DovetailRow$Wood", name := "moistureAfter", desc := "(II)I" } : Jvm.MethodName) ∈ lw_tbl := wT_3 (List.mem_of_getElem? (i := 217) rfl)
theorem tw_698 : Jvm.Cond.selects "DovetailRow$Part" ({ cls := "DovetailRow$Part", name := "moistureAfter", desc := "(II)I" } : Jvm.MethodName) ({ cls := "DovetailRow$Wood", name := "moistureAfter", desc := "(II)I" } : Jvm.MethodName) ∈ wU := wU_3 (List.mem_of_getElem? (i := 218) rfl) rfl
theorem tw_699 : Jvm.Cond.methodLink "DovetailRowLaw" (139 : Nat) ({ cls := "DovetailRowLaw", name := "breaksIn", desc := "(LDovetailRow;II[J)I" } : Jvm.MethodName) ∈ wU := wU_3 (List.mem_of_getElem? (i := 219) rfl) rfl
theorem tw_700 : Jvm.Cond.static ({ cls := "DovetailRowLaw", name := "breaksIn", desc := "(LDovetailRow;II[J)I" } : Jvm.MethodName) ∈ wU := wU_3 (List.mem_of_getElem? (i := 220) rfl) rfl
theorem tw_701 : Jvm.Cond.codeWith ({ cls := "DovetailRowLaw", name := "breaksIn", desc := "(LDovetailRow;II[J)I" } : Jvm.MethodName) method_18_code (5 : Nat) (Option.some Jvm.ClassFile.FieldType.int) [((0 : Nat), (10 : Nat), (13 : Nat), (13 : Nat)), ((0 : Nat), (10 : Nat), (17 : Nat), (15 : Nat)), ((0 : Nat), (10 : Nat), (21 : Nat), (21 : Nat))] ∈ wU := wU_3 (List.mem_of_getElem? (i := 221) rfl) rfl
theorem tw_702 : Jvm.Cond.methodLink "DovetailRowLaw" (66 : Nat) ({ cls := "DovetailRow", name := "breaksIn", desc := "(II)I" } : Jvm.MethodName) ∈ wU := wU_3 (List.mem_of_getElem? (i := 222) rfl) rfl
theorem tw_703 : Jvm.Cond.instanceMethod ({ cls := "DovetailRow", name := "breaksIn", desc := "(II)I" } : Jvm.MethodName) ∈ wU := wU_3 (List.mem_of_getElem? (i := 223) rfl) rfl
theorem tw_704 : Jvm.Cond.selects "DovetailRow" ({ cls := "DovetailRow", name := "breaksIn", desc := "(II)I" } : Jvm.MethodName) ({ cls := "DovetailRow", name := "breaksIn", desc := "(II)I" } : Jvm.MethodName) ∈ wU := wU_3 (List.mem_of_getElem? (i := 224) rfl) rfl
theorem tw_705 : Jvm.Cond.code ({ cls := "DovetailRow", name := "breaksIn", desc := "(II)I" } : Jvm.MethodName) prog_1_method_17_code (4 : Nat) (Option.some Jvm.ClassFile.FieldType.int) ∈ wU := wU_3 (List.mem_of_getElem? (i := 225) rfl) rfl
theorem tw_706 : Jvm.Cond.stringRef "DovetailRow" (292 : Nat) "the joint is not glued, or is broken" ∈ lw_tbl := wT_3 (List.mem_of_getElem? (i := 226) rfl)
theorem tw_707 : Jvm.Cond.methodLink "DovetailRowLaw" (146 : Nat) ({ cls := "DovetailRowLaw", name := "ofBoard", desc := "(LDovetailRow;II[J)I" } : Jvm.MethodName) ∈ wU := wU_3 (List.mem_of_getElem? (i := 227) rfl) rfl
theorem tw_708 : Jvm.Cond.static ({ cls := "DovetailRowLaw", name := "ofBoard", desc := "(LDovetailRow;II[J)I" } : Jvm.MethodName) ∈ wU := wU_3 (List.mem_of_getElem? (i := 228) rfl) rfl
theorem tw_709 : Jvm.Cond.codeWith ({ cls := "DovetailRowLaw", name := "ofBoard", desc := "(LDovetailRow;II[J)I" } : Jvm.MethodName) method_19_code (5 : Nat) (Option.some Jvm.ClassFile.FieldType.int) [((0 : Nat), (10 : Nat), (13 : Nat), (13 : Nat)), ((0 : Nat), (10 : Nat), (17 : Nat), (15 : Nat))] ∈ wU := wU_3 (List.mem_of_getElem? (i := 229) rfl) rfl
theorem tw_710 : Jvm.Cond.methodLink "DovetailRowLaw" (69 : Nat) ({ cls := "DovetailRow", name := "ofBoard", desc := "(II)I" } : Jvm.MethodName) ∈ wU := wU_3 (List.mem_of_getElem? (i := 230) rfl) rfl
theorem tw_711 : Jvm.Cond.instanceMethod ({ cls := "DovetailRow", name := "ofBoard", desc := "(II)I" } : Jvm.MethodName) ∈ wU := wU_3 (List.mem_of_getElem? (i := 231) rfl) rfl
theorem tw_712 : Jvm.Cond.selects "DovetailRow" ({ cls := "DovetailRow", name := "ofBoard", desc := "(II)I" } : Jvm.MethodName) ({ cls := "DovetailRow", name := "ofBoard", desc := "(II)I" } : Jvm.MethodName) ∈ wU := wU_3 (List.mem_of_getElem? (i := 232) rfl) rfl
theorem tw_713 : Jvm.Cond.code ({ cls := "DovetailRow", name := "ofBoard", desc := "(II)I" } : Jvm.MethodName) prog_1_method_19_code (4 : Nat) (Option.some Jvm.ClassFile.FieldType.int) ∈ wU := wU_3 (List.mem_of_getElem? (i := 233) rfl) rfl
theorem tw_714 : Jvm.Cond.stringRef "DovetailRow" (297 : Nat) "what is out of its range" ∈ lw_tbl := wT_3 (List.mem_of_getElem? (i := 234) rfl)
theorem tw_715 : Jvm.Cond.methodLink "DovetailRowLaw" (149 : Nat) ({ cls := "DovetailRowLaw", name := "ofPart", desc := "(LDovetailRow;II[J)I" } : Jvm.MethodName) ∈ wU := wU_3 (List.mem_of_getElem? (i := 235) rfl) rfl
theorem tw_716 : Jvm.Cond.static ({ cls := "DovetailRowLaw", name := "ofPart", desc := "(LDovetailRow;II[J)I" } : Jvm.MethodName) ∈ wU := wU_3 (List.mem_of_getElem? (i := 236) rfl) rfl
theorem tw_717 : Jvm.Cond.codeWith ({ cls := "DovetailRowLaw", name := "ofPart", desc := "(LDovetailRow;II[J)I" } : Jvm.MethodName) method_20_code (5 : Nat) (Option.some Jvm.ClassFile.FieldType.int) [((0 : Nat), (10 : Nat), (13 : Nat), (13 : Nat)), ((0 : Nat), (10 : Nat), (17 : Nat), (15 : Nat))] ∈ wU := wU_3 (List.mem_of_getElem? (i := 237) rfl) rfl
theorem tw_718 : Jvm.Cond.methodLink "DovetailRowLaw" (72 : Nat) ({ cls := "DovetailRow", name := "ofPart", desc := "(II)I" } : Jvm.MethodName) ∈ wU := wU_3 (List.mem_of_getElem? (i := 238) rfl) rfl
theorem tw_719 : Jvm.Cond.instanceMethod ({ cls := "DovetailRow", name := "ofPart", desc := "(II)I" } : Jvm.MethodName) ∈ wU := wU_3 (List.mem_of_getElem? (i := 239) rfl) rfl
theorem tw_720 : Jvm.Cond.selects "DovetailRow" ({ cls := "DovetailRow", name := "ofPart", desc := "(II)I" } : Jvm.MethodName) ({ cls := "DovetailRow", name := "ofPart", desc := "(II)I" } : Jvm.MethodName) ∈ wU := wU_4 (List.mem_of_getElem? (i := 0) rfl) rfl
theorem tw_721 : Jvm.Cond.code ({ cls := "DovetailRow", name := "ofPart", desc := "(II)I" } : Jvm.MethodName) prog_1_method_20_code (4 : Nat) (Option.some Jvm.ClassFile.FieldType.int) ∈ wU := wU_4 (List.mem_of_getElem? (i := 1) rfl) rfl
theorem tw_722 : Jvm.Cond.methodLink "DovetailRowLaw" (152 : Nat) ({ cls := "DovetailRowLaw", name := "ofJoint", desc := "(LDovetailRow;II[J)I" } : Jvm.MethodName) ∈ wU := wU_4 (List.mem_of_getElem? (i := 2) rfl) rfl
theorem tw_723 : Jvm.Cond.static ({ cls := "DovetailRowLaw", name := "ofJoint", desc := "(LDovetailRow;II[J)I" } : Jvm.MethodName) ∈ wU := wU_4 (List.mem_of_getElem? (i := 3) rfl) rfl
theorem tw_724 : Jvm.Cond.codeWith ({ cls := "DovetailRowLaw", name := "ofJoint", desc := "(LDovetailRow;II[J)I" } : Jvm.MethodName) method_21_code (5 : Nat) (Option.some Jvm.ClassFile.FieldType.int) [((0 : Nat), (10 : Nat), (13 : Nat), (13 : Nat)), ((0 : Nat), (10 : Nat), (17 : Nat), (15 : Nat))] ∈ wU := wU_4 (List.mem_of_getElem? (i := 4) rfl) rfl
theorem tw_725 : Jvm.Cond.methodLink "DovetailRowLaw" (75 : Nat) ({ cls := "DovetailRow", name := "ofJoint", desc := "(II)I" } : Jvm.MethodName) ∈ wU := wU_4 (List.mem_of_getElem? (i := 5) rfl) rfl
theorem tw_726 : Jvm.Cond.instanceMethod ({ cls := "DovetailRow", name := "ofJoint", desc := "(II)I" } : Jvm.MethodName) ∈ wU := wU_4 (List.mem_of_getElem? (i := 6) rfl) rfl
theorem tw_727 : Jvm.Cond.selects "DovetailRow" ({ cls := "DovetailRow", name := "ofJoint", desc := "(II)I" } : Jvm.MethodName) ({ cls := "DovetailRow", name := "ofJoint", desc := "(II)I" } : Jvm.MethodName) ∈ wU := wU_4 (List.mem_of_getElem? (i := 7) rfl) rfl
theorem tw_728 : Jvm.Cond.code ({ cls := "DovetailRow", name := "ofJoint", desc := "(II)I" } : Jvm.MethodName) prog_1_method_21_code (4 : Nat) (Option.some Jvm.ClassFile.FieldType.int) ∈ wU := wU_4 (List.mem_of_getElem? (i := 8) rfl) rfl
theorem tw_729 : Jvm.Cond.methodLink "DovetailRow" (306 : Nat) ({ cls := "DovetailRow$Joint", name := "state", desc := "()I" } : Jvm.MethodName) ∈ wU := wU_4 (List.mem_of_getElem? (i := 9) rfl) rfl
theorem tw_730 : Jvm.Cond.instanceMethod ({ cls := "DovetailRow$Joint", name := "state", desc := "()I" } : Jvm.MethodName) ∈ wU := wU_4 (List.mem_of_getElem? (i := 10) rfl) rfl
theorem tw_731 : Jvm.Cond.selects "DovetailRow$Joint" ({ cls := "DovetailRow$Joint", name := "state", desc := "()I" } : Jvm.MethodName) ({ cls := "DovetailRow$Joint", name := "state", desc := "()I" } : Jvm.MethodName) ∈ wU := wU_4 (List.mem_of_getElem? (i := 11) rfl) rfl
theorem tw_732 : Jvm.Cond.code ({ cls := "DovetailRow$Joint", name := "state", desc := "()I" } : Jvm.MethodName) prog_3_method_5_code (1 : Nat) (Option.some Jvm.ClassFile.FieldType.int) ∈ wU := wU_4 (List.mem_of_getElem? (i := 12) rfl) rfl
theorem tw_733 : Jvm.Cond.methodLink "DovetailRow$Joint" (59 : Nat) ({ cls := "DovetailRow$Part", name := "widthNow", desc := "()I" } : Jvm.MethodName) ∈ wU := wU_4 (List.mem_of_getElem? (i := 13) rfl) rfl
theorem tw_734 : Jvm.Cond.classLink "DovetailRowLaw" (79 : Nat) "DovetailRowModel" ∈ wU := wU_4 (List.mem_of_getElem? (i := 14) rfl) rfl
theorem tw_735 : Jvm.Cond.instantiable "DovetailRowModel" (36 : Nat) ∈ wU := wU_4 (List.mem_of_getElem? (i := 15) rfl) rfl
theorem tw_736 : Jvm.Cond.methodLink "DovetailRowLaw" (81 : Nat) ({ cls := "DovetailRowModel", name := "<init>", desc := "()V" } : Jvm.MethodName) ∈ wU := wU_4 (List.mem_of_getElem? (i := 16) rfl) rfl
theorem tw_737 : Jvm.Cond.instanceMethod ({ cls := "DovetailRowModel", name := "<init>", desc := "()V" } : Jvm.MethodName) ∈ wU := wU_4 (List.mem_of_getElem? (i := 17) rfl) rfl
theorem tw_738 : Jvm.Cond.code ({ cls := "DovetailRowModel", name := "<init>", desc := "()V" } : Jvm.MethodName) prog_8_method_1_code (2 : Nat) (Option.none : Option Jvm.ClassFile.FieldType) ∈ wU := wU_4 (List.mem_of_getElem? (i := 18) rfl) rfl
theorem tw_739 : Jvm.Cond.methodLink "DovetailRowModel" (1 : Nat) ({ cls := "java/lang/Object", name := "<init>", desc := "()V" } : Jvm.MethodName) ∈ wU := wU_4 (List.mem_of_getElem? (i := 19) rfl) rfl
theorem tw_740 : Jvm.Cond.fieldLink "DovetailRowModel" (105 : Nat) "DovetailRowModel" "thrown" "I" ∈ wU := wU_4 (List.mem_of_getElem? (i := 20) rfl) rfl
theorem tw_741 : Jvm.Cond.fieldLink "DovetailRowModel" (140 : Nat) "DovetailRowModel" "month" "I" ∈ wU := wU_4 (List.mem_of_getElem? (i := 21) rfl) rfl
theorem tw_742 : Jvm.Cond.fieldLink "DovetailRowModel" (7 : Nat) "DovetailRowModel" "weather" "[I" ∈ wU := wU_4 (List.mem_of_getElem? (i := 22) rfl) rfl
theorem tw_743 : Jvm.Cond.fieldLink "DovetailRowModel" (13 : Nat) "DovetailRowModel" "sharp" "[I" ∈ wU := wU_4 (List.mem_of_getElem? (i := 23) rfl) rfl
theorem tw_744 : Jvm.Cond.fieldLink "DovetailRowModel" (16 : Nat) "DovetailRowModel" "clamps" "I" ∈ wU := wU_4 (List.mem_of_getElem? (i := 24) rfl) rfl
theorem tw_745 : Jvm.Cond.fieldLink "DovetailRowModel" (108 : Nat) "DovetailRowModel" "boardMany" "I" ∈ wU := wU_4 (List.mem_of_getElem? (i := 25) rfl) rfl
theorem tw_746 : Jvm.Cond.fieldLink "DovetailRowModel" (20 : Nat) "DovetailRowModel" "species" "[I" ∈ wU := wU_4 (List.mem_of_getElem? (i := 26) rfl) rfl
theorem tw_747 : Jvm.Cond.fieldLink "DovetailRowModel" (23 : Nat) "DovetailRowModel" "flitches" "[I" ∈ wU := wU_4 (List.mem_of_getElem? (i := 27) rfl) rfl
theorem tw_748 : Jvm.Cond.fieldLink "DovetailRowModel" (26 : Nat) "DovetailRowModel" "places" "[I" ∈ wU := wU_4 (List.mem_of_getElem? (i := 28) rfl) rfl
theorem tw_749 : Jvm.Cond.fieldLink "DovetailRowModel" (29 : Nat) "DovetailRowModel" "boardWidths" "[I" ∈ wU := wU_4 (List.mem_of_getElem? (i := 29) rfl) rfl
theorem tw_750 : Jvm.Cond.fieldLink "DovetailRowModel" (32 : Nat) "DovetailRowModel" "boardLengths" "[I" ∈ wU := wU_4 (List.mem_of_getElem? (i := 30) rfl) rfl
theorem tw_751 : Jvm.Cond.fieldLink "DovetailRowModel" (35 : Nat) "DovetailRowModel" "boardMeasured" "[I" ∈ wU := wU_4 (List.mem_of_getElem? (i := 31) rfl) rfl
theorem tw_752 : Jvm.Cond.fieldLink "DovetailRowModel" (38 : Nat) "DovetailRowModel" "boardMoist" "[I" ∈ wU := wU_4 (List.mem_of_getElem? (i := 32) rfl) rfl
theorem tw_753 : Jvm.Cond.fieldLink "DovetailRowModel" (41 : Nat) "DovetailRowModel" "knotMany" "[I" ∈ wU := wU_4 (List.mem_of_getElem? (i := 33) rfl) rfl
theorem tw_754 : Jvm.Cond.fieldLink "DovetailRowModel" (44 : Nat) "DovetailRowModel" "knotFrom" "[I" ∈ wU := wU_4 (List.mem_of_getElem? (i := 34) rfl) rfl
theorem tw_755 : Jvm.Cond.fieldLink "DovetailRowModel" (47 : Nat) "DovetailRowModel" "knotTo" "[I" ∈ wU := wU_4 (List.mem_of_getElem? (i := 35) rfl) rfl
theorem tw_756 : Jvm.Cond.fieldLink "DovetailRowModel" (115 : Nat) "DovetailRowModel" "partMany" "I" ∈ wU := wU_4 (List.mem_of_getElem? (i := 36) rfl) rfl
theorem tw_757 : Jvm.Cond.fieldLink "DovetailRowModel" (50 : Nat) "DovetailRowModel" "boards" "[I" ∈ wU := wU_4 (List.mem_of_getElem? (i := 37) rfl) rfl
theorem tw_758 : Jvm.Cond.fieldLink "DovetailRowModel" (53 : Nat) "DovetailRowModel" "froms" "[I" ∈ wU := wU_4 (List.mem_of_getElem? (i := 38) rfl) rfl
theorem tw_759 : Jvm.Cond.fieldLink "DovetailRowModel" (56 : Nat) "DovetailRowModel" "lengths" "[I" ∈ wU := wU_4 (List.mem_of_getElem? (i := 39) rfl) rfl
theorem tw_760 : Jvm.Cond.fieldLink "DovetailRowModel" (59 : Nat) "DovetailRowModel" "widths" "[I" ∈ wU := wU_4 (List.mem_of_getElem? (i := 40) rfl) rfl
theorem tw_761 : Jvm.Cond.fieldLink "DovetailRowModel" (62 : Nat) "DovetailRowModel" "measured" "[I" ∈ wU := wU_4 (List.mem_of_getElem? (i := 41) rfl) rfl
theorem tw_762 : Jvm.Cond.fieldLink "DovetailRowModel" (65 : Nat) "DovetailRowModel" "moist" "[I" ∈ wU := wU_4 (List.mem_of_getElem? (i := 42) rfl) rfl
theorem tw_763 : Jvm.Cond.fieldLink "DovetailRowModel" (68 : Nat) "DovetailRowModel" "coats" "[I" ∈ wU := wU_4 (List.mem_of_getElem? (i := 43) rfl) rfl
theorem tw_764 : Jvm.Cond.fieldLink "DovetailRowModel" (118 : Nat) "DovetailRowModel" "jointMany" "I" ∈ wU := wU_4 (List.mem_of_getElem? (i := 44) rfl) rfl
theorem tw_765 : Jvm.Cond.fieldLink "DovetailRowModel" (71 : Nat) "DovetailRowModel" "kinds" "[I" ∈ wU := wU_4 (List.mem_of_getElem? (i := 45) rfl) rfl
theorem tw_766 : Jvm.Cond.fieldLink "DovetailRowModel" (74 : Nat) "DovetailRowModel" "parts" "[I" ∈ wU := wU_4 (List.mem_of_getElem? (i := 46) rfl) rfl
theorem tw_767 : Jvm.Cond.fieldLink "DovetailRowModel" (77 : Nat) "DovetailRowModel" "others" "[I" ∈ wU := wU_4 (List.mem_of_getElem? (i := 47) rfl) rfl
theorem tw_768 : Jvm.Cond.fieldLink "DovetailRowModel" (80 : Nat) "DovetailRowModel" "sizes" "[I" ∈ wU := wU_4 (List.mem_of_getElem? (i := 48) rfl) rfl
theorem tw_769 : Jvm.Cond.fieldLink "DovetailRowModel" (83 : Nat) "DovetailRowModel" "tongues" "[I" ∈ wU := wU_4 (List.mem_of_getElem? (i := 49) rfl) rfl
theorem tw_770 : Jvm.Cond.fieldLink "DovetailRowModel" (86 : Nat) "DovetailRowModel" "needs" "[I" ∈ wU := wU_4 (List.mem_of_getElem? (i := 50) rfl) rfl
theorem tw_771 : Jvm.Cond.fieldLink "DovetailRowModel" (89 : Nat) "DovetailRowModel" "glued" "[Z" ∈ wU := wU_4 (List.mem_of_getElem? (i := 51) rfl) rfl
theorem tw_772 : Jvm.Cond.fieldLink "DovetailRowModel" (93 : Nat) "DovetailRowModel" "broken" "[Z" ∈ wU := wU_4 (List.mem_of_getElem? (i := 52) rfl) rfl
theorem tw_773 : Jvm.Cond.fieldLink "DovetailRowModel" (96 : Nat) "DovetailRowModel" "gluedMoist" "[I" ∈ wU := wU_4 (List.mem_of_getElem? (i := 53) rfl) rfl
theorem tw_774 : Jvm.Cond.fieldLink "DovetailRowModel" (99 : Nat) "DovetailRowModel" "ahead" "[I" ∈ wU := wU_4 (List.mem_of_getElem? (i := 54) rfl) rfl
theorem tw_775 : Jvm.Cond.fieldLink "DovetailRowModel" (102 : Nat) "DovetailRowModel" "breaks" "[I" ∈ wU := wU_4 (List.mem_of_getElem? (i := 55) rfl) rfl
theorem tw_776 : Jvm.Cond.lays "DovetailRowModel" "DovetailRowModel" "thrown" "I" ∈ wU := wU_4 (List.mem_of_getElem? (i := 56) rfl) rfl
theorem tw_777 : Jvm.Cond.soleField "DovetailRowModel" "thrown" ∈ wU := wU_4 (List.mem_of_getElem? (i := 57) rfl) rfl
theorem tw_778 : Jvm.Cond.lays "DovetailRowModel" "DovetailRowModel" "month" "I" ∈ wU := wU_4 (List.mem_of_getElem? (i := 58) rfl) rfl
theorem tw_779 : Jvm.Cond.soleField "DovetailRowModel" "month" ∈ wU := wU_4 (List.mem_of_getElem? (i := 59) rfl) rfl
theorem tw_780 : Jvm.Cond.laysFinal "DovetailRowModel" "DovetailRowModel" "weather" "[I" ∈ wU := wU_4 (List.mem_of_getElem? (i := 60) rfl) rfl
theorem tw_781 : Jvm.Cond.soleField "DovetailRowModel" "weather" ∈ wU := wU_4 (List.mem_of_getElem? (i := 61) rfl) rfl
theorem tw_782 : Jvm.Cond.laysFinal "DovetailRowModel" "DovetailRowModel" "sharp" "[I" ∈ wU := wU_4 (List.mem_of_getElem? (i := 62) rfl) rfl
theorem tw_783 : Jvm.Cond.soleField "DovetailRowModel" "sharp" ∈ wU := wU_4 (List.mem_of_getElem? (i := 63) rfl) rfl
theorem tw_784 : Jvm.Cond.lays "DovetailRowModel" "DovetailRowModel" "clamps" "I" ∈ wU := wU_4 (List.mem_of_getElem? (i := 64) rfl) rfl
theorem tw_785 : Jvm.Cond.soleField "DovetailRowModel" "clamps" ∈ wU := wU_4 (List.mem_of_getElem? (i := 65) rfl) rfl
theorem tw_786 : Jvm.Cond.lays "DovetailRowModel" "DovetailRowModel" "boardMany" "I" ∈ wU := wU_4 (List.mem_of_getElem? (i := 66) rfl) rfl
theorem tw_787 : Jvm.Cond.soleField "DovetailRowModel" "boardMany" ∈ wU := wU_4 (List.mem_of_getElem? (i := 67) rfl) rfl
theorem tw_788 : Jvm.Cond.laysFinal "DovetailRowModel" "DovetailRowModel" "species" "[I" ∈ wU := wU_4 (List.mem_of_getElem? (i := 68) rfl) rfl
theorem tw_789 : Jvm.Cond.soleField "DovetailRowModel" "species" ∈ wU := wU_4 (List.mem_of_getElem? (i := 69) rfl) rfl
theorem tw_790 : Jvm.Cond.laysFinal "DovetailRowModel" "DovetailRowModel" "flitches" "[I" ∈ wU := wU_4 (List.mem_of_getElem? (i := 70) rfl) rfl
theorem tw_791 : Jvm.Cond.soleField "DovetailRowModel" "flitches" ∈ wU := wU_4 (List.mem_of_getElem? (i := 71) rfl) rfl
theorem tw_792 : Jvm.Cond.laysFinal "DovetailRowModel" "DovetailRowModel" "places" "[I" ∈ wU := wU_4 (List.mem_of_getElem? (i := 72) rfl) rfl
theorem tw_793 : Jvm.Cond.soleField "DovetailRowModel" "places" ∈ wU := wU_4 (List.mem_of_getElem? (i := 73) rfl) rfl
theorem tw_794 : Jvm.Cond.laysFinal "DovetailRowModel" "DovetailRowModel" "boardWidths" "[I" ∈ wU := wU_4 (List.mem_of_getElem? (i := 74) rfl) rfl
theorem tw_795 : Jvm.Cond.soleField "DovetailRowModel" "boardWidths" ∈ wU := wU_4 (List.mem_of_getElem? (i := 75) rfl) rfl
theorem tw_796 : Jvm.Cond.laysFinal "DovetailRowModel" "DovetailRowModel" "boardLengths" "[I" ∈ wU := wU_4 (List.mem_of_getElem? (i := 76) rfl) rfl
theorem tw_797 : Jvm.Cond.soleField "DovetailRowModel" "boardLengths" ∈ wU := wU_4 (List.mem_of_getElem? (i := 77) rfl) rfl
theorem tw_798 : Jvm.Cond.laysFinal "DovetailRowModel" "DovetailRowModel" "boardMeasured" "[I" ∈ wU := wU_4 (List.mem_of_getElem? (i := 78) rfl) rfl
theorem tw_799 : Jvm.Cond.soleField "DovetailRowModel" "boardMeasured" ∈ wU := wU_4 (List.mem_of_getElem? (i := 79) rfl) rfl
theorem tw_800 : Jvm.Cond.laysFinal "DovetailRowModel" "DovetailRowModel" "boardMoist" "[I" ∈ wU := wU_4 (List.mem_of_getElem? (i := 80) rfl) rfl
theorem tw_801 : Jvm.Cond.soleField "DovetailRowModel" "boardMoist" ∈ wU := wU_4 (List.mem_of_getElem? (i := 81) rfl) rfl
theorem tw_802 : Jvm.Cond.laysFinal "DovetailRowModel" "DovetailRowModel" "knotMany" "[I" ∈ wU := wU_4 (List.mem_of_getElem? (i := 82) rfl) rfl
theorem tw_803 : Jvm.Cond.soleField "DovetailRowModel" "knotMany" ∈ wU := wU_4 (List.mem_of_getElem? (i := 83) rfl) rfl
theorem tw_804 : Jvm.Cond.laysFinal "DovetailRowModel" "DovetailRowModel" "knotFrom" "[I" ∈ wU := wU_4 (List.mem_of_getElem? (i := 84) rfl) rfl
theorem tw_805 : Jvm.Cond.soleField "DovetailRowModel" "knotFrom" ∈ wU := wU_4 (List.mem_of_getElem? (i := 85) rfl) rfl
theorem tw_806 : Jvm.Cond.laysFinal "DovetailRowModel" "DovetailRowModel" "knotTo" "[I" ∈ wU := wU_4 (List.mem_of_getElem? (i := 86) rfl) rfl
theorem tw_807 : Jvm.Cond.soleField "DovetailRowModel" "knotTo" ∈ wU := wU_4 (List.mem_of_getElem? (i := 87) rfl) rfl
theorem tw_808 : Jvm.Cond.lays "DovetailRowModel" "DovetailRowModel" "partMany" "I" ∈ wU := wU_4 (List.mem_of_getElem? (i := 88) rfl) rfl
theorem tw_809 : Jvm.Cond.soleField "DovetailRowModel" "partMany" ∈ wU := wU_4 (List.mem_of_getElem? (i := 89) rfl) rfl
theorem tw_810 : Jvm.Cond.laysFinal "DovetailRowModel" "DovetailRowModel" "boards" "[I" ∈ wU := wU_4 (List.mem_of_getElem? (i := 90) rfl) rfl
theorem tw_811 : Jvm.Cond.soleField "DovetailRowModel" "boards" ∈ wU := wU_4 (List.mem_of_getElem? (i := 91) rfl) rfl
theorem tw_812 : Jvm.Cond.laysFinal "DovetailRowModel" "DovetailRowModel" "froms" "[I" ∈ wU := wU_4 (List.mem_of_getElem? (i := 92) rfl) rfl
theorem tw_813 : Jvm.Cond.soleField "DovetailRowModel" "froms" ∈ wU := wU_4 (List.mem_of_getElem? (i := 93) rfl) rfl
theorem tw_814 : Jvm.Cond.laysFinal "DovetailRowModel" "DovetailRowModel" "lengths" "[I" ∈ wU := wU_4 (List.mem_of_getElem? (i := 94) rfl) rfl
theorem tw_815 : Jvm.Cond.soleField "DovetailRowModel" "lengths" ∈ wU := wU_4 (List.mem_of_getElem? (i := 95) rfl) rfl
theorem tw_816 : Jvm.Cond.laysFinal "DovetailRowModel" "DovetailRowModel" "widths" "[I" ∈ wU := wU_4 (List.mem_of_getElem? (i := 96) rfl) rfl
theorem tw_817 : Jvm.Cond.soleField "DovetailRowModel" "widths" ∈ wU := wU_4 (List.mem_of_getElem? (i := 97) rfl) rfl
theorem tw_818 : Jvm.Cond.laysFinal "DovetailRowModel" "DovetailRowModel" "measured" "[I" ∈ wU := wU_4 (List.mem_of_getElem? (i := 98) rfl) rfl
theorem tw_819 : Jvm.Cond.soleField "DovetailRowModel" "measured" ∈ wU := wU_4 (List.mem_of_getElem? (i := 99) rfl) rfl
theorem tw_820 : Jvm.Cond.laysFinal "DovetailRowModel" "DovetailRowModel" "moist" "[I" ∈ wU := wU_4 (List.mem_of_getElem? (i := 100) rfl) rfl
theorem tw_821 : Jvm.Cond.soleField "DovetailRowModel" "moist" ∈ wU := wU_4 (List.mem_of_getElem? (i := 101) rfl) rfl
theorem tw_822 : Jvm.Cond.laysFinal "DovetailRowModel" "DovetailRowModel" "coats" "[I" ∈ wU := wU_4 (List.mem_of_getElem? (i := 102) rfl) rfl
theorem tw_823 : Jvm.Cond.soleField "DovetailRowModel" "coats" ∈ wU := wU_4 (List.mem_of_getElem? (i := 103) rfl) rfl
theorem tw_824 : Jvm.Cond.lays "DovetailRowModel" "DovetailRowModel" "jointMany" "I" ∈ wU := wU_4 (List.mem_of_getElem? (i := 104) rfl) rfl
theorem tw_825 : Jvm.Cond.soleField "DovetailRowModel" "jointMany" ∈ wU := wU_4 (List.mem_of_getElem? (i := 105) rfl) rfl
theorem tw_826 : Jvm.Cond.laysFinal "DovetailRowModel" "DovetailRowModel" "kinds" "[I" ∈ wU := wU_4 (List.mem_of_getElem? (i := 106) rfl) rfl
theorem tw_827 : Jvm.Cond.soleField "DovetailRowModel" "kinds" ∈ wU := wU_4 (List.mem_of_getElem? (i := 107) rfl) rfl
theorem tw_828 : Jvm.Cond.laysFinal "DovetailRowModel" "DovetailRowModel" "parts" "[I" ∈ wU := wU_4 (List.mem_of_getElem? (i := 108) rfl) rfl
theorem tw_829 : Jvm.Cond.soleField "DovetailRowModel" "parts" ∈ wU := wU_4 (List.mem_of_getElem? (i := 109) rfl) rfl
theorem tw_830 : Jvm.Cond.laysFinal "DovetailRowModel" "DovetailRowModel" "others" "[I" ∈ wU := wU_4 (List.mem_of_getElem? (i := 110) rfl) rfl
theorem tw_831 : Jvm.Cond.soleField "DovetailRowModel" "others" ∈ wU := wU_4 (List.mem_of_getElem? (i := 111) rfl) rfl
theorem tw_832 : Jvm.Cond.laysFinal "DovetailRowModel" "DovetailRowModel" "sizes" "[I" ∈ wU := wU_4 (List.mem_of_getElem? (i := 112) rfl) rfl
theorem tw_833 : Jvm.Cond.soleField "DovetailRowModel" "sizes" ∈ wU := wU_4 (List.mem_of_getElem? (i := 113) rfl) rfl
theorem tw_834 : Jvm.Cond.laysFinal "DovetailRowModel" "DovetailRowModel" "tongues" "[I" ∈ wU := wU_4 (List.mem_of_getElem? (i := 114) rfl) rfl
theorem tw_835 : Jvm.Cond.soleField "DovetailRowModel" "tongues" ∈ wU := wU_4 (List.mem_of_getElem? (i := 115) rfl) rfl
theorem tw_836 : Jvm.Cond.laysFinal "DovetailRowModel" "DovetailRowModel" "needs" "[I" ∈ wU := wU_4 (List.mem_of_getElem? (i := 116) rfl) rfl
theorem tw_837 : Jvm.Cond.soleField "DovetailRowModel" "needs" ∈ wU := wU_4 (List.mem_of_getElem? (i := 117) rfl) rfl
theorem tw_838 : Jvm.Cond.laysFinal "DovetailRowModel" "DovetailRowModel" "glued" "[Z" ∈ wU := wU_4 (List.mem_of_getElem? (i := 118) rfl) rfl
theorem tw_839 : Jvm.Cond.soleField "DovetailRowModel" "glued" ∈ wU := wU_4 (List.mem_of_getElem? (i := 119) rfl) rfl
theorem tw_840 : Jvm.Cond.laysFinal "DovetailRowModel" "DovetailRowModel" "broken" "[Z" ∈ wU := wU_4 (List.mem_of_getElem? (i := 120) rfl) rfl
theorem tw_841 : Jvm.Cond.soleField "DovetailRowModel" "broken" ∈ wU := wU_4 (List.mem_of_getElem? (i := 121) rfl) rfl
theorem tw_842 : Jvm.Cond.laysFinal "DovetailRowModel" "DovetailRowModel" "gluedMoist" "[I" ∈ wU := wU_4 (List.mem_of_getElem? (i := 122) rfl) rfl
theorem tw_843 : Jvm.Cond.soleField "DovetailRowModel" "gluedMoist" ∈ wU := wU_4 (List.mem_of_getElem? (i := 123) rfl) rfl
theorem tw_844 : Jvm.Cond.laysFinal "DovetailRowModel" "DovetailRowModel" "ahead" "[I" ∈ wU := wU_4 (List.mem_of_getElem? (i := 124) rfl) rfl
theorem tw_845 : Jvm.Cond.soleField "DovetailRowModel" "ahead" ∈ wU := wU_4 (List.mem_of_getElem? (i := 125) rfl) rfl
theorem tw_846 : Jvm.Cond.laysFinal "DovetailRowModel" "DovetailRowModel" "breaks" "[I" ∈ wU := wU_4 (List.mem_of_getElem? (i := 126) rfl) rfl
theorem tw_847 : Jvm.Cond.soleField "DovetailRowModel" "breaks" ∈ wU := wU_4 (List.mem_of_getElem? (i := 127) rfl) rfl
theorem tw_848 : Jvm.Cond.superclass "DovetailRowModel" "java/lang/Object" ∈ lw_tbl := wT_4 (List.mem_of_getElem? (i := 128) rfl)
theorem tw_849 : Jvm.Cond.arrayClass Jvm.ClassFile.FieldType.boolean ∈ wU := wU_4 (List.mem_of_getElem? (i := 129) rfl) rfl
theorem tw_850 : Jvm.Cond.methodLink "DovetailRowLaw" (88 : Nat) ({ cls := "DovetailRowModel", name := "thrown", desc := "()I" } : Jvm.MethodName) ∈ wU := wU_4 (List.mem_of_getElem? (i := 130) rfl) rfl
theorem tw_851 : Jvm.Cond.instanceMethod ({ cls := "DovetailRowModel", name := "thrown", desc := "()I" } : Jvm.MethodName) ∈ wU := wU_4 (List.mem_of_getElem? (i := 131) rfl) rfl
theorem tw_852 : Jvm.Cond.selects "DovetailRowModel" ({ cls := "DovetailRowModel", name := "thrown", desc := "()I" } : Jvm.MethodName) ({ cls := "DovetailRowModel", name := "thrown", desc := "()I" } : Jvm.MethodName) ∈ wU := wU_4 (List.mem_of_getElem? (i := 132) rfl) rfl
theorem tw_853 : Jvm.Cond.code ({ cls := "DovetailRowModel", name := "thrown", desc := "()I" } : Jvm.MethodName) prog_8_method_2_code (1 : Nat) (Option.some Jvm.ClassFile.FieldType.int) ∈ wU := wU_4 (List.mem_of_getElem? (i := 133) rfl) rfl
theorem tw_854 : Jvm.Cond.methodLink "DovetailRowLaw" (87 : Nat) ({ cls := "DovetailRowModel", name := "weather", desc := "(II)I" } : Jvm.MethodName) ∈ wU := wU_4 (List.mem_of_getElem? (i := 134) rfl) rfl
theorem tw_855 : Jvm.Cond.instanceMethod ({ cls := "DovetailRowModel", name := "weather", desc := "(II)I" } : Jvm.MethodName) ∈ wU := wU_4 (List.mem_of_getElem? (i := 135) rfl) rfl
theorem tw_856 : Jvm.Cond.selects "DovetailRowModel" ({ cls := "DovetailRowModel", name := "weather", desc := "(II)I" } : Jvm.MethodName) ({ cls := "DovetailRowModel", name := "weather", desc := "(II)I" } : Jvm.MethodName) ∈ wU := wU_4 (List.mem_of_getElem? (i := 136) rfl) rfl
theorem tw_857 : Jvm.Cond.code ({ cls := "DovetailRowModel", name := "weather", desc := "(II)I" } : Jvm.MethodName) prog_8_method_10_code (4 : Nat) (Option.some Jvm.ClassFile.FieldType.int) ∈ wU := wU_4 (List.mem_of_getElem? (i := 137) rfl) rfl
theorem tw_858 : Jvm.Cond.methodLink "DovetailRowModel" (111 : Nat) ({ cls := "DovetailRowModel", name := "between", desc := "(III)Z" } : Jvm.MethodName) ∈ wU := wU_4 (List.mem_of_getElem? (i := 138) rfl) rfl
theorem tw_859 : Jvm.Cond.privateMethod ({ cls := "DovetailRowModel", name := "between", desc := "(III)Z" } : Jvm.MethodName) ∈ lw_tbl := wT_4 (List.mem_of_getElem? (i := 139) rfl)
theorem tw_860 : Jvm.Cond.instanceMethod ({ cls := "DovetailRowModel", name := "between", desc := "(III)Z" } : Jvm.MethodName) ∈ wU := wU_4 (List.mem_of_getElem? (i := 140) rfl) rfl
theorem tw_861 : Jvm.Cond.code ({ cls := "DovetailRowModel", name := "between", desc := "(III)Z" } : Jvm.MethodName) prog_8_method_3_code (4 : Nat) (Option.some Jvm.ClassFile.FieldType.boolean) ∈ wU := wU_4 (List.mem_of_getElem? (i := 141) rfl) rfl
theorem tw_862 : Jvm.Cond.methodLink "DovetailRowModel" (121 : Nat) ({ cls := "DovetailRowModel", name := "isMoisture", desc := "(I)Z" } : Jvm.MethodName) ∈ wU := wU_4 (List.mem_of_getElem? (i := 142) rfl) rfl
theorem tw_863 : Jvm.Cond.privateMethod ({ cls := "DovetailRowModel", name := "isMoisture", desc := "(I)Z" } : Jvm.MethodName) ∈ lw_tbl := wT_4 (List.mem_of_getElem? (i := 143) rfl)
theorem tw_864 : Jvm.Cond.instanceMethod ({ cls := "DovetailRowModel", name := "isMoisture", desc := "(I)Z" } : Jvm.MethodName) ∈ wU := wU_4 (List.mem_of_getElem? (i := 144) rfl) rfl
theorem tw_865 : Jvm.Cond.code ({ cls := "DovetailRowModel", name := "isMoisture", desc := "(I)Z" } : Jvm.MethodName) prog_8_method_7_code (2 : Nat) (Option.some Jvm.ClassFile.FieldType.boolean) ∈ wU := wU_4 (List.mem_of_getElem? (i := 145) rfl) rfl
theorem tw_866 : Jvm.Cond.methodLink "DovetailRowLaw" (95 : Nat) ({ cls := "DovetailRowModel", name := "pass", desc := "(I)I" } : Jvm.MethodName) ∈ wU := wU_4 (List.mem_of_getElem? (i := 146) rfl) rfl
theorem tw_867 : Jvm.Cond.instanceMethod ({ cls := "DovetailRowModel", name := "pass", desc := "(I)I" } : Jvm.MethodName) ∈ wU := wU_4 (List.mem_of_getElem? (i := 147) rfl) rfl
theorem tw_868 : Jvm.Cond.selects "DovetailRowModel" ({ cls := "DovetailRowModel", name := "pass", desc := "(I)I" } : Jvm.MethodName) ({ cls := "DovetailRowModel", name := "pass", desc := "(I)I" } : Jvm.MethodName) ∈ wU := wU_4 (List.mem_of_getElem? (i := 148) rfl) rfl
theorem tw_869 : Jvm.Cond.code ({ cls := "DovetailRowModel", name := "pass", desc := "(I)I" } : Jvm.MethodName) prog_8_method_16_code (5 : Nat) (Option.some Jvm.ClassFile.FieldType.int) ∈ wU := wU_4 (List.mem_of_getElem? (i := 149) rfl) rfl
theorem tw_870 : Jvm.Cond.methodLink "DovetailRowModel" (143 : Nat) ({ cls := "DovetailRowModel", name := "behind", desc := "(III)I" } : Jvm.MethodName) ∈ wU := wU_4 (List.mem_of_getElem? (i := 150) rfl) rfl
theorem tw_871 : Jvm.Cond.privateMethod ({ cls := "DovetailRowModel", name := "behind", desc := "(III)I" } : Jvm.MethodName) ∈ lw_tbl := wT_4 (List.mem_of_getElem? (i := 151) rfl)
theorem tw_872 : Jvm.Cond.instanceMethod ({ cls := "DovetailRowModel", name := "behind", desc := "(III)I" } : Jvm.MethodName) ∈ wU := wU_4 (List.mem_of_getElem? (i := 152) rfl) rfl
theorem tw_873 : Jvm.Cond.code ({ cls := "DovetailRowModel", name := "behind", desc := "(III)I" } : Jvm.MethodName) prog_8_method_11_code (6 : Nat) (Option.some Jvm.ClassFile.FieldType.int) ∈ wU := wU_4 (List.mem_of_getElem? (i := 153) rfl) rfl
theorem tw_874 : Jvm.Cond.methodLink "DovetailRowModel" (146 : Nat) ({ cls := "DovetailRowModel", name := "wouldBreak", desc := "(II)Z" } : Jvm.MethodName) ∈ wU := wU_4 (List.mem_of_getElem? (i := 154) rfl) rfl
theorem tw_875 : Jvm.Cond.privateMethod ({ cls := "DovetailRowModel", name := "wouldBreak", desc := "(II)Z" } : Jvm.MethodName) ∈ lw_tbl := wT_4 (List.mem_of_getElem? (i := 155) rfl)
theorem tw_876 : Jvm.Cond.instanceMethod ({ cls := "DovetailRowModel", name := "wouldBreak", desc := "(II)Z" } : Jvm.MethodName) ∈ wU := wU_4 (List.mem_of_getElem? (i := 156) rfl) rfl
theorem tw_877 : Jvm.Cond.code ({ cls := "DovetailRowModel", name := "wouldBreak", desc := "(II)Z" } : Jvm.MethodName) prog_8_method_15_code (5 : Nat) (Option.some Jvm.ClassFile.FieldType.boolean) ∈ wU := wU_4 (List.mem_of_getElem? (i := 157) rfl) rfl
theorem tw_878 : Jvm.Cond.methodLink "DovetailRowModel" (129 : Nat) ({ cls := "DovetailRowModel", name := "speciesOf", desc := "(I)I" } : Jvm.MethodName) ∈ wU := wU_4 (List.mem_of_getElem? (i := 158) rfl) rfl
theorem tw_879 : Jvm.Cond.privateMethod ({ cls := "DovetailRowModel", name := "speciesOf", desc := "(I)I" } : Jvm.MethodName) ∈ lw_tbl := wT_4 (List.mem_of_getElem? (i := 159) rfl)
theorem tw_880 : Jvm.Cond.instanceMethod ({ cls := "DovetailRowModel", name := "speciesOf", desc := "(I)I" } : Jvm.MethodName) ∈ wU := wU_4 (List.mem_of_getElem? (i := 160) rfl) rfl
theorem tw_881 : Jvm.Cond.code ({ cls := "DovetailRowModel", name := "speciesOf", desc := "(I)I" } : Jvm.MethodName) prog_8_method_13_code (2 : Nat) (Option.some Jvm.ClassFile.FieldType.int) ∈ wU := wU_4 (List.mem_of_getElem? (i := 161) rfl) rfl
theorem tw_882 : Jvm.Cond.methodLink "DovetailRowModel" (132 : Nat) ({ cls := "DovetailRowModel", name := "moved", desc := "(III)I" } : Jvm.MethodName) ∈ wU := wU_4 (List.mem_of_getElem? (i := 162) rfl) rfl
theorem tw_883 : Jvm.Cond.privateMethod ({ cls := "DovetailRowModel", name := "moved", desc := "(III)I" } : Jvm.MethodName) ∈ lw_tbl := wT_4 (List.mem_of_getElem? (i := 163) rfl)
theorem tw_884 : Jvm.Cond.instanceMethod ({ cls := "DovetailRowModel", name := "moved", desc := "(III)I" } : Jvm.MethodName) ∈ wU := wU_4 (List.mem_of_getElem? (i := 164) rfl) rfl
theorem tw_885 : Jvm.Cond.code ({ cls := "DovetailRowModel", name := "moved", desc := "(III)I" } : Jvm.MethodName) prog_8_method_12_code (4 : Nat) (Option.some Jvm.ClassFile.FieldType.int) ∈ wU := wU_4 (List.mem_of_getElem? (i := 165) rfl) rfl
theorem tw_886 : Jvm.Cond.methodLink "DovetailRowModel" (125 : Nat) ({ cls := "DovetailRowModel", name := "moves", desc := "(I)I" } : Jvm.MethodName) ∈ wU := wU_4 (List.mem_of_getElem? (i := 166) rfl) rfl
theorem tw_887 : Jvm.Cond.privateMethod ({ cls := "DovetailRowModel", name := "moves", desc := "(I)I" } : Jvm.MethodName) ∈ lw_tbl := wT_4 (List.mem_of_getElem? (i := 167) rfl)
theorem tw_888 : Jvm.Cond.instanceMethod ({ cls := "DovetailRowModel", name := "moves", desc := "(I)I" } : Jvm.MethodName) ∈ wU := wU_4 (List.mem_of_getElem? (i := 168) rfl) rfl
theorem tw_889 : Jvm.Cond.code ({ cls := "DovetailRowModel", name := "moves", desc := "(I)I" } : Jvm.MethodName) prog_8_method_8_code (2 : Nat) (Option.some Jvm.ClassFile.FieldType.int) ∈ wU := wU_4 (List.mem_of_getElem? (i := 169) rfl) rfl
theorem tw_890 : Jvm.Cond.methodLink "DovetailRowModel" (136 : Nat) ({ cls := "DovetailRowModel", name := "widthAt", desc := "(II)I" } : Jvm.MethodName) ∈ wU := wU_4 (List.mem_of_getElem? (i := 170) rfl) rfl
theorem tw_891 : Jvm.Cond.privateMethod ({ cls := "DovetailRowModel", name := "widthAt", desc := "(II)I" } : Jvm.MethodName) ∈ lw_tbl := wT_4 (List.mem_of_getElem? (i := 171) rfl)
theorem tw_892 : Jvm.Cond.instanceMethod ({ cls := "DovetailRowModel", name := "widthAt", desc := "(II)I" } : Jvm.MethodName) ∈ wU := wU_4 (List.mem_of_getElem? (i := 172) rfl) rfl
theorem tw_893 : Jvm.Cond.code ({ cls := "DovetailRowModel", name := "widthAt", desc := "(II)I" } : Jvm.MethodName) prog_8_method_14_code (3 : Nat) (Option.some Jvm.ClassFile.FieldType.int) ∈ wU := wU_4 (List.mem_of_getElem? (i := 173) rfl) rfl
theorem tw_894 : Jvm.Cond.methodLink "DovetailRowLaw" (99 : Nat) ({ cls := "DovetailRowModel", name := "board", desc := "(IIIIII)I" } : Jvm.MethodName) ∈ wU := wU_4 (List.mem_of_getElem? (i := 174) rfl) rfl
theorem tw_895 : Jvm.Cond.instanceMethod ({ cls := "DovetailRowModel", name := "board", desc := "(IIIIII)I" } : Jvm.MethodName) ∈ wU := wU_4 (List.mem_of_getElem? (i := 175) rfl) rfl
theorem tw_896 : Jvm.Cond.selects "DovetailRowModel" ({ cls := "DovetailRowModel", name := "board", desc := "(IIIIII)I" } : Jvm.MethodName) ({ cls := "DovetailRowModel", name := "board", desc := "(IIIIII)I" } : Jvm.MethodName) ∈ wU := wU_4 (List.mem_of_getElem? (i := 176) rfl) rfl
theorem tw_897 : Jvm.Cond.code ({ cls := "DovetailRowModel", name := "board", desc := "(IIIIII)I" } : Jvm.MethodName) prog_8_method_17_code (10 : Nat) (Option.some Jvm.ClassFile.FieldType.int) ∈ wU := wU_4 (List.mem_of_getElem? (i := 177) rfl) rfl
theorem tw_898 : Jvm.Cond.methodLink "DovetailRowLaw" (103 : Nat) ({ cls := "DovetailRowModel", name := "knot", desc := "(III)I" } : Jvm.MethodName) ∈ wU := wU_4 (List.mem_of_getElem? (i := 178) rfl) rfl
theorem tw_899 : Jvm.Cond.instanceMethod ({ cls := "DovetailRowModel", name := "knot", desc := "(III)I" } : Jvm.MethodName) ∈ wU := wU_4 (List.mem_of_getElem? (i := 179) rfl) rfl
theorem tw_900 : Jvm.Cond.selects "DovetailRowModel" ({ cls := "DovetailRowModel", name := "knot", desc := "(III)I" } : Jvm.MethodName) ({ cls := "DovetailRowModel", name := "knot", desc := "(III)I" } : Jvm.MethodName) ∈ wU := wU_4 (List.mem_of_getElem? (i := 180) rfl) rfl
theorem tw_901 : Jvm.Cond.code ({ cls := "DovetailRowModel", name := "knot", desc := "(III)I" } : Jvm.MethodName) prog_8_method_21_code (5 : Nat) (Option.some Jvm.ClassFile.FieldType.int) ∈ wU := wU_4 (List.mem_of_getElem? (i := 181) rfl) rfl
theorem tw_902 : Jvm.Cond.methodLink "DovetailRowModel" (150 : Nat) ({ cls := "DovetailRowModel", name := "isBoard", desc := "(I)Z" } : Jvm.MethodName) ∈ wU := wU_4 (List.mem_of_getElem? (i := 182) rfl) rfl
theorem tw_903 : Jvm.Cond.privateMethod ({ cls := "DovetailRowModel", name := "isBoard", desc := "(I)Z" } : Jvm.MethodName) ∈ lw_tbl := wT_4 (List.mem_of_getElem? (i := 183) rfl)
theorem tw_904 : Jvm.Cond.instanceMethod ({ cls := "DovetailRowModel", name := "isBoard", desc := "(I)Z" } : Jvm.MethodName) ∈ wU := wU_4 (List.mem_of_getElem? (i := 184) rfl) rfl
theorem tw_905 : Jvm.Cond.code ({ cls := "DovetailRowModel", name := "isBoard", desc := "(I)Z" } : Jvm.MethodName) prog_8_method_4_code (2 : Nat) (Option.some Jvm.ClassFile.FieldType.boolean) ∈ wU := wU_4 (List.mem_of_getElem? (i := 185) rfl) rfl
theorem tw_906 : Jvm.Cond.methodLink "DovetailRowModel" (153 : Nat) ({ cls := "DovetailRowModel", name := "isTaken", desc := "(III)Z" } : Jvm.MethodName) ∈ wU := wU_4 (List.mem_of_getElem? (i := 186) rfl) rfl
theorem tw_907 : Jvm.Cond.privateMethod ({ cls := "DovetailRowModel", name := "isTaken", desc := "(III)Z" } : Jvm.MethodName) ∈ lw_tbl := wT_4 (List.mem_of_getElem? (i := 187) rfl)
theorem tw_908 : Jvm.Cond.instanceMethod ({ cls := "DovetailRowModel", name := "isTaken", desc := "(III)Z" } : Jvm.MethodName) ∈ wU := wU_4 (List.mem_of_getElem? (i := 188) rfl) rfl
theorem tw_909 : Jvm.Cond.code ({ cls := "DovetailRowModel", name := "isTaken", desc := "(III)Z" } : Jvm.MethodName) prog_8_method_19_code (6 : Nat) (Option.some Jvm.ClassFile.FieldType.boolean) ∈ wU := wU_4 (List.mem_of_getElem? (i := 189) rfl) rfl
theorem tw_910 : Jvm.Cond.methodLink "DovetailRowLaw" (107 : Nat) ({ cls := "DovetailRowModel", name := "cut", desc := "(IIIIZ)I" } : Jvm.MethodName) ∈ wU := wU_4 (List.mem_of_getElem? (i := 190) rfl) rfl
theorem tw_911 : Jvm.Cond.instanceMethod ({ cls := "DovetailRowModel", name := "cut", desc := "(IIIIZ)I" } : Jvm.MethodName) ∈ wU := wU_4 (List.mem_of_getElem? (i := 191) rfl) rfl
theorem tw_912 : Jvm.Cond.selects "DovetailRowModel" ({ cls := "DovetailRowModel", name := "cut", desc := "(IIIIZ)I" } : Jvm.MethodName) ({ cls := "DovetailRowModel", name := "cut", desc := "(IIIIZ)I" } : Jvm.MethodName) ∈ wU := wU_4 (List.mem_of_getElem? (i := 192) rfl) rfl
theorem tw_913 : Jvm.Cond.code ({ cls := "DovetailRowModel", name := "cut", desc := "(IIIIZ)I" } : Jvm.MethodName) prog_8_method_22_code (8 : Nat) (Option.some Jvm.ClassFile.FieldType.int) ∈ wU := wU_4 (List.mem_of_getElem? (i := 193) rfl) rfl
theorem tw_914 : Jvm.Cond.methodLink "DovetailRowModel" (156 : Nat) ({ cls := "DovetailRowModel", name := "boardWidth", desc := "(I)I" } : Jvm.MethodName) ∈ wU := wU_4 (List.mem_of_getElem? (i := 194) rfl) rfl
theorem tw_915 : Jvm.Cond.privateMethod ({ cls := "DovetailRowModel", name := "boardWidth", desc := "(I)I" } : Jvm.MethodName) ∈ lw_tbl := wT_4 (List.mem_of_getElem? (i := 195) rfl)
theorem tw_916 : Jvm.Cond.instanceMethod ({ cls := "DovetailRowModel", name := "boardWidth", desc := "(I)I" } : Jvm.MethodName) ∈ wU := wU_4 (List.mem_of_getElem? (i := 196) rfl) rfl
theorem tw_917 : Jvm.Cond.code ({ cls := "DovetailRowModel", name := "boardWidth", desc := "(I)I" } : Jvm.MethodName) prog_8_method_18_code (2 : Nat) (Option.some Jvm.ClassFile.FieldType.int) ∈ wU := wU_4 (List.mem_of_getElem? (i := 197) rfl) rfl
theorem tw_918 : Jvm.Cond.methodLink "DovetailRowModel" (159 : Nat) ({ cls := "DovetailRowModel", name := "hasKnot", desc := "(III)Z" } : Jvm.MethodName) ∈ wU := wU_4 (List.mem_of_getElem? (i := 198) rfl) rfl
theorem tw_919 : Jvm.Cond.privateMethod ({ cls := "DovetailRowModel", name := "hasKnot", desc := "(III)Z" } : Jvm.MethodName) ∈ lw_tbl := wT_4 (List.mem_of_getElem? (i := 199) rfl)
theorem tw_920 : Jvm.Cond.instanceMethod ({ cls := "DovetailRowModel", name := "hasKnot", desc := "(III)Z" } : Jvm.MethodName) ∈ wU := wU_4 (List.mem_of_getElem? (i := 200) rfl) rfl
theorem tw_921 : Jvm.Cond.code ({ cls := "DovetailRowModel", name := "hasKnot", desc := "(III)Z" } : Jvm.MethodName) prog_8_method_20_code (6 : Nat) (Option.some Jvm.ClassFile.FieldType.boolean) ∈ wU := wU_4 (List.mem_of_getElem? (i := 201) rfl) rfl
theorem tw_922 : Jvm.Cond.methodLink "DovetailRowModel" (162 : Nat) ({ cls := "DovetailRowModel", name := "hardness", desc := "(I)I" } : Jvm.MethodName) ∈ wU := wU_4 (List.mem_of_getElem? (i := 202) rfl) rfl
theorem tw_923 : Jvm.Cond.privateMethod ({ cls := "DovetailRowModel", name := "hardness", desc := "(I)I" } : Jvm.MethodName) ∈ lw_tbl := wT_4 (List.mem_of_getElem? (i := 203) rfl)
theorem tw_924 : Jvm.Cond.instanceMethod ({ cls := "DovetailRowModel", name := "hardness", desc := "(I)I" } : Jvm.MethodName) ∈ wU := wU_4 (List.mem_of_getElem? (i := 204) rfl) rfl
theorem tw_925 : Jvm.Cond.code ({ cls := "DovetailRowModel", name := "hardness", desc := "(I)I" } : Jvm.MethodName) prog_8_method_9_code (2 : Nat) (Option.some Jvm.ClassFile.FieldType.int) ∈ wU := wU_4 (List.mem_of_getElem? (i := 205) rfl) rfl
theorem tw_926 : Jvm.Cond.methodLink "DovetailRowLaw" (110 : Nat) ({ cls := "DovetailRowModel", name := "sharpen", desc := "(I)I" } : Jvm.MethodName) ∈ wU := wU_4 (List.mem_of_getElem? (i := 206) rfl) rfl
theorem tw_927 : Jvm.Cond.instanceMethod ({ cls := "DovetailRowModel", name := "sharpen", desc := "(I)I" } : Jvm.MethodName) ∈ wU := wU_4 (List.mem_of_getElem? (i := 207) rfl) rfl
theorem tw_928 : Jvm.Cond.selects "DovetailRowModel" ({ cls := "DovetailRowModel", name := "sharpen", desc := "(I)I" } : Jvm.MethodName) ({ cls := "DovetailRowModel", name := "sharpen", desc := "(I)I" } : Jvm.MethodName) ∈ wU := wU_4 (List.mem_of_getElem? (i := 208) rfl) rfl
theorem tw_929 : Jvm.Cond.code ({ cls := "DovetailRowModel", name := "sharpen", desc := "(I)I" } : Jvm.MethodName) prog_8_method_23_code (3 : Nat) (Option.some Jvm.ClassFile.FieldType.int) ∈ wU := wU_4 (List.mem_of_getElem? (i := 209) rfl) rfl
theorem tw_930 : Jvm.Cond.methodLink "DovetailRowLaw" (113 : Nat) ({ cls := "DovetailRowModel", name := "clearFrom", desc := "(II)I" } : Jvm.MethodName) ∈ wU := wU_4 (List.mem_of_getElem? (i := 210) rfl) rfl
theorem tw_931 : Jvm.Cond.instanceMethod ({ cls := "DovetailRowModel", name := "clearFrom", desc := "(II)I" } : Jvm.MethodName) ∈ wU := wU_4 (List.mem_of_getElem? (i := 211) rfl) rfl
theorem tw_932 : Jvm.Cond.selects "DovetailRowModel" ({ cls := "DovetailRowModel", name := "clearFrom", desc := "(II)I" } : Jvm.MethodName) ({ cls := "DovetailRowModel", name := "clearFrom", desc := "(II)I" } : Jvm.MethodName) ∈ wU := wU_4 (List.mem_of_getElem? (i := 212) rfl) rfl
theorem tw_933 : Jvm.Cond.code ({ cls := "DovetailRowModel", name := "clearFrom", desc := "(II)I" } : Jvm.MethodName) prog_8_method_24_code (4 : Nat) (Option.some Jvm.ClassFile.FieldType.int) ∈ wU := wU_4 (List.mem_of_getElem? (i := 213) rfl) rfl
theorem tw_934 : Jvm.Cond.methodLink "DovetailRowLaw" (116 : Nat) ({ cls := "DovetailRowModel", name := "coat", desc := "(I)I" } : Jvm.MethodName) ∈ wU := wU_4 (List.mem_of_getElem? (i := 214) rfl) rfl
theorem tw_935 : Jvm.Cond.instanceMethod ({ cls := "DovetailRowModel", name := "coat", desc := "(I)I" } : Jvm.MethodName) ∈ wU := wU_4 (List.mem_of_getElem? (i := 215) rfl) rfl
theorem tw_936 : Jvm.Cond.selects "DovetailRowModel" ({ cls := "DovetailRowModel", name := "coat", desc := "(I)I" } : Jvm.MethodName) ({ cls := "DovetailRowModel", name := "coat", desc := "(I)I" } : Jvm.MethodName) ∈ wU := wU_4 (List.mem_of_getElem? (i := 216) rfl) rfl
theorem tw_937 : Jvm.Cond.code ({ cls := "DovetailRowModel", name := "coat", desc := "(I)I" } : Jvm.MethodName) prog_8_method_25_code (2 : Nat) (Option.some Jvm.ClassFile.FieldType.int) ∈ wU := wU_4 (List.mem_of_getElem? (i := 217) rfl) rfl
theorem tw_938 : Jvm.Cond.methodLink "DovetailRowModel" (165 : Nat) ({ cls := "DovetailRowModel", name := "isPart", desc := "(I)Z" } : Jvm.MethodName) ∈ wU := wU_4 (List.mem_of_getElem? (i := 218) rfl) rfl
theorem tw_939 : Jvm.Cond.privateMethod ({ cls := "DovetailRowModel", name := "isPart", desc := "(I)Z" } : Jvm.MethodName) ∈ lw_tbl := wT_4 (List.mem_of_getElem? (i := 219) rfl)
theorem tw_940 : Jvm.Cond.instanceMethod ({ cls := "DovetailRowModel", name := "isPart", desc := "(I)Z" } : Jvm.MethodName) ∈ wU := wU_4 (List.mem_of_getElem? (i := 220) rfl) rfl
theorem tw_941 : Jvm.Cond.code ({ cls := "DovetailRowModel", name := "isPart", desc := "(I)Z" } : Jvm.MethodName) prog_8_method_5_code (2 : Nat) (Option.some Jvm.ClassFile.FieldType.boolean) ∈ wU := wU_4 (List.mem_of_getElem? (i := 221) rfl) rfl
theorem tw_942 : Jvm.Cond.methodLink "DovetailRowLaw" (119 : Nat) ({ cls := "DovetailRowModel", name := "match", desc := "(II)I" } : Jvm.MethodName) ∈ wU := wU_4 (List.mem_of_getElem? (i := 222) rfl) rfl
theorem tw_943 : Jvm.Cond.instanceMethod ({ cls := "DovetailRowModel", name := "match", desc := "(II)I" } : Jvm.MethodName) ∈ wU := wU_4 (List.mem_of_getElem? (i := 223) rfl) rfl
theorem tw_944 : Jvm.Cond.selects "DovetailRowModel" ({ cls := "DovetailRowModel", name := "match", desc := "(II)I" } : Jvm.MethodName) ({ cls := "DovetailRowModel", name := "match", desc := "(II)I" } : Jvm.MethodName) ∈ wU := wU_4 (List.mem_of_getElem? (i := 224) rfl) rfl
theorem tw_945 : Jvm.Cond.code ({ cls := "DovetailRowModel", name := "match", desc := "(II)I" } : Jvm.MethodName) prog_8_method_26_code (6 : Nat) (Option.some Jvm.ClassFile.FieldType.int) ∈ wU := wU_4 (List.mem_of_getElem? (i := 225) rfl) rfl
theorem tw_946 : Jvm.Cond.methodLink "DovetailRowLaw" (123 : Nat) ({ cls := "DovetailRowModel", name := "joint", desc := "(IIIII)I" } : Jvm.MethodName) ∈ wU := wU_4 (List.mem_of_getElem? (i := 226) rfl) rfl
theorem tw_947 : Jvm.Cond.instanceMethod ({ cls := "DovetailRowModel", name := "joint", desc := "(IIIII)I" } : Jvm.MethodName) ∈ wU := wU_4 (List.mem_of_getElem? (i := 227) rfl) rfl
theorem tw_948 : Jvm.Cond.selects "DovetailRowModel" ({ cls := "DovetailRowModel", name := "joint", desc := "(IIIII)I" } : Jvm.MethodName) ({ cls := "DovetailRowModel", name := "joint", desc := "(IIIII)I" } : Jvm.MethodName) ∈ wU := wU_4 (List.mem_of_getElem? (i := 228) rfl) rfl
theorem tw_949 : Jvm.Cond.code ({ cls := "DovetailRowModel", name := "joint", desc := "(IIIII)I" } : Jvm.MethodName) prog_8_method_28_code (8 : Nat) (Option.some Jvm.ClassFile.FieldType.int) ∈ wU := wU_4 (List.mem_of_getElem? (i := 229) rfl) rfl
theorem tw_950 : Jvm.Cond.methodLink "DovetailRowModel" (168 : Nat) ({ cls := "DovetailRowModel", name := "fits", desc := "(IIII)Z" } : Jvm.MethodName) ∈ wU := wU_4 (List.mem_of_getElem? (i := 230) rfl) rfl
theorem tw_951 : Jvm.Cond.privateMethod ({ cls := "DovetailRowModel", name := "fits", desc := "(IIII)Z" } : Jvm.MethodName) ∈ lw_tbl := wT_4 (List.mem_of_getElem? (i := 231) rfl)
theorem tw_952 : Jvm.Cond.instanceMethod ({ cls := "DovetailRowModel", name := "fits", desc := "(IIII)Z" } : Jvm.MethodName) ∈ wU := wU_4 (List.mem_of_getElem? (i := 232) rfl) rfl
theorem tw_953 : Jvm.Cond.code ({ cls := "DovetailRowModel", name := "fits", desc := "(IIII)Z" } : Jvm.MethodName) prog_8_method_27_code (6 : Nat) (Option.some Jvm.ClassFile.FieldType.boolean) ∈ wU := wU_4 (List.mem_of_getElem? (i := 233) rfl) rfl
theorem tw_954 : Jvm.Cond.methodLink "DovetailRowLaw" (126 : Nat) ({ cls := "DovetailRowModel", name := "need", desc := "(II)I" } : Jvm.MethodName) ∈ wU := wU_4 (List.mem_of_getElem? (i := 234) rfl) rfl
theorem tw_955 : Jvm.Cond.instanceMethod ({ cls := "DovetailRowModel", name := "need", desc := "(II)I" } : Jvm.MethodName) ∈ wU := wU_4 (List.mem_of_getElem? (i := 235) rfl) rfl
theorem tw_956 : Jvm.Cond.selects "DovetailRowModel" ({ cls := "DovetailRowModel", name := "need", desc := "(II)I" } : Jvm.MethodName) ({ cls := "DovetailRowModel", name := "need", desc := "(II)I" } : Jvm.MethodName) ∈ wU := wU_4 (List.mem_of_getElem? (i := 236) rfl) rfl
theorem tw_957 : Jvm.Cond.code ({ cls := "DovetailRowModel", name := "need", desc := "(II)I" } : Jvm.MethodName) prog_8_method_29_code (3 : Nat) (Option.some Jvm.ClassFile.FieldType.int) ∈ wU := wU_4 (List.mem_of_getElem? (i := 237) rfl) rfl
theorem tw_958 : Jvm.Cond.methodLink "DovetailRowModel" (172 : Nat) ({ cls := "DovetailRowModel", name := "isJoint", desc := "(I)Z" } : Jvm.MethodName) ∈ wU := wU_4 (List.mem_of_getElem? (i := 238) rfl) rfl
theorem tw_959 : Jvm.Cond.privateMethod ({ cls := "DovetailRowModel", name := "isJoint", desc := "(I)Z" } : Jvm.MethodName) ∈ lw_tbl := wT_4 (List.mem_of_getElem? (i := 239) rfl)
theorem tw_960 : Jvm.Cond.instanceMethod ({ cls := "DovetailRowModel", name := "isJoint", desc := "(I)Z" } : Jvm.MethodName) ∈ wU := wU_5 (List.mem_of_getElem? (i := 0) rfl) rfl
theorem tw_961 : Jvm.Cond.code ({ cls := "DovetailRowModel", name := "isJoint", desc := "(I)Z" } : Jvm.MethodName) prog_8_method_6_code (2 : Nat) (Option.some Jvm.ClassFile.FieldType.boolean) ∈ wU := wU_5 (List.mem_of_getElem? (i := 1) rfl) rfl
theorem tw_962 : Jvm.Cond.methodLink "DovetailRowLaw" (129 : Nat) ({ cls := "DovetailRowModel", name := "clamps", desc := "(I)I" } : Jvm.MethodName) ∈ wU := wU_5 (List.mem_of_getElem? (i := 2) rfl) rfl
theorem tw_963 : Jvm.Cond.instanceMethod ({ cls := "DovetailRowModel", name := "clamps", desc := "(I)I" } : Jvm.MethodName) ∈ wU := wU_5 (List.mem_of_getElem? (i := 3) rfl) rfl
theorem tw_964 : Jvm.Cond.selects "DovetailRowModel" ({ cls := "DovetailRowModel", name := "clamps", desc := "(I)I" } : Jvm.MethodName) ({ cls := "DovetailRowModel", name := "clamps", desc := "(I)I" } : Jvm.MethodName) ∈ wU := wU_5 (List.mem_of_getElem? (i := 4) rfl) rfl
theorem tw_965 : Jvm.Cond.code ({ cls := "DovetailRowModel", name := "clamps", desc := "(I)I" } : Jvm.MethodName) prog_8_method_30_code (3 : Nat) (Option.some Jvm.ClassFile.FieldType.int) ∈ wU := wU_5 (List.mem_of_getElem? (i := 5) rfl) rfl
theorem tw_966 : Jvm.Cond.methodLink "DovetailRowLaw" (132 : Nat) ({ cls := "DovetailRowModel", name := "glue", desc := "(I)I" } : Jvm.MethodName) ∈ wU := wU_5 (List.mem_of_getElem? (i := 6) rfl) rfl
theorem tw_967 : Jvm.Cond.instanceMethod ({ cls := "DovetailRowModel", name := "glue", desc := "(I)I" } : Jvm.MethodName) ∈ wU := wU_5 (List.mem_of_getElem? (i := 7) rfl) rfl
theorem tw_968 : Jvm.Cond.selects "DovetailRowModel" ({ cls := "DovetailRowModel", name := "glue", desc := "(I)I" } : Jvm.MethodName) ({ cls := "DovetailRowModel", name := "glue", desc := "(I)I" } : Jvm.MethodName) ∈ wU := wU_5 (List.mem_of_getElem? (i := 8) rfl) rfl
theorem tw_969 : Jvm.Cond.code ({ cls := "DovetailRowModel", name := "glue", desc := "(I)I" } : Jvm.MethodName) prog_8_method_31_code (7 : Nat) (Option.some Jvm.ClassFile.FieldType.int) ∈ wU := wU_5 (List.mem_of_getElem? (i := 9) rfl) rfl
theorem tw_970 : Jvm.Cond.methodLink "DovetailRowLaw" (135 : Nat) ({ cls := "DovetailRowModel", name := "repair", desc := "(I)I" } : Jvm.MethodName) ∈ wU := wU_5 (List.mem_of_getElem? (i := 10) rfl) rfl
theorem tw_971 : Jvm.Cond.instanceMethod ({ cls := "DovetailRowModel", name := "repair", desc := "(I)I" } : Jvm.MethodName) ∈ wU := wU_5 (List.mem_of_getElem? (i := 11) rfl) rfl
theorem tw_972 : Jvm.Cond.selects "DovetailRowModel" ({ cls := "DovetailRowModel", name := "repair", desc := "(I)I" } : Jvm.MethodName) ({ cls := "DovetailRowModel", name := "repair", desc := "(I)I" } : Jvm.MethodName) ∈ wU := wU_5 (List.mem_of_getElem? (i := 12) rfl) rfl
theorem tw_973 : Jvm.Cond.code ({ cls := "DovetailRowModel", name := "repair", desc := "(I)I" } : Jvm.MethodName) prog_8_method_32_code (3 : Nat) (Option.some Jvm.ClassFile.FieldType.int) ∈ wU := wU_5 (List.mem_of_getElem? (i := 13) rfl) rfl
theorem tw_974 : Jvm.Cond.methodLink "DovetailRowLaw" (138 : Nat) ({ cls := "DovetailRowModel", name := "through", desc := "(I)I" } : Jvm.MethodName) ∈ wU := wU_5 (List.mem_of_getElem? (i := 14) rfl) rfl
theorem tw_975 : Jvm.Cond.instanceMethod ({ cls := "DovetailRowModel", name := "through", desc := "(I)I" } : Jvm.MethodName) ∈ wU := wU_5 (List.mem_of_getElem? (i := 15) rfl) rfl
theorem tw_976 : Jvm.Cond.selects "DovetailRowModel" ({ cls := "DovetailRowModel", name := "through", desc := "(I)I" } : Jvm.MethodName) ({ cls := "DovetailRowModel", name := "through", desc := "(I)I" } : Jvm.MethodName) ∈ wU := wU_5 (List.mem_of_getElem? (i := 16) rfl) rfl
theorem tw_977 : Jvm.Cond.code ({ cls := "DovetailRowModel", name := "through", desc := "(I)I" } : Jvm.MethodName) prog_8_method_34_code (4 : Nat) (Option.some Jvm.ClassFile.FieldType.int) ∈ wU := wU_5 (List.mem_of_getElem? (i := 17) rfl) rfl
theorem tw_978 : Jvm.Cond.methodLink "DovetailRowModel" (175 : Nat) ({ cls := "DovetailRowModel", name := "lookAhead", desc := "(I)V" } : Jvm.MethodName) ∈ wU := wU_5 (List.mem_of_getElem? (i := 18) rfl) rfl
theorem tw_979 : Jvm.Cond.privateMethod ({ cls := "DovetailRowModel", name := "lookAhead", desc := "(I)V" } : Jvm.MethodName) ∈ lw_tbl := wT_5 (List.mem_of_getElem? (i := 19) rfl)
theorem tw_980 : Jvm.Cond.instanceMethod ({ cls := "DovetailRowModel", name := "lookAhead", desc := "(I)V" } : Jvm.MethodName) ∈ wU := wU_5 (List.mem_of_getElem? (i := 20) rfl) rfl
theorem tw_981 : Jvm.Cond.code ({ cls := "DovetailRowModel", name := "lookAhead", desc := "(I)V" } : Jvm.MethodName) prog_8_method_33_code (5 : Nat) (Option.none : Option Jvm.ClassFile.FieldType) ∈ wU := wU_5 (List.mem_of_getElem? (i := 21) rfl) rfl
theorem tw_982 : Jvm.Cond.methodLink "DovetailRowLaw" (141 : Nat) ({ cls := "DovetailRowModel", name := "breaksIn", desc := "(II)I" } : Jvm.MethodName) ∈ wU := wU_5 (List.mem_of_getElem? (i := 22) rfl) rfl
theorem tw_983 : Jvm.Cond.instanceMethod ({ cls := "DovetailRowModel", name := "breaksIn", desc := "(II)I" } : Jvm.MethodName) ∈ wU := wU_5 (List.mem_of_getElem? (i := 23) rfl) rfl
theorem tw_984 : Jvm.Cond.selects "DovetailRowModel" ({ cls := "DovetailRowModel", name := "breaksIn", desc := "(II)I" } : Jvm.MethodName) ({ cls := "DovetailRowModel", name := "breaksIn", desc := "(II)I" } : Jvm.MethodName) ∈ wU := wU_5 (List.mem_of_getElem? (i := 24) rfl) rfl
theorem tw_985 : Jvm.Cond.code ({ cls := "DovetailRowModel", name := "breaksIn", desc := "(II)I" } : Jvm.MethodName) prog_8_method_35_code (3 : Nat) (Option.some Jvm.ClassFile.FieldType.int) ∈ wU := wU_5 (List.mem_of_getElem? (i := 25) rfl) rfl
theorem tw_986 : Jvm.Cond.methodLink "DovetailRowLaw" (145 : Nat) ({ cls := "DovetailRowModel", name := "month", desc := "()I" } : Jvm.MethodName) ∈ wU := wU_5 (List.mem_of_getElem? (i := 26) rfl) rfl
theorem tw_987 : Jvm.Cond.instanceMethod ({ cls := "DovetailRowModel", name := "month", desc := "()I" } : Jvm.MethodName) ∈ wU := wU_5 (List.mem_of_getElem? (i := 27) rfl) rfl
theorem tw_988 : Jvm.Cond.selects "DovetailRowModel" ({ cls := "DovetailRowModel", name := "month", desc := "()I" } : Jvm.MethodName) ({ cls := "DovetailRowModel", name := "month", desc := "()I" } : Jvm.MethodName) ∈ wU := wU_5 (List.mem_of_getElem? (i := 28) rfl) rfl
theorem tw_989 : Jvm.Cond.code ({ cls := "DovetailRowModel", name := "month", desc := "()I" } : Jvm.MethodName) prog_8_method_36_code (1 : Nat) (Option.some Jvm.ClassFile.FieldType.int) ∈ wU := wU_5 (List.mem_of_getElem? (i := 29) rfl) rfl
theorem tw_990 : Jvm.Cond.methodLink "DovetailRowLaw" (148 : Nat) ({ cls := "DovetailRowModel", name := "ofBoard", desc := "(II)I" } : Jvm.MethodName) ∈ wU := wU_5 (List.mem_of_getElem? (i := 30) rfl) rfl
theorem tw_991 : Jvm.Cond.instanceMethod ({ cls := "DovetailRowModel", name := "ofBoard", desc := "(II)I" } : Jvm.MethodName) ∈ wU := wU_5 (List.mem_of_getElem? (i := 31) rfl) rfl
theorem tw_992 : Jvm.Cond.selects "DovetailRowModel" ({ cls := "DovetailRowModel", name := "ofBoard", desc := "(II)I" } : Jvm.MethodName) ({ cls := "DovetailRowModel", name := "ofBoard", desc := "(II)I" } : Jvm.MethodName) ∈ wU := wU_5 (List.mem_of_getElem? (i := 32) rfl) rfl
theorem tw_993 : Jvm.Cond.code ({ cls := "DovetailRowModel", name := "ofBoard", desc := "(II)I" } : Jvm.MethodName) prog_8_method_37_code (3 : Nat) (Option.some Jvm.ClassFile.FieldType.int) ∈ wU := wU_5 (List.mem_of_getElem? (i := 33) rfl) rfl
theorem tw_994 : Jvm.Cond.methodLink "DovetailRowLaw" (151 : Nat) ({ cls := "DovetailRowModel", name := "ofPart", desc := "(II)I" } : Jvm.MethodName) ∈ wU := wU_5 (List.mem_of_getElem? (i := 34) rfl) rfl
theorem tw_995 : Jvm.Cond.instanceMethod ({ cls := "DovetailRowModel", name := "ofPart", desc := "(II)I" } : Jvm.MethodName) ∈ wU := wU_5 (List.mem_of_getElem? (i := 35) rfl) rfl
theorem tw_996 : Jvm.Cond.selects "DovetailRowModel" ({ cls := "DovetailRowModel", name := "ofPart", desc := "(II)I" } : Jvm.MethodName) ({ cls := "DovetailRowModel", name := "ofPart", desc := "(II)I" } : Jvm.MethodName) ∈ wU := wU_5 (List.mem_of_getElem? (i := 36) rfl) rfl
theorem tw_997 : Jvm.Cond.code ({ cls := "DovetailRowModel", name := "ofPart", desc := "(II)I" } : Jvm.MethodName) prog_8_method_38_code (3 : Nat) (Option.some Jvm.ClassFile.FieldType.int) ∈ wU := wU_5 (List.mem_of_getElem? (i := 37) rfl) rfl
theorem tw_998 : Jvm.Cond.methodLink "DovetailRowLaw" (154 : Nat) ({ cls := "DovetailRowModel", name := "ofJoint", desc := "(II)I" } : Jvm.MethodName) ∈ wU := wU_5 (List.mem_of_getElem? (i := 38) rfl) rfl
theorem tw_999 : Jvm.Cond.instanceMethod ({ cls := "DovetailRowModel", name := "ofJoint", desc := "(II)I" } : Jvm.MethodName) ∈ wU := wU_5 (List.mem_of_getElem? (i := 39) rfl) rfl
theorem tw_1000 : Jvm.Cond.selects "DovetailRowModel" ({ cls := "DovetailRowModel", name := "ofJoint", desc := "(II)I" } : Jvm.MethodName) ({ cls := "DovetailRowModel", name := "ofJoint", desc := "(II)I" } : Jvm.MethodName) ∈ wU := wU_5 (List.mem_of_getElem? (i := 40) rfl) rfl
theorem tw_1001 : Jvm.Cond.code ({ cls := "DovetailRowModel", name := "ofJoint", desc := "(II)I" } : Jvm.MethodName) prog_8_method_40_code (3 : Nat) (Option.some Jvm.ClassFile.FieldType.int) ∈ wU := wU_5 (List.mem_of_getElem? (i := 41) rfl) rfl
theorem tw_1002 : Jvm.Cond.methodLink "DovetailRowModel" (179 : Nat) ({ cls := "DovetailRowModel", name := "stateOf", desc := "(I)I" } : Jvm.MethodName) ∈ wU := wU_5 (List.mem_of_getElem? (i := 42) rfl) rfl
theorem tw_1003 : Jvm.Cond.privateMethod ({ cls := "DovetailRowModel", name := "stateOf", desc := "(I)I" } : Jvm.MethodName) ∈ lw_tbl := wT_5 (List.mem_of_getElem? (i := 43) rfl)
theorem tw_1004 : Jvm.Cond.instanceMethod ({ cls := "DovetailRowModel", name := "stateOf", desc := "(I)I" } : Jvm.MethodName) ∈ wU := wU_5 (List.mem_of_getElem? (i := 44) rfl) rfl
theorem tw_1005 : Jvm.Cond.code ({ cls := "DovetailRowModel", name := "stateOf", desc := "(I)I" } : Jvm.MethodName) prog_8_method_39_code (3 : Nat) (Option.some Jvm.ClassFile.FieldType.int) ∈ wU := wU_5 (List.mem_of_getElem? (i := 45) rfl) rfl
theorem tw_1006 : Jvm.Cond.arrayClass Jvm.ClassFile.FieldType.long ∈ wU := wU_5 (List.mem_of_getElem? (i := 46) rfl) rfl
theorem tw_1007 : Jvm.Cond.sameMethod "java/lang/Throwable" "java/lang/Throwable" "fillInStackTrace" "(I)Ljava/lang/Throwable;" ∈ wU := wU_5 (List.mem_of_getElem? (i := 47) rfl) rfl
theorem tw_1008 : Jvm.Cond.sameMethod "DovetailRow$Wood" "DovetailRow$Wood" "movementOf" "(II)I" ∈ wU := wU_5 (List.mem_of_getElem? (i := 48) rfl) rfl
theorem tw_1009 : Jvm.Cond.selects "DovetailRow$Board" ({ cls := "DovetailRow$Wood", name := "movementOf", desc := "(II)I" } : Jvm.MethodName) ({ cls := "DovetailRow$Wood", name := "movementOf", desc := "(II)I" } : Jvm.MethodName) ∈ wU := wU_5 (List.mem_of_getElem? (i := 49) rfl) rfl
theorem tw_1010 : Jvm.Cond.selects "DovetailRow$Part" ({ cls := "DovetailRow$Wood", name := "movementOf", desc := "(II)I" } : Jvm.MethodName) ({ cls := "DovetailRow$Wood", name := "movementOf", desc := "(II)I" } : Jvm.MethodName) ∈ wU := wU_5 (List.mem_of_getElem? (i := 50) rfl) rfl
theorem tw_1011 : Jvm.Cond.sameMethod "DovetailRow$Wood" "DovetailRow$Wood" "widthAt" "(I)I" ∈ wU := wU_5 (List.mem_of_getElem? (i := 51) rfl) rfl
theorem tw_1012 : Jvm.Cond.selects "DovetailRow$Board" ({ cls := "DovetailRow$Wood", name := "widthAt", desc := "(I)I" } : Jvm.MethodName) ({ cls := "DovetailRow$Wood", name := "widthAt", desc := "(I)I" } : Jvm.MethodName) ∈ wU := wU_5 (List.mem_of_getElem? (i := 52) rfl) rfl
theorem tw_1013 : Jvm.Cond.selects "DovetailRow$Part" ({ cls := "DovetailRow$Wood", name := "widthAt", desc := "(I)I" } : Jvm.MethodName) ({ cls := "DovetailRow$Wood", name := "widthAt", desc := "(I)I" } : Jvm.MethodName) ∈ wU := wU_5 (List.mem_of_getElem? (i := 53) rfl) rfl
theorem tw_1014 : Jvm.Cond.castable "DovetailRow" "java/lang/Object" ∈ lw_tbl := wT_5 (List.mem_of_getElem? (i := 54) rfl)
theorem tw_1015 : Jvm.Cond.castable "java/util/ArrayList" "java/lang/Object" ∈ lw_tbl := wT_5 (List.mem_of_getElem? (i := 55) rfl)
theorem tw_1016 : Jvm.Cond.castable "DovetailRowModel" "java/lang/Object" ∈ lw_tbl := wT_5 (List.mem_of_getElem? (i := 56) rfl)
theorem tw_1017 : Jvm.Cond.castable "java/lang/IndexOutOfBoundsException" "java/lang/Object" ∈ lw_tbl := wT_5 (List.mem_of_getElem? (i := 57) rfl)
theorem tw_1018 : Jvm.Cond.castable "java/lang/IllegalArgumentException" "java/lang/Object" ∈ lw_tbl := wT_5 (List.mem_of_getElem? (i := 58) rfl)
theorem tw_1019 : Jvm.Cond.castable "java/lang/IllegalStateException" "java/lang/Object" ∈ lw_tbl := wT_5 (List.mem_of_getElem? (i := 59) rfl)
theorem tw_1020 : Jvm.Cond.castable "DovetailRow$Board" "java/lang/Object" ∈ lw_tbl := wT_5 (List.mem_of_getElem? (i := 60) rfl)
theorem tw_1021 : Jvm.Cond.castable "DovetailRow$Span" "java/lang/Object" ∈ lw_tbl := wT_5 (List.mem_of_getElem? (i := 61) rfl)
theorem tw_1022 : Jvm.Cond.castable "DovetailRow$Part" "java/lang/Object" ∈ lw_tbl := wT_5 (List.mem_of_getElem? (i := 62) rfl)
theorem tw_1023 : Jvm.Cond.castable "DovetailRow$Joint" "java/lang/Object" ∈ lw_tbl := wT_5 (List.mem_of_getElem? (i := 63) rfl)
theorem tw_1024 : Jvm.Cond.castable "java/lang/Throwable" "java/lang/Object" ∈ lw_tbl := wT_5 (List.mem_of_getElem? (i := 64) rfl)
theorem tw_1025 : Jvm.Cond.castable "java/lang/String" "java/lang/Object" ∈ lw_tbl := wT_5 (List.mem_of_getElem? (i := 65) rfl)
theorem tw_1026 : Jvm.Cond.sameMethod "[Ljava/lang/Object;" "java/lang/Object" "getClass" "()Ljava/lang/Class;" ∈ wU := wU_5 (List.mem_of_getElem? (i := 66) rfl) rfl
theorem tw_1027 : Jvm.Cond.selects "[Ljava/lang/Object;" ({ cls := "java/lang/Object", name := "getClass", desc := "()Ljava/lang/Class;" } : Jvm.MethodName) ({ cls := "java/lang/Object", name := "getClass", desc := "()Ljava/lang/Class;" } : Jvm.MethodName) ∈ wU := wU_5 (List.mem_of_getElem? (i := 67) rfl) rfl
theorem tw_1028 : Jvm.Cond.declares ({ cls := "java/lang/Object", name := "getClass", desc := "()Ljava/lang/Class;" } : Jvm.MethodName) ∈ lw_tbl := wT_5 (List.mem_of_getElem? (i := 68) rfl)
theorem tw_1029 : Jvm.Cond.castable "[I" "java/lang/Object" ∈ lw_tbl := wT_5 (List.mem_of_getElem? (i := 69) rfl)
theorem tw_1030 : Jvm.Cond.castable "[B" "java/lang/Object" ∈ lw_tbl := wT_5 (List.mem_of_getElem? (i := 70) rfl)
theorem tw_1031 : Jvm.Cond.castable "[Ljava/lang/Object;" "java/lang/Object" ∈ lw_tbl := wT_5 (List.mem_of_getElem? (i := 71) rfl)
theorem tw_1032 : Jvm.Cond.castable "[Z" "java/lang/Object" ∈ lw_tbl := wT_5 (List.mem_of_getElem? (i := 72) rfl)
theorem tw_1033 : Jvm.Cond.castable "[J" "java/lang/Object" ∈ lw_tbl := wT_5 (List.mem_of_getElem? (i := 73) rfl)
theorem tp_0 : Cond.selects "java/lang/Throwable" ⟨"java/lang/Throwable", "fillInStackTrace", "(I)Ljava/lang/Throwable;"⟩ ⟨"java/lang/Throwable", "fillInStackTrace", "(I)Ljava/lang/Throwable;"⟩ ∈ wU := wU_s (List.mem_of_getElem? (i := 0) rfl) rfl
theorem tp_1 : Cond.selects "DovetailRow" ⟨"DovetailRow", "airIn", "(I)I"⟩ ⟨"DovetailRow", "airIn", "(I)I"⟩ ∈ wU := wU_s (List.mem_of_getElem? (i := 1) rfl) rfl
theorem tp_2 : Cond.selects "DovetailRow" ⟨"DovetailRow", "moistenAll", "(I)V"⟩ ⟨"DovetailRow", "moistenAll", "(I)V"⟩ ∈ wU := wU_s (List.mem_of_getElem? (i := 2) rfl) rfl
theorem tp_3 : Cond.selects "DovetailRow" ⟨"DovetailRow", "breakJoints", "()I"⟩ ⟨"DovetailRow", "breakJoints", "()I"⟩ ∈ wU := wU_s (List.mem_of_getElem? (i := 3) rfl) rfl
theorem tp_4 : Cond.selects "DovetailRow" ⟨"DovetailRow", "suitsFlitch", "(III)Z"⟩ ⟨"DovetailRow", "suitsFlitch", "(III)Z"⟩ ∈ wU := wU_s (List.mem_of_getElem? (i := 4) rfl) rfl
theorem tp_5 : Cond.selects "java/util/ArrayList" ⟨"java/util/ArrayList", "add", "(Ljava/lang/Object;[Ljava/lang/Object;I)V"⟩ ⟨"java/util/ArrayList", "add", "(Ljava/lang/Object;[Ljava/lang/Object;I)V"⟩ ∈ wU := wU_s (List.mem_of_getElem? (i := 5) rfl) rfl
theorem tp_6 : Cond.selects "java/util/ArrayList" ⟨"java/util/ArrayList", "grow", "()[Ljava/lang/Object;"⟩ ⟨"java/util/ArrayList", "grow", "()[Ljava/lang/Object;"⟩ ∈ wU := wU_s (List.mem_of_getElem? (i := 6) rfl) rfl
theorem tp_7 : Cond.selects "java/util/ArrayList" ⟨"java/util/ArrayList", "grow", "(I)[Ljava/lang/Object;"⟩ ⟨"java/util/ArrayList", "grow", "(I)[Ljava/lang/Object;"⟩ ∈ wU := wU_s (List.mem_of_getElem? (i := 7) rfl) rfl
theorem tp_8 : Cond.selects "DovetailRow" ⟨"DovetailRow", "findBoard", "(I)LDovetailRow$Board;"⟩ ⟨"DovetailRow", "findBoard", "(I)LDovetailRow$Board;"⟩ ∈ wU := wU_s (List.mem_of_getElem? (i := 8) rfl) rfl
theorem tp_9 : Cond.selects "DovetailRow" ⟨"DovetailRow", "findPart", "(I)LDovetailRow$Part;"⟩ ⟨"DovetailRow", "findPart", "(I)LDovetailRow$Part;"⟩ ∈ wU := wU_s (List.mem_of_getElem? (i := 9) rfl) rfl
theorem tp_10 : Cond.selects "DovetailRow" ⟨"DovetailRow", "findJoint", "(I)LDovetailRow$Joint;"⟩ ⟨"DovetailRow", "findJoint", "(I)LDovetailRow$Joint;"⟩ ∈ wU := wU_s (List.mem_of_getElem? (i := 10) rfl) rfl
theorem tp_11 : Cond.selects "DovetailRow" ⟨"DovetailRow", "canBeGlued", "(I)Z"⟩ ⟨"DovetailRow", "canBeGlued", "(I)Z"⟩ ∈ wU := wU_s (List.mem_of_getElem? (i := 11) rfl) rfl
theorem tp_12 : Cond.selects "DovetailRow" ⟨"DovetailRow", "minutesOf", "(I)I"⟩ ⟨"DovetailRow", "minutesOf", "(I)I"⟩ ∈ wU := wU_s (List.mem_of_getElem? (i := 12) rfl) rfl
theorem tp_13 : Cond.selects "DovetailRow" ⟨"DovetailRow", "clampsOf", "(I)I"⟩ ⟨"DovetailRow", "clampsOf", "(I)I"⟩ ∈ wU := wU_s (List.mem_of_getElem? (i := 13) rfl) rfl
theorem tp_14 : Cond.selects "DovetailRow" ⟨"DovetailRow", "monthOfBreak", "(LDovetailRow$Joint;I)I"⟩ ⟨"DovetailRow", "monthOfBreak", "(LDovetailRow$Joint;I)I"⟩ ∈ wU := wU_s (List.mem_of_getElem? (i := 14) rfl) rfl
theorem tp_15 : Cond.selects "DovetailRowModel" ⟨"DovetailRowModel", "between", "(III)Z"⟩ ⟨"DovetailRowModel", "between", "(III)Z"⟩ ∈ wU := wU_s (List.mem_of_getElem? (i := 15) rfl) rfl
theorem tp_16 : Cond.selects "DovetailRowModel" ⟨"DovetailRowModel", "isMoisture", "(I)Z"⟩ ⟨"DovetailRowModel", "isMoisture", "(I)Z"⟩ ∈ wU := wU_s (List.mem_of_getElem? (i := 16) rfl) rfl
theorem tp_17 : Cond.selects "DovetailRowModel" ⟨"DovetailRowModel", "behind", "(III)I"⟩ ⟨"DovetailRowModel", "behind", "(III)I"⟩ ∈ wU := wU_s (List.mem_of_getElem? (i := 17) rfl) rfl
theorem tp_18 : Cond.selects "DovetailRowModel" ⟨"DovetailRowModel", "wouldBreak", "(II)Z"⟩ ⟨"DovetailRowModel", "wouldBreak", "(II)Z"⟩ ∈ wU := wU_s (List.mem_of_getElem? (i := 18) rfl) rfl
theorem tp_19 : Cond.selects "DovetailRowModel" ⟨"DovetailRowModel", "speciesOf", "(I)I"⟩ ⟨"DovetailRowModel", "speciesOf", "(I)I"⟩ ∈ wU := wU_s (List.mem_of_getElem? (i := 19) rfl) rfl
theorem tp_20 : Cond.selects "DovetailRowModel" ⟨"DovetailRowModel", "moved", "(III)I"⟩ ⟨"DovetailRowModel", "moved", "(III)I"⟩ ∈ wU := wU_s (List.mem_of_getElem? (i := 20) rfl) rfl
theorem tp_21 : Cond.selects "DovetailRowModel" ⟨"DovetailRowModel", "moves", "(I)I"⟩ ⟨"DovetailRowModel", "moves", "(I)I"⟩ ∈ wU := wU_s (List.mem_of_getElem? (i := 21) rfl) rfl
theorem tp_22 : Cond.selects "DovetailRowModel" ⟨"DovetailRowModel", "widthAt", "(II)I"⟩ ⟨"DovetailRowModel", "widthAt", "(II)I"⟩ ∈ wU := wU_s (List.mem_of_getElem? (i := 22) rfl) rfl
theorem tp_23 : Cond.selects "DovetailRowModel" ⟨"DovetailRowModel", "isBoard", "(I)Z"⟩ ⟨"DovetailRowModel", "isBoard", "(I)Z"⟩ ∈ wU := wU_s (List.mem_of_getElem? (i := 23) rfl) rfl
theorem tp_24 : Cond.selects "DovetailRowModel" ⟨"DovetailRowModel", "isTaken", "(III)Z"⟩ ⟨"DovetailRowModel", "isTaken", "(III)Z"⟩ ∈ wU := wU_s (List.mem_of_getElem? (i := 24) rfl) rfl
theorem tp_25 : Cond.selects "DovetailRowModel" ⟨"DovetailRowModel", "boardWidth", "(I)I"⟩ ⟨"DovetailRowModel", "boardWidth", "(I)I"⟩ ∈ wU := wU_s (List.mem_of_getElem? (i := 25) rfl) rfl
theorem tp_26 : Cond.selects "DovetailRowModel" ⟨"DovetailRowModel", "hasKnot", "(III)Z"⟩ ⟨"DovetailRowModel", "hasKnot", "(III)Z"⟩ ∈ wU := wU_s (List.mem_of_getElem? (i := 26) rfl) rfl
theorem tp_27 : Cond.selects "DovetailRowModel" ⟨"DovetailRowModel", "hardness", "(I)I"⟩ ⟨"DovetailRowModel", "hardness", "(I)I"⟩ ∈ wU := wU_s (List.mem_of_getElem? (i := 27) rfl) rfl
theorem tp_28 : Cond.selects "DovetailRowModel" ⟨"DovetailRowModel", "isPart", "(I)Z"⟩ ⟨"DovetailRowModel", "isPart", "(I)Z"⟩ ∈ wU := wU_s (List.mem_of_getElem? (i := 28) rfl) rfl
theorem tp_29 : Cond.selects "DovetailRowModel" ⟨"DovetailRowModel", "fits", "(IIII)Z"⟩ ⟨"DovetailRowModel", "fits", "(IIII)Z"⟩ ∈ wU := wU_s (List.mem_of_getElem? (i := 29) rfl) rfl
theorem tp_30 : Cond.selects "DovetailRowModel" ⟨"DovetailRowModel", "isJoint", "(I)Z"⟩ ⟨"DovetailRowModel", "isJoint", "(I)Z"⟩ ∈ wU := wU_s (List.mem_of_getElem? (i := 30) rfl) rfl
theorem tp_31 : Cond.selects "DovetailRowModel" ⟨"DovetailRowModel", "lookAhead", "(I)V"⟩ ⟨"DovetailRowModel", "lookAhead", "(I)V"⟩ ∈ wU := wU_s (List.mem_of_getElem? (i := 31) rfl) rfl
theorem tp_32 : Cond.selects "DovetailRowModel" ⟨"DovetailRowModel", "stateOf", "(I)I"⟩ ⟨"DovetailRowModel", "stateOf", "(I)I"⟩ ∈ wU := wU_s (List.mem_of_getElem? (i := 32) rfl) rfl
/-- words of a call -/
theorem gU {ws : List Cond} (h : ∀ w ∈ ws, w ∈ wU) : GoodIn wU ws := fun w hw => ⟨h w hw, wU_good (h w hw)⟩
theorem gU_c {y : MethodName} {b : ByteArray} {n : Nat} {r : Option FieldType} (h : Cond.code y b n r ∈ wU) : GoodIn wU (.code y b n r :: wU) := gU fun w hw => (List.mem_cons.mp hw).elim (fun e => e ▸ h) id
theorem gU_V {own C : String} {i : Nat} {y : MethodName} {b : ByteArray} {n : Nat} {r : Option FieldType} (h1 : Cond.methodLink own i y ∈ wU) (h2 : Cond.instanceMethod y ∈ wU) (h3 : Cond.selects C y y ∈ wU) (h4 : Cond.initialized C ∈ wU) (h : Cond.code y b n r ∈ wU) : GoodIn wU (wsV own i C y (.code y b n r :: wU)) := by
  refine gU fun w hw => ?_
  simp only [wsV, List.cons_append, List.nil_append, List.mem_cons] at hw
  rcases hw with rfl | rfl | rfl | rfl | rfl | hw <;> assumption
theorem gU_S {own : String} {i : Nat} {y : MethodName} {b : ByteArray} {n : Nat} {r : Option FieldType} (h1 : Cond.methodLink own i y ∈ wU) (h2 : Cond.static y ∈ wU) (h4 : Cond.initialized own ∈ wU) (h : Cond.code y b n r ∈ wU) : GoodIn wU (wsS own i y (.code y b n r :: wU)) := by
  refine gU fun w hw => ?_
  simp only [wsS, List.cons_append, List.nil_append, List.mem_cons] at hw
  rcases hw with rfl | rfl | rfl | rfl | hw <;> assumption
theorem gU_vS {own : String} {i : Nat} {y : MethodName} {b : ByteArray} {n : Nat} {r : Option FieldType} (h1 : Cond.methodLink own i y ∈ wU) (h2 : Cond.static y ∈ wU) (h4 : Cond.initialized y.cls ∈ wU) (h : Cond.code y b n r ∈ wU) : GoodIn wU (va_wsS own i y (.code y b n r :: wU)) := by
  refine gU fun w hw => ?_
  simp only [va_wsS, List.cons_append, List.nil_append, List.mem_cons] at hw
  rcases hw with rfl | rfl | rfl | rfl | hw <;> assumption
theorem gU_U {own C owner : String} {i : Nat} {x y : MethodName} {b : ByteArray} {n : Nat} {r : Option FieldType} (h1 : Cond.methodLink own i x ∈ wU) (h2 : Cond.sameMethod x.cls owner x.name x.desc ∈ wU) (h3 : Cond.selects C x y ∈ wU) (h4 : Cond.instanceMethod y ∈ wU) (h5 : Cond.initialized y.cls ∈ wU) (h : Cond.code y b n r ∈ wU) : GoodIn wU (va_wsU own i C owner x y (.code y b n r :: wU)) := by
  refine gU fun w hw => ?_
  simp only [va_wsU, List.cons_append, List.nil_append, List.mem_cons] at hw
  rcases hw with rfl | rfl | rfl | rfl | rfl | rfl | hw <;> assumption
end
section
theorem dX6_init_0 : decode cX6_init 0 = .ok (.aload_n 0, 1) := by decide +kernel
theorem dX6_init_1 : decode cX6_init 1 = .ok (.invokespecial 1, 3) := by decide +kernel
theorem dX6_init_4 : decode cX6_init 4 = .ok (.aload_n 0, 1) := by decide +kernel
theorem dX6_init_5 : decode cX6_init 5 = .ok (.bipush 12, 2) := by decide +kernel
theorem dX6_init_7 : decode cX6_init 7 = .ok (.newarray .int, 2) := by decide +kernel
theorem dX6_init_9 : decode cX6_init 9 = .ok (.putfield 7, 3) := by decide +kernel
theorem dX6_init_12 : decode cX6_init 12 = .ok (.aload_n 0, 1) := by decide +kernel
theorem dX6_init_13 : decode cX6_init 13 = .ok (.iconst 2, 1) := by decide +kernel
theorem dX6_init_14 : decode cX6_init 14 = .ok (.newarray .int, 2) := by decide +kernel
theorem dX6_init_16 : decode cX6_init 16 = .ok (.putfield 13, 3) := by decide +kernel
theorem dX6_init_19 : decode cX6_init 19 = .ok (.aload_n 0, 1) := by decide +kernel
theorem dX6_init_20 : decode cX6_init 20 = .ok (.bipush 6, 2) := by decide +kernel
theorem dX6_init_22 : decode cX6_init 22 = .ok (.putfield 16, 3) := by decide +kernel
theorem dX6_init_25 : decode cX6_init 25 = .ok (.aload_n 0, 1) := by decide +kernel
theorem dX6_init_26 : decode cX6_init 26 = .ok (.bipush 20, 2) := by decide +kernel
theorem dX6_init_28 : decode cX6_init 28 = .ok (.newarray .int, 2) := by decide +kernel
theorem dX6_init_30 : decode cX6_init 30 = .ok (.putfield 20, 3) := by decide +kernel
theorem dX6_init_33 : decode cX6_init 33 = .ok (.aload_n 0, 1) := by decide +kernel
theorem dX6_init_34 : decode cX6_init 34 = .ok (.bipush 20, 2) := by decide +kernel
theorem dX6_init_36 : decode cX6_init 36 = .ok (.newarray .int, 2) := by decide +kernel
theorem dX6_init_38 : decode cX6_init 38 = .ok (.putfield 23, 3) := by decide +kernel
theorem dX6_init_41 : decode cX6_init 41 = .ok (.aload_n 0, 1) := by decide +kernel
theorem dX6_init_42 : decode cX6_init 42 = .ok (.bipush 20, 2) := by decide +kernel
theorem dX6_init_44 : decode cX6_init 44 = .ok (.newarray .int, 2) := by decide +kernel
theorem dX6_init_46 : decode cX6_init 46 = .ok (.putfield 26, 3) := by decide +kernel
theorem dX6_init_49 : decode cX6_init 49 = .ok (.aload_n 0, 1) := by decide +kernel
theorem dX6_init_50 : decode cX6_init 50 = .ok (.bipush 20, 2) := by decide +kernel
theorem dX6_init_52 : decode cX6_init 52 = .ok (.newarray .int, 2) := by decide +kernel
theorem dX6_init_54 : decode cX6_init 54 = .ok (.putfield 29, 3) := by decide +kernel
theorem dX6_init_57 : decode cX6_init 57 = .ok (.aload_n 0, 1) := by decide +kernel
theorem dX6_init_58 : decode cX6_init 58 = .ok (.bipush 20, 2) := by decide +kernel
theorem dX6_init_60 : decode cX6_init 60 = .ok (.newarray .int, 2) := by decide +kernel
theorem dX6_init_62 : decode cX6_init 62 = .ok (.putfield 32, 3) := by decide +kernel
theorem dX6_init_65 : decode cX6_init 65 = .ok (.aload_n 0, 1) := by decide +kernel
theorem dX6_init_66 : decode cX6_init 66 = .ok (.bipush 20, 2) := by decide +kernel
theorem dX6_init_68 : decode cX6_init 68 = .ok (.newarray .int, 2) := by decide +kernel
theorem dX6_init_70 : decode cX6_init 70 = .ok (.putfield 35, 3) := by decide +kernel
theorem dX6_init_73 : decode cX6_init 73 = .ok (.aload_n 0, 1) := by decide +kernel
theorem dX6_init_74 : decode cX6_init 74 = .ok (.bipush 20, 2) := by decide +kernel
theorem dX6_init_76 : decode cX6_init 76 = .ok (.newarray .int, 2) := by decide +kernel
theorem dX6_init_78 : decode cX6_init 78 = .ok (.putfield 38, 3) := by decide +kernel
theorem dX6_init_81 : decode cX6_init 81 = .ok (.aload_n 0, 1) := by decide +kernel
theorem dX6_init_82 : decode cX6_init 82 = .ok (.bipush 20, 2) := by decide +kernel
theorem dX6_init_84 : decode cX6_init 84 = .ok (.newarray .int, 2) := by decide +kernel
theorem dX6_init_86 : decode cX6_init 86 = .ok (.putfield 41, 3) := by decide +kernel
theorem dX6_init_89 : decode cX6_init 89 = .ok (.aload_n 0, 1) := by decide +kernel
theorem dX6_init_90 : decode cX6_init 90 = .ok (.bipush 80, 2) := by decide +kernel
theorem dX6_init_92 : decode cX6_init 92 = .ok (.newarray .int, 2) := by decide +kernel
theorem dX6_init_94 : decode cX6_init 94 = .ok (.putfield 44, 3) := by decide +kernel
theorem dX6_init_97 : decode cX6_init 97 = .ok (.aload_n 0, 1) := by decide +kernel
theorem dX6_init_98 : decode cX6_init 98 = .ok (.bipush 80, 2) := by decide +kernel
theorem dX6_init_100 : decode cX6_init 100 = .ok (.newarray .int, 2) := by decide +kernel
theorem dX6_init_102 : decode cX6_init 102 = .ok (.putfield 47, 3) := by decide +kernel
theorem dX6_init_105 : decode cX6_init 105 = .ok (.aload_n 0, 1) := by decide +kernel
theorem dX6_init_106 : decode cX6_init 106 = .ok (.bipush 40, 2) := by decide +kernel
theorem dX6_init_108 : decode cX6_init 108 = .ok (.newarray .int, 2) := by decide +kernel
theorem dX6_init_110 : decode cX6_init 110 = .ok (.putfield 50, 3) := by decide +kernel
theorem dX6_init_113 : decode cX6_init 113 = .ok (.aload_n 0, 1) := by decide +kernel
theorem dX6_init_114 : decode cX6_init 114 = .ok (.bipush 40, 2) := by decide +kernel
theorem dX6_init_116 : decode cX6_init 116 = .ok (.newarray .int, 2) := by decide +kernel
theorem dX6_init_118 : decode cX6_init 118 = .ok (.putfield 53, 3) := by decide +kernel
theorem dX6_init_121 : decode cX6_init 121 = .ok (.aload_n 0, 1) := by decide +kernel
theorem dX6_init_122 : decode cX6_init 122 = .ok (.bipush 40, 2) := by decide +kernel
theorem dX6_init_124 : decode cX6_init 124 = .ok (.newarray .int, 2) := by decide +kernel
theorem dX6_init_126 : decode cX6_init 126 = .ok (.putfield 56, 3) := by decide +kernel
theorem dX6_init_129 : decode cX6_init 129 = .ok (.aload_n 0, 1) := by decide +kernel
theorem dX6_init_130 : decode cX6_init 130 = .ok (.bipush 40, 2) := by decide +kernel
theorem dX6_init_132 : decode cX6_init 132 = .ok (.newarray .int, 2) := by decide +kernel
theorem dX6_init_134 : decode cX6_init 134 = .ok (.putfield 59, 3) := by decide +kernel
theorem dX6_init_137 : decode cX6_init 137 = .ok (.aload_n 0, 1) := by decide +kernel
theorem dX6_init_138 : decode cX6_init 138 = .ok (.bipush 40, 2) := by decide +kernel
theorem dX6_init_140 : decode cX6_init 140 = .ok (.newarray .int, 2) := by decide +kernel
theorem dX6_init_142 : decode cX6_init 142 = .ok (.putfield 62, 3) := by decide +kernel
theorem dX6_init_145 : decode cX6_init 145 = .ok (.aload_n 0, 1) := by decide +kernel
theorem dX6_init_146 : decode cX6_init 146 = .ok (.bipush 40, 2) := by decide +kernel
theorem dX6_init_148 : decode cX6_init 148 = .ok (.newarray .int, 2) := by decide +kernel
theorem dX6_init_150 : decode cX6_init 150 = .ok (.putfield 65, 3) := by decide +kernel
theorem dX6_init_153 : decode cX6_init 153 = .ok (.aload_n 0, 1) := by decide +kernel
theorem dX6_init_154 : decode cX6_init 154 = .ok (.bipush 40, 2) := by decide +kernel
theorem dX6_init_156 : decode cX6_init 156 = .ok (.newarray .int, 2) := by decide +kernel
theorem dX6_init_158 : decode cX6_init 158 = .ok (.putfield 68, 3) := by decide +kernel
theorem dX6_init_161 : decode cX6_init 161 = .ok (.aload_n 0, 1) := by decide +kernel
theorem dX6_init_162 : decode cX6_init 162 = .ok (.bipush 30, 2) := by decide +kernel
theorem dX6_init_164 : decode cX6_init 164 = .ok (.newarray .int, 2) := by decide +kernel
theorem dX6_init_166 : decode cX6_init 166 = .ok (.putfield 71, 3) := by decide +kernel
theorem dX6_init_169 : decode cX6_init 169 = .ok (.aload_n 0, 1) := by decide +kernel
theorem dX6_init_170 : decode cX6_init 170 = .ok (.bipush 30, 2) := by decide +kernel
theorem dX6_init_172 : decode cX6_init 172 = .ok (.newarray .int, 2) := by decide +kernel
theorem dX6_init_174 : decode cX6_init 174 = .ok (.putfield 74, 3) := by decide +kernel
theorem dX6_init_177 : decode cX6_init 177 = .ok (.aload_n 0, 1) := by decide +kernel
theorem dX6_init_178 : decode cX6_init 178 = .ok (.bipush 30, 2) := by decide +kernel
theorem dX6_init_180 : decode cX6_init 180 = .ok (.newarray .int, 2) := by decide +kernel
theorem dX6_init_182 : decode cX6_init 182 = .ok (.putfield 77, 3) := by decide +kernel
theorem dX6_init_185 : decode cX6_init 185 = .ok (.aload_n 0, 1) := by decide +kernel
theorem dX6_init_186 : decode cX6_init 186 = .ok (.bipush 30, 2) := by decide +kernel
theorem dX6_init_188 : decode cX6_init 188 = .ok (.newarray .int, 2) := by decide +kernel
theorem dX6_init_190 : decode cX6_init 190 = .ok (.putfield 80, 3) := by decide +kernel
theorem dX6_init_193 : decode cX6_init 193 = .ok (.aload_n 0, 1) := by decide +kernel
theorem dX6_init_194 : decode cX6_init 194 = .ok (.bipush 30, 2) := by decide +kernel
theorem dX6_init_196 : decode cX6_init 196 = .ok (.newarray .int, 2) := by decide +kernel
theorem dX6_init_198 : decode cX6_init 198 = .ok (.putfield 83, 3) := by decide +kernel
theorem dX6_init_201 : decode cX6_init 201 = .ok (.aload_n 0, 1) := by decide +kernel
theorem dX6_init_202 : decode cX6_init 202 = .ok (.bipush 30, 2) := by decide +kernel
theorem dX6_init_204 : decode cX6_init 204 = .ok (.newarray .int, 2) := by decide +kernel
theorem dX6_init_206 : decode cX6_init 206 = .ok (.putfield 86, 3) := by decide +kernel
theorem dX6_init_209 : decode cX6_init 209 = .ok (.aload_n 0, 1) := by decide +kernel
theorem dX6_init_210 : decode cX6_init 210 = .ok (.bipush 30, 2) := by decide +kernel
theorem dX6_init_212 : decode cX6_init 212 = .ok (.newarray .boolean, 2) := by decide +kernel
theorem dX6_init_214 : decode cX6_init 214 = .ok (.putfield 89, 3) := by decide +kernel
theorem dX6_init_217 : decode cX6_init 217 = .ok (.aload_n 0, 1) := by decide +kernel
theorem dX6_init_218 : decode cX6_init 218 = .ok (.bipush 30, 2) := by decide +kernel
theorem dX6_init_220 : decode cX6_init 220 = .ok (.newarray .boolean, 2) := by decide +kernel
theorem dX6_init_222 : decode cX6_init 222 = .ok (.putfield 93, 3) := by decide +kernel
theorem dX6_init_225 : decode cX6_init 225 = .ok (.aload_n 0, 1) := by decide +kernel
theorem dX6_init_226 : decode cX6_init 226 = .ok (.bipush 30, 2) := by decide +kernel
theorem dX6_init_228 : decode cX6_init 228 = .ok (.newarray .int, 2) := by decide +kernel
theorem dX6_init_230 : decode cX6_init 230 = .ok (.putfield 96, 3) := by decide +kernel
theorem dX6_init_233 : decode cX6_init 233 = .ok (.aload_n 0, 1) := by decide +kernel
theorem dX6_init_234 : decode cX6_init 234 = .ok (.bipush 40, 2) := by decide +kernel
theorem dX6_init_236 : decode cX6_init 236 = .ok (.newarray .int, 2) := by decide +kernel
theorem dX6_init_238 : decode cX6_init 238 = .ok (.putfield 99, 3) := by decide +kernel
theorem dX6_init_241 : decode cX6_init 241 = .ok (.aload_n 0, 1) := by decide +kernel
theorem dX6_init_242 : decode cX6_init 242 = .ok (.bipush 30, 2) := by decide +kernel
theorem dX6_init_244 : decode cX6_init 244 = .ok (.newarray .int, 2) := by decide +kernel
theorem dX6_init_246 : decode cX6_init 246 = .ok (.putfield 102, 3) := by decide +kernel
theorem dX6_init_249 : decode cX6_init 249 = .ok (.iconst 0, 1) := by decide +kernel
theorem dX6_init_250 : decode cX6_init 250 = .ok (.istore_n 1, 1) := by decide +kernel
theorem dX6_init_251 : decode cX6_init 251 = .ok (.iload_n 1, 1) := by decide +kernel
theorem dX6_init_252 : decode cX6_init 252 = .ok (.bipush 12, 2) := by decide +kernel
theorem dX6_init_254 : decode cX6_init 254 = .ok (.if_icmp .ge 17, 3) := by decide +kernel
theorem dX6_init_257 : decode cX6_init 257 = .ok (.aload_n 0, 1) := by decide +kernel
theorem dX6_init_258 : decode cX6_init 258 = .ok (.getfield 7, 3) := by decide +kernel
theorem dX6_init_261 : decode cX6_init 261 = .ok (.iload_n 1, 1) := by decide +kernel
theorem dX6_init_262 : decode cX6_init 262 = .ok (.bipush 100, 2) := by decide +kernel
theorem dX6_init_264 : decode cX6_init 264 = .ok (.iastore, 1) := by decide +kernel
theorem dX6_init_265 : decode cX6_init 265 = .ok (.iinc 1 1, 3) := by decide +kernel
theorem dX6_init_268 : decode cX6_init 268 = .ok (.goto (-17), 3) := by decide +kernel
theorem dX6_init_271 : decode cX6_init 271 = .ok (.aload_n 0, 1) := by decide +kernel
theorem dX6_init_272 : decode cX6_init 272 = .ok (.getfield 13, 3) := by decide +kernel
theorem dX6_init_275 : decode cX6_init 275 = .ok (.iconst 0, 1) := by decide +kernel
theorem dX6_init_276 : decode cX6_init 276 = .ok (.bipush 100, 2) := by decide +kernel
theorem dX6_init_278 : decode cX6_init 278 = .ok (.iastore, 1) := by decide +kernel
theorem dX6_init_279 : decode cX6_init 279 = .ok (.aload_n 0, 1) := by decide +kernel
theorem dX6_init_280 : decode cX6_init 280 = .ok (.getfield 13, 3) := by decide +kernel
theorem dX6_init_283 : decode cX6_init 283 = .ok (.iconst 1, 1) := by decide +kernel
theorem dX6_init_284 : decode cX6_init 284 = .ok (.bipush 100, 2) := by decide +kernel
theorem dX6_init_286 : decode cX6_init 286 = .ok (.iastore, 1) := by decide +kernel
theorem dX6_init_287 : decode cX6_init 287 = .ok (.return_, 1) := by decide +kernel
theorem dX6_thrown_0 : decode cX6_thrown 0 = .ok (.aload_n 0, 1) := by decide +kernel
theorem dX6_thrown_1 : decode cX6_thrown 1 = .ok (.getfield 105, 3) := by decide +kernel
theorem dX6_thrown_4 : decode cX6_thrown 4 = .ok (.ireturn, 1) := by decide +kernel
theorem dX6_between_0 : decode cX6_between 0 = .ok (.iload_n 1, 1) := by decide +kernel
theorem dX6_between_1 : decode cX6_between 1 = .ok (.iload_n 2, 1) := by decide +kernel
theorem dX6_between_2 : decode cX6_between 2 = .ok (.if_icmp .lt 12, 3) := by decide +kernel
theorem dX6_between_5 : decode cX6_between 5 = .ok (.iload_n 1, 1) := by decide +kernel
theorem dX6_between_6 : decode cX6_between 6 = .ok (.iload_n 3, 1) := by decide +kernel
theorem dX6_between_7 : decode cX6_between 7 = .ok (.if_icmp .gt 7, 3) := by decide +kernel
theorem dX6_between_10 : decode cX6_between 10 = .ok (.iconst 1, 1) := by decide +kernel
theorem dX6_between_11 : decode cX6_between 11 = .ok (.goto 4, 3) := by decide +kernel
theorem dX6_between_14 : decode cX6_between 14 = .ok (.iconst 0, 1) := by decide +kernel
theorem dX6_between_15 : decode cX6_between 15 = .ok (.ireturn, 1) := by decide +kernel
theorem dX6_isBoard_0 : decode cX6_isBoard 0 = .ok (.aload_n 0, 1) := by decide +kernel
theorem dX6_isBoard_1 : decode cX6_isBoard 1 = .ok (.iload_n 1, 1) := by decide +kernel
theorem dX6_isBoard_2 : decode cX6_isBoard 2 = .ok (.iconst 0, 1) := by decide +kernel
theorem dX6_isBoard_3 : decode cX6_isBoard 3 = .ok (.aload_n 0, 1) := by decide +kernel
theorem dX6_isBoard_4 : decode cX6_isBoard 4 = .ok (.getfield 108, 3) := by decide +kernel
theorem dX6_isBoard_7 : decode cX6_isBoard 7 = .ok (.iconst 1, 1) := by decide +kernel
theorem dX6_isBoard_8 : decode cX6_isBoard 8 = .ok (.isub, 1) := by decide +kernel
theorem dX6_isBoard_9 : decode cX6_isBoard 9 = .ok (.invokevirtual 111, 3) := by decide +kernel
theorem dX6_isBoard_12 : decode cX6_isBoard 12 = .ok (.ireturn, 1) := by decide +kernel
theorem dX6_isPart_0 : decode cX6_isPart 0 = .ok (.aload_n 0, 1) := by decide +kernel
theorem dX6_isPart_1 : decode cX6_isPart 1 = .ok (.iload_n 1, 1) := by decide +kernel
theorem dX6_isPart_2 : decode cX6_isPart 2 = .ok (.iconst 0, 1) := by decide +kernel
theorem dX6_isPart_3 : decode cX6_isPart 3 = .ok (.aload_n 0, 1) := by decide +kernel
theorem dX6_isPart_4 : decode cX6_isPart 4 = .ok (.getfield 115, 3) := by decide +kernel
theorem dX6_isPart_7 : decode cX6_isPart 7 = .ok (.iconst 1, 1) := by decide +kernel
theorem dX6_isPart_8 : decode cX6_isPart 8 = .ok (.isub, 1) := by decide +kernel
theorem dX6_isPart_9 : decode cX6_isPart 9 = .ok (.invokevirtual 111, 3) := by decide +kernel
theorem dX6_isPart_12 : decode cX6_isPart 12 = .ok (.ireturn, 1) := by decide +kernel
theorem dX6_isJoint_0 : decode cX6_isJoint 0 = .ok (.aload_n 0, 1) := by decide +kernel
theorem dX6_isJoint_1 : decode cX6_isJoint 1 = .ok (.iload_n 1, 1) := by decide +kernel
theorem dX6_isJoint_2 : decode cX6_isJoint 2 = .ok (.iconst 0, 1) := by decide +kernel
theorem dX6_isJoint_3 : decode cX6_isJoint 3 = .ok (.aload_n 0, 1) := by decide +kernel
theorem dX6_isJoint_4 : decode cX6_isJoint 4 = .ok (.getfield 118, 3) := by decide +kernel
theorem dX6_isJoint_7 : decode cX6_isJoint 7 = .ok (.iconst 1, 1) := by decide +kernel
theorem dX6_isJoint_8 : decode cX6_isJoint 8 = .ok (.isub, 1) := by decide +kernel
theorem dX6_isJoint_9 : decode cX6_isJoint 9 = .ok (.invokevirtual 111, 3) := by decide +kernel
theorem dX6_isJoint_12 : decode cX6_isJoint 12 = .ok (.ireturn, 1) := by decide +kernel
theorem dX6_isMoisture_0 : decode cX6_isMoisture 0 = .ok (.aload_n 0, 1) := by decide +kernel
theorem dX6_isMoisture_1 : decode cX6_isMoisture 1 = .ok (.iload_n 1, 1) := by decide +kernel
theorem dX6_isMoisture_2 : decode cX6_isMoisture 2 = .ok (.bipush 40, 2) := by decide +kernel
theorem dX6_isMoisture_4 : decode cX6_isMoisture 4 = .ok (.sipush 300, 3) := by decide +kernel
theorem dX6_isMoisture_7 : decode cX6_isMoisture 7 = .ok (.invokevirtual 111, 3) := by decide +kernel
theorem dX6_isMoisture_10 : decode cX6_isMoisture 10 = .ok (.ireturn, 1) := by decide +kernel
theorem dX6_moves_0 : decode cX6_moves 0 = .ok (.iload_n 1, 1) := by decide +kernel
theorem dX6_moves_1 : decode cX6_moves 1 = .ok (.iconst 2, 1) := by decide +kernel
theorem dX6_moves_2 : decode cX6_moves 2 = .ok (.iadd, 1) := by decide +kernel
theorem dX6_moves_3 : decode cX6_moves 3 = .ok (.ireturn, 1) := by decide +kernel
theorem dX6_hardness_0 : decode cX6_hardness 0 = .ok (.iload_n 1, 1) := by decide +kernel
theorem dX6_hardness_1 : decode cX6_hardness 1 = .ok (.ifCond .ne 7, 3) := by decide +kernel
theorem dX6_hardness_4 : decode cX6_hardness 4 = .ok (.iconst 2, 1) := by decide +kernel
theorem dX6_hardness_5 : decode cX6_hardness 5 = .ok (.goto 24, 3) := by decide +kernel
theorem dX6_hardness_8 : decode cX6_hardness 8 = .ok (.iload_n 1, 1) := by decide +kernel
theorem dX6_hardness_9 : decode cX6_hardness 9 = .ok (.iconst 1, 1) := by decide +kernel
theorem dX6_hardness_10 : decode cX6_hardness 10 = .ok (.if_icmp .ne 7, 3) := by decide +kernel
theorem dX6_hardness_13 : decode cX6_hardness 13 = .ok (.iconst 4, 1) := by decide +kernel
theorem dX6_hardness_14 : decode cX6_hardness 14 = .ok (.goto 15, 3) := by decide +kernel
theorem dX6_hardness_17 : decode cX6_hardness 17 = .ok (.iload_n 1, 1) := by decide +kernel
theorem dX6_hardness_18 : decode cX6_hardness 18 = .ok (.iconst 2, 1) := by decide +kernel
theorem dX6_hardness_19 : decode cX6_hardness 19 = .ok (.if_icmp .ne 8, 3) := by decide +kernel
theorem dX6_hardness_22 : decode cX6_hardness 22 = .ok (.bipush 7, 2) := by decide +kernel
theorem dX6_hardness_24 : decode cX6_hardness 24 = .ok (.goto 5, 3) := by decide +kernel
theorem dX6_hardness_27 : decode cX6_hardness 27 = .ok (.bipush 9, 2) := by decide +kernel
theorem dX6_hardness_29 : decode cX6_hardness 29 = .ok (.ireturn, 1) := by decide +kernel
theorem dX6_weather_0 : decode cX6_weather 0 = .ok (.aload_n 0, 1) := by decide +kernel
theorem dX6_weather_1 : decode cX6_weather 1 = .ok (.aload_n 0, 1) := by decide +kernel
theorem dX6_weather_2 : decode cX6_weather 2 = .ok (.iload_n 1, 1) := by decide +kernel
theorem dX6_weather_3 : decode cX6_weather 3 = .ok (.iconst 0, 1) := by decide +kernel
theorem dX6_weather_4 : decode cX6_weather 4 = .ok (.bipush 11, 2) := by decide +kernel
theorem dX6_weather_6 : decode cX6_weather 6 = .ok (.invokevirtual 111, 3) := by decide +kernel
theorem dX6_weather_9 : decode cX6_weather 9 = .ok (.ifCond .ne 7, 3) := by decide +kernel
theorem dX6_weather_12 : decode cX6_weather 12 = .ok (.iconst 1, 1) := by decide +kernel
theorem dX6_weather_13 : decode cX6_weather 13 = .ok (.goto 16, 3) := by decide +kernel
theorem dX6_weather_16 : decode cX6_weather 16 = .ok (.aload_n 0, 1) := by decide +kernel
theorem dX6_weather_17 : decode cX6_weather 17 = .ok (.iload_n 2, 1) := by decide +kernel
theorem dX6_weather_18 : decode cX6_weather 18 = .ok (.invokevirtual 121, 3) := by decide +kernel
theorem dX6_weather_21 : decode cX6_weather 21 = .ok (.ifCond .ne 7, 3) := by decide +kernel
theorem dX6_weather_24 : decode cX6_weather 24 = .ok (.iconst 2, 1) := by decide +kernel
theorem dX6_weather_25 : decode cX6_weather 25 = .ok (.goto 4, 3) := by decide +kernel
theorem dX6_weather_28 : decode cX6_weather 28 = .ok (.iconst 0, 1) := by decide +kernel
theorem dX6_weather_29 : decode cX6_weather 29 = .ok (.putfield 105, 3) := by decide +kernel
theorem dX6_weather_32 : decode cX6_weather 32 = .ok (.aload_n 0, 1) := by decide +kernel
theorem dX6_weather_33 : decode cX6_weather 33 = .ok (.getfield 105, 3) := by decide +kernel
theorem dX6_weather_36 : decode cX6_weather 36 = .ok (.ifCond .le 5, 3) := by decide +kernel
theorem dX6_weather_39 : decode cX6_weather 39 = .ok (.iconst 0, 1) := by decide +kernel
theorem dX6_weather_40 : decode cX6_weather 40 = .ok (.ireturn, 1) := by decide +kernel
theorem dX6_weather_41 : decode cX6_weather 41 = .ok (.aload_n 0, 1) := by decide +kernel
theorem dX6_weather_42 : decode cX6_weather 42 = .ok (.getfield 7, 3) := by decide +kernel
theorem dX6_weather_45 : decode cX6_weather 45 = .ok (.iload_n 1, 1) := by decide +kernel
theorem dX6_weather_46 : decode cX6_weather 46 = .ok (.iaload, 1) := by decide +kernel
theorem dX6_weather_47 : decode cX6_weather 47 = .ok (.istore_n 3, 1) := by decide +kernel
theorem dX6_weather_48 : decode cX6_weather 48 = .ok (.aload_n 0, 1) := by decide +kernel
theorem dX6_weather_49 : decode cX6_weather 49 = .ok (.getfield 7, 3) := by decide +kernel
theorem dX6_weather_52 : decode cX6_weather 52 = .ok (.iload_n 1, 1) := by decide +kernel
theorem dX6_weather_53 : decode cX6_weather 53 = .ok (.iload_n 2, 1) := by decide +kernel
theorem dX6_weather_54 : decode cX6_weather 54 = .ok (.iastore, 1) := by decide +kernel
theorem dX6_weather_55 : decode cX6_weather 55 = .ok (.iload_n 3, 1) := by decide +kernel
theorem dX6_weather_56 : decode cX6_weather 56 = .ok (.ireturn, 1) := by decide +kernel
theorem dX6_behind_0 : decode cX6_behind 0 = .ok (.aload_n 0, 1) := by decide +kernel
theorem dX6_behind_1 : decode cX6_behind 1 = .ok (.getfield 7, 3) := by decide +kernel
theorem dX6_behind_4 : decode cX6_behind 4 = .ok (.iload_n 2, 1) := by decide +kernel
theorem dX6_behind_5 : decode cX6_behind 5 = .ok (.bipush 12, 2) := by decide +kernel
theorem dX6_behind_7 : decode cX6_behind 7 = .ok (.irem, 1) := by decide +kernel
theorem dX6_behind_8 : decode cX6_behind 8 = .ok (.iaload, 1) := by decide +kernel
theorem dX6_behind_9 : decode cX6_behind 9 = .ok (.iload_n 1, 1) := by decide +kernel
theorem dX6_behind_10 : decode cX6_behind 10 = .ok (.isub, 1) := by decide +kernel
theorem dX6_behind_11 : decode cX6_behind 11 = .ok (.istore 4, 2) := by decide +kernel
theorem dX6_behind_13 : decode cX6_behind 13 = .ok (.iload 4, 2) := by decide +kernel
theorem dX6_behind_15 : decode cX6_behind 15 = .ok (.iconst 4, 1) := by decide +kernel
theorem dX6_behind_16 : decode cX6_behind 16 = .ok (.iload_n 3, 1) := by decide +kernel
theorem dX6_behind_17 : decode cX6_behind 17 = .ok (.iadd, 1) := by decide +kernel
theorem dX6_behind_18 : decode cX6_behind 18 = .ok (.idiv, 1) := by decide +kernel
theorem dX6_behind_19 : decode cX6_behind 19 = .ok (.istore 5, 2) := by decide +kernel
theorem dX6_behind_21 : decode cX6_behind 21 = .ok (.iload 5, 2) := by decide +kernel
theorem dX6_behind_23 : decode cX6_behind 23 = .ok (.ifCond .ne 25, 3) := by decide +kernel
theorem dX6_behind_26 : decode cX6_behind 26 = .ok (.iload 4, 2) := by decide +kernel
theorem dX6_behind_28 : decode cX6_behind 28 = .ok (.ifCond .le 7, 3) := by decide +kernel
theorem dX6_behind_31 : decode cX6_behind 31 = .ok (.iconst 1, 1) := by decide +kernel
theorem dX6_behind_32 : decode cX6_behind 32 = .ok (.goto 18, 3) := by decide +kernel
theorem dX6_behind_35 : decode cX6_behind 35 = .ok (.iload 4, 2) := by decide +kernel
theorem dX6_behind_37 : decode cX6_behind 37 = .ok (.ifCond .ge 7, 3) := by decide +kernel
theorem dX6_behind_40 : decode cX6_behind 40 = .ok (.iconst (-1), 1) := by decide +kernel
theorem dX6_behind_41 : decode cX6_behind 41 = .ok (.goto 9, 3) := by decide +kernel
theorem dX6_behind_44 : decode cX6_behind 44 = .ok (.iconst 0, 1) := by decide +kernel
theorem dX6_behind_45 : decode cX6_behind 45 = .ok (.goto 5, 3) := by decide +kernel
theorem dX6_behind_48 : decode cX6_behind 48 = .ok (.iload 5, 2) := by decide +kernel
theorem dX6_behind_50 : decode cX6_behind 50 = .ok (.istore 5, 2) := by decide +kernel
theorem dX6_behind_52 : decode cX6_behind 52 = .ok (.iload_n 1, 1) := by decide +kernel
theorem dX6_behind_53 : decode cX6_behind 53 = .ok (.iload 5, 2) := by decide +kernel
theorem dX6_behind_55 : decode cX6_behind 55 = .ok (.iadd, 1) := by decide +kernel
theorem dX6_behind_56 : decode cX6_behind 56 = .ok (.ireturn, 1) := by decide +kernel
theorem dX6_moved_0 : decode cX6_moved 0 = .ok (.iload_n 1, 1) := by decide +kernel
theorem dX6_moved_1 : decode cX6_moved 1 = .ok (.aload_n 0, 1) := by decide +kernel
theorem dX6_moved_2 : decode cX6_moved 2 = .ok (.iload_n 2, 1) := by decide +kernel
theorem dX6_moved_3 : decode cX6_moved 3 = .ok (.invokevirtual 125, 3) := by decide +kernel
theorem dX6_moved_6 : decode cX6_moved 6 = .ok (.imul, 1) := by decide +kernel
theorem dX6_moved_7 : decode cX6_moved 7 = .ok (.iload_n 3, 1) := by decide +kernel
theorem dX6_moved_8 : decode cX6_moved 8 = .ok (.imul, 1) := by decide +kernel
theorem dX6_moved_9 : decode cX6_moved 9 = .ok (.sipush 10000, 3) := by decide +kernel
theorem dX6_moved_12 : decode cX6_moved 12 = .ok (.idiv, 1) := by decide +kernel
theorem dX6_moved_13 : decode cX6_moved 13 = .ok (.ireturn, 1) := by decide +kernel
theorem dX6_speciesOf_0 : decode cX6_speciesOf 0 = .ok (.aload_n 0, 1) := by decide +kernel
theorem dX6_speciesOf_1 : decode cX6_speciesOf 1 = .ok (.getfield 20, 3) := by decide +kernel
theorem dX6_speciesOf_4 : decode cX6_speciesOf 4 = .ok (.aload_n 0, 1) := by decide +kernel
theorem dX6_speciesOf_5 : decode cX6_speciesOf 5 = .ok (.getfield 50, 3) := by decide +kernel
theorem dX6_speciesOf_8 : decode cX6_speciesOf 8 = .ok (.iload_n 1, 1) := by decide +kernel
theorem dX6_speciesOf_9 : decode cX6_speciesOf 9 = .ok (.iaload, 1) := by decide +kernel
theorem dX6_speciesOf_10 : decode cX6_speciesOf 10 = .ok (.iaload, 1) := by decide +kernel
theorem dX6_speciesOf_11 : decode cX6_speciesOf 11 = .ok (.ireturn, 1) := by decide +kernel
theorem dX6_widthAt_0 : decode cX6_widthAt 0 = .ok (.aload_n 0, 1) := by decide +kernel
theorem dX6_widthAt_1 : decode cX6_widthAt 1 = .ok (.getfield 59, 3) := by decide +kernel
theorem dX6_widthAt_4 : decode cX6_widthAt 4 = .ok (.iload_n 1, 1) := by decide +kernel
theorem dX6_widthAt_5 : decode cX6_widthAt 5 = .ok (.iaload, 1) := by decide +kernel
theorem dX6_widthAt_6 : decode cX6_widthAt 6 = .ok (.aload_n 0, 1) := by decide +kernel
theorem dX6_widthAt_7 : decode cX6_widthAt 7 = .ok (.aload_n 0, 1) := by decide +kernel
theorem dX6_widthAt_8 : decode cX6_widthAt 8 = .ok (.getfield 59, 3) := by decide +kernel
theorem dX6_widthAt_11 : decode cX6_widthAt 11 = .ok (.iload_n 1, 1) := by decide +kernel
theorem dX6_widthAt_12 : decode cX6_widthAt 12 = .ok (.iaload, 1) := by decide +kernel
theorem dX6_widthAt_13 : decode cX6_widthAt 13 = .ok (.aload_n 0, 1) := by decide +kernel
theorem dX6_widthAt_14 : decode cX6_widthAt 14 = .ok (.iload_n 1, 1) := by decide +kernel
theorem dX6_widthAt_15 : decode cX6_widthAt 15 = .ok (.invokevirtual 129, 3) := by decide +kernel
theorem dX6_widthAt_18 : decode cX6_widthAt 18 = .ok (.iload_n 2, 1) := by decide +kernel
theorem dX6_widthAt_19 : decode cX6_widthAt 19 = .ok (.aload_n 0, 1) := by decide +kernel
theorem dX6_widthAt_20 : decode cX6_widthAt 20 = .ok (.getfield 62, 3) := by decide +kernel
theorem dX6_widthAt_23 : decode cX6_widthAt 23 = .ok (.iload_n 1, 1) := by decide +kernel
theorem dX6_widthAt_24 : decode cX6_widthAt 24 = .ok (.iaload, 1) := by decide +kernel
theorem dX6_widthAt_25 : decode cX6_widthAt 25 = .ok (.isub, 1) := by decide +kernel
theorem dX6_widthAt_26 : decode cX6_widthAt 26 = .ok (.invokevirtual 132, 3) := by decide +kernel
theorem dX6_widthAt_29 : decode cX6_widthAt 29 = .ok (.iadd, 1) := by decide +kernel
theorem dX6_widthAt_30 : decode cX6_widthAt 30 = .ok (.ireturn, 1) := by decide +kernel
theorem dX6_wouldBreak_0 : decode cX6_wouldBreak 0 = .ok (.aload_n 0, 1) := by decide +kernel
theorem dX6_wouldBreak_1 : decode cX6_wouldBreak 1 = .ok (.getfield 74, 3) := by decide +kernel
theorem dX6_wouldBreak_4 : decode cX6_wouldBreak 4 = .ok (.iload_n 1, 1) := by decide +kernel
theorem dX6_wouldBreak_5 : decode cX6_wouldBreak 5 = .ok (.iaload, 1) := by decide +kernel
theorem dX6_wouldBreak_6 : decode cX6_wouldBreak 6 = .ok (.istore_n 3, 1) := by decide +kernel
theorem dX6_wouldBreak_7 : decode cX6_wouldBreak 7 = .ok (.aload_n 0, 1) := by decide +kernel
theorem dX6_wouldBreak_8 : decode cX6_wouldBreak 8 = .ok (.getfield 71, 3) := by decide +kernel
theorem dX6_wouldBreak_11 : decode cX6_wouldBreak 11 = .ok (.iload_n 1, 1) := by decide +kernel
theorem dX6_wouldBreak_12 : decode cX6_wouldBreak 12 = .ok (.iaload, 1) := by decide +kernel
theorem dX6_wouldBreak_13 : decode cX6_wouldBreak 13 = .ok (.iconst 1, 1) := by decide +kernel
theorem dX6_wouldBreak_14 : decode cX6_wouldBreak 14 = .ok (.if_icmp .ne 47, 3) := by decide +kernel
theorem dX6_wouldBreak_17 : decode cX6_wouldBreak 17 = .ok (.aload_n 0, 1) := by decide +kernel
theorem dX6_wouldBreak_18 : decode cX6_wouldBreak 18 = .ok (.aload_n 0, 1) := by decide +kernel
theorem dX6_wouldBreak_19 : decode cX6_wouldBreak 19 = .ok (.getfield 80, 3) := by decide +kernel
theorem dX6_wouldBreak_22 : decode cX6_wouldBreak 22 = .ok (.iload_n 1, 1) := by decide +kernel
theorem dX6_wouldBreak_23 : decode cX6_wouldBreak 23 = .ok (.iaload, 1) := by decide +kernel
theorem dX6_wouldBreak_24 : decode cX6_wouldBreak 24 = .ok (.aload_n 0, 1) := by decide +kernel
theorem dX6_wouldBreak_25 : decode cX6_wouldBreak 25 = .ok (.iload_n 3, 1) := by decide +kernel
theorem dX6_wouldBreak_26 : decode cX6_wouldBreak 26 = .ok (.invokevirtual 129, 3) := by decide +kernel
theorem dX6_wouldBreak_29 : decode cX6_wouldBreak 29 = .ok (.iload_n 2, 1) := by decide +kernel
theorem dX6_wouldBreak_30 : decode cX6_wouldBreak 30 = .ok (.aload_n 0, 1) := by decide +kernel
theorem dX6_wouldBreak_31 : decode cX6_wouldBreak 31 = .ok (.getfield 96, 3) := by decide +kernel
theorem dX6_wouldBreak_34 : decode cX6_wouldBreak 34 = .ok (.iload_n 1, 1) := by decide +kernel
theorem dX6_wouldBreak_35 : decode cX6_wouldBreak 35 = .ok (.iaload, 1) := by decide +kernel
theorem dX6_wouldBreak_36 : decode cX6_wouldBreak 36 = .ok (.isub, 1) := by decide +kernel
theorem dX6_wouldBreak_37 : decode cX6_wouldBreak 37 = .ok (.invokevirtual 132, 3) := by decide +kernel
theorem dX6_wouldBreak_40 : decode cX6_wouldBreak 40 = .ok (.istore 4, 2) := by decide +kernel
theorem dX6_wouldBreak_42 : decode cX6_wouldBreak 42 = .ok (.iload 4, 2) := by decide +kernel
theorem dX6_wouldBreak_44 : decode cX6_wouldBreak 44 = .ok (.iconst 5, 1) := by decide +kernel
theorem dX6_wouldBreak_45 : decode cX6_wouldBreak 45 = .ok (.if_icmp .gt 10, 3) := by decide +kernel
theorem dX6_wouldBreak_48 : decode cX6_wouldBreak 48 = .ok (.iload 4, 2) := by decide +kernel
theorem dX6_wouldBreak_50 : decode cX6_wouldBreak 50 = .ok (.bipush (-5), 2) := by decide +kernel
theorem dX6_wouldBreak_52 : decode cX6_wouldBreak 52 = .ok (.if_icmp .ge 7, 3) := by decide +kernel
theorem dX6_wouldBreak_55 : decode cX6_wouldBreak 55 = .ok (.iconst 1, 1) := by decide +kernel
theorem dX6_wouldBreak_56 : decode cX6_wouldBreak 56 = .ok (.goto 4, 3) := by decide +kernel
theorem dX6_wouldBreak_59 : decode cX6_wouldBreak 59 = .ok (.iconst 0, 1) := by decide +kernel
theorem dX6_wouldBreak_60 : decode cX6_wouldBreak 60 = .ok (.ireturn, 1) := by decide +kernel
theorem dX6_wouldBreak_61 : decode cX6_wouldBreak 61 = .ok (.aload_n 0, 1) := by decide +kernel
theorem dX6_wouldBreak_62 : decode cX6_wouldBreak 62 = .ok (.getfield 71, 3) := by decide +kernel
theorem dX6_wouldBreak_65 : decode cX6_wouldBreak 65 = .ok (.iload_n 1, 1) := by decide +kernel
theorem dX6_wouldBreak_66 : decode cX6_wouldBreak 66 = .ok (.iaload, 1) := by decide +kernel
theorem dX6_wouldBreak_67 : decode cX6_wouldBreak 67 = .ok (.iconst 2, 1) := by decide +kernel
theorem dX6_wouldBreak_68 : decode cX6_wouldBreak 68 = .ok (.if_icmp .ne 31, 3) := by decide +kernel
theorem dX6_wouldBreak_71 : decode cX6_wouldBreak 71 = .ok (.aload_n 0, 1) := by decide +kernel
theorem dX6_wouldBreak_72 : decode cX6_wouldBreak 72 = .ok (.iload_n 3, 1) := by decide +kernel
theorem dX6_wouldBreak_73 : decode cX6_wouldBreak 73 = .ok (.iload_n 2, 1) := by decide +kernel
theorem dX6_wouldBreak_74 : decode cX6_wouldBreak 74 = .ok (.invokevirtual 136, 3) := by decide +kernel
theorem dX6_wouldBreak_77 : decode cX6_wouldBreak 77 = .ok (.aload_n 0, 1) := by decide +kernel
theorem dX6_wouldBreak_78 : decode cX6_wouldBreak 78 = .ok (.getfield 80, 3) := by decide +kernel
theorem dX6_wouldBreak_81 : decode cX6_wouldBreak 81 = .ok (.iload_n 1, 1) := by decide +kernel
theorem dX6_wouldBreak_82 : decode cX6_wouldBreak 82 = .ok (.iaload, 1) := by decide +kernel
theorem dX6_wouldBreak_83 : decode cX6_wouldBreak 83 = .ok (.iconst 2, 1) := by decide +kernel
theorem dX6_wouldBreak_84 : decode cX6_wouldBreak 84 = .ok (.aload_n 0, 1) := by decide +kernel
theorem dX6_wouldBreak_85 : decode cX6_wouldBreak 85 = .ok (.getfield 83, 3) := by decide +kernel
theorem dX6_wouldBreak_88 : decode cX6_wouldBreak 88 = .ok (.iload_n 1, 1) := by decide +kernel
theorem dX6_wouldBreak_89 : decode cX6_wouldBreak 89 = .ok (.iaload, 1) := by decide +kernel
theorem dX6_wouldBreak_90 : decode cX6_wouldBreak 90 = .ok (.imul, 1) := by decide +kernel
theorem dX6_wouldBreak_91 : decode cX6_wouldBreak 91 = .ok (.isub, 1) := by decide +kernel
theorem dX6_wouldBreak_92 : decode cX6_wouldBreak 92 = .ok (.if_icmp .ge 7, 3) := by decide +kernel
theorem dX6_wouldBreak_95 : decode cX6_wouldBreak 95 = .ok (.iconst 1, 1) := by decide +kernel
theorem dX6_wouldBreak_96 : decode cX6_wouldBreak 96 = .ok (.goto 4, 3) := by decide +kernel
theorem dX6_wouldBreak_99 : decode cX6_wouldBreak 99 = .ok (.iconst 0, 1) := by decide +kernel
theorem dX6_wouldBreak_100 : decode cX6_wouldBreak 100 = .ok (.ireturn, 1) := by decide +kernel
theorem dX6_pass_0 : decode cX6_pass 0 = .ok (.aload_n 0, 1) := by decide +kernel
theorem dX6_pass_1 : decode cX6_pass 1 = .ok (.aload_n 0, 1) := by decide +kernel
theorem dX6_pass_2 : decode cX6_pass 2 = .ok (.iload_n 1, 1) := by decide +kernel
theorem dX6_pass_3 : decode cX6_pass 3 = .ok (.iconst 1, 1) := by decide +kernel
theorem dX6_pass_4 : decode cX6_pass 4 = .ok (.bipush 24, 2) := by decide +kernel
theorem dX6_pass_6 : decode cX6_pass 6 = .ok (.invokevirtual 111, 3) := by decide +kernel
theorem dX6_pass_9 : decode cX6_pass 9 = .ok (.ifCond .ne 7, 3) := by decide +kernel
theorem dX6_pass_12 : decode cX6_pass 12 = .ok (.iconst 1, 1) := by decide +kernel
theorem dX6_pass_13 : decode cX6_pass 13 = .ok (.goto 20, 3) := by decide +kernel
theorem dX6_pass_16 : decode cX6_pass 16 = .ok (.aload_n 0, 1) := by decide +kernel
theorem dX6_pass_17 : decode cX6_pass 17 = .ok (.getfield 140, 3) := by decide +kernel
theorem dX6_pass_20 : decode cX6_pass 20 = .ok (.iload_n 1, 1) := by decide +kernel
theorem dX6_pass_21 : decode cX6_pass 21 = .ok (.iadd, 1) := by decide +kernel
theorem dX6_pass_22 : decode cX6_pass 22 = .ok (.sipush 1200, 3) := by decide +kernel
theorem dX6_pass_25 : decode cX6_pass 25 = .ok (.if_icmp .le 7, 3) := by decide +kernel
theorem dX6_pass_28 : decode cX6_pass 28 = .ok (.iconst 2, 1) := by decide +kernel
theorem dX6_pass_29 : decode cX6_pass 29 = .ok (.goto 4, 3) := by decide +kernel
theorem dX6_pass_32 : decode cX6_pass 32 = .ok (.iconst 0, 1) := by decide +kernel
theorem dX6_pass_33 : decode cX6_pass 33 = .ok (.putfield 105, 3) := by decide +kernel
theorem dX6_pass_36 : decode cX6_pass 36 = .ok (.aload_n 0, 1) := by decide +kernel
theorem dX6_pass_37 : decode cX6_pass 37 = .ok (.getfield 105, 3) := by decide +kernel
theorem dX6_pass_40 : decode cX6_pass 40 = .ok (.ifCond .le 5, 3) := by decide +kernel
theorem dX6_pass_43 : decode cX6_pass 43 = .ok (.iconst 0, 1) := by decide +kernel
theorem dX6_pass_44 : decode cX6_pass 44 = .ok (.ireturn, 1) := by decide +kernel
theorem dX6_pass_45 : decode cX6_pass 45 = .ok (.iconst 0, 1) := by decide +kernel
theorem dX6_pass_46 : decode cX6_pass 46 = .ok (.istore_n 2, 1) := by decide +kernel
theorem dX6_pass_47 : decode cX6_pass 47 = .ok (.iconst 0, 1) := by decide +kernel
theorem dX6_pass_48 : decode cX6_pass 48 = .ok (.istore_n 3, 1) := by decide +kernel
theorem dX6_pass_49 : decode cX6_pass 49 = .ok (.iload_n 3, 1) := by decide +kernel
theorem dX6_pass_50 : decode cX6_pass 50 = .ok (.iload_n 1, 1) := by decide +kernel
theorem dX6_pass_51 : decode cX6_pass 51 = .ok (.if_icmp .ge 177, 3) := by decide +kernel
theorem dX6_pass_54 : decode cX6_pass 54 = .ok (.iconst 0, 1) := by decide +kernel
theorem dX6_pass_55 : decode cX6_pass 55 = .ok (.istore 4, 2) := by decide +kernel
theorem dX6_pass_57 : decode cX6_pass 57 = .ok (.iload 4, 2) := by decide +kernel
theorem dX6_pass_59 : decode cX6_pass 59 = .ok (.aload_n 0, 1) := by decide +kernel
theorem dX6_pass_60 : decode cX6_pass 60 = .ok (.getfield 108, 3) := by decide +kernel
theorem dX6_pass_63 : decode cX6_pass 63 = .ok (.if_icmp .ge 32, 3) := by decide +kernel
theorem dX6_pass_66 : decode cX6_pass 66 = .ok (.aload_n 0, 1) := by decide +kernel
theorem dX6_pass_67 : decode cX6_pass 67 = .ok (.getfield 38, 3) := by decide +kernel
theorem dX6_pass_70 : decode cX6_pass 70 = .ok (.iload 4, 2) := by decide +kernel
theorem dX6_pass_72 : decode cX6_pass 72 = .ok (.aload_n 0, 1) := by decide +kernel
theorem dX6_pass_73 : decode cX6_pass 73 = .ok (.aload_n 0, 1) := by decide +kernel
theorem dX6_pass_74 : decode cX6_pass 74 = .ok (.getfield 38, 3) := by decide +kernel
theorem dX6_pass_77 : decode cX6_pass 77 = .ok (.iload 4, 2) := by decide +kernel
theorem dX6_pass_79 : decode cX6_pass 79 = .ok (.iaload, 1) := by decide +kernel
theorem dX6_pass_80 : decode cX6_pass 80 = .ok (.aload_n 0, 1) := by decide +kernel
theorem dX6_pass_81 : decode cX6_pass 81 = .ok (.getfield 140, 3) := by decide +kernel
theorem dX6_pass_84 : decode cX6_pass 84 = .ok (.iconst 0, 1) := by decide +kernel
theorem dX6_pass_85 : decode cX6_pass 85 = .ok (.invokevirtual 143, 3) := by decide +kernel
theorem dX6_pass_88 : decode cX6_pass 88 = .ok (.iastore, 1) := by decide +kernel
theorem dX6_pass_89 : decode cX6_pass 89 = .ok (.iinc 4 1, 3) := by decide +kernel
theorem dX6_pass_92 : decode cX6_pass 92 = .ok (.goto (-35), 3) := by decide +kernel
theorem dX6_pass_95 : decode cX6_pass 95 = .ok (.iconst 0, 1) := by decide +kernel
theorem dX6_pass_96 : decode cX6_pass 96 = .ok (.istore 4, 2) := by decide +kernel
theorem dX6_pass_98 : decode cX6_pass 98 = .ok (.iload 4, 2) := by decide +kernel
theorem dX6_pass_100 : decode cX6_pass 100 = .ok (.aload_n 0, 1) := by decide +kernel
theorem dX6_pass_101 : decode cX6_pass 101 = .ok (.getfield 115, 3) := by decide +kernel
theorem dX6_pass_104 : decode cX6_pass 104 = .ok (.if_icmp .ge 38, 3) := by decide +kernel
theorem dX6_pass_107 : decode cX6_pass 107 = .ok (.aload_n 0, 1) := by decide +kernel
theorem dX6_pass_108 : decode cX6_pass 108 = .ok (.getfield 65, 3) := by decide +kernel
theorem dX6_pass_111 : decode cX6_pass 111 = .ok (.iload 4, 2) := by decide +kernel
theorem dX6_pass_113 : decode cX6_pass 113 = .ok (.aload_n 0, 1) := by decide +kernel
theorem dX6_pass_114 : decode cX6_pass 114 = .ok (.aload_n 0, 1) := by decide +kernel
theorem dX6_pass_115 : decode cX6_pass 115 = .ok (.getfield 65, 3) := by decide +kernel
theorem dX6_pass_118 : decode cX6_pass 118 = .ok (.iload 4, 2) := by decide +kernel
theorem dX6_pass_120 : decode cX6_pass 120 = .ok (.iaload, 1) := by decide +kernel
theorem dX6_pass_121 : decode cX6_pass 121 = .ok (.aload_n 0, 1) := by decide +kernel
theorem dX6_pass_122 : decode cX6_pass 122 = .ok (.getfield 140, 3) := by decide +kernel
theorem dX6_pass_125 : decode cX6_pass 125 = .ok (.aload_n 0, 1) := by decide +kernel
theorem dX6_pass_126 : decode cX6_pass 126 = .ok (.getfield 68, 3) := by decide +kernel
theorem dX6_pass_129 : decode cX6_pass 129 = .ok (.iload 4, 2) := by decide +kernel
theorem dX6_pass_131 : decode cX6_pass 131 = .ok (.iaload, 1) := by decide +kernel
theorem dX6_pass_132 : decode cX6_pass 132 = .ok (.invokevirtual 143, 3) := by decide +kernel
theorem dX6_pass_135 : decode cX6_pass 135 = .ok (.iastore, 1) := by decide +kernel
theorem dX6_pass_136 : decode cX6_pass 136 = .ok (.iinc 4 1, 3) := by decide +kernel
theorem dX6_pass_139 : decode cX6_pass 139 = .ok (.goto (-41), 3) := by decide +kernel
theorem dX6_pass_142 : decode cX6_pass 142 = .ok (.iconst 0, 1) := by decide +kernel
theorem dX6_pass_143 : decode cX6_pass 143 = .ok (.istore 4, 2) := by decide +kernel
theorem dX6_pass_145 : decode cX6_pass 145 = .ok (.iload 4, 2) := by decide +kernel
theorem dX6_pass_147 : decode cX6_pass 147 = .ok (.aload_n 0, 1) := by decide +kernel
theorem dX6_pass_148 : decode cX6_pass 148 = .ok (.getfield 118, 3) := by decide +kernel
theorem dX6_pass_151 : decode cX6_pass 151 = .ok (.if_icmp .ge 61, 3) := by decide +kernel
theorem dX6_pass_154 : decode cX6_pass 154 = .ok (.aload_n 0, 1) := by decide +kernel
theorem dX6_pass_155 : decode cX6_pass 155 = .ok (.getfield 89, 3) := by decide +kernel
theorem dX6_pass_158 : decode cX6_pass 158 = .ok (.iload 4, 2) := by decide +kernel
theorem dX6_pass_160 : decode cX6_pass 160 = .ok (.baload, 1) := by decide +kernel
theorem dX6_pass_161 : decode cX6_pass 161 = .ok (.ifCond .eq 45, 3) := by decide +kernel
theorem dX6_pass_164 : decode cX6_pass 164 = .ok (.aload_n 0, 1) := by decide +kernel
theorem dX6_pass_165 : decode cX6_pass 165 = .ok (.getfield 93, 3) := by decide +kernel
theorem dX6_pass_168 : decode cX6_pass 168 = .ok (.iload 4, 2) := by decide +kernel
theorem dX6_pass_170 : decode cX6_pass 170 = .ok (.baload, 1) := by decide +kernel
theorem dX6_pass_171 : decode cX6_pass 171 = .ok (.ifCond .ne 35, 3) := by decide +kernel
theorem dX6_pass_174 : decode cX6_pass 174 = .ok (.aload_n 0, 1) := by decide +kernel
theorem dX6_pass_175 : decode cX6_pass 175 = .ok (.iload 4, 2) := by decide +kernel
theorem dX6_pass_177 : decode cX6_pass 177 = .ok (.aload_n 0, 1) := by decide +kernel
theorem dX6_pass_178 : decode cX6_pass 178 = .ok (.getfield 65, 3) := by decide +kernel
theorem dX6_pass_181 : decode cX6_pass 181 = .ok (.aload_n 0, 1) := by decide +kernel
theorem dX6_pass_182 : decode cX6_pass 182 = .ok (.getfield 74, 3) := by decide +kernel
theorem dX6_pass_185 : decode cX6_pass 185 = .ok (.iload 4, 2) := by decide +kernel
theorem dX6_pass_187 : decode cX6_pass 187 = .ok (.iaload, 1) := by decide +kernel
theorem dX6_pass_188 : decode cX6_pass 188 = .ok (.iaload, 1) := by decide +kernel
theorem dX6_pass_189 : decode cX6_pass 189 = .ok (.invokevirtual 146, 3) := by decide +kernel
theorem dX6_pass_192 : decode cX6_pass 192 = .ok (.ifCond .eq 14, 3) := by decide +kernel
theorem dX6_pass_195 : decode cX6_pass 195 = .ok (.aload_n 0, 1) := by decide +kernel
theorem dX6_pass_196 : decode cX6_pass 196 = .ok (.getfield 93, 3) := by decide +kernel
theorem dX6_pass_199 : decode cX6_pass 199 = .ok (.iload 4, 2) := by decide +kernel
theorem dX6_pass_201 : decode cX6_pass 201 = .ok (.iconst 1, 1) := by decide +kernel
theorem dX6_pass_202 : decode cX6_pass 202 = .ok (.bastore, 1) := by decide +kernel
theorem dX6_pass_203 : decode cX6_pass 203 = .ok (.iinc 2 1, 3) := by decide +kernel
theorem dX6_pass_206 : decode cX6_pass 206 = .ok (.iinc 4 1, 3) := by decide +kernel
theorem dX6_pass_209 : decode cX6_pass 209 = .ok (.goto (-64), 3) := by decide +kernel
theorem dX6_pass_212 : decode cX6_pass 212 = .ok (.aload_n 0, 1) := by decide +kernel
theorem dX6_pass_213 : decode cX6_pass 213 = .ok (.dup, 1) := by decide +kernel
theorem dX6_pass_214 : decode cX6_pass 214 = .ok (.getfield 140, 3) := by decide +kernel
theorem dX6_pass_217 : decode cX6_pass 217 = .ok (.iconst 1, 1) := by decide +kernel
theorem dX6_pass_218 : decode cX6_pass 218 = .ok (.iadd, 1) := by decide +kernel
theorem dX6_pass_219 : decode cX6_pass 219 = .ok (.putfield 140, 3) := by decide +kernel
theorem dX6_pass_222 : decode cX6_pass 222 = .ok (.iinc 3 1, 3) := by decide +kernel
theorem dX6_pass_225 : decode cX6_pass 225 = .ok (.goto (-176), 3) := by decide +kernel
theorem dX6_pass_228 : decode cX6_pass 228 = .ok (.iload_n 2, 1) := by decide +kernel
theorem dX6_pass_229 : decode cX6_pass 229 = .ok (.ireturn, 1) := by decide +kernel
theorem dX6_board_0 : decode cX6_board 0 = .ok (.aload_n 0, 1) := by decide +kernel
theorem dX6_board_1 : decode cX6_board 1 = .ok (.iload_n 1, 1) := by decide +kernel
theorem dX6_board_2 : decode cX6_board 2 = .ok (.iconst 0, 1) := by decide +kernel
theorem dX6_board_3 : decode cX6_board 3 = .ok (.iconst 3, 1) := by decide +kernel
theorem dX6_board_4 : decode cX6_board 4 = .ok (.invokevirtual 111, 3) := by decide +kernel
theorem dX6_board_7 : decode cX6_board 7 = .ok (.ifCond .eq 43, 3) := by decide +kernel
theorem dX6_board_10 : decode cX6_board 10 = .ok (.aload_n 0, 1) := by decide +kernel
theorem dX6_board_11 : decode cX6_board 11 = .ok (.iload_n 2, 1) := by decide +kernel
theorem dX6_board_12 : decode cX6_board 12 = .ok (.iconst 0, 1) := by decide +kernel
theorem dX6_board_13 : decode cX6_board 13 = .ok (.bipush 9, 2) := by decide +kernel
theorem dX6_board_15 : decode cX6_board 15 = .ok (.invokevirtual 111, 3) := by decide +kernel
theorem dX6_board_18 : decode cX6_board 18 = .ok (.ifCond .eq 32, 3) := by decide +kernel
theorem dX6_board_21 : decode cX6_board 21 = .ok (.aload_n 0, 1) := by decide +kernel
theorem dX6_board_22 : decode cX6_board 22 = .ok (.iload_n 3, 1) := by decide +kernel
theorem dX6_board_23 : decode cX6_board 23 = .ok (.iconst 0, 1) := by decide +kernel
theorem dX6_board_24 : decode cX6_board 24 = .ok (.bipush 20, 2) := by decide +kernel
theorem dX6_board_26 : decode cX6_board 26 = .ok (.invokevirtual 111, 3) := by decide +kernel
theorem dX6_board_29 : decode cX6_board 29 = .ok (.ifCond .eq 21, 3) := by decide +kernel
theorem dX6_board_32 : decode cX6_board 32 = .ok (.aload_n 0, 1) := by decide +kernel
theorem dX6_board_33 : decode cX6_board 33 = .ok (.iload 4, 2) := by decide +kernel
theorem dX6_board_35 : decode cX6_board 35 = .ok (.bipush 100, 2) := by decide +kernel
theorem dX6_board_37 : decode cX6_board 37 = .ok (.sipush 6000, 3) := by decide +kernel
theorem dX6_board_40 : decode cX6_board 40 = .ok (.invokevirtual 111, 3) := by decide +kernel
theorem dX6_board_43 : decode cX6_board 43 = .ok (.ifCond .eq 7, 3) := by decide +kernel
theorem dX6_board_46 : decode cX6_board 46 = .ok (.iconst 1, 1) := by decide +kernel
theorem dX6_board_47 : decode cX6_board 47 = .ok (.goto 4, 3) := by decide +kernel
theorem dX6_board_50 : decode cX6_board 50 = .ok (.iconst 0, 1) := by decide +kernel
theorem dX6_board_51 : decode cX6_board 51 = .ok (.istore 7, 2) := by decide +kernel
theorem dX6_board_53 : decode cX6_board 53 = .ok (.aload_n 0, 1) := by decide +kernel
theorem dX6_board_54 : decode cX6_board 54 = .ok (.iload 7, 2) := by decide +kernel
theorem dX6_board_56 : decode cX6_board 56 = .ok (.ifCond .eq 26, 3) := by decide +kernel
theorem dX6_board_59 : decode cX6_board 59 = .ok (.aload_n 0, 1) := by decide +kernel
theorem dX6_board_60 : decode cX6_board 60 = .ok (.iload 5, 2) := by decide +kernel
theorem dX6_board_62 : decode cX6_board 62 = .ok (.bipush 100, 2) := by decide +kernel
theorem dX6_board_64 : decode cX6_board 64 = .ok (.sipush 30000, 3) := by decide +kernel
theorem dX6_board_67 : decode cX6_board 67 = .ok (.invokevirtual 111, 3) := by decide +kernel
theorem dX6_board_70 : decode cX6_board 70 = .ok (.ifCond .eq 12, 3) := by decide +kernel
theorem dX6_board_73 : decode cX6_board 73 = .ok (.aload_n 0, 1) := by decide +kernel
theorem dX6_board_74 : decode cX6_board 74 = .ok (.iload 6, 2) := by decide +kernel
theorem dX6_board_76 : decode cX6_board 76 = .ok (.invokevirtual 121, 3) := by decide +kernel
theorem dX6_board_79 : decode cX6_board 79 = .ok (.ifCond .ne 7, 3) := by decide +kernel
theorem dX6_board_82 : decode cX6_board 82 = .ok (.iconst 1, 1) := by decide +kernel
theorem dX6_board_83 : decode cX6_board 83 = .ok (.goto 17, 3) := by decide +kernel
theorem dX6_board_86 : decode cX6_board 86 = .ok (.aload_n 0, 1) := by decide +kernel
theorem dX6_board_87 : decode cX6_board 87 = .ok (.getfield 108, 3) := by decide +kernel
theorem dX6_board_90 : decode cX6_board 90 = .ok (.bipush 20, 2) := by decide +kernel
theorem dX6_board_92 : decode cX6_board 92 = .ok (.if_icmp .ne 7, 3) := by decide +kernel
theorem dX6_board_95 : decode cX6_board 95 = .ok (.iconst 2, 1) := by decide +kernel
theorem dX6_board_96 : decode cX6_board 96 = .ok (.goto 4, 3) := by decide +kernel
theorem dX6_board_99 : decode cX6_board 99 = .ok (.iconst 0, 1) := by decide +kernel
theorem dX6_board_100 : decode cX6_board 100 = .ok (.putfield 105, 3) := by decide +kernel
theorem dX6_board_103 : decode cX6_board 103 = .ok (.iconst 0, 1) := by decide +kernel
theorem dX6_board_104 : decode cX6_board 104 = .ok (.istore 8, 2) := by decide +kernel
theorem dX6_board_106 : decode cX6_board 106 = .ok (.iload 8, 2) := by decide +kernel
theorem dX6_board_108 : decode cX6_board 108 = .ok (.aload_n 0, 1) := by decide +kernel
theorem dX6_board_109 : decode cX6_board 109 = .ok (.getfield 108, 3) := by decide +kernel
theorem dX6_board_112 : decode cX6_board 112 = .ok (.if_icmp .ge 73, 3) := by decide +kernel
theorem dX6_board_115 : decode cX6_board 115 = .ok (.aload_n 0, 1) := by decide +kernel
theorem dX6_board_116 : decode cX6_board 116 = .ok (.getfield 105, 3) := by decide +kernel
theorem dX6_board_119 : decode cX6_board 119 = .ok (.ifCond .ne 66, 3) := by decide +kernel
theorem dX6_board_122 : decode cX6_board 122 = .ok (.aload_n 0, 1) := by decide +kernel
theorem dX6_board_123 : decode cX6_board 123 = .ok (.getfield 23, 3) := by decide +kernel
theorem dX6_board_126 : decode cX6_board 126 = .ok (.iload 8, 2) := by decide +kernel
theorem dX6_board_128 : decode cX6_board 128 = .ok (.iaload, 1) := by decide +kernel
theorem dX6_board_129 : decode cX6_board 129 = .ok (.iload_n 2, 1) := by decide +kernel
theorem dX6_board_130 : decode cX6_board 130 = .ok (.if_icmp .ne 29, 3) := by decide +kernel
theorem dX6_board_133 : decode cX6_board 133 = .ok (.aload_n 0, 1) := by decide +kernel
theorem dX6_board_134 : decode cX6_board 134 = .ok (.getfield 26, 3) := by decide +kernel
theorem dX6_board_137 : decode cX6_board 137 = .ok (.iload 8, 2) := by decide +kernel
theorem dX6_board_139 : decode cX6_board 139 = .ok (.iaload, 1) := by decide +kernel
theorem dX6_board_140 : decode cX6_board 140 = .ok (.iload_n 3, 1) := by decide +kernel
theorem dX6_board_141 : decode cX6_board 141 = .ok (.if_icmp .eq 14, 3) := by decide +kernel
theorem dX6_board_144 : decode cX6_board 144 = .ok (.aload_n 0, 1) := by decide +kernel
theorem dX6_board_145 : decode cX6_board 145 = .ok (.getfield 20, 3) := by decide +kernel
theorem dX6_board_148 : decode cX6_board 148 = .ok (.iload 8, 2) := by decide +kernel
theorem dX6_board_150 : decode cX6_board 150 = .ok (.iaload, 1) := by decide +kernel
theorem dX6_board_151 : decode cX6_board 151 = .ok (.iload_n 1, 1) := by decide +kernel
theorem dX6_board_152 : decode cX6_board 152 = .ok (.if_icmp .eq 7, 3) := by decide +kernel
theorem dX6_board_155 : decode cX6_board 155 = .ok (.iconst 1, 1) := by decide +kernel
theorem dX6_board_156 : decode cX6_board 156 = .ok (.goto 4, 3) := by decide +kernel
theorem dX6_board_159 : decode cX6_board 159 = .ok (.iconst 0, 1) := by decide +kernel
theorem dX6_board_160 : decode cX6_board 160 = .ok (.istore 9, 2) := by decide +kernel
theorem dX6_board_162 : decode cX6_board 162 = .ok (.aload_n 0, 1) := by decide +kernel
theorem dX6_board_163 : decode cX6_board 163 = .ok (.iload 9, 2) := by decide +kernel
theorem dX6_board_165 : decode cX6_board 165 = .ok (.ifCond .eq 7, 3) := by decide +kernel
theorem dX6_board_168 : decode cX6_board 168 = .ok (.iconst 2, 1) := by decide +kernel
theorem dX6_board_169 : decode cX6_board 169 = .ok (.goto 7, 3) := by decide +kernel
theorem dX6_board_172 : decode cX6_board 172 = .ok (.aload_n 0, 1) := by decide +kernel
theorem dX6_board_173 : decode cX6_board 173 = .ok (.getfield 105, 3) := by decide +kernel
theorem dX6_board_176 : decode cX6_board 176 = .ok (.putfield 105, 3) := by decide +kernel
theorem dX6_board_179 : decode cX6_board 179 = .ok (.iinc 8 1, 3) := by decide +kernel
theorem dX6_board_182 : decode cX6_board 182 = .ok (.goto (-76), 3) := by decide +kernel
theorem dX6_board_185 : decode cX6_board 185 = .ok (.aload_n 0, 1) := by decide +kernel
theorem dX6_board_186 : decode cX6_board 186 = .ok (.getfield 105, 3) := by decide +kernel
theorem dX6_board_189 : decode cX6_board 189 = .ok (.ifCond .le 5, 3) := by decide +kernel
theorem dX6_board_192 : decode cX6_board 192 = .ok (.iconst 0, 1) := by decide +kernel
theorem dX6_board_193 : decode cX6_board 193 = .ok (.ireturn, 1) := by decide +kernel
theorem dX6_board_194 : decode cX6_board 194 = .ok (.aload_n 0, 1) := by decide +kernel
theorem dX6_board_195 : decode cX6_board 195 = .ok (.getfield 108, 3) := by decide +kernel
theorem dX6_board_198 : decode cX6_board 198 = .ok (.istore 8, 2) := by decide +kernel
theorem dX6_board_200 : decode cX6_board 200 = .ok (.aload_n 0, 1) := by decide +kernel
theorem dX6_board_201 : decode cX6_board 201 = .ok (.getfield 20, 3) := by decide +kernel
theorem dX6_board_204 : decode cX6_board 204 = .ok (.iload 8, 2) := by decide +kernel
theorem dX6_board_206 : decode cX6_board 206 = .ok (.iload_n 1, 1) := by decide +kernel
theorem dX6_board_207 : decode cX6_board 207 = .ok (.iastore, 1) := by decide +kernel
theorem dX6_board_208 : decode cX6_board 208 = .ok (.aload_n 0, 1) := by decide +kernel
theorem dX6_board_209 : decode cX6_board 209 = .ok (.getfield 23, 3) := by decide +kernel
theorem dX6_board_212 : decode cX6_board 212 = .ok (.iload 8, 2) := by decide +kernel
theorem dX6_board_214 : decode cX6_board 214 = .ok (.iload_n 2, 1) := by decide +kernel
theorem dX6_board_215 : decode cX6_board 215 = .ok (.iastore, 1) := by decide +kernel
theorem dX6_board_216 : decode cX6_board 216 = .ok (.aload_n 0, 1) := by decide +kernel
theorem dX6_board_217 : decode cX6_board 217 = .ok (.getfield 26, 3) := by decide +kernel
theorem dX6_board_220 : decode cX6_board 220 = .ok (.iload 8, 2) := by decide +kernel
theorem dX6_board_222 : decode cX6_board 222 = .ok (.iload_n 3, 1) := by decide +kernel
theorem dX6_board_223 : decode cX6_board 223 = .ok (.iastore, 1) := by decide +kernel
theorem dX6_board_224 : decode cX6_board 224 = .ok (.aload_n 0, 1) := by decide +kernel
theorem dX6_board_225 : decode cX6_board 225 = .ok (.getfield 29, 3) := by decide +kernel
theorem dX6_board_228 : decode cX6_board 228 = .ok (.iload 8, 2) := by decide +kernel
theorem dX6_board_230 : decode cX6_board 230 = .ok (.iload 4, 2) := by decide +kernel
theorem dX6_board_232 : decode cX6_board 232 = .ok (.iastore, 1) := by decide +kernel
theorem dX6_board_233 : decode cX6_board 233 = .ok (.aload_n 0, 1) := by decide +kernel
theorem dX6_board_234 : decode cX6_board 234 = .ok (.getfield 32, 3) := by decide +kernel
theorem dX6_board_237 : decode cX6_board 237 = .ok (.iload 8, 2) := by decide +kernel
theorem dX6_board_239 : decode cX6_board 239 = .ok (.iload 5, 2) := by decide +kernel
theorem dX6_board_241 : decode cX6_board 241 = .ok (.iastore, 1) := by decide +kernel
theorem dX6_board_242 : decode cX6_board 242 = .ok (.aload_n 0, 1) := by decide +kernel
theorem dX6_board_243 : decode cX6_board 243 = .ok (.getfield 35, 3) := by decide +kernel
theorem dX6_board_246 : decode cX6_board 246 = .ok (.iload 8, 2) := by decide +kernel
theorem dX6_board_248 : decode cX6_board 248 = .ok (.iload 6, 2) := by decide +kernel
theorem dX6_board_250 : decode cX6_board 250 = .ok (.iastore, 1) := by decide +kernel
theorem dX6_board_251 : decode cX6_board 251 = .ok (.aload_n 0, 1) := by decide +kernel
theorem dX6_board_252 : decode cX6_board 252 = .ok (.getfield 38, 3) := by decide +kernel
theorem dX6_board_255 : decode cX6_board 255 = .ok (.iload 8, 2) := by decide +kernel
theorem dX6_board_257 : decode cX6_board 257 = .ok (.iload 6, 2) := by decide +kernel
theorem dX6_board_259 : decode cX6_board 259 = .ok (.iastore, 1) := by decide +kernel
theorem dX6_board_260 : decode cX6_board 260 = .ok (.aload_n 0, 1) := by decide +kernel
theorem dX6_board_261 : decode cX6_board 261 = .ok (.dup, 1) := by decide +kernel
theorem dX6_board_262 : decode cX6_board 262 = .ok (.getfield 108, 3) := by decide +kernel
theorem dX6_board_265 : decode cX6_board 265 = .ok (.iconst 1, 1) := by decide +kernel
theorem dX6_board_266 : decode cX6_board 266 = .ok (.iadd, 1) := by decide +kernel
theorem dX6_board_267 : decode cX6_board 267 = .ok (.putfield 108, 3) := by decide +kernel
theorem dX6_board_270 : decode cX6_board 270 = .ok (.iload 8, 2) := by decide +kernel
theorem dX6_board_272 : decode cX6_board 272 = .ok (.ireturn, 1) := by decide +kernel
theorem dX6_boardWidth_0 : decode cX6_boardWidth 0 = .ok (.aload_n 0, 1) := by decide +kernel
theorem dX6_boardWidth_1 : decode cX6_boardWidth 1 = .ok (.getfield 29, 3) := by decide +kernel
theorem dX6_boardWidth_4 : decode cX6_boardWidth 4 = .ok (.iload_n 1, 1) := by decide +kernel
theorem dX6_boardWidth_5 : decode cX6_boardWidth 5 = .ok (.iaload, 1) := by decide +kernel
theorem dX6_boardWidth_6 : decode cX6_boardWidth 6 = .ok (.aload_n 0, 1) := by decide +kernel
theorem dX6_boardWidth_7 : decode cX6_boardWidth 7 = .ok (.aload_n 0, 1) := by decide +kernel
theorem dX6_boardWidth_8 : decode cX6_boardWidth 8 = .ok (.getfield 29, 3) := by decide +kernel
theorem dX6_boardWidth_11 : decode cX6_boardWidth 11 = .ok (.iload_n 1, 1) := by decide +kernel
theorem dX6_boardWidth_12 : decode cX6_boardWidth 12 = .ok (.iaload, 1) := by decide +kernel
theorem dX6_boardWidth_13 : decode cX6_boardWidth 13 = .ok (.aload_n 0, 1) := by decide +kernel
theorem dX6_boardWidth_14 : decode cX6_boardWidth 14 = .ok (.getfield 20, 3) := by decide +kernel
theorem dX6_boardWidth_17 : decode cX6_boardWidth 17 = .ok (.iload_n 1, 1) := by decide +kernel
theorem dX6_boardWidth_18 : decode cX6_boardWidth 18 = .ok (.iaload, 1) := by decide +kernel
theorem dX6_boardWidth_19 : decode cX6_boardWidth 19 = .ok (.aload_n 0, 1) := by decide +kernel
theorem dX6_boardWidth_20 : decode cX6_boardWidth 20 = .ok (.getfield 38, 3) := by decide +kernel
theorem dX6_boardWidth_23 : decode cX6_boardWidth 23 = .ok (.iload_n 1, 1) := by decide +kernel
theorem dX6_boardWidth_24 : decode cX6_boardWidth 24 = .ok (.iaload, 1) := by decide +kernel
theorem dX6_boardWidth_25 : decode cX6_boardWidth 25 = .ok (.aload_n 0, 1) := by decide +kernel
theorem dX6_boardWidth_26 : decode cX6_boardWidth 26 = .ok (.getfield 35, 3) := by decide +kernel
theorem dX6_boardWidth_29 : decode cX6_boardWidth 29 = .ok (.iload_n 1, 1) := by decide +kernel
theorem dX6_boardWidth_30 : decode cX6_boardWidth 30 = .ok (.iaload, 1) := by decide +kernel
theorem dX6_boardWidth_31 : decode cX6_boardWidth 31 = .ok (.isub, 1) := by decide +kernel
theorem dX6_boardWidth_32 : decode cX6_boardWidth 32 = .ok (.invokevirtual 132, 3) := by decide +kernel
theorem dX6_boardWidth_35 : decode cX6_boardWidth 35 = .ok (.iadd, 1) := by decide +kernel
theorem dX6_boardWidth_36 : decode cX6_boardWidth 36 = .ok (.ireturn, 1) := by decide +kernel
theorem dX6_isTaken_0 : decode cX6_isTaken 0 = .ok (.iconst 0, 1) := by decide +kernel
theorem dX6_isTaken_1 : decode cX6_isTaken 1 = .ok (.istore 4, 2) := by decide +kernel
theorem dX6_isTaken_3 : decode cX6_isTaken 3 = .ok (.iconst 0, 1) := by decide +kernel
theorem dX6_isTaken_4 : decode cX6_isTaken 4 = .ok (.istore 5, 2) := by decide +kernel
theorem dX6_isTaken_6 : decode cX6_isTaken 6 = .ok (.iload 5, 2) := by decide +kernel
theorem dX6_isTaken_8 : decode cX6_isTaken 8 = .ok (.aload_n 0, 1) := by decide +kernel
theorem dX6_isTaken_9 : decode cX6_isTaken 9 = .ok (.getfield 115, 3) := by decide +kernel
theorem dX6_isTaken_12 : decode cX6_isTaken 12 = .ok (.if_icmp .ge 68, 3) := by decide +kernel
theorem dX6_isTaken_15 : decode cX6_isTaken 15 = .ok (.iload 4, 2) := by decide +kernel
theorem dX6_isTaken_17 : decode cX6_isTaken 17 = .ok (.ifCond .ne 50, 3) := by decide +kernel
theorem dX6_isTaken_20 : decode cX6_isTaken 20 = .ok (.aload_n 0, 1) := by decide +kernel
theorem dX6_isTaken_21 : decode cX6_isTaken 21 = .ok (.getfield 50, 3) := by decide +kernel
theorem dX6_isTaken_24 : decode cX6_isTaken 24 = .ok (.iload 5, 2) := by decide +kernel
theorem dX6_isTaken_26 : decode cX6_isTaken 26 = .ok (.iaload, 1) := by decide +kernel
theorem dX6_isTaken_27 : decode cX6_isTaken 27 = .ok (.iload_n 1, 1) := by decide +kernel
theorem dX6_isTaken_28 : decode cX6_isTaken 28 = .ok (.if_icmp .ne 43, 3) := by decide +kernel
theorem dX6_isTaken_31 : decode cX6_isTaken 31 = .ok (.iload_n 2, 1) := by decide +kernel
theorem dX6_isTaken_32 : decode cX6_isTaken 32 = .ok (.aload_n 0, 1) := by decide +kernel
theorem dX6_isTaken_33 : decode cX6_isTaken 33 = .ok (.getfield 53, 3) := by decide +kernel
theorem dX6_isTaken_36 : decode cX6_isTaken 36 = .ok (.iload 5, 2) := by decide +kernel
theorem dX6_isTaken_38 : decode cX6_isTaken 38 = .ok (.iaload, 1) := by decide +kernel
theorem dX6_isTaken_39 : decode cX6_isTaken 39 = .ok (.aload_n 0, 1) := by decide +kernel
theorem dX6_isTaken_40 : decode cX6_isTaken 40 = .ok (.getfield 56, 3) := by decide +kernel
theorem dX6_isTaken_43 : decode cX6_isTaken 43 = .ok (.iload 5, 2) := by decide +kernel
theorem dX6_isTaken_45 : decode cX6_isTaken 45 = .ok (.iaload, 1) := by decide +kernel
theorem dX6_isTaken_46 : decode cX6_isTaken 46 = .ok (.iadd, 1) := by decide +kernel
theorem dX6_isTaken_47 : decode cX6_isTaken 47 = .ok (.bipush 30, 2) := by decide +kernel
theorem dX6_isTaken_49 : decode cX6_isTaken 49 = .ok (.iadd, 1) := by decide +kernel
theorem dX6_isTaken_50 : decode cX6_isTaken 50 = .ok (.if_icmp .ge 21, 3) := by decide +kernel
theorem dX6_isTaken_53 : decode cX6_isTaken 53 = .ok (.iload_n 3, 1) := by decide +kernel
theorem dX6_isTaken_54 : decode cX6_isTaken 54 = .ok (.aload_n 0, 1) := by decide +kernel
theorem dX6_isTaken_55 : decode cX6_isTaken 55 = .ok (.getfield 53, 3) := by decide +kernel
theorem dX6_isTaken_58 : decode cX6_isTaken 58 = .ok (.iload 5, 2) := by decide +kernel
theorem dX6_isTaken_60 : decode cX6_isTaken 60 = .ok (.iaload, 1) := by decide +kernel
theorem dX6_isTaken_61 : decode cX6_isTaken 61 = .ok (.bipush 30, 2) := by decide +kernel
theorem dX6_isTaken_63 : decode cX6_isTaken 63 = .ok (.isub, 1) := by decide +kernel
theorem dX6_isTaken_64 : decode cX6_isTaken 64 = .ok (.if_icmp .le 7, 3) := by decide +kernel
theorem dX6_isTaken_67 : decode cX6_isTaken 67 = .ok (.iconst 1, 1) := by decide +kernel
theorem dX6_isTaken_68 : decode cX6_isTaken 68 = .ok (.goto 4, 3) := by decide +kernel
theorem dX6_isTaken_71 : decode cX6_isTaken 71 = .ok (.iconst 0, 1) := by decide +kernel
theorem dX6_isTaken_72 : decode cX6_isTaken 72 = .ok (.istore 4, 2) := by decide +kernel
theorem dX6_isTaken_74 : decode cX6_isTaken 74 = .ok (.iinc 5 1, 3) := by decide +kernel
theorem dX6_isTaken_77 : decode cX6_isTaken 77 = .ok (.goto (-71), 3) := by decide +kernel
theorem dX6_isTaken_80 : decode cX6_isTaken 80 = .ok (.iload 4, 2) := by decide +kernel
theorem dX6_isTaken_82 : decode cX6_isTaken 82 = .ok (.ireturn, 1) := by decide +kernel
theorem dX6_hasKnot_0 : decode cX6_hasKnot 0 = .ok (.iconst 0, 1) := by decide +kernel
theorem dX6_hasKnot_1 : decode cX6_hasKnot 1 = .ok (.istore 4, 2) := by decide +kernel
theorem dX6_hasKnot_3 : decode cX6_hasKnot 3 = .ok (.iconst 0, 1) := by decide +kernel
theorem dX6_hasKnot_4 : decode cX6_hasKnot 4 = .ok (.istore 5, 2) := by decide +kernel
theorem dX6_hasKnot_6 : decode cX6_hasKnot 6 = .ok (.iload 5, 2) := by decide +kernel
theorem dX6_hasKnot_8 : decode cX6_hasKnot 8 = .ok (.aload_n 0, 1) := by decide +kernel
theorem dX6_hasKnot_9 : decode cX6_hasKnot 9 = .ok (.getfield 41, 3) := by decide +kernel
theorem dX6_hasKnot_12 : decode cX6_hasKnot 12 = .ok (.iload_n 1, 1) := by decide +kernel
theorem dX6_hasKnot_13 : decode cX6_hasKnot 13 = .ok (.iaload, 1) := by decide +kernel
theorem dX6_hasKnot_14 : decode cX6_hasKnot 14 = .ok (.if_icmp .ge 51, 3) := by decide +kernel
theorem dX6_hasKnot_17 : decode cX6_hasKnot 17 = .ok (.iload 4, 2) := by decide +kernel
theorem dX6_hasKnot_19 : decode cX6_hasKnot 19 = .ok (.ifCond .ne 33, 3) := by decide +kernel
theorem dX6_hasKnot_22 : decode cX6_hasKnot 22 = .ok (.iload_n 2, 1) := by decide +kernel
theorem dX6_hasKnot_23 : decode cX6_hasKnot 23 = .ok (.aload_n 0, 1) := by decide +kernel
theorem dX6_hasKnot_24 : decode cX6_hasKnot 24 = .ok (.getfield 47, 3) := by decide +kernel
theorem dX6_hasKnot_27 : decode cX6_hasKnot 27 = .ok (.iconst 4, 1) := by decide +kernel
theorem dX6_hasKnot_28 : decode cX6_hasKnot 28 = .ok (.iload_n 1, 1) := by decide +kernel
theorem dX6_hasKnot_29 : decode cX6_hasKnot 29 = .ok (.imul, 1) := by decide +kernel
theorem dX6_hasKnot_30 : decode cX6_hasKnot 30 = .ok (.iload 5, 2) := by decide +kernel
theorem dX6_hasKnot_32 : decode cX6_hasKnot 32 = .ok (.iadd, 1) := by decide +kernel
theorem dX6_hasKnot_33 : decode cX6_hasKnot 33 = .ok (.iaload, 1) := by decide +kernel
theorem dX6_hasKnot_34 : decode cX6_hasKnot 34 = .ok (.if_icmp .ge 22, 3) := by decide +kernel
theorem dX6_hasKnot_37 : decode cX6_hasKnot 37 = .ok (.iload_n 3, 1) := by decide +kernel
theorem dX6_hasKnot_38 : decode cX6_hasKnot 38 = .ok (.aload_n 0, 1) := by decide +kernel
theorem dX6_hasKnot_39 : decode cX6_hasKnot 39 = .ok (.getfield 44, 3) := by decide +kernel
theorem dX6_hasKnot_42 : decode cX6_hasKnot 42 = .ok (.iconst 4, 1) := by decide +kernel
theorem dX6_hasKnot_43 : decode cX6_hasKnot 43 = .ok (.iload_n 1, 1) := by decide +kernel
theorem dX6_hasKnot_44 : decode cX6_hasKnot 44 = .ok (.imul, 1) := by decide +kernel
theorem dX6_hasKnot_45 : decode cX6_hasKnot 45 = .ok (.iload 5, 2) := by decide +kernel
theorem dX6_hasKnot_47 : decode cX6_hasKnot 47 = .ok (.iadd, 1) := by decide +kernel
theorem dX6_hasKnot_48 : decode cX6_hasKnot 48 = .ok (.iaload, 1) := by decide +kernel
theorem dX6_hasKnot_49 : decode cX6_hasKnot 49 = .ok (.if_icmp .le 7, 3) := by decide +kernel
theorem dX6_hasKnot_52 : decode cX6_hasKnot 52 = .ok (.iconst 1, 1) := by decide +kernel
theorem dX6_hasKnot_53 : decode cX6_hasKnot 53 = .ok (.goto 4, 3) := by decide +kernel
theorem dX6_hasKnot_56 : decode cX6_hasKnot 56 = .ok (.iconst 0, 1) := by decide +kernel
theorem dX6_hasKnot_57 : decode cX6_hasKnot 57 = .ok (.istore 4, 2) := by decide +kernel
theorem dX6_hasKnot_59 : decode cX6_hasKnot 59 = .ok (.iinc 5 1, 3) := by decide +kernel
theorem dX6_hasKnot_62 : decode cX6_hasKnot 62 = .ok (.goto (-56), 3) := by decide +kernel
theorem dX6_hasKnot_65 : decode cX6_hasKnot 65 = .ok (.iload 4, 2) := by decide +kernel
theorem dX6_hasKnot_67 : decode cX6_hasKnot 67 = .ok (.ireturn, 1) := by decide +kernel
theorem dX6_knot_0 : decode cX6_knot 0 = .ok (.aload_n 0, 1) := by decide +kernel
theorem dX6_knot_1 : decode cX6_knot 1 = .ok (.aload_n 0, 1) := by decide +kernel
theorem dX6_knot_2 : decode cX6_knot 2 = .ok (.iload_n 1, 1) := by decide +kernel
theorem dX6_knot_3 : decode cX6_knot 3 = .ok (.invokevirtual 150, 3) := by decide +kernel
theorem dX6_knot_6 : decode cX6_knot 6 = .ok (.ifCond .ne 7, 3) := by decide +kernel
theorem dX6_knot_9 : decode cX6_knot 9 = .ok (.iconst 1, 1) := by decide +kernel
theorem dX6_knot_10 : decode cX6_knot 10 = .ok (.goto 4, 3) := by decide +kernel
theorem dX6_knot_13 : decode cX6_knot 13 = .ok (.iconst 0, 1) := by decide +kernel
theorem dX6_knot_14 : decode cX6_knot 14 = .ok (.putfield 105, 3) := by decide +kernel
theorem dX6_knot_17 : decode cX6_knot 17 = .ok (.aload_n 0, 1) := by decide +kernel
theorem dX6_knot_18 : decode cX6_knot 18 = .ok (.getfield 105, 3) := by decide +kernel
theorem dX6_knot_21 : decode cX6_knot 21 = .ok (.ifCond .ne 82, 3) := by decide +kernel
theorem dX6_knot_24 : decode cX6_knot 24 = .ok (.aload_n 0, 1) := by decide +kernel
theorem dX6_knot_25 : decode cX6_knot 25 = .ok (.iload_n 2, 1) := by decide +kernel
theorem dX6_knot_26 : decode cX6_knot 26 = .ok (.iconst 0, 1) := by decide +kernel
theorem dX6_knot_27 : decode cX6_knot 27 = .ok (.aload_n 0, 1) := by decide +kernel
theorem dX6_knot_28 : decode cX6_knot 28 = .ok (.getfield 32, 3) := by decide +kernel
theorem dX6_knot_31 : decode cX6_knot 31 = .ok (.iload_n 1, 1) := by decide +kernel
theorem dX6_knot_32 : decode cX6_knot 32 = .ok (.iaload, 1) := by decide +kernel
theorem dX6_knot_33 : decode cX6_knot 33 = .ok (.iconst 1, 1) := by decide +kernel
theorem dX6_knot_34 : decode cX6_knot 34 = .ok (.isub, 1) := by decide +kernel
theorem dX6_knot_35 : decode cX6_knot 35 = .ok (.invokevirtual 111, 3) := by decide +kernel
theorem dX6_knot_38 : decode cX6_knot 38 = .ok (.ifCond .eq 24, 3) := by decide +kernel
theorem dX6_knot_41 : decode cX6_knot 41 = .ok (.aload_n 0, 1) := by decide +kernel
theorem dX6_knot_42 : decode cX6_knot 42 = .ok (.iload_n 3, 1) := by decide +kernel
theorem dX6_knot_43 : decode cX6_knot 43 = .ok (.iload_n 2, 1) := by decide +kernel
theorem dX6_knot_44 : decode cX6_knot 44 = .ok (.iconst 1, 1) := by decide +kernel
theorem dX6_knot_45 : decode cX6_knot 45 = .ok (.iadd, 1) := by decide +kernel
theorem dX6_knot_46 : decode cX6_knot 46 = .ok (.aload_n 0, 1) := by decide +kernel
theorem dX6_knot_47 : decode cX6_knot 47 = .ok (.getfield 32, 3) := by decide +kernel
theorem dX6_knot_50 : decode cX6_knot 50 = .ok (.iload_n 1, 1) := by decide +kernel
theorem dX6_knot_51 : decode cX6_knot 51 = .ok (.iaload, 1) := by decide +kernel
theorem dX6_knot_52 : decode cX6_knot 52 = .ok (.invokevirtual 111, 3) := by decide +kernel
theorem dX6_knot_55 : decode cX6_knot 55 = .ok (.ifCond .eq 7, 3) := by decide +kernel
theorem dX6_knot_58 : decode cX6_knot 58 = .ok (.iconst 1, 1) := by decide +kernel
theorem dX6_knot_59 : decode cX6_knot 59 = .ok (.goto 4, 3) := by decide +kernel
theorem dX6_knot_62 : decode cX6_knot 62 = .ok (.iconst 0, 1) := by decide +kernel
theorem dX6_knot_63 : decode cX6_knot 63 = .ok (.istore 4, 2) := by decide +kernel
theorem dX6_knot_65 : decode cX6_knot 65 = .ok (.aload_n 0, 1) := by decide +kernel
theorem dX6_knot_66 : decode cX6_knot 66 = .ok (.iload 4, 2) := by decide +kernel
theorem dX6_knot_68 : decode cX6_knot 68 = .ok (.ifCond .ne 7, 3) := by decide +kernel
theorem dX6_knot_71 : decode cX6_knot 71 = .ok (.iconst 2, 1) := by decide +kernel
theorem dX6_knot_72 : decode cX6_knot 72 = .ok (.goto 28, 3) := by decide +kernel
theorem dX6_knot_75 : decode cX6_knot 75 = .ok (.aload_n 0, 1) := by decide +kernel
theorem dX6_knot_76 : decode cX6_knot 76 = .ok (.getfield 41, 3) := by decide +kernel
theorem dX6_knot_79 : decode cX6_knot 79 = .ok (.iload_n 1, 1) := by decide +kernel
theorem dX6_knot_80 : decode cX6_knot 80 = .ok (.iaload, 1) := by decide +kernel
theorem dX6_knot_81 : decode cX6_knot 81 = .ok (.iconst 4, 1) := by decide +kernel
theorem dX6_knot_82 : decode cX6_knot 82 = .ok (.if_icmp .eq 13, 3) := by decide +kernel
theorem dX6_knot_85 : decode cX6_knot 85 = .ok (.aload_n 0, 1) := by decide +kernel
theorem dX6_knot_86 : decode cX6_knot 86 = .ok (.iload_n 1, 1) := by decide +kernel
theorem dX6_knot_87 : decode cX6_knot 87 = .ok (.iload_n 2, 1) := by decide +kernel
theorem dX6_knot_88 : decode cX6_knot 88 = .ok (.iload_n 3, 1) := by decide +kernel
theorem dX6_knot_89 : decode cX6_knot 89 = .ok (.invokevirtual 153, 3) := by decide +kernel
theorem dX6_knot_92 : decode cX6_knot 92 = .ok (.ifCond .eq 7, 3) := by decide +kernel
theorem dX6_knot_95 : decode cX6_knot 95 = .ok (.iconst 3, 1) := by decide +kernel
theorem dX6_knot_96 : decode cX6_knot 96 = .ok (.goto 4, 3) := by decide +kernel
theorem dX6_knot_99 : decode cX6_knot 99 = .ok (.iconst 0, 1) := by decide +kernel
theorem dX6_knot_100 : decode cX6_knot 100 = .ok (.putfield 105, 3) := by decide +kernel
theorem dX6_knot_103 : decode cX6_knot 103 = .ok (.aload_n 0, 1) := by decide +kernel
theorem dX6_knot_104 : decode cX6_knot 104 = .ok (.getfield 105, 3) := by decide +kernel
theorem dX6_knot_107 : decode cX6_knot 107 = .ok (.ifCond .le 5, 3) := by decide +kernel
theorem dX6_knot_110 : decode cX6_knot 110 = .ok (.iconst 0, 1) := by decide +kernel
theorem dX6_knot_111 : decode cX6_knot 111 = .ok (.ireturn, 1) := by decide +kernel
theorem dX6_knot_112 : decode cX6_knot 112 = .ok (.aload_n 0, 1) := by decide +kernel
theorem dX6_knot_113 : decode cX6_knot 113 = .ok (.getfield 44, 3) := by decide +kernel
theorem dX6_knot_116 : decode cX6_knot 116 = .ok (.iconst 4, 1) := by decide +kernel
theorem dX6_knot_117 : decode cX6_knot 117 = .ok (.iload_n 1, 1) := by decide +kernel
theorem dX6_knot_118 : decode cX6_knot 118 = .ok (.imul, 1) := by decide +kernel
theorem dX6_knot_119 : decode cX6_knot 119 = .ok (.aload_n 0, 1) := by decide +kernel
theorem dX6_knot_120 : decode cX6_knot 120 = .ok (.getfield 41, 3) := by decide +kernel
theorem dX6_knot_123 : decode cX6_knot 123 = .ok (.iload_n 1, 1) := by decide +kernel
theorem dX6_knot_124 : decode cX6_knot 124 = .ok (.iaload, 1) := by decide +kernel
theorem dX6_knot_125 : decode cX6_knot 125 = .ok (.iadd, 1) := by decide +kernel
theorem dX6_knot_126 : decode cX6_knot 126 = .ok (.iload_n 2, 1) := by decide +kernel
theorem dX6_knot_127 : decode cX6_knot 127 = .ok (.iastore, 1) := by decide +kernel
theorem dX6_knot_128 : decode cX6_knot 128 = .ok (.aload_n 0, 1) := by decide +kernel
theorem dX6_knot_129 : decode cX6_knot 129 = .ok (.getfield 47, 3) := by decide +kernel
theorem dX6_knot_132 : decode cX6_knot 132 = .ok (.iconst 4, 1) := by decide +kernel
theorem dX6_knot_133 : decode cX6_knot 133 = .ok (.iload_n 1, 1) := by decide +kernel
theorem dX6_knot_134 : decode cX6_knot 134 = .ok (.imul, 1) := by decide +kernel
theorem dX6_knot_135 : decode cX6_knot 135 = .ok (.aload_n 0, 1) := by decide +kernel
theorem dX6_knot_136 : decode cX6_knot 136 = .ok (.getfield 41, 3) := by decide +kernel
theorem dX6_knot_139 : decode cX6_knot 139 = .ok (.iload_n 1, 1) := by decide +kernel
theorem dX6_knot_140 : decode cX6_knot 140 = .ok (.iaload, 1) := by decide +kernel
theorem dX6_knot_141 : decode cX6_knot 141 = .ok (.iadd, 1) := by decide +kernel
theorem dX6_knot_142 : decode cX6_knot 142 = .ok (.iload_n 3, 1) := by decide +kernel
theorem dX6_knot_143 : decode cX6_knot 143 = .ok (.iastore, 1) := by decide +kernel
theorem dX6_knot_144 : decode cX6_knot 144 = .ok (.aload_n 0, 1) := by decide +kernel
theorem dX6_knot_145 : decode cX6_knot 145 = .ok (.getfield 41, 3) := by decide +kernel
theorem dX6_knot_148 : decode cX6_knot 148 = .ok (.iload_n 1, 1) := by decide +kernel
theorem dX6_knot_149 : decode cX6_knot 149 = .ok (.dup2, 1) := by decide +kernel
theorem dX6_knot_150 : decode cX6_knot 150 = .ok (.iaload, 1) := by decide +kernel
theorem dX6_knot_151 : decode cX6_knot 151 = .ok (.iconst 1, 1) := by decide +kernel
theorem dX6_knot_152 : decode cX6_knot 152 = .ok (.iadd, 1) := by decide +kernel
theorem dX6_knot_153 : decode cX6_knot 153 = .ok (.iastore, 1) := by decide +kernel
theorem dX6_knot_154 : decode cX6_knot 154 = .ok (.aload_n 0, 1) := by decide +kernel
theorem dX6_knot_155 : decode cX6_knot 155 = .ok (.getfield 41, 3) := by decide +kernel
theorem dX6_knot_158 : decode cX6_knot 158 = .ok (.iload_n 1, 1) := by decide +kernel
theorem dX6_knot_159 : decode cX6_knot 159 = .ok (.iaload, 1) := by decide +kernel
theorem dX6_knot_160 : decode cX6_knot 160 = .ok (.ireturn, 1) := by decide +kernel
theorem dX6_cut_0 : decode cX6_cut 0 = .ok (.aload_n 0, 1) := by decide +kernel
theorem dX6_cut_1 : decode cX6_cut 1 = .ok (.aload_n 0, 1) := by decide +kernel
theorem dX6_cut_2 : decode cX6_cut 2 = .ok (.iload_n 1, 1) := by decide +kernel
theorem dX6_cut_3 : decode cX6_cut 3 = .ok (.invokevirtual 150, 3) := by decide +kernel
theorem dX6_cut_6 : decode cX6_cut 6 = .ok (.ifCond .ne 7, 3) := by decide +kernel
theorem dX6_cut_9 : decode cX6_cut 9 = .ok (.iconst 1, 1) := by decide +kernel
theorem dX6_cut_10 : decode cX6_cut 10 = .ok (.goto 47, 3) := by decide +kernel
theorem dX6_cut_13 : decode cX6_cut 13 = .ok (.aload_n 0, 1) := by decide +kernel
theorem dX6_cut_14 : decode cX6_cut 14 = .ok (.iload_n 2, 1) := by decide +kernel
theorem dX6_cut_15 : decode cX6_cut 15 = .ok (.iconst 0, 1) := by decide +kernel
theorem dX6_cut_16 : decode cX6_cut 16 = .ok (.sipush 30000, 3) := by decide +kernel
theorem dX6_cut_19 : decode cX6_cut 19 = .ok (.invokevirtual 111, 3) := by decide +kernel
theorem dX6_cut_22 : decode cX6_cut 22 = .ok (.ifCond .eq 30, 3) := by decide +kernel
theorem dX6_cut_25 : decode cX6_cut 25 = .ok (.aload_n 0, 1) := by decide +kernel
theorem dX6_cut_26 : decode cX6_cut 26 = .ok (.iload_n 3, 1) := by decide +kernel
theorem dX6_cut_27 : decode cX6_cut 27 = .ok (.bipush 10, 2) := by decide +kernel
theorem dX6_cut_29 : decode cX6_cut 29 = .ok (.sipush 30000, 3) := by decide +kernel
theorem dX6_cut_32 : decode cX6_cut 32 = .ok (.invokevirtual 111, 3) := by decide +kernel
theorem dX6_cut_35 : decode cX6_cut 35 = .ok (.ifCond .eq 17, 3) := by decide +kernel
theorem dX6_cut_38 : decode cX6_cut 38 = .ok (.aload_n 0, 1) := by decide +kernel
theorem dX6_cut_39 : decode cX6_cut 39 = .ok (.iload 4, 2) := by decide +kernel
theorem dX6_cut_41 : decode cX6_cut 41 = .ok (.bipush 10, 2) := by decide +kernel
theorem dX6_cut_43 : decode cX6_cut 43 = .ok (.sipush 6000, 3) := by decide +kernel
theorem dX6_cut_46 : decode cX6_cut 46 = .ok (.invokevirtual 111, 3) := by decide +kernel
theorem dX6_cut_49 : decode cX6_cut 49 = .ok (.ifCond .ne 7, 3) := by decide +kernel
theorem dX6_cut_52 : decode cX6_cut 52 = .ok (.iconst 2, 1) := by decide +kernel
theorem dX6_cut_53 : decode cX6_cut 53 = .ok (.goto 4, 3) := by decide +kernel
theorem dX6_cut_56 : decode cX6_cut 56 = .ok (.iconst 0, 1) := by decide +kernel
theorem dX6_cut_57 : decode cX6_cut 57 = .ok (.putfield 105, 3) := by decide +kernel
theorem dX6_cut_60 : decode cX6_cut 60 = .ok (.aload_n 0, 1) := by decide +kernel
theorem dX6_cut_61 : decode cX6_cut 61 = .ok (.getfield 105, 3) := by decide +kernel
theorem dX6_cut_64 : decode cX6_cut 64 = .ok (.ifCond .ne 115, 3) := by decide +kernel
theorem dX6_cut_67 : decode cX6_cut 67 = .ok (.aload_n 0, 1) := by decide +kernel
theorem dX6_cut_68 : decode cX6_cut 68 = .ok (.getfield 115, 3) := by decide +kernel
theorem dX6_cut_71 : decode cX6_cut 71 = .ok (.bipush 40, 2) := by decide +kernel
theorem dX6_cut_73 : decode cX6_cut 73 = .ok (.if_icmp .ge 41, 3) := by decide +kernel
theorem dX6_cut_76 : decode cX6_cut 76 = .ok (.iload_n 2, 1) := by decide +kernel
theorem dX6_cut_77 : decode cX6_cut 77 = .ok (.iload_n 3, 1) := by decide +kernel
theorem dX6_cut_78 : decode cX6_cut 78 = .ok (.iadd, 1) := by decide +kernel
theorem dX6_cut_79 : decode cX6_cut 79 = .ok (.aload_n 0, 1) := by decide +kernel
theorem dX6_cut_80 : decode cX6_cut 80 = .ok (.getfield 32, 3) := by decide +kernel
theorem dX6_cut_83 : decode cX6_cut 83 = .ok (.iload_n 1, 1) := by decide +kernel
theorem dX6_cut_84 : decode cX6_cut 84 = .ok (.iaload, 1) := by decide +kernel
theorem dX6_cut_85 : decode cX6_cut 85 = .ok (.if_icmp .gt 29, 3) := by decide +kernel
theorem dX6_cut_88 : decode cX6_cut 88 = .ok (.aload_n 0, 1) := by decide +kernel
theorem dX6_cut_89 : decode cX6_cut 89 = .ok (.iload_n 1, 1) := by decide +kernel
theorem dX6_cut_90 : decode cX6_cut 90 = .ok (.iload_n 2, 1) := by decide +kernel
theorem dX6_cut_91 : decode cX6_cut 91 = .ok (.iload_n 2, 1) := by decide +kernel
theorem dX6_cut_92 : decode cX6_cut 92 = .ok (.iload_n 3, 1) := by decide +kernel
theorem dX6_cut_93 : decode cX6_cut 93 = .ok (.iadd, 1) := by decide +kernel
theorem dX6_cut_94 : decode cX6_cut 94 = .ok (.invokevirtual 153, 3) := by decide +kernel
theorem dX6_cut_97 : decode cX6_cut 97 = .ok (.ifCond .ne 17, 3) := by decide +kernel
theorem dX6_cut_100 : decode cX6_cut 100 = .ok (.iload 4, 2) := by decide +kernel
theorem dX6_cut_102 : decode cX6_cut 102 = .ok (.aload_n 0, 1) := by decide +kernel
theorem dX6_cut_103 : decode cX6_cut 103 = .ok (.iload_n 1, 1) := by decide +kernel
theorem dX6_cut_104 : decode cX6_cut 104 = .ok (.invokevirtual 156, 3) := by decide +kernel
theorem dX6_cut_107 : decode cX6_cut 107 = .ok (.if_icmp .gt 7, 3) := by decide +kernel
theorem dX6_cut_110 : decode cX6_cut 110 = .ok (.iconst 1, 1) := by decide +kernel
theorem dX6_cut_111 : decode cX6_cut 111 = .ok (.goto 4, 3) := by decide +kernel
theorem dX6_cut_114 : decode cX6_cut 114 = .ok (.iconst 0, 1) := by decide +kernel
theorem dX6_cut_115 : decode cX6_cut 115 = .ok (.istore 6, 2) := by decide +kernel
theorem dX6_cut_117 : decode cX6_cut 117 = .ok (.iload 5, 2) := by decide +kernel
theorem dX6_cut_119 : decode cX6_cut 119 = .ok (.ifCond .ne 15, 3) := by decide +kernel
theorem dX6_cut_122 : decode cX6_cut 122 = .ok (.aload_n 0, 1) := by decide +kernel
theorem dX6_cut_123 : decode cX6_cut 123 = .ok (.iload_n 1, 1) := by decide +kernel
theorem dX6_cut_124 : decode cX6_cut 124 = .ok (.iload_n 2, 1) := by decide +kernel
theorem dX6_cut_125 : decode cX6_cut 125 = .ok (.iload_n 2, 1) := by decide +kernel
theorem dX6_cut_126 : decode cX6_cut 126 = .ok (.iload_n 3, 1) := by decide +kernel
theorem dX6_cut_127 : decode cX6_cut 127 = .ok (.iadd, 1) := by decide +kernel
theorem dX6_cut_128 : decode cX6_cut 128 = .ok (.invokevirtual 159, 3) := by decide +kernel
theorem dX6_cut_131 : decode cX6_cut 131 = .ok (.ifCond .ne 7, 3) := by decide +kernel
theorem dX6_cut_134 : decode cX6_cut 134 = .ok (.iconst 1, 1) := by decide +kernel
theorem dX6_cut_135 : decode cX6_cut 135 = .ok (.goto 4, 3) := by decide +kernel
theorem dX6_cut_138 : decode cX6_cut 138 = .ok (.iconst 0, 1) := by decide +kernel
theorem dX6_cut_139 : decode cX6_cut 139 = .ok (.istore 7, 2) := by decide +kernel
theorem dX6_cut_141 : decode cX6_cut 141 = .ok (.aload_n 0, 1) := by decide +kernel
theorem dX6_cut_142 : decode cX6_cut 142 = .ok (.iload 6, 2) := by decide +kernel
theorem dX6_cut_144 : decode cX6_cut 144 = .ok (.ifCond .eq 31, 3) := by decide +kernel
theorem dX6_cut_147 : decode cX6_cut 147 = .ok (.iload 7, 2) := by decide +kernel
theorem dX6_cut_149 : decode cX6_cut 149 = .ok (.ifCond .eq 26, 3) := by decide +kernel
theorem dX6_cut_152 : decode cX6_cut 152 = .ok (.aload_n 0, 1) := by decide +kernel
theorem dX6_cut_153 : decode cX6_cut 153 = .ok (.getfield 13, 3) := by decide +kernel
theorem dX6_cut_156 : decode cX6_cut 156 = .ok (.iconst 0, 1) := by decide +kernel
theorem dX6_cut_157 : decode cX6_cut 157 = .ok (.iaload, 1) := by decide +kernel
theorem dX6_cut_158 : decode cX6_cut 158 = .ok (.aload_n 0, 1) := by decide +kernel
theorem dX6_cut_159 : decode cX6_cut 159 = .ok (.aload_n 0, 1) := by decide +kernel
theorem dX6_cut_160 : decode cX6_cut 160 = .ok (.getfield 20, 3) := by decide +kernel
theorem dX6_cut_163 : decode cX6_cut 163 = .ok (.iload_n 1, 1) := by decide +kernel
theorem dX6_cut_164 : decode cX6_cut 164 = .ok (.iaload, 1) := by decide +kernel
theorem dX6_cut_165 : decode cX6_cut 165 = .ok (.invokevirtual 162, 3) := by decide +kernel
theorem dX6_cut_168 : decode cX6_cut 168 = .ok (.if_icmp .lt 7, 3) := by decide +kernel
theorem dX6_cut_171 : decode cX6_cut 171 = .ok (.iconst 0, 1) := by decide +kernel
theorem dX6_cut_172 : decode cX6_cut 172 = .ok (.goto 4, 3) := by decide +kernel
theorem dX6_cut_175 : decode cX6_cut 175 = .ok (.iconst 3, 1) := by decide +kernel
theorem dX6_cut_176 : decode cX6_cut 176 = .ok (.putfield 105, 3) := by decide +kernel
theorem dX6_cut_179 : decode cX6_cut 179 = .ok (.aload_n 0, 1) := by decide +kernel
theorem dX6_cut_180 : decode cX6_cut 180 = .ok (.getfield 105, 3) := by decide +kernel
theorem dX6_cut_183 : decode cX6_cut 183 = .ok (.ifCond .le 5, 3) := by decide +kernel
theorem dX6_cut_186 : decode cX6_cut 186 = .ok (.iconst 0, 1) := by decide +kernel
theorem dX6_cut_187 : decode cX6_cut 187 = .ok (.ireturn, 1) := by decide +kernel
theorem dX6_cut_188 : decode cX6_cut 188 = .ok (.aload_n 0, 1) := by decide +kernel
theorem dX6_cut_189 : decode cX6_cut 189 = .ok (.getfield 115, 3) := by decide +kernel
theorem dX6_cut_192 : decode cX6_cut 192 = .ok (.istore 6, 2) := by decide +kernel
theorem dX6_cut_194 : decode cX6_cut 194 = .ok (.aload_n 0, 1) := by decide +kernel
theorem dX6_cut_195 : decode cX6_cut 195 = .ok (.getfield 13, 3) := by decide +kernel
theorem dX6_cut_198 : decode cX6_cut 198 = .ok (.iconst 0, 1) := by decide +kernel
theorem dX6_cut_199 : decode cX6_cut 199 = .ok (.dup2, 1) := by decide +kernel
theorem dX6_cut_200 : decode cX6_cut 200 = .ok (.iaload, 1) := by decide +kernel
theorem dX6_cut_201 : decode cX6_cut 201 = .ok (.aload_n 0, 1) := by decide +kernel
theorem dX6_cut_202 : decode cX6_cut 202 = .ok (.aload_n 0, 1) := by decide +kernel
theorem dX6_cut_203 : decode cX6_cut 203 = .ok (.getfield 20, 3) := by decide +kernel
theorem dX6_cut_206 : decode cX6_cut 206 = .ok (.iload_n 1, 1) := by decide +kernel
theorem dX6_cut_207 : decode cX6_cut 207 = .ok (.iaload, 1) := by decide +kernel
theorem dX6_cut_208 : decode cX6_cut 208 = .ok (.invokevirtual 162, 3) := by decide +kernel
theorem dX6_cut_211 : decode cX6_cut 211 = .ok (.isub, 1) := by decide +kernel
theorem dX6_cut_212 : decode cX6_cut 212 = .ok (.iastore, 1) := by decide +kernel
theorem dX6_cut_213 : decode cX6_cut 213 = .ok (.aload_n 0, 1) := by decide +kernel
theorem dX6_cut_214 : decode cX6_cut 214 = .ok (.getfield 50, 3) := by decide +kernel
theorem dX6_cut_217 : decode cX6_cut 217 = .ok (.iload 6, 2) := by decide +kernel
theorem dX6_cut_219 : decode cX6_cut 219 = .ok (.iload_n 1, 1) := by decide +kernel
theorem dX6_cut_220 : decode cX6_cut 220 = .ok (.iastore, 1) := by decide +kernel
theorem dX6_cut_221 : decode cX6_cut 221 = .ok (.aload_n 0, 1) := by decide +kernel
theorem dX6_cut_222 : decode cX6_cut 222 = .ok (.getfield 53, 3) := by decide +kernel
theorem dX6_cut_225 : decode cX6_cut 225 = .ok (.iload 6, 2) := by decide +kernel
theorem dX6_cut_227 : decode cX6_cut 227 = .ok (.iload_n 2, 1) := by decide +kernel
theorem dX6_cut_228 : decode cX6_cut 228 = .ok (.iastore, 1) := by decide +kernel
theorem dX6_cut_229 : decode cX6_cut 229 = .ok (.aload_n 0, 1) := by decide +kernel
theorem dX6_cut_230 : decode cX6_cut 230 = .ok (.getfield 56, 3) := by decide +kernel
theorem dX6_cut_233 : decode cX6_cut 233 = .ok (.iload 6, 2) := by decide +kernel
theorem dX6_cut_235 : decode cX6_cut 235 = .ok (.iload_n 3, 1) := by decide +kernel
theorem dX6_cut_236 : decode cX6_cut 236 = .ok (.iastore, 1) := by decide +kernel
theorem dX6_cut_237 : decode cX6_cut 237 = .ok (.aload_n 0, 1) := by decide +kernel
theorem dX6_cut_238 : decode cX6_cut 238 = .ok (.getfield 59, 3) := by decide +kernel
theorem dX6_cut_241 : decode cX6_cut 241 = .ok (.iload 6, 2) := by decide +kernel
theorem dX6_cut_243 : decode cX6_cut 243 = .ok (.iload 4, 2) := by decide +kernel
theorem dX6_cut_245 : decode cX6_cut 245 = .ok (.iastore, 1) := by decide +kernel
theorem dX6_cut_246 : decode cX6_cut 246 = .ok (.aload_n 0, 1) := by decide +kernel
theorem dX6_cut_247 : decode cX6_cut 247 = .ok (.getfield 62, 3) := by decide +kernel
theorem dX6_cut_250 : decode cX6_cut 250 = .ok (.iload 6, 2) := by decide +kernel
theorem dX6_cut_252 : decode cX6_cut 252 = .ok (.aload_n 0, 1) := by decide +kernel
theorem dX6_cut_253 : decode cX6_cut 253 = .ok (.getfield 38, 3) := by decide +kernel
theorem dX6_cut_256 : decode cX6_cut 256 = .ok (.iload_n 1, 1) := by decide +kernel
theorem dX6_cut_257 : decode cX6_cut 257 = .ok (.iaload, 1) := by decide +kernel
theorem dX6_cut_258 : decode cX6_cut 258 = .ok (.iastore, 1) := by decide +kernel
theorem dX6_cut_259 : decode cX6_cut 259 = .ok (.aload_n 0, 1) := by decide +kernel
theorem dX6_cut_260 : decode cX6_cut 260 = .ok (.getfield 65, 3) := by decide +kernel
theorem dX6_cut_263 : decode cX6_cut 263 = .ok (.iload 6, 2) := by decide +kernel
theorem dX6_cut_265 : decode cX6_cut 265 = .ok (.aload_n 0, 1) := by decide +kernel
theorem dX6_cut_266 : decode cX6_cut 266 = .ok (.getfield 38, 3) := by decide +kernel
theorem dX6_cut_269 : decode cX6_cut 269 = .ok (.iload_n 1, 1) := by decide +kernel
theorem dX6_cut_270 : decode cX6_cut 270 = .ok (.iaload, 1) := by decide +kernel
theorem dX6_cut_271 : decode cX6_cut 271 = .ok (.iastore, 1) := by decide +kernel
theorem dX6_cut_272 : decode cX6_cut 272 = .ok (.aload_n 0, 1) := by decide +kernel
theorem dX6_cut_273 : decode cX6_cut 273 = .ok (.dup, 1) := by decide +kernel
theorem dX6_cut_274 : decode cX6_cut 274 = .ok (.getfield 115, 3) := by decide +kernel
theorem dX6_cut_277 : decode cX6_cut 277 = .ok (.iconst 1, 1) := by decide +kernel
theorem dX6_cut_278 : decode cX6_cut 278 = .ok (.iadd, 1) := by decide +kernel
theorem dX6_cut_279 : decode cX6_cut 279 = .ok (.putfield 115, 3) := by decide +kernel
theorem dX6_cut_282 : decode cX6_cut 282 = .ok (.iload 6, 2) := by decide +kernel
theorem dX6_cut_284 : decode cX6_cut 284 = .ok (.ireturn, 1) := by decide +kernel
theorem dX6_sharpen_0 : decode cX6_sharpen 0 = .ok (.aload_n 0, 1) := by decide +kernel
theorem dX6_sharpen_1 : decode cX6_sharpen 1 = .ok (.aload_n 0, 1) := by decide +kernel
theorem dX6_sharpen_2 : decode cX6_sharpen 2 = .ok (.iload_n 1, 1) := by decide +kernel
theorem dX6_sharpen_3 : decode cX6_sharpen 3 = .ok (.iconst 0, 1) := by decide +kernel
theorem dX6_sharpen_4 : decode cX6_sharpen 4 = .ok (.iconst 1, 1) := by decide +kernel
theorem dX6_sharpen_5 : decode cX6_sharpen 5 = .ok (.invokevirtual 111, 3) := by decide +kernel
theorem dX6_sharpen_8 : decode cX6_sharpen 8 = .ok (.ifCond .ne 7, 3) := by decide +kernel
theorem dX6_sharpen_11 : decode cX6_sharpen 11 = .ok (.iconst 1, 1) := by decide +kernel
theorem dX6_sharpen_12 : decode cX6_sharpen 12 = .ok (.goto 4, 3) := by decide +kernel
theorem dX6_sharpen_15 : decode cX6_sharpen 15 = .ok (.iconst 0, 1) := by decide +kernel
theorem dX6_sharpen_16 : decode cX6_sharpen 16 = .ok (.putfield 105, 3) := by decide +kernel
theorem dX6_sharpen_19 : decode cX6_sharpen 19 = .ok (.aload_n 0, 1) := by decide +kernel
theorem dX6_sharpen_20 : decode cX6_sharpen 20 = .ok (.getfield 105, 3) := by decide +kernel
theorem dX6_sharpen_23 : decode cX6_sharpen 23 = .ok (.ifCond .le 5, 3) := by decide +kernel
theorem dX6_sharpen_26 : decode cX6_sharpen 26 = .ok (.iconst 0, 1) := by decide +kernel
theorem dX6_sharpen_27 : decode cX6_sharpen 27 = .ok (.ireturn, 1) := by decide +kernel
theorem dX6_sharpen_28 : decode cX6_sharpen 28 = .ok (.aload_n 0, 1) := by decide +kernel
theorem dX6_sharpen_29 : decode cX6_sharpen 29 = .ok (.getfield 13, 3) := by decide +kernel
theorem dX6_sharpen_32 : decode cX6_sharpen 32 = .ok (.iload_n 1, 1) := by decide +kernel
theorem dX6_sharpen_33 : decode cX6_sharpen 33 = .ok (.iaload, 1) := by decide +kernel
theorem dX6_sharpen_34 : decode cX6_sharpen 34 = .ok (.istore_n 2, 1) := by decide +kernel
theorem dX6_sharpen_35 : decode cX6_sharpen 35 = .ok (.aload_n 0, 1) := by decide +kernel
theorem dX6_sharpen_36 : decode cX6_sharpen 36 = .ok (.getfield 13, 3) := by decide +kernel
theorem dX6_sharpen_39 : decode cX6_sharpen 39 = .ok (.iload_n 1, 1) := by decide +kernel
theorem dX6_sharpen_40 : decode cX6_sharpen 40 = .ok (.bipush 100, 2) := by decide +kernel
theorem dX6_sharpen_42 : decode cX6_sharpen 42 = .ok (.iastore, 1) := by decide +kernel
theorem dX6_sharpen_43 : decode cX6_sharpen 43 = .ok (.iload_n 2, 1) := by decide +kernel
theorem dX6_sharpen_44 : decode cX6_sharpen 44 = .ok (.ireturn, 1) := by decide +kernel
theorem dX6_clearFrom_0 : decode cX6_clearFrom 0 = .ok (.aload_n 0, 1) := by decide +kernel
theorem dX6_clearFrom_1 : decode cX6_clearFrom 1 = .ok (.aload_n 0, 1) := by decide +kernel
theorem dX6_clearFrom_2 : decode cX6_clearFrom 2 = .ok (.iload_n 1, 1) := by decide +kernel
theorem dX6_clearFrom_3 : decode cX6_clearFrom 3 = .ok (.invokevirtual 150, 3) := by decide +kernel
theorem dX6_clearFrom_6 : decode cX6_clearFrom 6 = .ok (.ifCond .ne 7, 3) := by decide +kernel
theorem dX6_clearFrom_9 : decode cX6_clearFrom 9 = .ok (.iconst 1, 1) := by decide +kernel
theorem dX6_clearFrom_10 : decode cX6_clearFrom 10 = .ok (.goto 21, 3) := by decide +kernel
theorem dX6_clearFrom_13 : decode cX6_clearFrom 13 = .ok (.aload_n 0, 1) := by decide +kernel
theorem dX6_clearFrom_14 : decode cX6_clearFrom 14 = .ok (.iload_n 2, 1) := by decide +kernel
theorem dX6_clearFrom_15 : decode cX6_clearFrom 15 = .ok (.bipush 10, 2) := by decide +kernel
theorem dX6_clearFrom_17 : decode cX6_clearFrom 17 = .ok (.sipush 30000, 3) := by decide +kernel
theorem dX6_clearFrom_20 : decode cX6_clearFrom 20 = .ok (.invokevirtual 111, 3) := by decide +kernel
theorem dX6_clearFrom_23 : decode cX6_clearFrom 23 = .ok (.ifCond .ne 7, 3) := by decide +kernel
theorem dX6_clearFrom_26 : decode cX6_clearFrom 26 = .ok (.iconst 2, 1) := by decide +kernel
theorem dX6_clearFrom_27 : decode cX6_clearFrom 27 = .ok (.goto 4, 3) := by decide +kernel
theorem dX6_clearFrom_30 : decode cX6_clearFrom 30 = .ok (.iconst 0, 1) := by decide +kernel
theorem dX6_clearFrom_31 : decode cX6_clearFrom 31 = .ok (.putfield 105, 3) := by decide +kernel
theorem dX6_clearFrom_34 : decode cX6_clearFrom 34 = .ok (.aload_n 0, 1) := by decide +kernel
theorem dX6_clearFrom_35 : decode cX6_clearFrom 35 = .ok (.getfield 105, 3) := by decide +kernel
theorem dX6_clearFrom_38 : decode cX6_clearFrom 38 = .ok (.ifCond .le 5, 3) := by decide +kernel
theorem dX6_clearFrom_41 : decode cX6_clearFrom 41 = .ok (.iconst 0, 1) := by decide +kernel
theorem dX6_clearFrom_42 : decode cX6_clearFrom 42 = .ok (.ireturn, 1) := by decide +kernel
theorem dX6_clearFrom_43 : decode cX6_clearFrom 43 = .ok (.iconst 0, 1) := by decide +kernel
theorem dX6_clearFrom_44 : decode cX6_clearFrom 44 = .ok (.istore_n 3, 1) := by decide +kernel
theorem dX6_clearFrom_45 : decode cX6_clearFrom 45 = .ok (.iload_n 3, 1) := by decide +kernel
theorem dX6_clearFrom_46 : decode cX6_clearFrom 46 = .ok (.iload_n 2, 1) := by decide +kernel
theorem dX6_clearFrom_47 : decode cX6_clearFrom 47 = .ok (.iadd, 1) := by decide +kernel
theorem dX6_clearFrom_48 : decode cX6_clearFrom 48 = .ok (.aload_n 0, 1) := by decide +kernel
theorem dX6_clearFrom_49 : decode cX6_clearFrom 49 = .ok (.getfield 32, 3) := by decide +kernel
theorem dX6_clearFrom_52 : decode cX6_clearFrom 52 = .ok (.iload_n 1, 1) := by decide +kernel
theorem dX6_clearFrom_53 : decode cX6_clearFrom 53 = .ok (.iaload, 1) := by decide +kernel
theorem dX6_clearFrom_54 : decode cX6_clearFrom 54 = .ok (.if_icmp .gt 35, 3) := by decide +kernel
theorem dX6_clearFrom_57 : decode cX6_clearFrom 57 = .ok (.aload_n 0, 1) := by decide +kernel
theorem dX6_clearFrom_58 : decode cX6_clearFrom 58 = .ok (.iload_n 1, 1) := by decide +kernel
theorem dX6_clearFrom_59 : decode cX6_clearFrom 59 = .ok (.iload_n 3, 1) := by decide +kernel
theorem dX6_clearFrom_60 : decode cX6_clearFrom 60 = .ok (.iload_n 3, 1) := by decide +kernel
theorem dX6_clearFrom_61 : decode cX6_clearFrom 61 = .ok (.iload_n 2, 1) := by decide +kernel
theorem dX6_clearFrom_62 : decode cX6_clearFrom 62 = .ok (.iadd, 1) := by decide +kernel
theorem dX6_clearFrom_63 : decode cX6_clearFrom 63 = .ok (.invokevirtual 153, 3) := by decide +kernel
theorem dX6_clearFrom_66 : decode cX6_clearFrom 66 = .ok (.ifCond .ne 17, 3) := by decide +kernel
theorem dX6_clearFrom_69 : decode cX6_clearFrom 69 = .ok (.aload_n 0, 1) := by decide +kernel
theorem dX6_clearFrom_70 : decode cX6_clearFrom 70 = .ok (.iload_n 1, 1) := by decide +kernel
theorem dX6_clearFrom_71 : decode cX6_clearFrom 71 = .ok (.iload_n 3, 1) := by decide +kernel
theorem dX6_clearFrom_72 : decode cX6_clearFrom 72 = .ok (.iload_n 3, 1) := by decide +kernel
theorem dX6_clearFrom_73 : decode cX6_clearFrom 73 = .ok (.iload_n 2, 1) := by decide +kernel
theorem dX6_clearFrom_74 : decode cX6_clearFrom 74 = .ok (.iadd, 1) := by decide +kernel
theorem dX6_clearFrom_75 : decode cX6_clearFrom 75 = .ok (.invokevirtual 159, 3) := by decide +kernel
theorem dX6_clearFrom_78 : decode cX6_clearFrom 78 = .ok (.ifCond .ne 5, 3) := by decide +kernel
theorem dX6_clearFrom_81 : decode cX6_clearFrom 81 = .ok (.iload_n 3, 1) := by decide +kernel
theorem dX6_clearFrom_82 : decode cX6_clearFrom 82 = .ok (.ireturn, 1) := by decide +kernel
theorem dX6_clearFrom_83 : decode cX6_clearFrom 83 = .ok (.iinc 3 1, 3) := by decide +kernel
theorem dX6_clearFrom_86 : decode cX6_clearFrom 86 = .ok (.goto (-41), 3) := by decide +kernel
theorem dX6_clearFrom_89 : decode cX6_clearFrom 89 = .ok (.iconst (-1), 1) := by decide +kernel
theorem dX6_clearFrom_90 : decode cX6_clearFrom 90 = .ok (.ireturn, 1) := by decide +kernel
theorem dX6_coat_0 : decode cX6_coat 0 = .ok (.aload_n 0, 1) := by decide +kernel
theorem dX6_coat_1 : decode cX6_coat 1 = .ok (.aload_n 0, 1) := by decide +kernel
theorem dX6_coat_2 : decode cX6_coat 2 = .ok (.iload_n 1, 1) := by decide +kernel
theorem dX6_coat_3 : decode cX6_coat 3 = .ok (.invokevirtual 165, 3) := by decide +kernel
theorem dX6_coat_6 : decode cX6_coat 6 = .ok (.ifCond .ne 7, 3) := by decide +kernel
theorem dX6_coat_9 : decode cX6_coat 9 = .ok (.iconst 1, 1) := by decide +kernel
theorem dX6_coat_10 : decode cX6_coat 10 = .ok (.goto 19, 3) := by decide +kernel
theorem dX6_coat_13 : decode cX6_coat 13 = .ok (.aload_n 0, 1) := by decide +kernel
theorem dX6_coat_14 : decode cX6_coat 14 = .ok (.getfield 68, 3) := by decide +kernel
theorem dX6_coat_17 : decode cX6_coat 17 = .ok (.iload_n 1, 1) := by decide +kernel
theorem dX6_coat_18 : decode cX6_coat 18 = .ok (.iaload, 1) := by decide +kernel
theorem dX6_coat_19 : decode cX6_coat 19 = .ok (.bipush 6, 2) := by decide +kernel
theorem dX6_coat_21 : decode cX6_coat 21 = .ok (.if_icmp .ne 7, 3) := by decide +kernel
theorem dX6_coat_24 : decode cX6_coat 24 = .ok (.iconst 2, 1) := by decide +kernel
theorem dX6_coat_25 : decode cX6_coat 25 = .ok (.goto 4, 3) := by decide +kernel
theorem dX6_coat_28 : decode cX6_coat 28 = .ok (.iconst 0, 1) := by decide +kernel
theorem dX6_coat_29 : decode cX6_coat 29 = .ok (.putfield 105, 3) := by decide +kernel
theorem dX6_coat_32 : decode cX6_coat 32 = .ok (.aload_n 0, 1) := by decide +kernel
theorem dX6_coat_33 : decode cX6_coat 33 = .ok (.getfield 105, 3) := by decide +kernel
theorem dX6_coat_36 : decode cX6_coat 36 = .ok (.ifCond .le 5, 3) := by decide +kernel
theorem dX6_coat_39 : decode cX6_coat 39 = .ok (.iconst 0, 1) := by decide +kernel
theorem dX6_coat_40 : decode cX6_coat 40 = .ok (.ireturn, 1) := by decide +kernel
theorem dX6_coat_41 : decode cX6_coat 41 = .ok (.aload_n 0, 1) := by decide +kernel
theorem dX6_coat_42 : decode cX6_coat 42 = .ok (.getfield 68, 3) := by decide +kernel
theorem dX6_coat_45 : decode cX6_coat 45 = .ok (.iload_n 1, 1) := by decide +kernel
theorem dX6_coat_46 : decode cX6_coat 46 = .ok (.dup2, 1) := by decide +kernel
theorem dX6_coat_47 : decode cX6_coat 47 = .ok (.iaload, 1) := by decide +kernel
theorem dX6_coat_48 : decode cX6_coat 48 = .ok (.iconst 1, 1) := by decide +kernel
theorem dX6_coat_49 : decode cX6_coat 49 = .ok (.iadd, 1) := by decide +kernel
theorem dX6_coat_50 : decode cX6_coat 50 = .ok (.iastore, 1) := by decide +kernel
theorem dX6_coat_51 : decode cX6_coat 51 = .ok (.aload_n 0, 1) := by decide +kernel
theorem dX6_coat_52 : decode cX6_coat 52 = .ok (.getfield 68, 3) := by decide +kernel
theorem dX6_coat_55 : decode cX6_coat 55 = .ok (.iload_n 1, 1) := by decide +kernel
theorem dX6_coat_56 : decode cX6_coat 56 = .ok (.iaload, 1) := by decide +kernel
theorem dX6_coat_57 : decode cX6_coat 57 = .ok (.ireturn, 1) := by decide +kernel
theorem dX6_match_0 : decode cX6_match 0 = .ok (.aload_n 0, 1) := by decide +kernel
theorem dX6_match_1 : decode cX6_match 1 = .ok (.aload_n 0, 1) := by decide +kernel
theorem dX6_match_2 : decode cX6_match 2 = .ok (.iload_n 1, 1) := by decide +kernel
theorem dX6_match_3 : decode cX6_match 3 = .ok (.invokevirtual 165, 3) := by decide +kernel
theorem dX6_match_6 : decode cX6_match 6 = .ok (.ifCond .eq 11, 3) := by decide +kernel
theorem dX6_match_9 : decode cX6_match 9 = .ok (.aload_n 0, 1) := by decide +kernel
theorem dX6_match_10 : decode cX6_match 10 = .ok (.iload_n 2, 1) := by decide +kernel
theorem dX6_match_11 : decode cX6_match 11 = .ok (.invokevirtual 165, 3) := by decide +kernel
theorem dX6_match_14 : decode cX6_match 14 = .ok (.ifCond .ne 7, 3) := by decide +kernel
theorem dX6_match_17 : decode cX6_match 17 = .ok (.iconst 1, 1) := by decide +kernel
theorem dX6_match_18 : decode cX6_match 18 = .ok (.goto 13, 3) := by decide +kernel
theorem dX6_match_21 : decode cX6_match 21 = .ok (.iload_n 1, 1) := by decide +kernel
theorem dX6_match_22 : decode cX6_match 22 = .ok (.iload_n 2, 1) := by decide +kernel
theorem dX6_match_23 : decode cX6_match 23 = .ok (.if_icmp .ne 7, 3) := by decide +kernel
theorem dX6_match_26 : decode cX6_match 26 = .ok (.iconst 2, 1) := by decide +kernel
theorem dX6_match_27 : decode cX6_match 27 = .ok (.goto 4, 3) := by decide +kernel
theorem dX6_match_30 : decode cX6_match 30 = .ok (.iconst 0, 1) := by decide +kernel
theorem dX6_match_31 : decode cX6_match 31 = .ok (.putfield 105, 3) := by decide +kernel
theorem dX6_match_34 : decode cX6_match 34 = .ok (.aload_n 0, 1) := by decide +kernel
theorem dX6_match_35 : decode cX6_match 35 = .ok (.getfield 105, 3) := by decide +kernel
theorem dX6_match_38 : decode cX6_match 38 = .ok (.ifCond .le 5, 3) := by decide +kernel
theorem dX6_match_41 : decode cX6_match 41 = .ok (.iconst 0, 1) := by decide +kernel
theorem dX6_match_42 : decode cX6_match 42 = .ok (.ireturn, 1) := by decide +kernel
theorem dX6_match_43 : decode cX6_match 43 = .ok (.aload_n 0, 1) := by decide +kernel
theorem dX6_match_44 : decode cX6_match 44 = .ok (.getfield 50, 3) := by decide +kernel
theorem dX6_match_47 : decode cX6_match 47 = .ok (.iload_n 1, 1) := by decide +kernel
theorem dX6_match_48 : decode cX6_match 48 = .ok (.iaload, 1) := by decide +kernel
theorem dX6_match_49 : decode cX6_match 49 = .ok (.istore_n 3, 1) := by decide +kernel
theorem dX6_match_50 : decode cX6_match 50 = .ok (.aload_n 0, 1) := by decide +kernel
theorem dX6_match_51 : decode cX6_match 51 = .ok (.getfield 50, 3) := by decide +kernel
theorem dX6_match_54 : decode cX6_match 54 = .ok (.iload_n 2, 1) := by decide +kernel
theorem dX6_match_55 : decode cX6_match 55 = .ok (.iaload, 1) := by decide +kernel
theorem dX6_match_56 : decode cX6_match 56 = .ok (.istore 4, 2) := by decide +kernel
theorem dX6_match_58 : decode cX6_match 58 = .ok (.aload_n 0, 1) := by decide +kernel
theorem dX6_match_59 : decode cX6_match 59 = .ok (.getfield 26, 3) := by decide +kernel
theorem dX6_match_62 : decode cX6_match 62 = .ok (.iload_n 3, 1) := by decide +kernel
theorem dX6_match_63 : decode cX6_match 63 = .ok (.iaload, 1) := by decide +kernel
theorem dX6_match_64 : decode cX6_match 64 = .ok (.aload_n 0, 1) := by decide +kernel
theorem dX6_match_65 : decode cX6_match 65 = .ok (.getfield 26, 3) := by decide +kernel
theorem dX6_match_68 : decode cX6_match 68 = .ok (.iload 4, 2) := by decide +kernel
theorem dX6_match_70 : decode cX6_match 70 = .ok (.iaload, 1) := by decide +kernel
theorem dX6_match_71 : decode cX6_match 71 = .ok (.isub, 1) := by decide +kernel
theorem dX6_match_72 : decode cX6_match 72 = .ok (.istore 5, 2) := by decide +kernel
theorem dX6_match_74 : decode cX6_match 74 = .ok (.iload_n 3, 1) := by decide +kernel
theorem dX6_match_75 : decode cX6_match 75 = .ok (.iload 4, 2) := by decide +kernel
theorem dX6_match_77 : decode cX6_match 77 = .ok (.if_icmp .ne 7, 3) := by decide +kernel
theorem dX6_match_80 : decode cX6_match 80 = .ok (.iconst 3, 1) := by decide +kernel
theorem dX6_match_81 : decode cX6_match 81 = .ok (.goto 40, 3) := by decide +kernel
theorem dX6_match_84 : decode cX6_match 84 = .ok (.aload_n 0, 1) := by decide +kernel
theorem dX6_match_85 : decode cX6_match 85 = .ok (.getfield 23, 3) := by decide +kernel
theorem dX6_match_88 : decode cX6_match 88 = .ok (.iload_n 3, 1) := by decide +kernel
theorem dX6_match_89 : decode cX6_match 89 = .ok (.iaload, 1) := by decide +kernel
theorem dX6_match_90 : decode cX6_match 90 = .ok (.aload_n 0, 1) := by decide +kernel
theorem dX6_match_91 : decode cX6_match 91 = .ok (.getfield 23, 3) := by decide +kernel
theorem dX6_match_94 : decode cX6_match 94 = .ok (.iload 4, 2) := by decide +kernel
theorem dX6_match_96 : decode cX6_match 96 = .ok (.iaload, 1) := by decide +kernel
theorem dX6_match_97 : decode cX6_match 97 = .ok (.if_icmp .eq 7, 3) := by decide +kernel
theorem dX6_match_100 : decode cX6_match 100 = .ok (.iconst 0, 1) := by decide +kernel
theorem dX6_match_101 : decode cX6_match 101 = .ok (.goto 20, 3) := by decide +kernel
theorem dX6_match_104 : decode cX6_match 104 = .ok (.iload 5, 2) := by decide +kernel
theorem dX6_match_106 : decode cX6_match 106 = .ok (.iconst 1, 1) := by decide +kernel
theorem dX6_match_107 : decode cX6_match 107 = .ok (.if_icmp .eq 9, 3) := by decide +kernel
theorem dX6_match_110 : decode cX6_match 110 = .ok (.iload 5, 2) := by decide +kernel
theorem dX6_match_112 : decode cX6_match 112 = .ok (.iconst (-1), 1) := by decide +kernel
theorem dX6_match_113 : decode cX6_match 113 = .ok (.if_icmp .ne 7, 3) := by decide +kernel
theorem dX6_match_116 : decode cX6_match 116 = .ok (.iconst 2, 1) := by decide +kernel
theorem dX6_match_117 : decode cX6_match 117 = .ok (.goto 4, 3) := by decide +kernel
theorem dX6_match_120 : decode cX6_match 120 = .ok (.iconst 1, 1) := by decide +kernel
theorem dX6_match_121 : decode cX6_match 121 = .ok (.ireturn, 1) := by decide +kernel
theorem dX6_fits_0 : decode cX6_fits 0 = .ok (.aload_n 0, 1) := by decide +kernel
theorem dX6_fits_1 : decode cX6_fits 1 = .ok (.iload_n 2, 1) := by decide +kernel
theorem dX6_fits_2 : decode cX6_fits 2 = .ok (.aload_n 0, 1) := by decide +kernel
theorem dX6_fits_3 : decode cX6_fits 3 = .ok (.getfield 65, 3) := by decide +kernel
theorem dX6_fits_6 : decode cX6_fits 6 = .ok (.iload_n 2, 1) := by decide +kernel
theorem dX6_fits_7 : decode cX6_fits 7 = .ok (.iaload, 1) := by decide +kernel
theorem dX6_fits_8 : decode cX6_fits 8 = .ok (.invokevirtual 136, 3) := by decide +kernel
theorem dX6_fits_11 : decode cX6_fits 11 = .ok (.istore 5, 2) := by decide +kernel
theorem dX6_fits_13 : decode cX6_fits 13 = .ok (.iload_n 1, 1) := by decide +kernel
theorem dX6_fits_14 : decode cX6_fits 14 = .ok (.ifCond .ne 21, 3) := by decide +kernel
theorem dX6_fits_17 : decode cX6_fits 17 = .ok (.iload_n 3, 1) := by decide +kernel
theorem dX6_fits_18 : decode cX6_fits 18 = .ok (.aload_n 0, 1) := by decide +kernel
theorem dX6_fits_19 : decode cX6_fits 19 = .ok (.getfield 56, 3) := by decide +kernel
theorem dX6_fits_22 : decode cX6_fits 22 = .ok (.iload_n 2, 1) := by decide +kernel
theorem dX6_fits_23 : decode cX6_fits 23 = .ok (.iaload, 1) := by decide +kernel
theorem dX6_fits_24 : decode cX6_fits 24 = .ok (.if_icmp .gt 7, 3) := by decide +kernel
theorem dX6_fits_27 : decode cX6_fits 27 = .ok (.iconst 1, 1) := by decide +kernel
theorem dX6_fits_28 : decode cX6_fits 28 = .ok (.goto 48, 3) := by decide +kernel
theorem dX6_fits_31 : decode cX6_fits 31 = .ok (.iconst 0, 1) := by decide +kernel
theorem dX6_fits_32 : decode cX6_fits 32 = .ok (.goto 44, 3) := by decide +kernel
theorem dX6_fits_35 : decode cX6_fits 35 = .ok (.iload_n 1, 1) := by decide +kernel
theorem dX6_fits_36 : decode cX6_fits 36 = .ok (.iconst 1, 1) := by decide +kernel
theorem dX6_fits_37 : decode cX6_fits 37 = .ok (.if_icmp .ne 17, 3) := by decide +kernel
theorem dX6_fits_40 : decode cX6_fits 40 = .ok (.iload_n 3, 1) := by decide +kernel
theorem dX6_fits_41 : decode cX6_fits 41 = .ok (.iload 5, 2) := by decide +kernel
theorem dX6_fits_43 : decode cX6_fits 43 = .ok (.if_icmp .gt 7, 3) := by decide +kernel
theorem dX6_fits_46 : decode cX6_fits 46 = .ok (.iconst 1, 1) := by decide +kernel
theorem dX6_fits_47 : decode cX6_fits 47 = .ok (.goto 29, 3) := by decide +kernel
theorem dX6_fits_50 : decode cX6_fits 50 = .ok (.iconst 0, 1) := by decide +kernel
theorem dX6_fits_51 : decode cX6_fits 51 = .ok (.goto 25, 3) := by decide +kernel
theorem dX6_fits_54 : decode cX6_fits 54 = .ok (.iload 5, 2) := by decide +kernel
theorem dX6_fits_56 : decode cX6_fits 56 = .ok (.iload_n 3, 1) := by decide +kernel
theorem dX6_fits_57 : decode cX6_fits 57 = .ok (.if_icmp .gt 18, 3) := by decide +kernel
theorem dX6_fits_60 : decode cX6_fits 60 = .ok (.iload 5, 2) := by decide +kernel
theorem dX6_fits_62 : decode cX6_fits 62 = .ok (.iload_n 3, 1) := by decide +kernel
theorem dX6_fits_63 : decode cX6_fits 63 = .ok (.iconst 2, 1) := by decide +kernel
theorem dX6_fits_64 : decode cX6_fits 64 = .ok (.iload 4, 2) := by decide +kernel
theorem dX6_fits_66 : decode cX6_fits 66 = .ok (.imul, 1) := by decide +kernel
theorem dX6_fits_67 : decode cX6_fits 67 = .ok (.isub, 1) := by decide +kernel
theorem dX6_fits_68 : decode cX6_fits 68 = .ok (.if_icmp .lt 7, 3) := by decide +kernel
theorem dX6_fits_71 : decode cX6_fits 71 = .ok (.iconst 1, 1) := by decide +kernel
theorem dX6_fits_72 : decode cX6_fits 72 = .ok (.goto 4, 3) := by decide +kernel
theorem dX6_fits_75 : decode cX6_fits 75 = .ok (.iconst 0, 1) := by decide +kernel
theorem dX6_fits_76 : decode cX6_fits 76 = .ok (.ireturn, 1) := by decide +kernel
theorem dX6_joint_0 : decode cX6_joint 0 = .ok (.aload_n 0, 1) := by decide +kernel
theorem dX6_joint_1 : decode cX6_joint 1 = .ok (.iload_n 1, 1) := by decide +kernel
theorem dX6_joint_2 : decode cX6_joint 2 = .ok (.iconst 0, 1) := by decide +kernel
theorem dX6_joint_3 : decode cX6_joint 3 = .ok (.iconst 2, 1) := by decide +kernel
theorem dX6_joint_4 : decode cX6_joint 4 = .ok (.invokevirtual 111, 3) := by decide +kernel
theorem dX6_joint_7 : decode cX6_joint 7 = .ok (.ifCond .eq 47, 3) := by decide +kernel
theorem dX6_joint_10 : decode cX6_joint 10 = .ok (.aload_n 0, 1) := by decide +kernel
theorem dX6_joint_11 : decode cX6_joint 11 = .ok (.iload 4, 2) := by decide +kernel
theorem dX6_joint_13 : decode cX6_joint 13 = .ok (.bipush 10, 2) := by decide +kernel
theorem dX6_joint_15 : decode cX6_joint 15 = .ok (.sipush 30000, 3) := by decide +kernel
theorem dX6_joint_18 : decode cX6_joint 18 = .ok (.invokevirtual 111, 3) := by decide +kernel
theorem dX6_joint_21 : decode cX6_joint 21 = .ok (.ifCond .eq 33, 3) := by decide +kernel
theorem dX6_joint_24 : decode cX6_joint 24 = .ok (.iload_n 1, 1) := by decide +kernel
theorem dX6_joint_25 : decode cX6_joint 25 = .ok (.iconst 2, 1) := by decide +kernel
theorem dX6_joint_26 : decode cX6_joint 26 = .ok (.if_icmp .ne 19, 3) := by decide +kernel
theorem dX6_joint_29 : decode cX6_joint 29 = .ok (.aload_n 0, 1) := by decide +kernel
theorem dX6_joint_30 : decode cX6_joint 30 = .ok (.iload 5, 2) := by decide +kernel
theorem dX6_joint_32 : decode cX6_joint 32 = .ok (.iconst 1, 1) := by decide +kernel
theorem dX6_joint_33 : decode cX6_joint 33 = .ok (.sipush 200, 3) := by decide +kernel
theorem dX6_joint_36 : decode cX6_joint 36 = .ok (.invokevirtual 111, 3) := by decide +kernel
theorem dX6_joint_39 : decode cX6_joint 39 = .ok (.ifCond .eq 15, 3) := by decide +kernel
theorem dX6_joint_42 : decode cX6_joint 42 = .ok (.goto 8, 3) := by decide +kernel
theorem dX6_joint_45 : decode cX6_joint 45 = .ok (.iload 5, 2) := by decide +kernel
theorem dX6_joint_47 : decode cX6_joint 47 = .ok (.ifCond .ne 7, 3) := by decide +kernel
theorem dX6_joint_50 : decode cX6_joint 50 = .ok (.iconst 1, 1) := by decide +kernel
theorem dX6_joint_51 : decode cX6_joint 51 = .ok (.goto 4, 3) := by decide +kernel
theorem dX6_joint_54 : decode cX6_joint 54 = .ok (.iconst 0, 1) := by decide +kernel
theorem dX6_joint_55 : decode cX6_joint 55 = .ok (.istore 6, 2) := by decide +kernel
theorem dX6_joint_57 : decode cX6_joint 57 = .ok (.aload_n 0, 1) := by decide +kernel
theorem dX6_joint_58 : decode cX6_joint 58 = .ok (.aload_n 0, 1) := by decide +kernel
theorem dX6_joint_59 : decode cX6_joint 59 = .ok (.iload_n 2, 1) := by decide +kernel
theorem dX6_joint_60 : decode cX6_joint 60 = .ok (.invokevirtual 165, 3) := by decide +kernel
theorem dX6_joint_63 : decode cX6_joint 63 = .ok (.ifCond .eq 11, 3) := by decide +kernel
theorem dX6_joint_66 : decode cX6_joint 66 = .ok (.aload_n 0, 1) := by decide +kernel
theorem dX6_joint_67 : decode cX6_joint 67 = .ok (.iload_n 3, 1) := by decide +kernel
theorem dX6_joint_68 : decode cX6_joint 68 = .ok (.invokevirtual 165, 3) := by decide +kernel
theorem dX6_joint_71 : decode cX6_joint 71 = .ok (.ifCond .ne 7, 3) := by decide +kernel
theorem dX6_joint_74 : decode cX6_joint 74 = .ok (.iconst 1, 1) := by decide +kernel
theorem dX6_joint_75 : decode cX6_joint 75 = .ok (.goto 18, 3) := by decide +kernel
theorem dX6_joint_78 : decode cX6_joint 78 = .ok (.iload 6, 2) := by decide +kernel
theorem dX6_joint_80 : decode cX6_joint 80 = .ok (.ifCond .eq 8, 3) := by decide +kernel
theorem dX6_joint_83 : decode cX6_joint 83 = .ok (.iload_n 2, 1) := by decide +kernel
theorem dX6_joint_84 : decode cX6_joint 84 = .ok (.iload_n 3, 1) := by decide +kernel
theorem dX6_joint_85 : decode cX6_joint 85 = .ok (.if_icmp .ne 7, 3) := by decide +kernel
theorem dX6_joint_88 : decode cX6_joint 88 = .ok (.iconst 2, 1) := by decide +kernel
theorem dX6_joint_89 : decode cX6_joint 89 = .ok (.goto 4, 3) := by decide +kernel
theorem dX6_joint_92 : decode cX6_joint 92 = .ok (.iconst 0, 1) := by decide +kernel
theorem dX6_joint_93 : decode cX6_joint 93 = .ok (.putfield 105, 3) := by decide +kernel
theorem dX6_joint_96 : decode cX6_joint 96 = .ok (.aload_n 0, 1) := by decide +kernel
theorem dX6_joint_97 : decode cX6_joint 97 = .ok (.getfield 105, 3) := by decide +kernel
theorem dX6_joint_100 : decode cX6_joint 100 = .ok (.ifCond .ne 52, 3) := by decide +kernel
theorem dX6_joint_103 : decode cX6_joint 103 = .ok (.aload_n 0, 1) := by decide +kernel
theorem dX6_joint_104 : decode cX6_joint 104 = .ok (.aload_n 0, 1) := by decide +kernel
theorem dX6_joint_105 : decode cX6_joint 105 = .ok (.getfield 118, 3) := by decide +kernel
theorem dX6_joint_108 : decode cX6_joint 108 = .ok (.bipush 30, 2) := by decide +kernel
theorem dX6_joint_110 : decode cX6_joint 110 = .ok (.if_icmp .eq 34, 3) := by decide +kernel
theorem dX6_joint_113 : decode cX6_joint 113 = .ok (.aload_n 0, 1) := by decide +kernel
theorem dX6_joint_114 : decode cX6_joint 114 = .ok (.iload_n 1, 1) := by decide +kernel
theorem dX6_joint_115 : decode cX6_joint 115 = .ok (.iload_n 2, 1) := by decide +kernel
theorem dX6_joint_116 : decode cX6_joint 116 = .ok (.iload 4, 2) := by decide +kernel
theorem dX6_joint_118 : decode cX6_joint 118 = .ok (.iload 5, 2) := by decide +kernel
theorem dX6_joint_120 : decode cX6_joint 120 = .ok (.invokevirtual 168, 3) := by decide +kernel
theorem dX6_joint_123 : decode cX6_joint 123 = .ok (.ifCond .eq 21, 3) := by decide +kernel
theorem dX6_joint_126 : decode cX6_joint 126 = .ok (.aload_n 0, 1) := by decide +kernel
theorem dX6_joint_127 : decode cX6_joint 127 = .ok (.getfield 13, 3) := by decide +kernel
theorem dX6_joint_130 : decode cX6_joint 130 = .ok (.iconst 1, 1) := by decide +kernel
theorem dX6_joint_131 : decode cX6_joint 131 = .ok (.iaload, 1) := by decide +kernel
theorem dX6_joint_132 : decode cX6_joint 132 = .ok (.aload_n 0, 1) := by decide +kernel
theorem dX6_joint_133 : decode cX6_joint 133 = .ok (.aload_n 0, 1) := by decide +kernel
theorem dX6_joint_134 : decode cX6_joint 134 = .ok (.iload_n 2, 1) := by decide +kernel
theorem dX6_joint_135 : decode cX6_joint 135 = .ok (.invokevirtual 129, 3) := by decide +kernel
theorem dX6_joint_138 : decode cX6_joint 138 = .ok (.invokevirtual 162, 3) := by decide +kernel
theorem dX6_joint_141 : decode cX6_joint 141 = .ok (.if_icmp .ge 7, 3) := by decide +kernel
theorem dX6_joint_144 : decode cX6_joint 144 = .ok (.iconst 3, 1) := by decide +kernel
theorem dX6_joint_145 : decode cX6_joint 145 = .ok (.goto 4, 3) := by decide +kernel
theorem dX6_joint_148 : decode cX6_joint 148 = .ok (.iconst 0, 1) := by decide +kernel
theorem dX6_joint_149 : decode cX6_joint 149 = .ok (.putfield 105, 3) := by decide +kernel
theorem dX6_joint_152 : decode cX6_joint 152 = .ok (.aload_n 0, 1) := by decide +kernel
theorem dX6_joint_153 : decode cX6_joint 153 = .ok (.getfield 105, 3) := by decide +kernel
theorem dX6_joint_156 : decode cX6_joint 156 = .ok (.ifCond .le 5, 3) := by decide +kernel
theorem dX6_joint_159 : decode cX6_joint 159 = .ok (.iconst 0, 1) := by decide +kernel
theorem dX6_joint_160 : decode cX6_joint 160 = .ok (.ireturn, 1) := by decide +kernel
theorem dX6_joint_161 : decode cX6_joint 161 = .ok (.aload_n 0, 1) := by decide +kernel
theorem dX6_joint_162 : decode cX6_joint 162 = .ok (.getfield 118, 3) := by decide +kernel
theorem dX6_joint_165 : decode cX6_joint 165 = .ok (.istore 7, 2) := by decide +kernel
theorem dX6_joint_167 : decode cX6_joint 167 = .ok (.aload_n 0, 1) := by decide +kernel
theorem dX6_joint_168 : decode cX6_joint 168 = .ok (.getfield 13, 3) := by decide +kernel
theorem dX6_joint_171 : decode cX6_joint 171 = .ok (.iconst 1, 1) := by decide +kernel
theorem dX6_joint_172 : decode cX6_joint 172 = .ok (.dup2, 1) := by decide +kernel
theorem dX6_joint_173 : decode cX6_joint 173 = .ok (.iaload, 1) := by decide +kernel
theorem dX6_joint_174 : decode cX6_joint 174 = .ok (.aload_n 0, 1) := by decide +kernel
theorem dX6_joint_175 : decode cX6_joint 175 = .ok (.aload_n 0, 1) := by decide +kernel
theorem dX6_joint_176 : decode cX6_joint 176 = .ok (.iload_n 2, 1) := by decide +kernel
theorem dX6_joint_177 : decode cX6_joint 177 = .ok (.invokevirtual 129, 3) := by decide +kernel
theorem dX6_joint_180 : decode cX6_joint 180 = .ok (.invokevirtual 162, 3) := by decide +kernel
theorem dX6_joint_183 : decode cX6_joint 183 = .ok (.isub, 1) := by decide +kernel
theorem dX6_joint_184 : decode cX6_joint 184 = .ok (.iastore, 1) := by decide +kernel
theorem dX6_joint_185 : decode cX6_joint 185 = .ok (.aload_n 0, 1) := by decide +kernel
theorem dX6_joint_186 : decode cX6_joint 186 = .ok (.getfield 71, 3) := by decide +kernel
theorem dX6_joint_189 : decode cX6_joint 189 = .ok (.iload 7, 2) := by decide +kernel
theorem dX6_joint_191 : decode cX6_joint 191 = .ok (.iload_n 1, 1) := by decide +kernel
theorem dX6_joint_192 : decode cX6_joint 192 = .ok (.iastore, 1) := by decide +kernel
theorem dX6_joint_193 : decode cX6_joint 193 = .ok (.aload_n 0, 1) := by decide +kernel
theorem dX6_joint_194 : decode cX6_joint 194 = .ok (.getfield 74, 3) := by decide +kernel
theorem dX6_joint_197 : decode cX6_joint 197 = .ok (.iload 7, 2) := by decide +kernel
theorem dX6_joint_199 : decode cX6_joint 199 = .ok (.iload_n 2, 1) := by decide +kernel
theorem dX6_joint_200 : decode cX6_joint 200 = .ok (.iastore, 1) := by decide +kernel
theorem dX6_joint_201 : decode cX6_joint 201 = .ok (.aload_n 0, 1) := by decide +kernel
theorem dX6_joint_202 : decode cX6_joint 202 = .ok (.getfield 77, 3) := by decide +kernel
theorem dX6_joint_205 : decode cX6_joint 205 = .ok (.iload 7, 2) := by decide +kernel
theorem dX6_joint_207 : decode cX6_joint 207 = .ok (.iload_n 3, 1) := by decide +kernel
theorem dX6_joint_208 : decode cX6_joint 208 = .ok (.iastore, 1) := by decide +kernel
theorem dX6_joint_209 : decode cX6_joint 209 = .ok (.aload_n 0, 1) := by decide +kernel
theorem dX6_joint_210 : decode cX6_joint 210 = .ok (.getfield 80, 3) := by decide +kernel
theorem dX6_joint_213 : decode cX6_joint 213 = .ok (.iload 7, 2) := by decide +kernel
theorem dX6_joint_215 : decode cX6_joint 215 = .ok (.iload 4, 2) := by decide +kernel
theorem dX6_joint_217 : decode cX6_joint 217 = .ok (.iastore, 1) := by decide +kernel
theorem dX6_joint_218 : decode cX6_joint 218 = .ok (.aload_n 0, 1) := by decide +kernel
theorem dX6_joint_219 : decode cX6_joint 219 = .ok (.getfield 83, 3) := by decide +kernel
theorem dX6_joint_222 : decode cX6_joint 222 = .ok (.iload 7, 2) := by decide +kernel
theorem dX6_joint_224 : decode cX6_joint 224 = .ok (.iload 5, 2) := by decide +kernel
theorem dX6_joint_226 : decode cX6_joint 226 = .ok (.iastore, 1) := by decide +kernel
theorem dX6_joint_227 : decode cX6_joint 227 = .ok (.aload_n 0, 1) := by decide +kernel
theorem dX6_joint_228 : decode cX6_joint 228 = .ok (.dup, 1) := by decide +kernel
theorem dX6_joint_229 : decode cX6_joint 229 = .ok (.getfield 118, 3) := by decide +kernel
theorem dX6_joint_232 : decode cX6_joint 232 = .ok (.iconst 1, 1) := by decide +kernel
theorem dX6_joint_233 : decode cX6_joint 233 = .ok (.iadd, 1) := by decide +kernel
theorem dX6_joint_234 : decode cX6_joint 234 = .ok (.putfield 118, 3) := by decide +kernel
theorem dX6_joint_237 : decode cX6_joint 237 = .ok (.iload 7, 2) := by decide +kernel
theorem dX6_joint_239 : decode cX6_joint 239 = .ok (.ireturn, 1) := by decide +kernel
theorem dX6_need_0 : decode cX6_need 0 = .ok (.aload_n 0, 1) := by decide +kernel
theorem dX6_need_1 : decode cX6_need 1 = .ok (.aload_n 0, 1) := by decide +kernel
theorem dX6_need_2 : decode cX6_need 2 = .ok (.iload_n 1, 1) := by decide +kernel
theorem dX6_need_3 : decode cX6_need 3 = .ok (.invokevirtual 172, 3) := by decide +kernel
theorem dX6_need_6 : decode cX6_need 6 = .ok (.ifCond .eq 11, 3) := by decide +kernel
theorem dX6_need_9 : decode cX6_need 9 = .ok (.aload_n 0, 1) := by decide +kernel
theorem dX6_need_10 : decode cX6_need 10 = .ok (.iload_n 2, 1) := by decide +kernel
theorem dX6_need_11 : decode cX6_need 11 = .ok (.invokevirtual 172, 3) := by decide +kernel
theorem dX6_need_14 : decode cX6_need 14 = .ok (.ifCond .ne 7, 3) := by decide +kernel
theorem dX6_need_17 : decode cX6_need 17 = .ok (.iconst 1, 1) := by decide +kernel
theorem dX6_need_18 : decode cX6_need 18 = .ok (.goto 13, 3) := by decide +kernel
theorem dX6_need_21 : decode cX6_need 21 = .ok (.iload_n 2, 1) := by decide +kernel
theorem dX6_need_22 : decode cX6_need 22 = .ok (.iload_n 1, 1) := by decide +kernel
theorem dX6_need_23 : decode cX6_need 23 = .ok (.if_icmp .lt 7, 3) := by decide +kernel
theorem dX6_need_26 : decode cX6_need 26 = .ok (.iconst 2, 1) := by decide +kernel
theorem dX6_need_27 : decode cX6_need 27 = .ok (.goto 4, 3) := by decide +kernel
theorem dX6_need_30 : decode cX6_need 30 = .ok (.iconst 0, 1) := by decide +kernel
theorem dX6_need_31 : decode cX6_need 31 = .ok (.putfield 105, 3) := by decide +kernel
theorem dX6_need_34 : decode cX6_need 34 = .ok (.aload_n 0, 1) := by decide +kernel
theorem dX6_need_35 : decode cX6_need 35 = .ok (.getfield 105, 3) := by decide +kernel
theorem dX6_need_38 : decode cX6_need 38 = .ok (.ifCond .ne 21, 3) := by decide +kernel
theorem dX6_need_41 : decode cX6_need 41 = .ok (.aload_n 0, 1) := by decide +kernel
theorem dX6_need_42 : decode cX6_need 42 = .ok (.aload_n 0, 1) := by decide +kernel
theorem dX6_need_43 : decode cX6_need 43 = .ok (.getfield 89, 3) := by decide +kernel
theorem dX6_need_46 : decode cX6_need 46 = .ok (.iload_n 1, 1) := by decide +kernel
theorem dX6_need_47 : decode cX6_need 47 = .ok (.baload, 1) := by decide +kernel
theorem dX6_need_48 : decode cX6_need 48 = .ok (.ifCond .eq 7, 3) := by decide +kernel
theorem dX6_need_51 : decode cX6_need 51 = .ok (.iconst 3, 1) := by decide +kernel
theorem dX6_need_52 : decode cX6_need 52 = .ok (.goto 4, 3) := by decide +kernel
theorem dX6_need_55 : decode cX6_need 55 = .ok (.iconst 0, 1) := by decide +kernel
theorem dX6_need_56 : decode cX6_need 56 = .ok (.putfield 105, 3) := by decide +kernel
theorem dX6_need_59 : decode cX6_need 59 = .ok (.aload_n 0, 1) := by decide +kernel
theorem dX6_need_60 : decode cX6_need 60 = .ok (.getfield 105, 3) := by decide +kernel
theorem dX6_need_63 : decode cX6_need 63 = .ok (.ifCond .le 5, 3) := by decide +kernel
theorem dX6_need_66 : decode cX6_need 66 = .ok (.iconst 0, 1) := by decide +kernel
theorem dX6_need_67 : decode cX6_need 67 = .ok (.ireturn, 1) := by decide +kernel
theorem dX6_need_68 : decode cX6_need 68 = .ok (.aload_n 0, 1) := by decide +kernel
theorem dX6_need_69 : decode cX6_need 69 = .ok (.getfield 86, 3) := by decide +kernel
theorem dX6_need_72 : decode cX6_need 72 = .ok (.iload_n 1, 1) := by decide +kernel
theorem dX6_need_73 : decode cX6_need 73 = .ok (.dup2, 1) := by decide +kernel
theorem dX6_need_74 : decode cX6_need 74 = .ok (.iaload, 1) := by decide +kernel
theorem dX6_need_75 : decode cX6_need 75 = .ok (.iconst 1, 1) := by decide +kernel
theorem dX6_need_76 : decode cX6_need 76 = .ok (.iload_n 2, 1) := by decide +kernel
theorem dX6_need_77 : decode cX6_need 77 = .ok (.ishl, 1) := by decide +kernel
theorem dX6_need_78 : decode cX6_need 78 = .ok (.ior, 1) := by decide +kernel
theorem dX6_need_79 : decode cX6_need 79 = .ok (.iastore, 1) := by decide +kernel
theorem dX6_need_80 : decode cX6_need 80 = .ok (.aload_n 0, 1) := by decide +kernel
theorem dX6_need_81 : decode cX6_need 81 = .ok (.getfield 86, 3) := by decide +kernel
theorem dX6_need_84 : decode cX6_need 84 = .ok (.iload_n 1, 1) := by decide +kernel
theorem dX6_need_85 : decode cX6_need 85 = .ok (.iaload, 1) := by decide +kernel
theorem dX6_need_86 : decode cX6_need 86 = .ok (.ireturn, 1) := by decide +kernel
theorem dX6_clamps_0 : decode cX6_clamps 0 = .ok (.aload_n 0, 1) := by decide +kernel
theorem dX6_clamps_1 : decode cX6_clamps 1 = .ok (.aload_n 0, 1) := by decide +kernel
theorem dX6_clamps_2 : decode cX6_clamps 2 = .ok (.iload_n 1, 1) := by decide +kernel
theorem dX6_clamps_3 : decode cX6_clamps 3 = .ok (.iconst 1, 1) := by decide +kernel
theorem dX6_clamps_4 : decode cX6_clamps 4 = .ok (.bipush 99, 2) := by decide +kernel
theorem dX6_clamps_6 : decode cX6_clamps 6 = .ok (.invokevirtual 111, 3) := by decide +kernel
theorem dX6_clamps_9 : decode cX6_clamps 9 = .ok (.ifCond .ne 7, 3) := by decide +kernel
theorem dX6_clamps_12 : decode cX6_clamps 12 = .ok (.iconst 1, 1) := by decide +kernel
theorem dX6_clamps_13 : decode cX6_clamps 13 = .ok (.goto 4, 3) := by decide +kernel
theorem dX6_clamps_16 : decode cX6_clamps 16 = .ok (.iconst 0, 1) := by decide +kernel
theorem dX6_clamps_17 : decode cX6_clamps 17 = .ok (.putfield 105, 3) := by decide +kernel
theorem dX6_clamps_20 : decode cX6_clamps 20 = .ok (.aload_n 0, 1) := by decide +kernel
theorem dX6_clamps_21 : decode cX6_clamps 21 = .ok (.getfield 105, 3) := by decide +kernel
theorem dX6_clamps_24 : decode cX6_clamps 24 = .ok (.ifCond .le 5, 3) := by decide +kernel
theorem dX6_clamps_27 : decode cX6_clamps 27 = .ok (.iconst 0, 1) := by decide +kernel
theorem dX6_clamps_28 : decode cX6_clamps 28 = .ok (.ireturn, 1) := by decide +kernel
theorem dX6_clamps_29 : decode cX6_clamps 29 = .ok (.aload_n 0, 1) := by decide +kernel
theorem dX6_clamps_30 : decode cX6_clamps 30 = .ok (.getfield 16, 3) := by decide +kernel
theorem dX6_clamps_33 : decode cX6_clamps 33 = .ok (.istore_n 2, 1) := by decide +kernel
theorem dX6_clamps_34 : decode cX6_clamps 34 = .ok (.aload_n 0, 1) := by decide +kernel
theorem dX6_clamps_35 : decode cX6_clamps 35 = .ok (.iload_n 1, 1) := by decide +kernel
theorem dX6_clamps_36 : decode cX6_clamps 36 = .ok (.putfield 16, 3) := by decide +kernel
theorem dX6_clamps_39 : decode cX6_clamps 39 = .ok (.iload_n 2, 1) := by decide +kernel
theorem dX6_clamps_40 : decode cX6_clamps 40 = .ok (.ireturn, 1) := by decide +kernel
theorem dX6_glue_0 : decode cX6_glue 0 = .ok (.aload_n 0, 1) := by decide +kernel
theorem dX6_glue_1 : decode cX6_glue 1 = .ok (.iload_n 1, 1) := by decide +kernel
theorem dX6_glue_2 : decode cX6_glue 2 = .ok (.iconst 1, 1) := by decide +kernel
theorem dX6_glue_3 : decode cX6_glue 3 = .ok (.if_icmp .lt 12, 3) := by decide +kernel
theorem dX6_glue_6 : decode cX6_glue 6 = .ok (.iload_n 1, 1) := by decide +kernel
theorem dX6_glue_7 : decode cX6_glue 7 = .ok (.aload_n 0, 1) := by decide +kernel
theorem dX6_glue_8 : decode cX6_glue 8 = .ok (.getfield 118, 3) := by decide +kernel
theorem dX6_glue_11 : decode cX6_glue 11 = .ok (.ishr, 1) := by decide +kernel
theorem dX6_glue_12 : decode cX6_glue 12 = .ok (.ifCond .eq 7, 3) := by decide +kernel
theorem dX6_glue_15 : decode cX6_glue 15 = .ok (.iconst 1, 1) := by decide +kernel
theorem dX6_glue_16 : decode cX6_glue 16 = .ok (.goto 4, 3) := by decide +kernel
theorem dX6_glue_19 : decode cX6_glue 19 = .ok (.iconst 0, 1) := by decide +kernel
theorem dX6_glue_20 : decode cX6_glue 20 = .ok (.putfield 105, 3) := by decide +kernel
theorem dX6_glue_23 : decode cX6_glue 23 = .ok (.iconst 0, 1) := by decide +kernel
theorem dX6_glue_24 : decode cX6_glue 24 = .ok (.istore_n 2, 1) := by decide +kernel
theorem dX6_glue_25 : decode cX6_glue 25 = .ok (.iconst 0, 1) := by decide +kernel
theorem dX6_glue_26 : decode cX6_glue 26 = .ok (.istore_n 3, 1) := by decide +kernel
theorem dX6_glue_27 : decode cX6_glue 27 = .ok (.iconst 1, 1) := by decide +kernel
theorem dX6_glue_28 : decode cX6_glue 28 = .ok (.istore 4, 2) := by decide +kernel
theorem dX6_glue_30 : decode cX6_glue 30 = .ok (.iload_n 1, 1) := by decide +kernel
theorem dX6_glue_31 : decode cX6_glue 31 = .ok (.istore 5, 2) := by decide +kernel
theorem dX6_glue_33 : decode cX6_glue 33 = .ok (.iconst 0, 1) := by decide +kernel
theorem dX6_glue_34 : decode cX6_glue 34 = .ok (.istore 6, 2) := by decide +kernel
theorem dX6_glue_36 : decode cX6_glue 36 = .ok (.iload 6, 2) := by decide +kernel
theorem dX6_glue_38 : decode cX6_glue 38 = .ok (.aload_n 0, 1) := by decide +kernel
theorem dX6_glue_39 : decode cX6_glue 39 = .ok (.getfield 118, 3) := by decide +kernel
theorem dX6_glue_42 : decode cX6_glue 42 = .ok (.if_icmp .ge 33, 3) := by decide +kernel
theorem dX6_glue_45 : decode cX6_glue 45 = .ok (.aload_n 0, 1) := by decide +kernel
theorem dX6_glue_46 : decode cX6_glue 46 = .ok (.getfield 89, 3) := by decide +kernel
theorem dX6_glue_49 : decode cX6_glue 49 = .ok (.iload 6, 2) := by decide +kernel
theorem dX6_glue_51 : decode cX6_glue 51 = .ok (.baload, 1) := by decide +kernel
theorem dX6_glue_52 : decode cX6_glue 52 = .ok (.ifCond .eq 13, 3) := by decide +kernel
theorem dX6_glue_55 : decode cX6_glue 55 = .ok (.iload 5, 2) := by decide +kernel
theorem dX6_glue_57 : decode cX6_glue 57 = .ok (.iconst 1, 1) := by decide +kernel
theorem dX6_glue_58 : decode cX6_glue 58 = .ok (.iload 6, 2) := by decide +kernel
theorem dX6_glue_60 : decode cX6_glue 60 = .ok (.ishl, 1) := by decide +kernel
theorem dX6_glue_61 : decode cX6_glue 61 = .ok (.ior, 1) := by decide +kernel
theorem dX6_glue_62 : decode cX6_glue 62 = .ok (.goto 5, 3) := by decide +kernel
theorem dX6_glue_65 : decode cX6_glue 65 = .ok (.iload 5, 2) := by decide +kernel
theorem dX6_glue_67 : decode cX6_glue 67 = .ok (.istore 5, 2) := by decide +kernel
theorem dX6_glue_69 : decode cX6_glue 69 = .ok (.iinc 6 1, 3) := by decide +kernel
theorem dX6_glue_72 : decode cX6_glue 72 = .ok (.goto (-36), 3) := by decide +kernel
theorem dX6_glue_75 : decode cX6_glue 75 = .ok (.iconst 0, 1) := by decide +kernel
theorem dX6_glue_76 : decode cX6_glue 76 = .ok (.istore 6, 2) := by decide +kernel
theorem dX6_glue_78 : decode cX6_glue 78 = .ok (.iload 6, 2) := by decide +kernel
theorem dX6_glue_80 : decode cX6_glue 80 = .ok (.aload_n 0, 1) := by decide +kernel
theorem dX6_glue_81 : decode cX6_glue 81 = .ok (.getfield 118, 3) := by decide +kernel
theorem dX6_glue_84 : decode cX6_glue 84 = .ok (.if_icmp .ge 95, 3) := by decide +kernel
theorem dX6_glue_87 : decode cX6_glue 87 = .ok (.aload_n 0, 1) := by decide +kernel
theorem dX6_glue_88 : decode cX6_glue 88 = .ok (.getfield 105, 3) := by decide +kernel
theorem dX6_glue_91 : decode cX6_glue 91 = .ok (.ifCond .ne 88, 3) := by decide +kernel
theorem dX6_glue_94 : decode cX6_glue 94 = .ok (.iload_n 1, 1) := by decide +kernel
theorem dX6_glue_95 : decode cX6_glue 95 = .ok (.iload 6, 2) := by decide +kernel
theorem dX6_glue_97 : decode cX6_glue 97 = .ok (.ishr, 1) := by decide +kernel
theorem dX6_glue_98 : decode cX6_glue 98 = .ok (.iconst 1, 1) := by decide +kernel
theorem dX6_glue_99 : decode cX6_glue 99 = .ok (.iand, 1) := by decide +kernel
theorem dX6_glue_100 : decode cX6_glue 100 = .ok (.iconst 1, 1) := by decide +kernel
theorem dX6_glue_101 : decode cX6_glue 101 = .ok (.if_icmp .ne 72, 3) := by decide +kernel
theorem dX6_glue_104 : decode cX6_glue 104 = .ok (.iload_n 2, 1) := by decide +kernel
theorem dX6_glue_105 : decode cX6_glue 105 = .ok (.iconst 3, 1) := by decide +kernel
theorem dX6_glue_106 : decode cX6_glue 106 = .ok (.aload_n 0, 1) := by decide +kernel
theorem dX6_glue_107 : decode cX6_glue 107 = .ok (.getfield 80, 3) := by decide +kernel
theorem dX6_glue_110 : decode cX6_glue 110 = .ok (.iload 6, 2) := by decide +kernel
theorem dX6_glue_112 : decode cX6_glue 112 = .ok (.iaload, 1) := by decide +kernel
theorem dX6_glue_113 : decode cX6_glue 113 = .ok (.sipush 1000, 3) := by decide +kernel
theorem dX6_glue_116 : decode cX6_glue 116 = .ok (.idiv, 1) := by decide +kernel
theorem dX6_glue_117 : decode cX6_glue 117 = .ok (.iadd, 1) := by decide +kernel
theorem dX6_glue_118 : decode cX6_glue 118 = .ok (.iadd, 1) := by decide +kernel
theorem dX6_glue_119 : decode cX6_glue 119 = .ok (.istore_n 2, 1) := by decide +kernel
theorem dX6_glue_120 : decode cX6_glue 120 = .ok (.iload_n 3, 1) := by decide +kernel
theorem dX6_glue_121 : decode cX6_glue 121 = .ok (.iconst 1, 1) := by decide +kernel
theorem dX6_glue_122 : decode cX6_glue 122 = .ok (.aload_n 0, 1) := by decide +kernel
theorem dX6_glue_123 : decode cX6_glue 123 = .ok (.getfield 80, 3) := by decide +kernel
theorem dX6_glue_126 : decode cX6_glue 126 = .ok (.iload 6, 2) := by decide +kernel
theorem dX6_glue_128 : decode cX6_glue 128 = .ok (.iaload, 1) := by decide +kernel
theorem dX6_glue_129 : decode cX6_glue 129 = .ok (.sipush 500, 3) := by decide +kernel
theorem dX6_glue_132 : decode cX6_glue 132 = .ok (.idiv, 1) := by decide +kernel
theorem dX6_glue_133 : decode cX6_glue 133 = .ok (.iadd, 1) := by decide +kernel
theorem dX6_glue_134 : decode cX6_glue 134 = .ok (.iadd, 1) := by decide +kernel
theorem dX6_glue_135 : decode cX6_glue 135 = .ok (.istore_n 3, 1) := by decide +kernel
theorem dX6_glue_136 : decode cX6_glue 136 = .ok (.iload 4, 2) := by decide +kernel
theorem dX6_glue_138 : decode cX6_glue 138 = .ok (.ifCond .eq 32, 3) := by decide +kernel
theorem dX6_glue_141 : decode cX6_glue 141 = .ok (.aload_n 0, 1) := by decide +kernel
theorem dX6_glue_142 : decode cX6_glue 142 = .ok (.getfield 89, 3) := by decide +kernel
theorem dX6_glue_145 : decode cX6_glue 145 = .ok (.iload 6, 2) := by decide +kernel
theorem dX6_glue_147 : decode cX6_glue 147 = .ok (.baload, 1) := by decide +kernel
theorem dX6_glue_148 : decode cX6_glue 148 = .ok (.ifCond .ne 22, 3) := by decide +kernel
theorem dX6_glue_151 : decode cX6_glue 151 = .ok (.aload_n 0, 1) := by decide +kernel
theorem dX6_glue_152 : decode cX6_glue 152 = .ok (.getfield 86, 3) := by decide +kernel
theorem dX6_glue_155 : decode cX6_glue 155 = .ok (.iload 6, 2) := by decide +kernel
theorem dX6_glue_157 : decode cX6_glue 157 = .ok (.iaload, 1) := by decide +kernel
theorem dX6_glue_158 : decode cX6_glue 158 = .ok (.iload 5, 2) := by decide +kernel
theorem dX6_glue_160 : decode cX6_glue 160 = .ok (.iconst (-1), 1) := by decide +kernel
theorem dX6_glue_161 : decode cX6_glue 161 = .ok (.ixor, 1) := by decide +kernel
theorem dX6_glue_162 : decode cX6_glue 162 = .ok (.iand, 1) := by decide +kernel
theorem dX6_glue_163 : decode cX6_glue 163 = .ok (.ifCond .ne 7, 3) := by decide +kernel
theorem dX6_glue_166 : decode cX6_glue 166 = .ok (.iconst 1, 1) := by decide +kernel
theorem dX6_glue_167 : decode cX6_glue 167 = .ok (.goto 4, 3) := by decide +kernel
theorem dX6_glue_170 : decode cX6_glue 170 = .ok (.iconst 0, 1) := by decide +kernel
theorem dX6_glue_171 : decode cX6_glue 171 = .ok (.istore 4, 2) := by decide +kernel
theorem dX6_glue_173 : decode cX6_glue 173 = .ok (.iinc 6 1, 3) := by decide +kernel
theorem dX6_glue_176 : decode cX6_glue 176 = .ok (.goto (-98), 3) := by decide +kernel
theorem dX6_glue_179 : decode cX6_glue 179 = .ok (.aload_n 0, 1) := by decide +kernel
theorem dX6_glue_180 : decode cX6_glue 180 = .ok (.aload_n 0, 1) := by decide +kernel
theorem dX6_glue_181 : decode cX6_glue 181 = .ok (.getfield 105, 3) := by decide +kernel
theorem dX6_glue_184 : decode cX6_glue 184 = .ok (.ifCond .ne 26, 3) := by decide +kernel
theorem dX6_glue_187 : decode cX6_glue 187 = .ok (.iload 4, 2) := by decide +kernel
theorem dX6_glue_189 : decode cX6_glue 189 = .ok (.ifCond .eq 17, 3) := by decide +kernel
theorem dX6_glue_192 : decode cX6_glue 192 = .ok (.iload_n 2, 1) := by decide +kernel
theorem dX6_glue_193 : decode cX6_glue 193 = .ok (.bipush 30, 2) := by decide +kernel
theorem dX6_glue_195 : decode cX6_glue 195 = .ok (.if_icmp .gt 11, 3) := by decide +kernel
theorem dX6_glue_198 : decode cX6_glue 198 = .ok (.iload_n 3, 1) := by decide +kernel
theorem dX6_glue_199 : decode cX6_glue 199 = .ok (.aload_n 0, 1) := by decide +kernel
theorem dX6_glue_200 : decode cX6_glue 200 = .ok (.getfield 16, 3) := by decide +kernel
theorem dX6_glue_203 : decode cX6_glue 203 = .ok (.if_icmp .le 7, 3) := by decide +kernel
theorem dX6_glue_206 : decode cX6_glue 206 = .ok (.iconst 2, 1) := by decide +kernel
theorem dX6_glue_207 : decode cX6_glue 207 = .ok (.goto 7, 3) := by decide +kernel
theorem dX6_glue_210 : decode cX6_glue 210 = .ok (.aload_n 0, 1) := by decide +kernel
theorem dX6_glue_211 : decode cX6_glue 211 = .ok (.getfield 105, 3) := by decide +kernel
theorem dX6_glue_214 : decode cX6_glue 214 = .ok (.putfield 105, 3) := by decide +kernel
theorem dX6_glue_217 : decode cX6_glue 217 = .ok (.aload_n 0, 1) := by decide +kernel
theorem dX6_glue_218 : decode cX6_glue 218 = .ok (.getfield 105, 3) := by decide +kernel
theorem dX6_glue_221 : decode cX6_glue 221 = .ok (.ifCond .le 5, 3) := by decide +kernel
theorem dX6_glue_224 : decode cX6_glue 224 = .ok (.iconst 0, 1) := by decide +kernel
theorem dX6_glue_225 : decode cX6_glue 225 = .ok (.ireturn, 1) := by decide +kernel
theorem dX6_glue_226 : decode cX6_glue 226 = .ok (.iconst 0, 1) := by decide +kernel
theorem dX6_glue_227 : decode cX6_glue 227 = .ok (.istore 6, 2) := by decide +kernel
theorem dX6_glue_229 : decode cX6_glue 229 = .ok (.iload 6, 2) := by decide +kernel
theorem dX6_glue_231 : decode cX6_glue 231 = .ok (.aload_n 0, 1) := by decide +kernel
theorem dX6_glue_232 : decode cX6_glue 232 = .ok (.getfield 118, 3) := by decide +kernel
theorem dX6_glue_235 : decode cX6_glue 235 = .ok (.if_icmp .ge 46, 3) := by decide +kernel
theorem dX6_glue_238 : decode cX6_glue 238 = .ok (.iload_n 1, 1) := by decide +kernel
theorem dX6_glue_239 : decode cX6_glue 239 = .ok (.iload 6, 2) := by decide +kernel
theorem dX6_glue_241 : decode cX6_glue 241 = .ok (.ishr, 1) := by decide +kernel
theorem dX6_glue_242 : decode cX6_glue 242 = .ok (.iconst 1, 1) := by decide +kernel
theorem dX6_glue_243 : decode cX6_glue 243 = .ok (.iand, 1) := by decide +kernel
theorem dX6_glue_244 : decode cX6_glue 244 = .ok (.iconst 1, 1) := by decide +kernel
theorem dX6_glue_245 : decode cX6_glue 245 = .ok (.if_icmp .ne 30, 3) := by decide +kernel
theorem dX6_glue_248 : decode cX6_glue 248 = .ok (.aload_n 0, 1) := by decide +kernel
theorem dX6_glue_249 : decode cX6_glue 249 = .ok (.getfield 89, 3) := by decide +kernel
theorem dX6_glue_252 : decode cX6_glue 252 = .ok (.iload 6, 2) := by decide +kernel
theorem dX6_glue_254 : decode cX6_glue 254 = .ok (.iconst 1, 1) := by decide +kernel
theorem dX6_glue_255 : decode cX6_glue 255 = .ok (.bastore, 1) := by decide +kernel
theorem dX6_glue_256 : decode cX6_glue 256 = .ok (.aload_n 0, 1) := by decide +kernel
theorem dX6_glue_257 : decode cX6_glue 257 = .ok (.getfield 96, 3) := by decide +kernel
theorem dX6_glue_260 : decode cX6_glue 260 = .ok (.iload 6, 2) := by decide +kernel
theorem dX6_glue_262 : decode cX6_glue 262 = .ok (.aload_n 0, 1) := by decide +kernel
theorem dX6_glue_263 : decode cX6_glue 263 = .ok (.getfield 65, 3) := by decide +kernel
theorem dX6_glue_266 : decode cX6_glue 266 = .ok (.aload_n 0, 1) := by decide +kernel
theorem dX6_glue_267 : decode cX6_glue 267 = .ok (.getfield 74, 3) := by decide +kernel
theorem dX6_glue_270 : decode cX6_glue 270 = .ok (.iload 6, 2) := by decide +kernel
theorem dX6_glue_272 : decode cX6_glue 272 = .ok (.iaload, 1) := by decide +kernel
theorem dX6_glue_273 : decode cX6_glue 273 = .ok (.iaload, 1) := by decide +kernel
theorem dX6_glue_274 : decode cX6_glue 274 = .ok (.iastore, 1) := by decide +kernel
theorem dX6_glue_275 : decode cX6_glue 275 = .ok (.iinc 6 1, 3) := by decide +kernel
theorem dX6_glue_278 : decode cX6_glue 278 = .ok (.goto (-49), 3) := by decide +kernel
theorem dX6_glue_281 : decode cX6_glue 281 = .ok (.iload_n 2, 1) := by decide +kernel
theorem dX6_glue_282 : decode cX6_glue 282 = .ok (.ireturn, 1) := by decide +kernel
theorem dX6_repair_0 : decode cX6_repair 0 = .ok (.aload_n 0, 1) := by decide +kernel
theorem dX6_repair_1 : decode cX6_repair 1 = .ok (.aload_n 0, 1) := by decide +kernel
theorem dX6_repair_2 : decode cX6_repair 2 = .ok (.iload_n 1, 1) := by decide +kernel
theorem dX6_repair_3 : decode cX6_repair 3 = .ok (.invokevirtual 172, 3) := by decide +kernel
theorem dX6_repair_6 : decode cX6_repair 6 = .ok (.ifCond .ne 7, 3) := by decide +kernel
theorem dX6_repair_9 : decode cX6_repair 9 = .ok (.iconst 1, 1) := by decide +kernel
theorem dX6_repair_10 : decode cX6_repair 10 = .ok (.goto 4, 3) := by decide +kernel
theorem dX6_repair_13 : decode cX6_repair 13 = .ok (.iconst 0, 1) := by decide +kernel
theorem dX6_repair_14 : decode cX6_repair 14 = .ok (.putfield 105, 3) := by decide +kernel
theorem dX6_repair_17 : decode cX6_repair 17 = .ok (.aload_n 0, 1) := by decide +kernel
theorem dX6_repair_18 : decode cX6_repair 18 = .ok (.getfield 105, 3) := by decide +kernel
theorem dX6_repair_21 : decode cX6_repair 21 = .ok (.ifCond .ne 21, 3) := by decide +kernel
theorem dX6_repair_24 : decode cX6_repair 24 = .ok (.aload_n 0, 1) := by decide +kernel
theorem dX6_repair_25 : decode cX6_repair 25 = .ok (.aload_n 0, 1) := by decide +kernel
theorem dX6_repair_26 : decode cX6_repair 26 = .ok (.getfield 93, 3) := by decide +kernel
theorem dX6_repair_29 : decode cX6_repair 29 = .ok (.iload_n 1, 1) := by decide +kernel
theorem dX6_repair_30 : decode cX6_repair 30 = .ok (.baload, 1) := by decide +kernel
theorem dX6_repair_31 : decode cX6_repair 31 = .ok (.ifCond .ne 7, 3) := by decide +kernel
theorem dX6_repair_34 : decode cX6_repair 34 = .ok (.iconst 2, 1) := by decide +kernel
theorem dX6_repair_35 : decode cX6_repair 35 = .ok (.goto 4, 3) := by decide +kernel
theorem dX6_repair_38 : decode cX6_repair 38 = .ok (.iconst 0, 1) := by decide +kernel
theorem dX6_repair_39 : decode cX6_repair 39 = .ok (.putfield 105, 3) := by decide +kernel
theorem dX6_repair_42 : decode cX6_repair 42 = .ok (.aload_n 0, 1) := by decide +kernel
theorem dX6_repair_43 : decode cX6_repair 43 = .ok (.getfield 105, 3) := by decide +kernel
theorem dX6_repair_46 : decode cX6_repair 46 = .ok (.ifCond .le 5, 3) := by decide +kernel
theorem dX6_repair_49 : decode cX6_repair 49 = .ok (.iconst 0, 1) := by decide +kernel
theorem dX6_repair_50 : decode cX6_repair 50 = .ok (.ireturn, 1) := by decide +kernel
theorem dX6_repair_51 : decode cX6_repair 51 = .ok (.aload_n 0, 1) := by decide +kernel
theorem dX6_repair_52 : decode cX6_repair 52 = .ok (.getfield 74, 3) := by decide +kernel
theorem dX6_repair_55 : decode cX6_repair 55 = .ok (.iload_n 1, 1) := by decide +kernel
theorem dX6_repair_56 : decode cX6_repair 56 = .ok (.iaload, 1) := by decide +kernel
theorem dX6_repair_57 : decode cX6_repair 57 = .ok (.istore_n 2, 1) := by decide +kernel
theorem dX6_repair_58 : decode cX6_repair 58 = .ok (.aload_n 0, 1) := by decide +kernel
theorem dX6_repair_59 : decode cX6_repair 59 = .ok (.getfield 93, 3) := by decide +kernel
theorem dX6_repair_62 : decode cX6_repair 62 = .ok (.iload_n 1, 1) := by decide +kernel
theorem dX6_repair_63 : decode cX6_repair 63 = .ok (.iconst 0, 1) := by decide +kernel
theorem dX6_repair_64 : decode cX6_repair 64 = .ok (.bastore, 1) := by decide +kernel
theorem dX6_repair_65 : decode cX6_repair 65 = .ok (.aload_n 0, 1) := by decide +kernel
theorem dX6_repair_66 : decode cX6_repair 66 = .ok (.getfield 96, 3) := by decide +kernel
theorem dX6_repair_69 : decode cX6_repair 69 = .ok (.iload_n 1, 1) := by decide +kernel
theorem dX6_repair_70 : decode cX6_repair 70 = .ok (.aload_n 0, 1) := by decide +kernel
theorem dX6_repair_71 : decode cX6_repair 71 = .ok (.getfield 65, 3) := by decide +kernel
theorem dX6_repair_74 : decode cX6_repair 74 = .ok (.iload_n 2, 1) := by decide +kernel
theorem dX6_repair_75 : decode cX6_repair 75 = .ok (.iaload, 1) := by decide +kernel
theorem dX6_repair_76 : decode cX6_repair 76 = .ok (.iastore, 1) := by decide +kernel
theorem dX6_repair_77 : decode cX6_repair 77 = .ok (.aload_n 0, 1) := by decide +kernel
theorem dX6_repair_78 : decode cX6_repair 78 = .ok (.getfield 80, 3) := by decide +kernel
theorem dX6_repair_81 : decode cX6_repair 81 = .ok (.iload_n 1, 1) := by decide +kernel
theorem dX6_repair_82 : decode cX6_repair 82 = .ok (.aload_n 0, 1) := by decide +kernel
theorem dX6_repair_83 : decode cX6_repair 83 = .ok (.getfield 71, 3) := by decide +kernel
theorem dX6_repair_86 : decode cX6_repair 86 = .ok (.iload_n 1, 1) := by decide +kernel
theorem dX6_repair_87 : decode cX6_repair 87 = .ok (.iaload, 1) := by decide +kernel
theorem dX6_repair_88 : decode cX6_repair 88 = .ok (.iconst 2, 1) := by decide +kernel
theorem dX6_repair_89 : decode cX6_repair 89 = .ok (.if_icmp .ne 24, 3) := by decide +kernel
theorem dX6_repair_92 : decode cX6_repair 92 = .ok (.aload_n 0, 1) := by decide +kernel
theorem dX6_repair_93 : decode cX6_repair 93 = .ok (.iload_n 2, 1) := by decide +kernel
theorem dX6_repair_94 : decode cX6_repair 94 = .ok (.aload_n 0, 1) := by decide +kernel
theorem dX6_repair_95 : decode cX6_repair 95 = .ok (.getfield 65, 3) := by decide +kernel
theorem dX6_repair_98 : decode cX6_repair 98 = .ok (.iload_n 2, 1) := by decide +kernel
theorem dX6_repair_99 : decode cX6_repair 99 = .ok (.iaload, 1) := by decide +kernel
theorem dX6_repair_100 : decode cX6_repair 100 = .ok (.invokevirtual 136, 3) := by decide +kernel
theorem dX6_repair_103 : decode cX6_repair 103 = .ok (.aload_n 0, 1) := by decide +kernel
theorem dX6_repair_104 : decode cX6_repair 104 = .ok (.getfield 83, 3) := by decide +kernel
theorem dX6_repair_107 : decode cX6_repair 107 = .ok (.iload_n 1, 1) := by decide +kernel
theorem dX6_repair_108 : decode cX6_repair 108 = .ok (.iaload, 1) := by decide +kernel
theorem dX6_repair_109 : decode cX6_repair 109 = .ok (.iadd, 1) := by decide +kernel
theorem dX6_repair_110 : decode cX6_repair 110 = .ok (.goto 9, 3) := by decide +kernel
theorem dX6_repair_113 : decode cX6_repair 113 = .ok (.aload_n 0, 1) := by decide +kernel
theorem dX6_repair_114 : decode cX6_repair 114 = .ok (.getfield 80, 3) := by decide +kernel
theorem dX6_repair_117 : decode cX6_repair 117 = .ok (.iload_n 1, 1) := by decide +kernel
theorem dX6_repair_118 : decode cX6_repair 118 = .ok (.iaload, 1) := by decide +kernel
theorem dX6_repair_119 : decode cX6_repair 119 = .ok (.iastore, 1) := by decide +kernel
theorem dX6_repair_120 : decode cX6_repair 120 = .ok (.aload_n 0, 1) := by decide +kernel
theorem dX6_repair_121 : decode cX6_repair 121 = .ok (.getfield 80, 3) := by decide +kernel
theorem dX6_repair_124 : decode cX6_repair 124 = .ok (.iload_n 1, 1) := by decide +kernel
theorem dX6_repair_125 : decode cX6_repair 125 = .ok (.iaload, 1) := by decide +kernel
theorem dX6_repair_126 : decode cX6_repair 126 = .ok (.ireturn, 1) := by decide +kernel
theorem dX6_lookAhead_0 : decode cX6_lookAhead 0 = .ok (.iconst 0, 1) := by decide +kernel
theorem dX6_lookAhead_1 : decode cX6_lookAhead 1 = .ok (.istore_n 2, 1) := by decide +kernel
theorem dX6_lookAhead_2 : decode cX6_lookAhead 2 = .ok (.iload_n 2, 1) := by decide +kernel
theorem dX6_lookAhead_3 : decode cX6_lookAhead 3 = .ok (.aload_n 0, 1) := by decide +kernel
theorem dX6_lookAhead_4 : decode cX6_lookAhead 4 = .ok (.getfield 115, 3) := by decide +kernel
theorem dX6_lookAhead_7 : decode cX6_lookAhead 7 = .ok (.if_icmp .ge 21, 3) := by decide +kernel
theorem dX6_lookAhead_10 : decode cX6_lookAhead 10 = .ok (.aload_n 0, 1) := by decide +kernel
theorem dX6_lookAhead_11 : decode cX6_lookAhead 11 = .ok (.getfield 99, 3) := by decide +kernel
theorem dX6_lookAhead_14 : decode cX6_lookAhead 14 = .ok (.iload_n 2, 1) := by decide +kernel
theorem dX6_lookAhead_15 : decode cX6_lookAhead 15 = .ok (.aload_n 0, 1) := by decide +kernel
theorem dX6_lookAhead_16 : decode cX6_lookAhead 16 = .ok (.getfield 65, 3) := by decide +kernel
theorem dX6_lookAhead_19 : decode cX6_lookAhead 19 = .ok (.iload_n 2, 1) := by decide +kernel
theorem dX6_lookAhead_20 : decode cX6_lookAhead 20 = .ok (.iaload, 1) := by decide +kernel
theorem dX6_lookAhead_21 : decode cX6_lookAhead 21 = .ok (.iastore, 1) := by decide +kernel
theorem dX6_lookAhead_22 : decode cX6_lookAhead 22 = .ok (.iinc 2 1, 3) := by decide +kernel
theorem dX6_lookAhead_25 : decode cX6_lookAhead 25 = .ok (.goto (-23), 3) := by decide +kernel
theorem dX6_lookAhead_28 : decode cX6_lookAhead 28 = .ok (.iconst 0, 1) := by decide +kernel
theorem dX6_lookAhead_29 : decode cX6_lookAhead 29 = .ok (.istore_n 2, 1) := by decide +kernel
theorem dX6_lookAhead_30 : decode cX6_lookAhead 30 = .ok (.iload_n 2, 1) := by decide +kernel
theorem dX6_lookAhead_31 : decode cX6_lookAhead 31 = .ok (.aload_n 0, 1) := by decide +kernel
theorem dX6_lookAhead_32 : decode cX6_lookAhead 32 = .ok (.getfield 118, 3) := by decide +kernel
theorem dX6_lookAhead_35 : decode cX6_lookAhead 35 = .ok (.if_icmp .ge 16, 3) := by decide +kernel
theorem dX6_lookAhead_38 : decode cX6_lookAhead 38 = .ok (.aload_n 0, 1) := by decide +kernel
theorem dX6_lookAhead_39 : decode cX6_lookAhead 39 = .ok (.getfield 102, 3) := by decide +kernel
theorem dX6_lookAhead_42 : decode cX6_lookAhead 42 = .ok (.iload_n 2, 1) := by decide +kernel
theorem dX6_lookAhead_43 : decode cX6_lookAhead 43 = .ok (.iconst 0, 1) := by decide +kernel
theorem dX6_lookAhead_44 : decode cX6_lookAhead 44 = .ok (.iastore, 1) := by decide +kernel
theorem dX6_lookAhead_45 : decode cX6_lookAhead 45 = .ok (.iinc 2 1, 3) := by decide +kernel
theorem dX6_lookAhead_48 : decode cX6_lookAhead 48 = .ok (.goto (-18), 3) := by decide +kernel
theorem dX6_lookAhead_51 : decode cX6_lookAhead 51 = .ok (.iconst 1, 1) := by decide +kernel
theorem dX6_lookAhead_52 : decode cX6_lookAhead 52 = .ok (.istore_n 2, 1) := by decide +kernel
theorem dX6_lookAhead_53 : decode cX6_lookAhead 53 = .ok (.iload_n 2, 1) := by decide +kernel
theorem dX6_lookAhead_54 : decode cX6_lookAhead 54 = .ok (.iload_n 1, 1) := by decide +kernel
theorem dX6_lookAhead_55 : decode cX6_lookAhead 55 = .ok (.if_icmp .gt 145, 3) := by decide +kernel
theorem dX6_lookAhead_58 : decode cX6_lookAhead 58 = .ok (.iconst 0, 1) := by decide +kernel
theorem dX6_lookAhead_59 : decode cX6_lookAhead 59 = .ok (.istore_n 3, 1) := by decide +kernel
theorem dX6_lookAhead_60 : decode cX6_lookAhead 60 = .ok (.iload_n 3, 1) := by decide +kernel
theorem dX6_lookAhead_61 : decode cX6_lookAhead 61 = .ok (.aload_n 0, 1) := by decide +kernel
theorem dX6_lookAhead_62 : decode cX6_lookAhead 62 = .ok (.getfield 115, 3) := by decide +kernel
theorem dX6_lookAhead_65 : decode cX6_lookAhead 65 = .ok (.if_icmp .ge 39, 3) := by decide +kernel
theorem dX6_lookAhead_68 : decode cX6_lookAhead 68 = .ok (.aload_n 0, 1) := by decide +kernel
theorem dX6_lookAhead_69 : decode cX6_lookAhead 69 = .ok (.getfield 99, 3) := by decide +kernel
theorem dX6_lookAhead_72 : decode cX6_lookAhead 72 = .ok (.iload_n 3, 1) := by decide +kernel
theorem dX6_lookAhead_73 : decode cX6_lookAhead 73 = .ok (.aload_n 0, 1) := by decide +kernel
theorem dX6_lookAhead_74 : decode cX6_lookAhead 74 = .ok (.aload_n 0, 1) := by decide +kernel
theorem dX6_lookAhead_75 : decode cX6_lookAhead 75 = .ok (.getfield 99, 3) := by decide +kernel
theorem dX6_lookAhead_78 : decode cX6_lookAhead 78 = .ok (.iload_n 3, 1) := by decide +kernel
theorem dX6_lookAhead_79 : decode cX6_lookAhead 79 = .ok (.iaload, 1) := by decide +kernel
theorem dX6_lookAhead_80 : decode cX6_lookAhead 80 = .ok (.aload_n 0, 1) := by decide +kernel
theorem dX6_lookAhead_81 : decode cX6_lookAhead 81 = .ok (.getfield 140, 3) := by decide +kernel
theorem dX6_lookAhead_84 : decode cX6_lookAhead 84 = .ok (.iload_n 2, 1) := by decide +kernel
theorem dX6_lookAhead_85 : decode cX6_lookAhead 85 = .ok (.iadd, 1) := by decide +kernel
theorem dX6_lookAhead_86 : decode cX6_lookAhead 86 = .ok (.iconst 1, 1) := by decide +kernel
theorem dX6_lookAhead_87 : decode cX6_lookAhead 87 = .ok (.isub, 1) := by decide +kernel
theorem dX6_lookAhead_88 : decode cX6_lookAhead 88 = .ok (.aload_n 0, 1) := by decide +kernel
theorem dX6_lookAhead_89 : decode cX6_lookAhead 89 = .ok (.getfield 68, 3) := by decide +kernel
theorem dX6_lookAhead_92 : decode cX6_lookAhead 92 = .ok (.iload_n 3, 1) := by decide +kernel
theorem dX6_lookAhead_93 : decode cX6_lookAhead 93 = .ok (.iaload, 1) := by decide +kernel
theorem dX6_lookAhead_94 : decode cX6_lookAhead 94 = .ok (.invokevirtual 143, 3) := by decide +kernel
theorem dX6_lookAhead_97 : decode cX6_lookAhead 97 = .ok (.iastore, 1) := by decide +kernel
theorem dX6_lookAhead_98 : decode cX6_lookAhead 98 = .ok (.iinc 3 1, 3) := by decide +kernel
theorem dX6_lookAhead_101 : decode cX6_lookAhead 101 = .ok (.goto (-41), 3) := by decide +kernel
theorem dX6_lookAhead_104 : decode cX6_lookAhead 104 = .ok (.iconst 0, 1) := by decide +kernel
theorem dX6_lookAhead_105 : decode cX6_lookAhead 105 = .ok (.istore_n 3, 1) := by decide +kernel
theorem dX6_lookAhead_106 : decode cX6_lookAhead 106 = .ok (.iload_n 3, 1) := by decide +kernel
theorem dX6_lookAhead_107 : decode cX6_lookAhead 107 = .ok (.aload_n 0, 1) := by decide +kernel
theorem dX6_lookAhead_108 : decode cX6_lookAhead 108 = .ok (.getfield 118, 3) := by decide +kernel
theorem dX6_lookAhead_111 : decode cX6_lookAhead 111 = .ok (.if_icmp .ge 83, 3) := by decide +kernel
theorem dX6_lookAhead_114 : decode cX6_lookAhead 114 = .ok (.aload_n 0, 1) := by decide +kernel
theorem dX6_lookAhead_115 : decode cX6_lookAhead 115 = .ok (.getfield 89, 3) := by decide +kernel
theorem dX6_lookAhead_118 : decode cX6_lookAhead 118 = .ok (.iload_n 3, 1) := by decide +kernel
theorem dX6_lookAhead_119 : decode cX6_lookAhead 119 = .ok (.baload, 1) := by decide +kernel
theorem dX6_lookAhead_120 : decode cX6_lookAhead 120 = .ok (.ifCond .eq 25, 3) := by decide +kernel
theorem dX6_lookAhead_123 : decode cX6_lookAhead 123 = .ok (.aload_n 0, 1) := by decide +kernel
theorem dX6_lookAhead_124 : decode cX6_lookAhead 124 = .ok (.getfield 93, 3) := by decide +kernel
theorem dX6_lookAhead_127 : decode cX6_lookAhead 127 = .ok (.iload_n 3, 1) := by decide +kernel
theorem dX6_lookAhead_128 : decode cX6_lookAhead 128 = .ok (.baload, 1) := by decide +kernel
theorem dX6_lookAhead_129 : decode cX6_lookAhead 129 = .ok (.ifCond .ne 16, 3) := by decide +kernel
theorem dX6_lookAhead_132 : decode cX6_lookAhead 132 = .ok (.aload_n 0, 1) := by decide +kernel
theorem dX6_lookAhead_133 : decode cX6_lookAhead 133 = .ok (.getfield 102, 3) := by decide +kernel
theorem dX6_lookAhead_136 : decode cX6_lookAhead 136 = .ok (.iload_n 3, 1) := by decide +kernel
theorem dX6_lookAhead_137 : decode cX6_lookAhead 137 = .ok (.iaload, 1) := by decide +kernel
theorem dX6_lookAhead_138 : decode cX6_lookAhead 138 = .ok (.ifCond .ne 7, 3) := by decide +kernel
theorem dX6_lookAhead_141 : decode cX6_lookAhead 141 = .ok (.iconst 1, 1) := by decide +kernel
theorem dX6_lookAhead_142 : decode cX6_lookAhead 142 = .ok (.goto 4, 3) := by decide +kernel
theorem dX6_lookAhead_145 : decode cX6_lookAhead 145 = .ok (.iconst 0, 1) := by decide +kernel
theorem dX6_lookAhead_146 : decode cX6_lookAhead 146 = .ok (.istore 4, 2) := by decide +kernel
theorem dX6_lookAhead_148 : decode cX6_lookAhead 148 = .ok (.aload_n 0, 1) := by decide +kernel
theorem dX6_lookAhead_149 : decode cX6_lookAhead 149 = .ok (.getfield 102, 3) := by decide +kernel
theorem dX6_lookAhead_152 : decode cX6_lookAhead 152 = .ok (.iload_n 3, 1) := by decide +kernel
theorem dX6_lookAhead_153 : decode cX6_lookAhead 153 = .ok (.iload 4, 2) := by decide +kernel
theorem dX6_lookAhead_155 : decode cX6_lookAhead 155 = .ok (.ifCond .eq 26, 3) := by decide +kernel
theorem dX6_lookAhead_158 : decode cX6_lookAhead 158 = .ok (.aload_n 0, 1) := by decide +kernel
theorem dX6_lookAhead_159 : decode cX6_lookAhead 159 = .ok (.iload_n 3, 1) := by decide +kernel
theorem dX6_lookAhead_160 : decode cX6_lookAhead 160 = .ok (.aload_n 0, 1) := by decide +kernel
theorem dX6_lookAhead_161 : decode cX6_lookAhead 161 = .ok (.getfield 99, 3) := by decide +kernel
theorem dX6_lookAhead_164 : decode cX6_lookAhead 164 = .ok (.aload_n 0, 1) := by decide +kernel
theorem dX6_lookAhead_165 : decode cX6_lookAhead 165 = .ok (.getfield 74, 3) := by decide +kernel
theorem dX6_lookAhead_168 : decode cX6_lookAhead 168 = .ok (.iload_n 3, 1) := by decide +kernel
theorem dX6_lookAhead_169 : decode cX6_lookAhead 169 = .ok (.iaload, 1) := by decide +kernel
theorem dX6_lookAhead_170 : decode cX6_lookAhead 170 = .ok (.iaload, 1) := by decide +kernel
theorem dX6_lookAhead_171 : decode cX6_lookAhead 171 = .ok (.invokevirtual 146, 3) := by decide +kernel
theorem dX6_lookAhead_174 : decode cX6_lookAhead 174 = .ok (.ifCond .eq 7, 3) := by decide +kernel
theorem dX6_lookAhead_177 : decode cX6_lookAhead 177 = .ok (.iload_n 2, 1) := by decide +kernel
theorem dX6_lookAhead_178 : decode cX6_lookAhead 178 = .ok (.goto 9, 3) := by decide +kernel
theorem dX6_lookAhead_181 : decode cX6_lookAhead 181 = .ok (.aload_n 0, 1) := by decide +kernel
theorem dX6_lookAhead_182 : decode cX6_lookAhead 182 = .ok (.getfield 102, 3) := by decide +kernel
theorem dX6_lookAhead_185 : decode cX6_lookAhead 185 = .ok (.iload_n 3, 1) := by decide +kernel
theorem dX6_lookAhead_186 : decode cX6_lookAhead 186 = .ok (.iaload, 1) := by decide +kernel
theorem dX6_lookAhead_187 : decode cX6_lookAhead 187 = .ok (.iastore, 1) := by decide +kernel
theorem dX6_lookAhead_188 : decode cX6_lookAhead 188 = .ok (.iinc 3 1, 3) := by decide +kernel
theorem dX6_lookAhead_191 : decode cX6_lookAhead 191 = .ok (.goto (-85), 3) := by decide +kernel
theorem dX6_lookAhead_194 : decode cX6_lookAhead 194 = .ok (.iinc 2 1, 3) := by decide +kernel
theorem dX6_lookAhead_197 : decode cX6_lookAhead 197 = .ok (.goto (-144), 3) := by decide +kernel
theorem dX6_lookAhead_200 : decode cX6_lookAhead 200 = .ok (.return_, 1) := by decide +kernel
theorem dX6_through_0 : decode cX6_through 0 = .ok (.aload_n 0, 1) := by decide +kernel
theorem dX6_through_1 : decode cX6_through 1 = .ok (.aload_n 0, 1) := by decide +kernel
theorem dX6_through_2 : decode cX6_through 2 = .ok (.iload_n 1, 1) := by decide +kernel
theorem dX6_through_3 : decode cX6_through 3 = .ok (.iconst 1, 1) := by decide +kernel
theorem dX6_through_4 : decode cX6_through 4 = .ok (.bipush 24, 2) := by decide +kernel
theorem dX6_through_6 : decode cX6_through 6 = .ok (.invokevirtual 111, 3) := by decide +kernel
theorem dX6_through_9 : decode cX6_through 9 = .ok (.ifCond .ne 7, 3) := by decide +kernel
theorem dX6_through_12 : decode cX6_through 12 = .ok (.iconst 1, 1) := by decide +kernel
theorem dX6_through_13 : decode cX6_through 13 = .ok (.goto 4, 3) := by decide +kernel
theorem dX6_through_16 : decode cX6_through 16 = .ok (.iconst 0, 1) := by decide +kernel
theorem dX6_through_17 : decode cX6_through 17 = .ok (.putfield 105, 3) := by decide +kernel
theorem dX6_through_20 : decode cX6_through 20 = .ok (.aload_n 0, 1) := by decide +kernel
theorem dX6_through_21 : decode cX6_through 21 = .ok (.getfield 105, 3) := by decide +kernel
theorem dX6_through_24 : decode cX6_through 24 = .ok (.ifCond .le 5, 3) := by decide +kernel
theorem dX6_through_27 : decode cX6_through 27 = .ok (.iconst 0, 1) := by decide +kernel
theorem dX6_through_28 : decode cX6_through 28 = .ok (.ireturn, 1) := by decide +kernel
theorem dX6_through_29 : decode cX6_through 29 = .ok (.aload_n 0, 1) := by decide +kernel
theorem dX6_through_30 : decode cX6_through 30 = .ok (.iload_n 1, 1) := by decide +kernel
theorem dX6_through_31 : decode cX6_through 31 = .ok (.invokevirtual 175, 3) := by decide +kernel
theorem dX6_through_34 : decode cX6_through 34 = .ok (.iconst 0, 1) := by decide +kernel
theorem dX6_through_35 : decode cX6_through 35 = .ok (.istore_n 2, 1) := by decide +kernel
theorem dX6_through_36 : decode cX6_through 36 = .ok (.iconst 0, 1) := by decide +kernel
theorem dX6_through_37 : decode cX6_through 37 = .ok (.istore_n 3, 1) := by decide +kernel
theorem dX6_through_38 : decode cX6_through 38 = .ok (.iload_n 3, 1) := by decide +kernel
theorem dX6_through_39 : decode cX6_through 39 = .ok (.aload_n 0, 1) := by decide +kernel
theorem dX6_through_40 : decode cX6_through 40 = .ok (.getfield 118, 3) := by decide +kernel
theorem dX6_through_43 : decode cX6_through 43 = .ok (.if_icmp .ge 28, 3) := by decide +kernel
theorem dX6_through_46 : decode cX6_through 46 = .ok (.aload_n 0, 1) := by decide +kernel
theorem dX6_through_47 : decode cX6_through 47 = .ok (.getfield 102, 3) := by decide +kernel
theorem dX6_through_50 : decode cX6_through 50 = .ok (.iload_n 3, 1) := by decide +kernel
theorem dX6_through_51 : decode cX6_through 51 = .ok (.iaload, 1) := by decide +kernel
theorem dX6_through_52 : decode cX6_through 52 = .ok (.ifCond .le 11, 3) := by decide +kernel
theorem dX6_through_55 : decode cX6_through 55 = .ok (.iload_n 2, 1) := by decide +kernel
theorem dX6_through_56 : decode cX6_through 56 = .ok (.iconst 1, 1) := by decide +kernel
theorem dX6_through_57 : decode cX6_through 57 = .ok (.iload_n 3, 1) := by decide +kernel
theorem dX6_through_58 : decode cX6_through 58 = .ok (.ishl, 1) := by decide +kernel
theorem dX6_through_59 : decode cX6_through 59 = .ok (.ior, 1) := by decide +kernel
theorem dX6_through_60 : decode cX6_through 60 = .ok (.goto 4, 3) := by decide +kernel
theorem dX6_through_63 : decode cX6_through 63 = .ok (.iload_n 2, 1) := by decide +kernel
theorem dX6_through_64 : decode cX6_through 64 = .ok (.istore_n 2, 1) := by decide +kernel
theorem dX6_through_65 : decode cX6_through 65 = .ok (.iinc 3 1, 3) := by decide +kernel
theorem dX6_through_68 : decode cX6_through 68 = .ok (.goto (-30), 3) := by decide +kernel
theorem dX6_through_71 : decode cX6_through 71 = .ok (.iload_n 2, 1) := by decide +kernel
theorem dX6_through_72 : decode cX6_through 72 = .ok (.ireturn, 1) := by decide +kernel
theorem dX6_breaksIn_0 : decode cX6_breaksIn 0 = .ok (.aload_n 0, 1) := by decide +kernel
theorem dX6_breaksIn_1 : decode cX6_breaksIn 1 = .ok (.aload_n 0, 1) := by decide +kernel
theorem dX6_breaksIn_2 : decode cX6_breaksIn 2 = .ok (.iload_n 1, 1) := by decide +kernel
theorem dX6_breaksIn_3 : decode cX6_breaksIn 3 = .ok (.invokevirtual 172, 3) := by decide +kernel
theorem dX6_breaksIn_6 : decode cX6_breaksIn 6 = .ok (.ifCond .ne 7, 3) := by decide +kernel
theorem dX6_breaksIn_9 : decode cX6_breaksIn 9 = .ok (.iconst 1, 1) := by decide +kernel
theorem dX6_breaksIn_10 : decode cX6_breaksIn 10 = .ok (.goto 41, 3) := by decide +kernel
theorem dX6_breaksIn_13 : decode cX6_breaksIn 13 = .ok (.aload_n 0, 1) := by decide +kernel
theorem dX6_breaksIn_14 : decode cX6_breaksIn 14 = .ok (.iload_n 2, 1) := by decide +kernel
theorem dX6_breaksIn_15 : decode cX6_breaksIn 15 = .ok (.iconst 1, 1) := by decide +kernel
theorem dX6_breaksIn_16 : decode cX6_breaksIn 16 = .ok (.bipush 24, 2) := by decide +kernel
theorem dX6_breaksIn_18 : decode cX6_breaksIn 18 = .ok (.invokevirtual 111, 3) := by decide +kernel
theorem dX6_breaksIn_21 : decode cX6_breaksIn 21 = .ok (.ifCond .ne 7, 3) := by decide +kernel
theorem dX6_breaksIn_24 : decode cX6_breaksIn 24 = .ok (.iconst 2, 1) := by decide +kernel
theorem dX6_breaksIn_25 : decode cX6_breaksIn 25 = .ok (.goto 26, 3) := by decide +kernel
theorem dX6_breaksIn_28 : decode cX6_breaksIn 28 = .ok (.aload_n 0, 1) := by decide +kernel
theorem dX6_breaksIn_29 : decode cX6_breaksIn 29 = .ok (.getfield 89, 3) := by decide +kernel
theorem dX6_breaksIn_32 : decode cX6_breaksIn 32 = .ok (.iload_n 1, 1) := by decide +kernel
theorem dX6_breaksIn_33 : decode cX6_breaksIn 33 = .ok (.baload, 1) := by decide +kernel
theorem dX6_breaksIn_34 : decode cX6_breaksIn 34 = .ok (.ifCond .eq 12, 3) := by decide +kernel
theorem dX6_breaksIn_37 : decode cX6_breaksIn 37 = .ok (.aload_n 0, 1) := by decide +kernel
theorem dX6_breaksIn_38 : decode cX6_breaksIn 38 = .ok (.getfield 93, 3) := by decide +kernel
theorem dX6_breaksIn_41 : decode cX6_breaksIn 41 = .ok (.iload_n 1, 1) := by decide +kernel
theorem dX6_breaksIn_42 : decode cX6_breaksIn 42 = .ok (.baload, 1) := by decide +kernel
theorem dX6_breaksIn_43 : decode cX6_breaksIn 43 = .ok (.ifCond .eq 7, 3) := by decide +kernel
theorem dX6_breaksIn_46 : decode cX6_breaksIn 46 = .ok (.iconst 3, 1) := by decide +kernel
theorem dX6_breaksIn_47 : decode cX6_breaksIn 47 = .ok (.goto 4, 3) := by decide +kernel
theorem dX6_breaksIn_50 : decode cX6_breaksIn 50 = .ok (.iconst 0, 1) := by decide +kernel
theorem dX6_breaksIn_51 : decode cX6_breaksIn 51 = .ok (.putfield 105, 3) := by decide +kernel
theorem dX6_breaksIn_54 : decode cX6_breaksIn 54 = .ok (.aload_n 0, 1) := by decide +kernel
theorem dX6_breaksIn_55 : decode cX6_breaksIn 55 = .ok (.getfield 105, 3) := by decide +kernel
theorem dX6_breaksIn_58 : decode cX6_breaksIn 58 = .ok (.ifCond .le 5, 3) := by decide +kernel
theorem dX6_breaksIn_61 : decode cX6_breaksIn 61 = .ok (.iconst 0, 1) := by decide +kernel
theorem dX6_breaksIn_62 : decode cX6_breaksIn 62 = .ok (.ireturn, 1) := by decide +kernel
theorem dX6_breaksIn_63 : decode cX6_breaksIn 63 = .ok (.aload_n 0, 1) := by decide +kernel
theorem dX6_breaksIn_64 : decode cX6_breaksIn 64 = .ok (.iload_n 2, 1) := by decide +kernel
theorem dX6_breaksIn_65 : decode cX6_breaksIn 65 = .ok (.invokevirtual 175, 3) := by decide +kernel
theorem dX6_breaksIn_68 : decode cX6_breaksIn 68 = .ok (.aload_n 0, 1) := by decide +kernel
theorem dX6_breaksIn_69 : decode cX6_breaksIn 69 = .ok (.getfield 102, 3) := by decide +kernel
theorem dX6_breaksIn_72 : decode cX6_breaksIn 72 = .ok (.iload_n 1, 1) := by decide +kernel
theorem dX6_breaksIn_73 : decode cX6_breaksIn 73 = .ok (.iaload, 1) := by decide +kernel
theorem dX6_breaksIn_74 : decode cX6_breaksIn 74 = .ok (.ifCond .le 12, 3) := by decide +kernel
theorem dX6_breaksIn_77 : decode cX6_breaksIn 77 = .ok (.aload_n 0, 1) := by decide +kernel
theorem dX6_breaksIn_78 : decode cX6_breaksIn 78 = .ok (.getfield 102, 3) := by decide +kernel
theorem dX6_breaksIn_81 : decode cX6_breaksIn 81 = .ok (.iload_n 1, 1) := by decide +kernel
theorem dX6_breaksIn_82 : decode cX6_breaksIn 82 = .ok (.iaload, 1) := by decide +kernel
theorem dX6_breaksIn_83 : decode cX6_breaksIn 83 = .ok (.goto 4, 3) := by decide +kernel
theorem dX6_breaksIn_86 : decode cX6_breaksIn 86 = .ok (.iconst (-1), 1) := by decide +kernel
theorem dX6_breaksIn_87 : decode cX6_breaksIn 87 = .ok (.ireturn, 1) := by decide +kernel
theorem dX6_month_0 : decode cX6_month 0 = .ok (.aload_n 0, 1) := by decide +kernel
theorem dX6_month_1 : decode cX6_month 1 = .ok (.iconst 0, 1) := by decide +kernel
theorem dX6_month_2 : decode cX6_month 2 = .ok (.putfield 105, 3) := by decide +kernel
theorem dX6_month_5 : decode cX6_month 5 = .ok (.aload_n 0, 1) := by decide +kernel
theorem dX6_month_6 : decode cX6_month 6 = .ok (.getfield 140, 3) := by decide +kernel
theorem dX6_month_9 : decode cX6_month 9 = .ok (.ireturn, 1) := by decide +kernel
theorem dX6_ofBoard_0 : decode cX6_ofBoard 0 = .ok (.aload_n 0, 1) := by decide +kernel
theorem dX6_ofBoard_1 : decode cX6_ofBoard 1 = .ok (.aload_n 0, 1) := by decide +kernel
theorem dX6_ofBoard_2 : decode cX6_ofBoard 2 = .ok (.iload_n 1, 1) := by decide +kernel
theorem dX6_ofBoard_3 : decode cX6_ofBoard 3 = .ok (.invokevirtual 150, 3) := by decide +kernel
theorem dX6_ofBoard_6 : decode cX6_ofBoard 6 = .ok (.ifCond .ne 7, 3) := by decide +kernel
theorem dX6_ofBoard_9 : decode cX6_ofBoard 9 = .ok (.iconst 1, 1) := by decide +kernel
theorem dX6_ofBoard_10 : decode cX6_ofBoard 10 = .ok (.goto 18, 3) := by decide +kernel
theorem dX6_ofBoard_13 : decode cX6_ofBoard 13 = .ok (.aload_n 0, 1) := by decide +kernel
theorem dX6_ofBoard_14 : decode cX6_ofBoard 14 = .ok (.iload_n 2, 1) := by decide +kernel
theorem dX6_ofBoard_15 : decode cX6_ofBoard 15 = .ok (.iconst 0, 1) := by decide +kernel
theorem dX6_ofBoard_16 : decode cX6_ofBoard 16 = .ok (.iconst 2, 1) := by decide +kernel
theorem dX6_ofBoard_17 : decode cX6_ofBoard 17 = .ok (.invokevirtual 111, 3) := by decide +kernel
theorem dX6_ofBoard_20 : decode cX6_ofBoard 20 = .ok (.ifCond .ne 7, 3) := by decide +kernel
theorem dX6_ofBoard_23 : decode cX6_ofBoard 23 = .ok (.iconst 2, 1) := by decide +kernel
theorem dX6_ofBoard_24 : decode cX6_ofBoard 24 = .ok (.goto 4, 3) := by decide +kernel
theorem dX6_ofBoard_27 : decode cX6_ofBoard 27 = .ok (.iconst 0, 1) := by decide +kernel
theorem dX6_ofBoard_28 : decode cX6_ofBoard 28 = .ok (.putfield 105, 3) := by decide +kernel
theorem dX6_ofBoard_31 : decode cX6_ofBoard 31 = .ok (.aload_n 0, 1) := by decide +kernel
theorem dX6_ofBoard_32 : decode cX6_ofBoard 32 = .ok (.getfield 105, 3) := by decide +kernel
theorem dX6_ofBoard_35 : decode cX6_ofBoard 35 = .ok (.ifCond .le 5, 3) := by decide +kernel
theorem dX6_ofBoard_38 : decode cX6_ofBoard 38 = .ok (.iconst 0, 1) := by decide +kernel
theorem dX6_ofBoard_39 : decode cX6_ofBoard 39 = .ok (.ireturn, 1) := by decide +kernel
theorem dX6_ofBoard_40 : decode cX6_ofBoard 40 = .ok (.iload_n 2, 1) := by decide +kernel
theorem dX6_ofBoard_41 : decode cX6_ofBoard 41 = .ok (.ifCond .ne 12, 3) := by decide +kernel
theorem dX6_ofBoard_44 : decode cX6_ofBoard 44 = .ok (.aload_n 0, 1) := by decide +kernel
theorem dX6_ofBoard_45 : decode cX6_ofBoard 45 = .ok (.getfield 38, 3) := by decide +kernel
theorem dX6_ofBoard_48 : decode cX6_ofBoard 48 = .ok (.iload_n 1, 1) := by decide +kernel
theorem dX6_ofBoard_49 : decode cX6_ofBoard 49 = .ok (.iaload, 1) := by decide +kernel
theorem dX6_ofBoard_50 : decode cX6_ofBoard 50 = .ok (.goto 22, 3) := by decide +kernel
theorem dX6_ofBoard_53 : decode cX6_ofBoard 53 = .ok (.iload_n 2, 1) := by decide +kernel
theorem dX6_ofBoard_54 : decode cX6_ofBoard 54 = .ok (.iconst 1, 1) := by decide +kernel
theorem dX6_ofBoard_55 : decode cX6_ofBoard 55 = .ok (.if_icmp .ne 11, 3) := by decide +kernel
theorem dX6_ofBoard_58 : decode cX6_ofBoard 58 = .ok (.aload_n 0, 1) := by decide +kernel
theorem dX6_ofBoard_59 : decode cX6_ofBoard 59 = .ok (.iload_n 1, 1) := by decide +kernel
theorem dX6_ofBoard_60 : decode cX6_ofBoard 60 = .ok (.invokevirtual 156, 3) := by decide +kernel
theorem dX6_ofBoard_63 : decode cX6_ofBoard 63 = .ok (.goto 9, 3) := by decide +kernel
theorem dX6_ofBoard_66 : decode cX6_ofBoard 66 = .ok (.aload_n 0, 1) := by decide +kernel
theorem dX6_ofBoard_67 : decode cX6_ofBoard 67 = .ok (.getfield 41, 3) := by decide +kernel
theorem dX6_ofBoard_70 : decode cX6_ofBoard 70 = .ok (.iload_n 1, 1) := by decide +kernel
theorem dX6_ofBoard_71 : decode cX6_ofBoard 71 = .ok (.iaload, 1) := by decide +kernel
theorem dX6_ofBoard_72 : decode cX6_ofBoard 72 = .ok (.ireturn, 1) := by decide +kernel
theorem dX6_ofPart_0 : decode cX6_ofPart 0 = .ok (.aload_n 0, 1) := by decide +kernel
theorem dX6_ofPart_1 : decode cX6_ofPart 1 = .ok (.aload_n 0, 1) := by decide +kernel
theorem dX6_ofPart_2 : decode cX6_ofPart 2 = .ok (.iload_n 1, 1) := by decide +kernel
theorem dX6_ofPart_3 : decode cX6_ofPart 3 = .ok (.invokevirtual 165, 3) := by decide +kernel
theorem dX6_ofPart_6 : decode cX6_ofPart 6 = .ok (.ifCond .ne 7, 3) := by decide +kernel
theorem dX6_ofPart_9 : decode cX6_ofPart 9 = .ok (.iconst 1, 1) := by decide +kernel
theorem dX6_ofPart_10 : decode cX6_ofPart 10 = .ok (.goto 18, 3) := by decide +kernel
theorem dX6_ofPart_13 : decode cX6_ofPart 13 = .ok (.aload_n 0, 1) := by decide +kernel
theorem dX6_ofPart_14 : decode cX6_ofPart 14 = .ok (.iload_n 2, 1) := by decide +kernel
theorem dX6_ofPart_15 : decode cX6_ofPart 15 = .ok (.iconst 0, 1) := by decide +kernel
theorem dX6_ofPart_16 : decode cX6_ofPart 16 = .ok (.iconst 4, 1) := by decide +kernel
theorem dX6_ofPart_17 : decode cX6_ofPart 17 = .ok (.invokevirtual 111, 3) := by decide +kernel
theorem dX6_ofPart_20 : decode cX6_ofPart 20 = .ok (.ifCond .ne 7, 3) := by decide +kernel
theorem dX6_ofPart_23 : decode cX6_ofPart 23 = .ok (.iconst 2, 1) := by decide +kernel
theorem dX6_ofPart_24 : decode cX6_ofPart 24 = .ok (.goto 4, 3) := by decide +kernel
theorem dX6_ofPart_27 : decode cX6_ofPart 27 = .ok (.iconst 0, 1) := by decide +kernel
theorem dX6_ofPart_28 : decode cX6_ofPart 28 = .ok (.putfield 105, 3) := by decide +kernel
theorem dX6_ofPart_31 : decode cX6_ofPart 31 = .ok (.aload_n 0, 1) := by decide +kernel
theorem dX6_ofPart_32 : decode cX6_ofPart 32 = .ok (.getfield 105, 3) := by decide +kernel
theorem dX6_ofPart_35 : decode cX6_ofPart 35 = .ok (.ifCond .le 5, 3) := by decide +kernel
theorem dX6_ofPart_38 : decode cX6_ofPart 38 = .ok (.iconst 0, 1) := by decide +kernel
theorem dX6_ofPart_39 : decode cX6_ofPart 39 = .ok (.ireturn, 1) := by decide +kernel
theorem dX6_ofPart_40 : decode cX6_ofPart 40 = .ok (.iload_n 2, 1) := by decide +kernel
theorem dX6_ofPart_41 : decode cX6_ofPart 41 = .ok (.ifCond .ne 12, 3) := by decide +kernel
theorem dX6_ofPart_44 : decode cX6_ofPart 44 = .ok (.aload_n 0, 1) := by decide +kernel
theorem dX6_ofPart_45 : decode cX6_ofPart 45 = .ok (.getfield 50, 3) := by decide +kernel
theorem dX6_ofPart_48 : decode cX6_ofPart 48 = .ok (.iload_n 1, 1) := by decide +kernel
theorem dX6_ofPart_49 : decode cX6_ofPart 49 = .ok (.iaload, 1) := by decide +kernel
theorem dX6_ofPart_50 : decode cX6_ofPart 50 = .ok (.goto 56, 3) := by decide +kernel
theorem dX6_ofPart_53 : decode cX6_ofPart 53 = .ok (.iload_n 2, 1) := by decide +kernel
theorem dX6_ofPart_54 : decode cX6_ofPart 54 = .ok (.iconst 1, 1) := by decide +kernel
theorem dX6_ofPart_55 : decode cX6_ofPart 55 = .ok (.if_icmp .ne 17, 3) := by decide +kernel
theorem dX6_ofPart_58 : decode cX6_ofPart 58 = .ok (.aload_n 0, 1) := by decide +kernel
theorem dX6_ofPart_59 : decode cX6_ofPart 59 = .ok (.iload_n 1, 1) := by decide +kernel
theorem dX6_ofPart_60 : decode cX6_ofPart 60 = .ok (.aload_n 0, 1) := by decide +kernel
theorem dX6_ofPart_61 : decode cX6_ofPart 61 = .ok (.getfield 65, 3) := by decide +kernel
theorem dX6_ofPart_64 : decode cX6_ofPart 64 = .ok (.iload_n 1, 1) := by decide +kernel
theorem dX6_ofPart_65 : decode cX6_ofPart 65 = .ok (.iaload, 1) := by decide +kernel
theorem dX6_ofPart_66 : decode cX6_ofPart 66 = .ok (.invokevirtual 136, 3) := by decide +kernel
theorem dX6_ofPart_69 : decode cX6_ofPart 69 = .ok (.goto 37, 3) := by decide +kernel
theorem dX6_ofPart_72 : decode cX6_ofPart 72 = .ok (.iload_n 2, 1) := by decide +kernel
theorem dX6_ofPart_73 : decode cX6_ofPart 73 = .ok (.iconst 2, 1) := by decide +kernel
theorem dX6_ofPart_74 : decode cX6_ofPart 74 = .ok (.if_icmp .ne 12, 3) := by decide +kernel
theorem dX6_ofPart_77 : decode cX6_ofPart 77 = .ok (.aload_n 0, 1) := by decide +kernel
theorem dX6_ofPart_78 : decode cX6_ofPart 78 = .ok (.getfield 65, 3) := by decide +kernel
theorem dX6_ofPart_81 : decode cX6_ofPart 81 = .ok (.iload_n 1, 1) := by decide +kernel
theorem dX6_ofPart_82 : decode cX6_ofPart 82 = .ok (.iaload, 1) := by decide +kernel
theorem dX6_ofPart_83 : decode cX6_ofPart 83 = .ok (.goto 23, 3) := by decide +kernel
theorem dX6_ofPart_86 : decode cX6_ofPart 86 = .ok (.iload_n 2, 1) := by decide +kernel
theorem dX6_ofPart_87 : decode cX6_ofPart 87 = .ok (.iconst 3, 1) := by decide +kernel
theorem dX6_ofPart_88 : decode cX6_ofPart 88 = .ok (.if_icmp .ne 12, 3) := by decide +kernel
theorem dX6_ofPart_91 : decode cX6_ofPart 91 = .ok (.aload_n 0, 1) := by decide +kernel
theorem dX6_ofPart_92 : decode cX6_ofPart 92 = .ok (.getfield 68, 3) := by decide +kernel
theorem dX6_ofPart_95 : decode cX6_ofPart 95 = .ok (.iload_n 1, 1) := by decide +kernel
theorem dX6_ofPart_96 : decode cX6_ofPart 96 = .ok (.iaload, 1) := by decide +kernel
theorem dX6_ofPart_97 : decode cX6_ofPart 97 = .ok (.goto 9, 3) := by decide +kernel
theorem dX6_ofPart_100 : decode cX6_ofPart 100 = .ok (.aload_n 0, 1) := by decide +kernel
theorem dX6_ofPart_101 : decode cX6_ofPart 101 = .ok (.getfield 53, 3) := by decide +kernel
theorem dX6_ofPart_104 : decode cX6_ofPart 104 = .ok (.iload_n 1, 1) := by decide +kernel
theorem dX6_ofPart_105 : decode cX6_ofPart 105 = .ok (.iaload, 1) := by decide +kernel
theorem dX6_ofPart_106 : decode cX6_ofPart 106 = .ok (.ireturn, 1) := by decide +kernel
theorem dX6_stateOf_0 : decode cX6_stateOf 0 = .ok (.aload_n 0, 1) := by decide +kernel
theorem dX6_stateOf_1 : decode cX6_stateOf 1 = .ok (.getfield 89, 3) := by decide +kernel
theorem dX6_stateOf_4 : decode cX6_stateOf 4 = .ok (.iload_n 1, 1) := by decide +kernel
theorem dX6_stateOf_5 : decode cX6_stateOf 5 = .ok (.baload, 1) := by decide +kernel
theorem dX6_stateOf_6 : decode cX6_stateOf 6 = .ok (.ifCond .ne 5, 3) := by decide +kernel
theorem dX6_stateOf_9 : decode cX6_stateOf 9 = .ok (.iconst 0, 1) := by decide +kernel
theorem dX6_stateOf_10 : decode cX6_stateOf 10 = .ok (.ireturn, 1) := by decide +kernel
theorem dX6_stateOf_11 : decode cX6_stateOf 11 = .ok (.aload_n 0, 1) := by decide +kernel
theorem dX6_stateOf_12 : decode cX6_stateOf 12 = .ok (.getfield 71, 3) := by decide +kernel
theorem dX6_stateOf_15 : decode cX6_stateOf 15 = .ok (.iload_n 1, 1) := by decide +kernel
theorem dX6_stateOf_16 : decode cX6_stateOf 16 = .ok (.iaload, 1) := by decide +kernel
theorem dX6_stateOf_17 : decode cX6_stateOf 17 = .ok (.iconst 2, 1) := by decide +kernel
theorem dX6_stateOf_18 : decode cX6_stateOf 18 = .ok (.if_icmp .ne 37, 3) := by decide +kernel
theorem dX6_stateOf_21 : decode cX6_stateOf 21 = .ok (.aload_n 0, 1) := by decide +kernel
theorem dX6_stateOf_22 : decode cX6_stateOf 22 = .ok (.aload_n 0, 1) := by decide +kernel
theorem dX6_stateOf_23 : decode cX6_stateOf 23 = .ok (.getfield 74, 3) := by decide +kernel
theorem dX6_stateOf_26 : decode cX6_stateOf 26 = .ok (.iload_n 1, 1) := by decide +kernel
theorem dX6_stateOf_27 : decode cX6_stateOf 27 = .ok (.iaload, 1) := by decide +kernel
theorem dX6_stateOf_28 : decode cX6_stateOf 28 = .ok (.aload_n 0, 1) := by decide +kernel
theorem dX6_stateOf_29 : decode cX6_stateOf 29 = .ok (.getfield 65, 3) := by decide +kernel
theorem dX6_stateOf_32 : decode cX6_stateOf 32 = .ok (.aload_n 0, 1) := by decide +kernel
theorem dX6_stateOf_33 : decode cX6_stateOf 33 = .ok (.getfield 74, 3) := by decide +kernel
theorem dX6_stateOf_36 : decode cX6_stateOf 36 = .ok (.iload_n 1, 1) := by decide +kernel
theorem dX6_stateOf_37 : decode cX6_stateOf 37 = .ok (.iaload, 1) := by decide +kernel
theorem dX6_stateOf_38 : decode cX6_stateOf 38 = .ok (.iaload, 1) := by decide +kernel
theorem dX6_stateOf_39 : decode cX6_stateOf 39 = .ok (.invokevirtual 136, 3) := by decide +kernel
theorem dX6_stateOf_42 : decode cX6_stateOf 42 = .ok (.aload_n 0, 1) := by decide +kernel
theorem dX6_stateOf_43 : decode cX6_stateOf 43 = .ok (.getfield 80, 3) := by decide +kernel
theorem dX6_stateOf_46 : decode cX6_stateOf 46 = .ok (.iload_n 1, 1) := by decide +kernel
theorem dX6_stateOf_47 : decode cX6_stateOf 47 = .ok (.iaload, 1) := by decide +kernel
theorem dX6_stateOf_48 : decode cX6_stateOf 48 = .ok (.if_icmp .le 7, 3) := by decide +kernel
theorem dX6_stateOf_51 : decode cX6_stateOf 51 = .ok (.iconst 1, 1) := by decide +kernel
theorem dX6_stateOf_52 : decode cX6_stateOf 52 = .ok (.goto 4, 3) := by decide +kernel
theorem dX6_stateOf_55 : decode cX6_stateOf 55 = .ok (.iconst 0, 1) := by decide +kernel
theorem dX6_stateOf_56 : decode cX6_stateOf 56 = .ok (.istore_n 2, 1) := by decide +kernel
theorem dX6_stateOf_57 : decode cX6_stateOf 57 = .ok (.aload_n 0, 1) := by decide +kernel
theorem dX6_stateOf_58 : decode cX6_stateOf 58 = .ok (.getfield 93, 3) := by decide +kernel
theorem dX6_stateOf_61 : decode cX6_stateOf 61 = .ok (.iload_n 1, 1) := by decide +kernel
theorem dX6_stateOf_62 : decode cX6_stateOf 62 = .ok (.baload, 1) := by decide +kernel
theorem dX6_stateOf_63 : decode cX6_stateOf 63 = .ok (.ifCond .eq 7, 3) := by decide +kernel
theorem dX6_stateOf_66 : decode cX6_stateOf 66 = .ok (.iconst 3, 1) := by decide +kernel
theorem dX6_stateOf_67 : decode cX6_stateOf 67 = .ok (.goto 12, 3) := by decide +kernel
theorem dX6_stateOf_70 : decode cX6_stateOf 70 = .ok (.iload_n 2, 1) := by decide +kernel
theorem dX6_stateOf_71 : decode cX6_stateOf 71 = .ok (.ifCond .eq 7, 3) := by decide +kernel
theorem dX6_stateOf_74 : decode cX6_stateOf 74 = .ok (.iconst 2, 1) := by decide +kernel
theorem dX6_stateOf_75 : decode cX6_stateOf 75 = .ok (.goto 4, 3) := by decide +kernel
theorem dX6_stateOf_78 : decode cX6_stateOf 78 = .ok (.iconst 1, 1) := by decide +kernel
theorem dX6_stateOf_79 : decode cX6_stateOf 79 = .ok (.ireturn, 1) := by decide +kernel
theorem dX6_ofJoint_0 : decode cX6_ofJoint 0 = .ok (.aload_n 0, 1) := by decide +kernel
theorem dX6_ofJoint_1 : decode cX6_ofJoint 1 = .ok (.aload_n 0, 1) := by decide +kernel
theorem dX6_ofJoint_2 : decode cX6_ofJoint 2 = .ok (.iload_n 1, 1) := by decide +kernel
theorem dX6_ofJoint_3 : decode cX6_ofJoint 3 = .ok (.invokevirtual 172, 3) := by decide +kernel
theorem dX6_ofJoint_6 : decode cX6_ofJoint 6 = .ok (.ifCond .ne 7, 3) := by decide +kernel
theorem dX6_ofJoint_9 : decode cX6_ofJoint 9 = .ok (.iconst 1, 1) := by decide +kernel
theorem dX6_ofJoint_10 : decode cX6_ofJoint 10 = .ok (.goto 18, 3) := by decide +kernel
theorem dX6_ofJoint_13 : decode cX6_ofJoint 13 = .ok (.aload_n 0, 1) := by decide +kernel
theorem dX6_ofJoint_14 : decode cX6_ofJoint 14 = .ok (.iload_n 2, 1) := by decide +kernel
theorem dX6_ofJoint_15 : decode cX6_ofJoint 15 = .ok (.iconst 0, 1) := by decide +kernel
theorem dX6_ofJoint_16 : decode cX6_ofJoint 16 = .ok (.iconst 4, 1) := by decide +kernel
theorem dX6_ofJoint_17 : decode cX6_ofJoint 17 = .ok (.invokevirtual 111, 3) := by decide +kernel
theorem dX6_ofJoint_20 : decode cX6_ofJoint 20 = .ok (.ifCond .ne 7, 3) := by decide +kernel
theorem dX6_ofJoint_23 : decode cX6_ofJoint 23 = .ok (.iconst 2, 1) := by decide +kernel
theorem dX6_ofJoint_24 : decode cX6_ofJoint 24 = .ok (.goto 4, 3) := by decide +kernel
theorem dX6_ofJoint_27 : decode cX6_ofJoint 27 = .ok (.iconst 0, 1) := by decide +kernel
theorem dX6_ofJoint_28 : decode cX6_ofJoint 28 = .ok (.putfield 105, 3) := by decide +kernel
theorem dX6_ofJoint_31 : decode cX6_ofJoint 31 = .ok (.aload_n 0, 1) := by decide +kernel
theorem dX6_ofJoint_32 : decode cX6_ofJoint 32 = .ok (.getfield 105, 3) := by decide +kernel
theorem dX6_ofJoint_35 : decode cX6_ofJoint 35 = .ok (.ifCond .le 5, 3) := by decide +kernel
theorem dX6_ofJoint_38 : decode cX6_ofJoint 38 = .ok (.iconst 0, 1) := by decide +kernel
theorem dX6_ofJoint_39 : decode cX6_ofJoint 39 = .ok (.ireturn, 1) := by decide +kernel
theorem dX6_ofJoint_40 : decode cX6_ofJoint 40 = .ok (.iload_n 2, 1) := by decide +kernel
theorem dX6_ofJoint_41 : decode cX6_ofJoint 41 = .ok (.ifCond .ne 11, 3) := by decide +kernel
theorem dX6_ofJoint_44 : decode cX6_ofJoint 44 = .ok (.aload_n 0, 1) := by decide +kernel
theorem dX6_ofJoint_45 : decode cX6_ofJoint 45 = .ok (.iload_n 1, 1) := by decide +kernel
theorem dX6_ofJoint_46 : decode cX6_ofJoint 46 = .ok (.invokevirtual 179, 3) := by decide +kernel
theorem dX6_ofJoint_49 : decode cX6_ofJoint 49 = .ok (.goto 51, 3) := by decide +kernel
theorem dX6_ofJoint_52 : decode cX6_ofJoint 52 = .ok (.iload_n 2, 1) := by decide +kernel
theorem dX6_ofJoint_53 : decode cX6_ofJoint 53 = .ok (.iconst 1, 1) := by decide +kernel
theorem dX6_ofJoint_54 : decode cX6_ofJoint 54 = .ok (.if_icmp .ne 12, 3) := by decide +kernel
theorem dX6_ofJoint_57 : decode cX6_ofJoint 57 = .ok (.aload_n 0, 1) := by decide +kernel
theorem dX6_ofJoint_58 : decode cX6_ofJoint 58 = .ok (.getfield 80, 3) := by decide +kernel
theorem dX6_ofJoint_61 : decode cX6_ofJoint 61 = .ok (.iload_n 1, 1) := by decide +kernel
theorem dX6_ofJoint_62 : decode cX6_ofJoint 62 = .ok (.iaload, 1) := by decide +kernel
theorem dX6_ofJoint_63 : decode cX6_ofJoint 63 = .ok (.goto 37, 3) := by decide +kernel
theorem dX6_ofJoint_66 : decode cX6_ofJoint 66 = .ok (.iload_n 2, 1) := by decide +kernel
theorem dX6_ofJoint_67 : decode cX6_ofJoint 67 = .ok (.iconst 2, 1) := by decide +kernel
theorem dX6_ofJoint_68 : decode cX6_ofJoint 68 = .ok (.if_icmp .ne 12, 3) := by decide +kernel
theorem dX6_ofJoint_71 : decode cX6_ofJoint 71 = .ok (.aload_n 0, 1) := by decide +kernel
theorem dX6_ofJoint_72 : decode cX6_ofJoint 72 = .ok (.getfield 86, 3) := by decide +kernel
theorem dX6_ofJoint_75 : decode cX6_ofJoint 75 = .ok (.iload_n 1, 1) := by decide +kernel
theorem dX6_ofJoint_76 : decode cX6_ofJoint 76 = .ok (.iaload, 1) := by decide +kernel
theorem dX6_ofJoint_77 : decode cX6_ofJoint 77 = .ok (.goto 23, 3) := by decide +kernel
theorem dX6_ofJoint_80 : decode cX6_ofJoint 80 = .ok (.iload_n 2, 1) := by decide +kernel
theorem dX6_ofJoint_81 : decode cX6_ofJoint 81 = .ok (.iconst 3, 1) := by decide +kernel
theorem dX6_ofJoint_82 : decode cX6_ofJoint 82 = .ok (.if_icmp .ne 12, 3) := by decide +kernel
theorem dX6_ofJoint_85 : decode cX6_ofJoint 85 = .ok (.aload_n 0, 1) := by decide +kernel
theorem dX6_ofJoint_86 : decode cX6_ofJoint 86 = .ok (.getfield 74, 3) := by decide +kernel
theorem dX6_ofJoint_89 : decode cX6_ofJoint 89 = .ok (.iload_n 1, 1) := by decide +kernel
theorem dX6_ofJoint_90 : decode cX6_ofJoint 90 = .ok (.iaload, 1) := by decide +kernel
theorem dX6_ofJoint_91 : decode cX6_ofJoint 91 = .ok (.goto 9, 3) := by decide +kernel
theorem dX6_ofJoint_94 : decode cX6_ofJoint 94 = .ok (.aload_n 0, 1) := by decide +kernel
theorem dX6_ofJoint_95 : decode cX6_ofJoint 95 = .ok (.getfield 77, 3) := by decide +kernel
theorem dX6_ofJoint_98 : decode cX6_ofJoint 98 = .ok (.iload_n 1, 1) := by decide +kernel
theorem dX6_ofJoint_99 : decode cX6_ofJoint 99 = .ok (.iaload, 1) := by decide +kernel
theorem dX6_ofJoint_100 : decode cX6_ofJoint 100 = .ok (.ireturn, 1) := by decide +kernel
end
section
theorem dX0_init_0 : decode cX0_init 0 = .ok (.aload_n 0, 1) := by decide +kernel
theorem dX0_init_1 : decode cX0_init 1 = .ok (.iload_n 2, 1) := by decide +kernel
theorem dX0_init_2 : decode cX0_init 2 = .ok (.iload 5, 2) := by decide +kernel
theorem dX0_init_4 : decode cX0_init 4 = .ok (.iload 7, 2) := by decide +kernel
theorem dX0_init_6 : decode cX0_init 6 = .ok (.invokespecial 1, 3) := by decide +kernel
theorem dX0_init_9 : decode cX0_init 9 = .ok (.aload_n 0, 1) := by decide +kernel
theorem dX0_init_10 : decode cX0_init 10 = .ok (.new 7, 3) := by decide +kernel
theorem dX0_init_13 : decode cX0_init 13 = .ok (.dup, 1) := by decide +kernel
theorem dX0_init_14 : decode cX0_init 14 = .ok (.invokespecial 9, 3) := by decide +kernel
theorem dX0_init_17 : decode cX0_init 17 = .ok (.putfield 12, 3) := by decide +kernel
theorem dX0_init_20 : decode cX0_init 20 = .ok (.aload_n 0, 1) := by decide +kernel
theorem dX0_init_21 : decode cX0_init 21 = .ok (.new 7, 3) := by decide +kernel
theorem dX0_init_24 : decode cX0_init 24 = .ok (.dup, 1) := by decide +kernel
theorem dX0_init_25 : decode cX0_init 25 = .ok (.invokespecial 9, 3) := by decide +kernel
theorem dX0_init_28 : decode cX0_init 28 = .ok (.putfield 18, 3) := by decide +kernel
theorem dX0_init_31 : decode cX0_init 31 = .ok (.aload_n 0, 1) := by decide +kernel
theorem dX0_init_32 : decode cX0_init 32 = .ok (.iload_n 1, 1) := by decide +kernel
theorem dX0_init_33 : decode cX0_init 33 = .ok (.putfield 21, 3) := by decide +kernel
theorem dX0_init_36 : decode cX0_init 36 = .ok (.aload_n 0, 1) := by decide +kernel
theorem dX0_init_37 : decode cX0_init 37 = .ok (.iload_n 3, 1) := by decide +kernel
theorem dX0_init_38 : decode cX0_init 38 = .ok (.putfield 25, 3) := by decide +kernel
theorem dX0_init_41 : decode cX0_init 41 = .ok (.aload_n 0, 1) := by decide +kernel
theorem dX0_init_42 : decode cX0_init 42 = .ok (.iload 4, 2) := by decide +kernel
theorem dX0_init_44 : decode cX0_init 44 = .ok (.putfield 28, 3) := by decide +kernel
theorem dX0_init_47 : decode cX0_init 47 = .ok (.aload_n 0, 1) := by decide +kernel
theorem dX0_init_48 : decode cX0_init 48 = .ok (.iload 6, 2) := by decide +kernel
theorem dX0_init_50 : decode cX0_init 50 = .ok (.putfield 31, 3) := by decide +kernel
theorem dX0_init_53 : decode cX0_init 53 = .ok (.return_, 1) := by decide +kernel
theorem dX0_hasRoom_0 : decode cX0_hasRoom 0 = .ok (.iload_n 1, 1) := by decide +kernel
theorem dX0_hasRoom_1 : decode cX0_hasRoom 1 = .ok (.iload_n 2, 1) := by decide +kernel
theorem dX0_hasRoom_2 : decode cX0_hasRoom 2 = .ok (.iadd, 1) := by decide +kernel
theorem dX0_hasRoom_3 : decode cX0_hasRoom 3 = .ok (.aload_n 0, 1) := by decide +kernel
theorem dX0_hasRoom_4 : decode cX0_hasRoom 4 = .ok (.getfield 31, 3) := by decide +kernel
theorem dX0_hasRoom_7 : decode cX0_hasRoom 7 = .ok (.if_icmp .gt 21, 3) := by decide +kernel
theorem dX0_hasRoom_10 : decode cX0_hasRoom 10 = .ok (.aload_n 0, 1) := by decide +kernel
theorem dX0_hasRoom_11 : decode cX0_hasRoom 11 = .ok (.getfield 18, 3) := by decide +kernel
theorem dX0_hasRoom_14 : decode cX0_hasRoom 14 = .ok (.iload_n 1, 1) := by decide +kernel
theorem dX0_hasRoom_15 : decode cX0_hasRoom 15 = .ok (.iload_n 1, 1) := by decide +kernel
theorem dX0_hasRoom_16 : decode cX0_hasRoom 16 = .ok (.iload_n 2, 1) := by decide +kernel
theorem dX0_hasRoom_17 : decode cX0_hasRoom 17 = .ok (.iadd, 1) := by decide +kernel
theorem dX0_hasRoom_18 : decode cX0_hasRoom 18 = .ok (.invokestatic 34, 3) := by decide +kernel
theorem dX0_hasRoom_21 : decode cX0_hasRoom 21 = .ok (.ifCond .ne 7, 3) := by decide +kernel
theorem dX0_hasRoom_24 : decode cX0_hasRoom 24 = .ok (.iconst 1, 1) := by decide +kernel
theorem dX0_hasRoom_25 : decode cX0_hasRoom 25 = .ok (.goto 4, 3) := by decide +kernel
theorem dX0_hasRoom_28 : decode cX0_hasRoom 28 = .ok (.iconst 0, 1) := by decide +kernel
theorem dX0_hasRoom_29 : decode cX0_hasRoom 29 = .ok (.ireturn, 1) := by decide +kernel
theorem dX0_isClear_0 : decode cX0_isClear 0 = .ok (.aload_n 0, 1) := by decide +kernel
theorem dX0_isClear_1 : decode cX0_isClear 1 = .ok (.iload_n 1, 1) := by decide +kernel
theorem dX0_isClear_2 : decode cX0_isClear 2 = .ok (.iload_n 2, 1) := by decide +kernel
theorem dX0_isClear_3 : decode cX0_isClear 3 = .ok (.invokevirtual 40, 3) := by decide +kernel
theorem dX0_isClear_6 : decode cX0_isClear 6 = .ok (.ifCond .eq 21, 3) := by decide +kernel
theorem dX0_isClear_9 : decode cX0_isClear 9 = .ok (.aload_n 0, 1) := by decide +kernel
theorem dX0_isClear_10 : decode cX0_isClear 10 = .ok (.getfield 12, 3) := by decide +kernel
theorem dX0_isClear_13 : decode cX0_isClear 13 = .ok (.iload_n 1, 1) := by decide +kernel
theorem dX0_isClear_14 : decode cX0_isClear 14 = .ok (.iload_n 1, 1) := by decide +kernel
theorem dX0_isClear_15 : decode cX0_isClear 15 = .ok (.iload_n 2, 1) := by decide +kernel
theorem dX0_isClear_16 : decode cX0_isClear 16 = .ok (.iadd, 1) := by decide +kernel
theorem dX0_isClear_17 : decode cX0_isClear 17 = .ok (.invokestatic 34, 3) := by decide +kernel
theorem dX0_isClear_20 : decode cX0_isClear 20 = .ok (.ifCond .ne 7, 3) := by decide +kernel
theorem dX0_isClear_23 : decode cX0_isClear 23 = .ok (.iconst 1, 1) := by decide +kernel
theorem dX0_isClear_24 : decode cX0_isClear 24 = .ok (.goto 4, 3) := by decide +kernel
theorem dX0_isClear_27 : decode cX0_isClear 27 = .ok (.iconst 0, 1) := by decide +kernel
theorem dX0_isClear_28 : decode cX0_isClear 28 = .ok (.ireturn, 1) := by decide +kernel
theorem dX1_init_0 : decode cX1_init 0 = .ok (.aload_n 0, 1) := by decide +kernel
theorem dX1_init_1 : decode cX1_init 1 = .ok (.invokespecial 3, 3) := by decide +kernel
theorem dX1_init_4 : decode cX1_init 4 = .ok (.aload_n 0, 1) := by decide +kernel
theorem dX1_init_5 : decode cX1_init 5 = .ok (.iconst 0, 1) := by decide +kernel
theorem dX1_init_6 : decode cX1_init 6 = .ok (.putfield 9, 3) := by decide +kernel
theorem dX1_init_9 : decode cX1_init 9 = .ok (.aload_n 0, 1) := by decide +kernel
theorem dX1_init_10 : decode cX1_init 10 = .ok (.iconst 0, 1) := by decide +kernel
theorem dX1_init_11 : decode cX1_init 11 = .ok (.putfield 15, 3) := by decide +kernel
theorem dX1_init_14 : decode cX1_init 14 = .ok (.aload_n 0, 1) := by decide +kernel
theorem dX1_init_15 : decode cX1_init 15 = .ok (.iconst 0, 1) := by decide +kernel
theorem dX1_init_16 : decode cX1_init 16 = .ok (.putfield 19, 3) := by decide +kernel
theorem dX1_init_19 : decode cX1_init 19 = .ok (.aload_n 0, 1) := by decide +kernel
theorem dX1_init_20 : decode cX1_init 20 = .ok (.iconst 0, 1) := by decide +kernel
theorem dX1_init_21 : decode cX1_init 21 = .ok (.putfield 22, 3) := by decide +kernel
theorem dX1_init_24 : decode cX1_init 24 = .ok (.aload_n 0, 1) := by decide +kernel
theorem dX1_init_25 : decode cX1_init 25 = .ok (.iload_n 1, 1) := by decide +kernel
theorem dX1_init_26 : decode cX1_init 26 = .ok (.putfield 25, 3) := by decide +kernel
theorem dX1_init_29 : decode cX1_init 29 = .ok (.aload_n 0, 1) := by decide +kernel
theorem dX1_init_30 : decode cX1_init 30 = .ok (.aload_n 2, 1) := by decide +kernel
theorem dX1_init_31 : decode cX1_init 31 = .ok (.putfield 28, 3) := by decide +kernel
theorem dX1_init_34 : decode cX1_init 34 = .ok (.aload_n 0, 1) := by decide +kernel
theorem dX1_init_35 : decode cX1_init 35 = .ok (.aload_n 3, 1) := by decide +kernel
theorem dX1_init_36 : decode cX1_init 36 = .ok (.putfield 32, 3) := by decide +kernel
theorem dX1_init_39 : decode cX1_init 39 = .ok (.aload_n 0, 1) := by decide +kernel
theorem dX1_init_40 : decode cX1_init 40 = .ok (.iload 4, 2) := by decide +kernel
theorem dX1_init_42 : decode cX1_init 42 = .ok (.putfield 35, 3) := by decide +kernel
theorem dX1_init_45 : decode cX1_init 45 = .ok (.aload_n 0, 1) := by decide +kernel
theorem dX1_init_46 : decode cX1_init 46 = .ok (.iload 5, 2) := by decide +kernel
theorem dX1_init_48 : decode cX1_init 48 = .ok (.putfield 38, 3) := by decide +kernel
theorem dX1_init_51 : decode cX1_init 51 = .ok (.return_, 1) := by decide +kernel
theorem dX1_hold_0 : decode cX1_hold 0 = .ok (.aload_n 0, 1) := by decide +kernel
theorem dX1_hold_1 : decode cX1_hold 1 = .ok (.iconst 1, 1) := by decide +kernel
theorem dX1_hold_2 : decode cX1_hold 2 = .ok (.putfield 15, 3) := by decide +kernel
theorem dX1_hold_5 : decode cX1_hold 5 = .ok (.aload_n 0, 1) := by decide +kernel
theorem dX1_hold_6 : decode cX1_hold 6 = .ok (.iconst 0, 1) := by decide +kernel
theorem dX1_hold_7 : decode cX1_hold 7 = .ok (.putfield 19, 3) := by decide +kernel
theorem dX1_hold_10 : decode cX1_hold 10 = .ok (.aload_n 0, 1) := by decide +kernel
theorem dX1_hold_11 : decode cX1_hold 11 = .ok (.aload_n 0, 1) := by decide +kernel
theorem dX1_hold_12 : decode cX1_hold 12 = .ok (.getfield 28, 3) := by decide +kernel
theorem dX1_hold_15 : decode cX1_hold 15 = .ok (.getfield 41, 3) := by decide +kernel
theorem dX1_hold_18 : decode cX1_hold 18 = .ok (.putfield 22, 3) := by decide +kernel
theorem dX1_hold_21 : decode cX1_hold 21 = .ok (.return_, 1) := by decide +kernel
theorem dX1_isHeld_0 : decode cX1_isHeld 0 = .ok (.aload_n 0, 1) := by decide +kernel
theorem dX1_isHeld_1 : decode cX1_isHeld 1 = .ok (.getfield 15, 3) := by decide +kernel
theorem dX1_isHeld_4 : decode cX1_isHeld 4 = .ok (.ifCond .eq 14, 3) := by decide +kernel
theorem dX1_isHeld_7 : decode cX1_isHeld 7 = .ok (.aload_n 0, 1) := by decide +kernel
theorem dX1_isHeld_8 : decode cX1_isHeld 8 = .ok (.getfield 19, 3) := by decide +kernel
theorem dX1_isHeld_11 : decode cX1_isHeld 11 = .ok (.ifCond .ne 7, 3) := by decide +kernel
theorem dX1_isHeld_14 : decode cX1_isHeld 14 = .ok (.iconst 1, 1) := by decide +kernel
theorem dX1_isHeld_15 : decode cX1_isHeld 15 = .ok (.goto 4, 3) := by decide +kernel
theorem dX1_isHeld_18 : decode cX1_isHeld 18 = .ok (.iconst 0, 1) := by decide +kernel
theorem dX1_isHeld_19 : decode cX1_isHeld 19 = .ok (.ireturn, 1) := by decide +kernel
theorem dX1_breaksAt_0 : decode cX1_breaksAt 0 = .ok (.aload_n 0, 1) := by decide +kernel
theorem dX1_breaksAt_1 : decode cX1_breaksAt 1 = .ok (.getfield 25, 3) := by decide +kernel
theorem dX1_breaksAt_4 : decode cX1_breaksAt 4 = .ok (.lookupswitch 86 #[(1, 28), (2, 58)], 28) := by decide +kernel
theorem dX1_breaksAt_32 : decode cX1_breaksAt 32 = .ok (.aload_n 0, 1) := by decide +kernel
theorem dX1_breaksAt_33 : decode cX1_breaksAt 33 = .ok (.getfield 28, 3) := by decide +kernel
theorem dX1_breaksAt_36 : decode cX1_breaksAt 36 = .ok (.aload_n 0, 1) := by decide +kernel
theorem dX1_breaksAt_37 : decode cX1_breaksAt 37 = .ok (.getfield 35, 3) := by decide +kernel
theorem dX1_breaksAt_40 : decode cX1_breaksAt 40 = .ok (.iload_n 1, 1) := by decide +kernel
theorem dX1_breaksAt_41 : decode cX1_breaksAt 41 = .ok (.aload_n 0, 1) := by decide +kernel
theorem dX1_breaksAt_42 : decode cX1_breaksAt 42 = .ok (.getfield 22, 3) := by decide +kernel
theorem dX1_breaksAt_45 : decode cX1_breaksAt 45 = .ok (.isub, 1) := by decide +kernel
theorem dX1_breaksAt_46 : decode cX1_breaksAt 46 = .ok (.invokevirtual 46, 3) := by decide +kernel
theorem dX1_breaksAt_49 : decode cX1_breaksAt 49 = .ok (.invokestatic 50, 3) := by decide +kernel
theorem dX1_breaksAt_52 : decode cX1_breaksAt 52 = .ok (.iconst 5, 1) := by decide +kernel
theorem dX1_breaksAt_53 : decode cX1_breaksAt 53 = .ok (.if_icmp .le 7, 3) := by decide +kernel
theorem dX1_breaksAt_56 : decode cX1_breaksAt 56 = .ok (.iconst 1, 1) := by decide +kernel
theorem dX1_breaksAt_57 : decode cX1_breaksAt 57 = .ok (.goto 4, 3) := by decide +kernel
theorem dX1_breaksAt_60 : decode cX1_breaksAt 60 = .ok (.iconst 0, 1) := by decide +kernel
theorem dX1_breaksAt_61 : decode cX1_breaksAt 61 = .ok (.ireturn, 1) := by decide +kernel
theorem dX1_breaksAt_62 : decode cX1_breaksAt 62 = .ok (.aload_n 0, 1) := by decide +kernel
theorem dX1_breaksAt_63 : decode cX1_breaksAt 63 = .ok (.getfield 28, 3) := by decide +kernel
theorem dX1_breaksAt_66 : decode cX1_breaksAt 66 = .ok (.iload_n 1, 1) := by decide +kernel
theorem dX1_breaksAt_67 : decode cX1_breaksAt 67 = .ok (.invokevirtual 56, 3) := by decide +kernel
theorem dX1_breaksAt_70 : decode cX1_breaksAt 70 = .ok (.aload_n 0, 1) := by decide +kernel
theorem dX1_breaksAt_71 : decode cX1_breaksAt 71 = .ok (.getfield 35, 3) := by decide +kernel
theorem dX1_breaksAt_74 : decode cX1_breaksAt 74 = .ok (.iconst 2, 1) := by decide +kernel
theorem dX1_breaksAt_75 : decode cX1_breaksAt 75 = .ok (.aload_n 0, 1) := by decide +kernel
theorem dX1_breaksAt_76 : decode cX1_breaksAt 76 = .ok (.getfield 38, 3) := by decide +kernel
theorem dX1_breaksAt_79 : decode cX1_breaksAt 79 = .ok (.imul, 1) := by decide +kernel
theorem dX1_breaksAt_80 : decode cX1_breaksAt 80 = .ok (.isub, 1) := by decide +kernel
theorem dX1_breaksAt_81 : decode cX1_breaksAt 81 = .ok (.if_icmp .ge 7, 3) := by decide +kernel
theorem dX1_breaksAt_84 : decode cX1_breaksAt 84 = .ok (.iconst 1, 1) := by decide +kernel
theorem dX1_breaksAt_85 : decode cX1_breaksAt 85 = .ok (.goto 4, 3) := by decide +kernel
theorem dX1_breaksAt_88 : decode cX1_breaksAt 88 = .ok (.iconst 0, 1) := by decide +kernel
theorem dX1_breaksAt_89 : decode cX1_breaksAt 89 = .ok (.ireturn, 1) := by decide +kernel
theorem dX1_breaksAt_90 : decode cX1_breaksAt 90 = .ok (.iconst 0, 1) := by decide +kernel
theorem dX1_breaksAt_91 : decode cX1_breaksAt 91 = .ok (.ireturn, 1) := by decide +kernel
theorem dX1_state_0 : decode cX1_state 0 = .ok (.aload_n 0, 1) := by decide +kernel
theorem dX1_state_1 : decode cX1_state 1 = .ok (.getfield 15, 3) := by decide +kernel
theorem dX1_state_4 : decode cX1_state 4 = .ok (.ifCond .ne 5, 3) := by decide +kernel
theorem dX1_state_7 : decode cX1_state 7 = .ok (.iconst 0, 1) := by decide +kernel
theorem dX1_state_8 : decode cX1_state 8 = .ok (.ireturn, 1) := by decide +kernel
theorem dX1_state_9 : decode cX1_state 9 = .ok (.aload_n 0, 1) := by decide +kernel
theorem dX1_state_10 : decode cX1_state 10 = .ok (.getfield 19, 3) := by decide +kernel
theorem dX1_state_13 : decode cX1_state 13 = .ok (.ifCond .eq 5, 3) := by decide +kernel
theorem dX1_state_16 : decode cX1_state 16 = .ok (.iconst 3, 1) := by decide +kernel
theorem dX1_state_17 : decode cX1_state 17 = .ok (.ireturn, 1) := by decide +kernel
theorem dX1_state_18 : decode cX1_state 18 = .ok (.aload_n 0, 1) := by decide +kernel
theorem dX1_state_19 : decode cX1_state 19 = .ok (.getfield 25, 3) := by decide +kernel
theorem dX1_state_22 : decode cX1_state 22 = .ok (.iconst 2, 1) := by decide +kernel
theorem dX1_state_23 : decode cX1_state 23 = .ok (.if_icmp .ne 21, 3) := by decide +kernel
theorem dX1_state_26 : decode cX1_state 26 = .ok (.aload_n 0, 1) := by decide +kernel
theorem dX1_state_27 : decode cX1_state 27 = .ok (.getfield 28, 3) := by decide +kernel
theorem dX1_state_30 : decode cX1_state 30 = .ok (.invokevirtual 59, 3) := by decide +kernel
theorem dX1_state_33 : decode cX1_state 33 = .ok (.aload_n 0, 1) := by decide +kernel
theorem dX1_state_34 : decode cX1_state 34 = .ok (.getfield 35, 3) := by decide +kernel
theorem dX1_state_37 : decode cX1_state 37 = .ok (.if_icmp .le 7, 3) := by decide +kernel
theorem dX1_state_40 : decode cX1_state 40 = .ok (.iconst 2, 1) := by decide +kernel
theorem dX1_state_41 : decode cX1_state 41 = .ok (.goto 4, 3) := by decide +kernel
theorem dX1_state_44 : decode cX1_state 44 = .ok (.iconst 1, 1) := by decide +kernel
theorem dX1_state_45 : decode cX1_state 45 = .ok (.ireturn, 1) := by decide +kernel
theorem dX2_init_0 : decode cX2_init 0 = .ok (.aload_n 0, 1) := by decide +kernel
theorem dX2_init_1 : decode cX2_init 1 = .ok (.aload_n 2, 1) := by decide +kernel
theorem dX2_init_2 : decode cX2_init 2 = .ok (.getfield 1, 3) := by decide +kernel
theorem dX2_init_5 : decode cX2_init 5 = .ok (.iload 5, 2) := by decide +kernel
theorem dX2_init_7 : decode cX2_init 7 = .ok (.aload_n 2, 1) := by decide +kernel
theorem dX2_init_8 : decode cX2_init 8 = .ok (.getfield 7, 3) := by decide +kernel
theorem dX2_init_11 : decode cX2_init 11 = .ok (.invokespecial 10, 3) := by decide +kernel
theorem dX2_init_14 : decode cX2_init 14 = .ok (.aload_n 0, 1) := by decide +kernel
theorem dX2_init_15 : decode cX2_init 15 = .ok (.iload_n 1, 1) := by decide +kernel
theorem dX2_init_16 : decode cX2_init 16 = .ok (.putfield 16, 3) := by decide +kernel
theorem dX2_init_19 : decode cX2_init 19 = .ok (.aload_n 0, 1) := by decide +kernel
theorem dX2_init_20 : decode cX2_init 20 = .ok (.aload_n 2, 1) := by decide +kernel
theorem dX2_init_21 : decode cX2_init 21 = .ok (.putfield 21, 3) := by decide +kernel
theorem dX2_init_24 : decode cX2_init 24 = .ok (.aload_n 0, 1) := by decide +kernel
theorem dX2_init_25 : decode cX2_init 25 = .ok (.iload_n 3, 1) := by decide +kernel
theorem dX2_init_26 : decode cX2_init 26 = .ok (.putfield 25, 3) := by decide +kernel
theorem dX2_init_29 : decode cX2_init 29 = .ok (.aload_n 0, 1) := by decide +kernel
theorem dX2_init_30 : decode cX2_init 30 = .ok (.iload 4, 2) := by decide +kernel
theorem dX2_init_32 : decode cX2_init 32 = .ok (.putfield 28, 3) := by decide +kernel
theorem dX2_init_35 : decode cX2_init 35 = .ok (.return_, 1) := by decide +kernel
theorem dX3_init_0 : decode cX3_init 0 = .ok (.aload_n 0, 1) := by decide +kernel
theorem dX3_init_1 : decode cX3_init 1 = .ok (.invokespecial 1, 3) := by decide +kernel
theorem dX3_init_4 : decode cX3_init 4 = .ok (.aload_n 0, 1) := by decide +kernel
theorem dX3_init_5 : decode cX3_init 5 = .ok (.iload_n 1, 1) := by decide +kernel
theorem dX3_init_6 : decode cX3_init 6 = .ok (.putfield 7, 3) := by decide +kernel
theorem dX3_init_9 : decode cX3_init 9 = .ok (.aload_n 0, 1) := by decide +kernel
theorem dX3_init_10 : decode cX3_init 10 = .ok (.iload_n 2, 1) := by decide +kernel
theorem dX3_init_11 : decode cX3_init 11 = .ok (.putfield 13, 3) := by decide +kernel
theorem dX3_init_14 : decode cX3_init 14 = .ok (.return_, 1) := by decide +kernel
theorem dX3_touches_0 : decode cX3_touches 0 = .ok (.aload_n 0, 1) := by decide +kernel
theorem dX3_touches_1 : decode cX3_touches 1 = .ok (.getfield 7, 3) := by decide +kernel
theorem dX3_touches_4 : decode cX3_touches 4 = .ok (.iload_n 2, 1) := by decide +kernel
theorem dX3_touches_5 : decode cX3_touches 5 = .ok (.if_icmp .ge 15, 3) := by decide +kernel
theorem dX3_touches_8 : decode cX3_touches 8 = .ok (.iload_n 1, 1) := by decide +kernel
theorem dX3_touches_9 : decode cX3_touches 9 = .ok (.aload_n 0, 1) := by decide +kernel
theorem dX3_touches_10 : decode cX3_touches 10 = .ok (.getfield 13, 3) := by decide +kernel
theorem dX3_touches_13 : decode cX3_touches 13 = .ok (.if_icmp .ge 7, 3) := by decide +kernel
theorem dX3_touches_16 : decode cX3_touches 16 = .ok (.iconst 1, 1) := by decide +kernel
theorem dX3_touches_17 : decode cX3_touches 17 = .ok (.goto 4, 3) := by decide +kernel
theorem dX3_touches_20 : decode cX3_touches 20 = .ok (.iconst 0, 1) := by decide +kernel
theorem dX3_touches_21 : decode cX3_touches 21 = .ok (.ireturn, 1) := by decide +kernel
theorem dX4_init_0 : decode cX4_init 0 = .ok (.aload_n 0, 1) := by decide +kernel
theorem dX4_init_1 : decode cX4_init 1 = .ok (.invokespecial 1, 3) := by decide +kernel
theorem dX4_init_4 : decode cX4_init 4 = .ok (.aload_n 0, 1) := by decide +kernel
theorem dX4_init_5 : decode cX4_init 5 = .ok (.iconst 0, 1) := by decide +kernel
theorem dX4_init_6 : decode cX4_init 6 = .ok (.putfield 7, 3) := by decide +kernel
theorem dX4_init_9 : decode cX4_init 9 = .ok (.aload_n 0, 1) := by decide +kernel
theorem dX4_init_10 : decode cX4_init 10 = .ok (.iload_n 1, 1) := by decide +kernel
theorem dX4_init_11 : decode cX4_init 11 = .ok (.putfield 13, 3) := by decide +kernel
theorem dX4_init_14 : decode cX4_init 14 = .ok (.aload_n 0, 1) := by decide +kernel
theorem dX4_init_15 : decode cX4_init 15 = .ok (.iload_n 2, 1) := by decide +kernel
theorem dX4_init_16 : decode cX4_init 16 = .ok (.putfield 16, 3) := by decide +kernel
theorem dX4_init_19 : decode cX4_init 19 = .ok (.aload_n 0, 1) := by decide +kernel
theorem dX4_init_20 : decode cX4_init 20 = .ok (.iload_n 3, 1) := by decide +kernel
theorem dX4_init_21 : decode cX4_init 21 = .ok (.putfield 19, 3) := by decide +kernel
theorem dX4_init_24 : decode cX4_init 24 = .ok (.aload_n 0, 1) := by decide +kernel
theorem dX4_init_25 : decode cX4_init 25 = .ok (.iload_n 3, 1) := by decide +kernel
theorem dX4_init_26 : decode cX4_init 26 = .ok (.putfield 22, 3) := by decide +kernel
theorem dX4_init_29 : decode cX4_init 29 = .ok (.return_, 1) := by decide +kernel
theorem dX4_movementOf_0 : decode cX4_movementOf 0 = .ok (.iload_n 1, 1) := by decide +kernel
theorem dX4_movementOf_1 : decode cX4_movementOf 1 = .ok (.aload_n 0, 1) := by decide +kernel
theorem dX4_movementOf_2 : decode cX4_movementOf 2 = .ok (.getfield 13, 3) := by decide +kernel
theorem dX4_movementOf_5 : decode cX4_movementOf 5 = .ok (.invokestatic 25, 3) := by decide +kernel
theorem dX4_movementOf_8 : decode cX4_movementOf 8 = .ok (.imul, 1) := by decide +kernel
theorem dX4_movementOf_9 : decode cX4_movementOf 9 = .ok (.iload_n 2, 1) := by decide +kernel
theorem dX4_movementOf_10 : decode cX4_movementOf 10 = .ok (.imul, 1) := by decide +kernel
theorem dX4_movementOf_11 : decode cX4_movementOf 11 = .ok (.sipush 10000, 3) := by decide +kernel
theorem dX4_movementOf_14 : decode cX4_movementOf 14 = .ok (.idiv, 1) := by decide +kernel
theorem dX4_movementOf_15 : decode cX4_movementOf 15 = .ok (.ireturn, 1) := by decide +kernel
theorem dX4_widthAt_0 : decode cX4_widthAt 0 = .ok (.aload_n 0, 1) := by decide +kernel
theorem dX4_widthAt_1 : decode cX4_widthAt 1 = .ok (.getfield 16, 3) := by decide +kernel
theorem dX4_widthAt_4 : decode cX4_widthAt 4 = .ok (.aload_n 0, 1) := by decide +kernel
theorem dX4_widthAt_5 : decode cX4_widthAt 5 = .ok (.aload_n 0, 1) := by decide +kernel
theorem dX4_widthAt_6 : decode cX4_widthAt 6 = .ok (.getfield 16, 3) := by decide +kernel
theorem dX4_widthAt_9 : decode cX4_widthAt 9 = .ok (.iload_n 1, 1) := by decide +kernel
theorem dX4_widthAt_10 : decode cX4_widthAt 10 = .ok (.aload_n 0, 1) := by decide +kernel
theorem dX4_widthAt_11 : decode cX4_widthAt 11 = .ok (.getfield 19, 3) := by decide +kernel
theorem dX4_widthAt_14 : decode cX4_widthAt 14 = .ok (.isub, 1) := by decide +kernel
theorem dX4_widthAt_15 : decode cX4_widthAt 15 = .ok (.invokevirtual 31, 3) := by decide +kernel
theorem dX4_widthAt_18 : decode cX4_widthAt 18 = .ok (.iadd, 1) := by decide +kernel
theorem dX4_widthAt_19 : decode cX4_widthAt 19 = .ok (.ireturn, 1) := by decide +kernel
theorem dX4_widthNow_0 : decode cX4_widthNow 0 = .ok (.aload_n 0, 1) := by decide +kernel
theorem dX4_widthNow_1 : decode cX4_widthNow 1 = .ok (.aload_n 0, 1) := by decide +kernel
theorem dX4_widthNow_2 : decode cX4_widthNow 2 = .ok (.getfield 22, 3) := by decide +kernel
theorem dX4_widthNow_5 : decode cX4_widthNow 5 = .ok (.invokevirtual 35, 3) := by decide +kernel
theorem dX4_widthNow_8 : decode cX4_widthNow 8 = .ok (.ireturn, 1) := by decide +kernel
theorem dX4_moistureAfter_0 : decode cX4_moistureAfter 0 = .ok (.iload_n 2, 1) := by decide +kernel
theorem dX4_moistureAfter_1 : decode cX4_moistureAfter 1 = .ok (.iload_n 1, 1) := by decide +kernel
theorem dX4_moistureAfter_2 : decode cX4_moistureAfter 2 = .ok (.isub, 1) := by decide +kernel
theorem dX4_moistureAfter_3 : decode cX4_moistureAfter 3 = .ok (.istore_n 3, 1) := by decide +kernel
theorem dX4_moistureAfter_4 : decode cX4_moistureAfter 4 = .ok (.iload_n 3, 1) := by decide +kernel
theorem dX4_moistureAfter_5 : decode cX4_moistureAfter 5 = .ok (.iconst 4, 1) := by decide +kernel
theorem dX4_moistureAfter_6 : decode cX4_moistureAfter 6 = .ok (.aload_n 0, 1) := by decide +kernel
theorem dX4_moistureAfter_7 : decode cX4_moistureAfter 7 = .ok (.getfield 7, 3) := by decide +kernel
theorem dX4_moistureAfter_10 : decode cX4_moistureAfter 10 = .ok (.iadd, 1) := by decide +kernel
theorem dX4_moistureAfter_11 : decode cX4_moistureAfter 11 = .ok (.idiv, 1) := by decide +kernel
theorem dX4_moistureAfter_12 : decode cX4_moistureAfter 12 = .ok (.istore 4, 2) := by decide +kernel
theorem dX4_moistureAfter_14 : decode cX4_moistureAfter 14 = .ok (.iload_n 1, 1) := by decide +kernel
theorem dX4_moistureAfter_15 : decode cX4_moistureAfter 15 = .ok (.iload 4, 2) := by decide +kernel
theorem dX4_moistureAfter_17 : decode cX4_moistureAfter 17 = .ok (.ifCond .eq 8, 3) := by decide +kernel
theorem dX4_moistureAfter_20 : decode cX4_moistureAfter 20 = .ok (.iload 4, 2) := by decide +kernel
theorem dX4_moistureAfter_22 : decode cX4_moistureAfter 22 = .ok (.goto 7, 3) := by decide +kernel
theorem dX4_moistureAfter_25 : decode cX4_moistureAfter 25 = .ok (.iload_n 3, 1) := by decide +kernel
theorem dX4_moistureAfter_26 : decode cX4_moistureAfter 26 = .ok (.invokestatic 38, 3) := by decide +kernel
theorem dX4_moistureAfter_29 : decode cX4_moistureAfter 29 = .ok (.iadd, 1) := by decide +kernel
theorem dX4_moistureAfter_30 : decode cX4_moistureAfter 30 = .ok (.ireturn, 1) := by decide +kernel
theorem dX4_moisten_0 : decode cX4_moisten 0 = .ok (.aload_n 0, 1) := by decide +kernel
theorem dX4_moisten_1 : decode cX4_moisten 1 = .ok (.aload_n 0, 1) := by decide +kernel
theorem dX4_moisten_2 : decode cX4_moisten 2 = .ok (.aload_n 0, 1) := by decide +kernel
theorem dX4_moisten_3 : decode cX4_moisten 3 = .ok (.getfield 22, 3) := by decide +kernel
theorem dX4_moisten_6 : decode cX4_moisten 6 = .ok (.iload_n 1, 1) := by decide +kernel
theorem dX4_moisten_7 : decode cX4_moisten 7 = .ok (.invokevirtual 43, 3) := by decide +kernel
theorem dX4_moisten_10 : decode cX4_moisten 10 = .ok (.putfield 22, 3) := by decide +kernel
theorem dX4_moisten_13 : decode cX4_moisten 13 = .ok (.return_, 1) := by decide +kernel
theorem dX5_init_0 : decode cX5_init 0 = .ok (.aload_n 0, 1) := by decide +kernel
theorem dX5_init_1 : decode cX5_init 1 = .ok (.invokespecial 1, 3) := by decide +kernel
theorem dX5_init_4 : decode cX5_init 4 = .ok (.aload_n 0, 1) := by decide +kernel
theorem dX5_init_5 : decode cX5_init 5 = .ok (.new 7, 3) := by decide +kernel
theorem dX5_init_8 : decode cX5_init 8 = .ok (.dup, 1) := by decide +kernel
theorem dX5_init_9 : decode cX5_init 9 = .ok (.invokespecial 9, 3) := by decide +kernel
theorem dX5_init_12 : decode cX5_init 12 = .ok (.putfield 10, 3) := by decide +kernel
theorem dX5_init_15 : decode cX5_init 15 = .ok (.aload_n 0, 1) := by decide +kernel
theorem dX5_init_16 : decode cX5_init 16 = .ok (.new 7, 3) := by decide +kernel
theorem dX5_init_19 : decode cX5_init 19 = .ok (.dup, 1) := by decide +kernel
theorem dX5_init_20 : decode cX5_init 20 = .ok (.invokespecial 9, 3) := by decide +kernel
theorem dX5_init_23 : decode cX5_init 23 = .ok (.putfield 16, 3) := by decide +kernel
theorem dX5_init_26 : decode cX5_init 26 = .ok (.aload_n 0, 1) := by decide +kernel
theorem dX5_init_27 : decode cX5_init 27 = .ok (.new 7, 3) := by decide +kernel
theorem dX5_init_30 : decode cX5_init 30 = .ok (.dup, 1) := by decide +kernel
theorem dX5_init_31 : decode cX5_init 31 = .ok (.invokespecial 9, 3) := by decide +kernel
theorem dX5_init_34 : decode cX5_init 34 = .ok (.putfield 19, 3) := by decide +kernel
theorem dX5_init_37 : decode cX5_init 37 = .ok (.aload_n 0, 1) := by decide +kernel
theorem dX5_init_38 : decode cX5_init 38 = .ok (.bipush 12, 2) := by decide +kernel
theorem dX5_init_40 : decode cX5_init 40 = .ok (.newarray .int, 2) := by decide +kernel
theorem dX5_init_42 : decode cX5_init 42 = .ok (.putfield 22, 3) := by decide +kernel
theorem dX5_init_45 : decode cX5_init 45 = .ok (.aload_n 0, 1) := by decide +kernel
theorem dX5_init_46 : decode cX5_init 46 = .ok (.iconst 0, 1) := by decide +kernel
theorem dX5_init_47 : decode cX5_init 47 = .ok (.putfield 26, 3) := by decide +kernel
theorem dX5_init_50 : decode cX5_init 50 = .ok (.aload_n 0, 1) := by decide +kernel
theorem dX5_init_51 : decode cX5_init 51 = .ok (.bipush 100, 2) := by decide +kernel
theorem dX5_init_53 : decode cX5_init 53 = .ok (.putfield 30, 3) := by decide +kernel
theorem dX5_init_56 : decode cX5_init 56 = .ok (.aload_n 0, 1) := by decide +kernel
theorem dX5_init_57 : decode cX5_init 57 = .ok (.bipush 100, 2) := by decide +kernel
theorem dX5_init_59 : decode cX5_init 59 = .ok (.putfield 33, 3) := by decide +kernel
theorem dX5_init_62 : decode cX5_init 62 = .ok (.aload_n 0, 1) := by decide +kernel
theorem dX5_init_63 : decode cX5_init 63 = .ok (.bipush 6, 2) := by decide +kernel
theorem dX5_init_65 : decode cX5_init 65 = .ok (.putfield 36, 3) := by decide +kernel
theorem dX5_init_68 : decode cX5_init 68 = .ok (.aload_n 0, 1) := by decide +kernel
theorem dX5_init_69 : decode cX5_init 69 = .ok (.getfield 22, 3) := by decide +kernel
theorem dX5_init_72 : decode cX5_init 72 = .ok (.bipush 100, 2) := by decide +kernel
theorem dX5_init_74 : decode cX5_init 74 = .ok (.invokestatic 39, 3) := by decide +kernel
theorem dX5_init_77 : decode cX5_init 77 = .ok (.return_, 1) := by decide +kernel
theorem dX5_weather_0 : decode cX5_weather 0 = .ok (.iload_n 1, 1) := by decide +kernel
theorem dX5_weather_1 : decode cX5_weather 1 = .ok (.ifCond .lt 9, 3) := by decide +kernel
theorem dX5_weather_4 : decode cX5_weather 4 = .ok (.iload_n 1, 1) := by decide +kernel
theorem dX5_weather_5 : decode cX5_weather 5 = .ok (.bipush 12, 2) := by decide +kernel
theorem dX5_weather_7 : decode cX5_weather 7 = .ok (.if_icmp .lt 13, 3) := by decide +kernel
theorem dX5_weather_10 : decode cX5_weather 10 = .ok (.new 45, 3) := by decide +kernel
theorem dX5_weather_13 : decode cX5_weather 13 = .ok (.dup, 1) := by decide +kernel
theorem dX5_weather_14 : decode cX5_weather 14 = .ok (.ldc 47, 2) := by decide +kernel
theorem dX5_weather_16 : decode cX5_weather 16 = .ok (.invokespecial 49, 3) := by decide +kernel
theorem dX5_weather_19 : decode cX5_weather 19 = .ok (.athrow, 1) := by decide +kernel
theorem dX5_weather_20 : decode cX5_weather 20 = .ok (.iload_n 2, 1) := by decide +kernel
theorem dX5_weather_21 : decode cX5_weather 21 = .ok (.bipush 40, 2) := by decide +kernel
theorem dX5_weather_23 : decode cX5_weather 23 = .ok (.sipush 300, 3) := by decide +kernel
theorem dX5_weather_26 : decode cX5_weather 26 = .ok (.invokestatic 52, 3) := by decide +kernel
theorem dX5_weather_29 : decode cX5_weather 29 = .ok (.ifCond .ne 13, 3) := by decide +kernel
theorem dX5_weather_32 : decode cX5_weather 32 = .ok (.new 56, 3) := by decide +kernel
theorem dX5_weather_35 : decode cX5_weather 35 = .ok (.dup, 1) := by decide +kernel
theorem dX5_weather_36 : decode cX5_weather 36 = .ok (.ldc 58, 2) := by decide +kernel
theorem dX5_weather_38 : decode cX5_weather 38 = .ok (.invokespecial 60, 3) := by decide +kernel
theorem dX5_weather_41 : decode cX5_weather 41 = .ok (.athrow, 1) := by decide +kernel
theorem dX5_weather_42 : decode cX5_weather 42 = .ok (.aload_n 0, 1) := by decide +kernel
theorem dX5_weather_43 : decode cX5_weather 43 = .ok (.getfield 22, 3) := by decide +kernel
theorem dX5_weather_46 : decode cX5_weather 46 = .ok (.iload_n 1, 1) := by decide +kernel
theorem dX5_weather_47 : decode cX5_weather 47 = .ok (.iaload, 1) := by decide +kernel
theorem dX5_weather_48 : decode cX5_weather 48 = .ok (.istore_n 3, 1) := by decide +kernel
theorem dX5_weather_49 : decode cX5_weather 49 = .ok (.aload_n 0, 1) := by decide +kernel
theorem dX5_weather_50 : decode cX5_weather 50 = .ok (.getfield 22, 3) := by decide +kernel
theorem dX5_weather_53 : decode cX5_weather 53 = .ok (.iload_n 1, 1) := by decide +kernel
theorem dX5_weather_54 : decode cX5_weather 54 = .ok (.iload_n 2, 1) := by decide +kernel
theorem dX5_weather_55 : decode cX5_weather 55 = .ok (.iastore, 1) := by decide +kernel
theorem dX5_weather_56 : decode cX5_weather 56 = .ok (.iload_n 3, 1) := by decide +kernel
theorem dX5_weather_57 : decode cX5_weather 57 = .ok (.ireturn, 1) := by decide +kernel
theorem dX5_pass_0 : decode cX5_pass 0 = .ok (.iload_n 1, 1) := by decide +kernel
theorem dX5_pass_1 : decode cX5_pass 1 = .ok (.iconst 1, 1) := by decide +kernel
theorem dX5_pass_2 : decode cX5_pass 2 = .ok (.bipush 24, 2) := by decide +kernel
theorem dX5_pass_4 : decode cX5_pass 4 = .ok (.invokestatic 52, 3) := by decide +kernel
theorem dX5_pass_7 : decode cX5_pass 7 = .ok (.ifCond .ne 13, 3) := by decide +kernel
theorem dX5_pass_10 : decode cX5_pass 10 = .ok (.new 56, 3) := by decide +kernel
theorem dX5_pass_13 : decode cX5_pass 13 = .ok (.dup, 1) := by decide +kernel
theorem dX5_pass_14 : decode cX5_pass 14 = .ok (.ldc 61, 2) := by decide +kernel
theorem dX5_pass_16 : decode cX5_pass 16 = .ok (.invokespecial 60, 3) := by decide +kernel
theorem dX5_pass_19 : decode cX5_pass 19 = .ok (.athrow, 1) := by decide +kernel
theorem dX5_pass_20 : decode cX5_pass 20 = .ok (.aload_n 0, 1) := by decide +kernel
theorem dX5_pass_21 : decode cX5_pass 21 = .ok (.getfield 26, 3) := by decide +kernel
theorem dX5_pass_24 : decode cX5_pass 24 = .ok (.iload_n 1, 1) := by decide +kernel
theorem dX5_pass_25 : decode cX5_pass 25 = .ok (.iadd, 1) := by decide +kernel
theorem dX5_pass_26 : decode cX5_pass 26 = .ok (.sipush 1200, 3) := by decide +kernel
theorem dX5_pass_29 : decode cX5_pass 29 = .ok (.if_icmp .le 13, 3) := by decide +kernel
theorem dX5_pass_32 : decode cX5_pass 32 = .ok (.new 63, 3) := by decide +kernel
theorem dX5_pass_35 : decode cX5_pass 35 = .ok (.dup, 1) := by decide +kernel
theorem dX5_pass_36 : decode cX5_pass 36 = .ok (.ldc 65, 2) := by decide +kernel
theorem dX5_pass_38 : decode cX5_pass 38 = .ok (.invokespecial 67, 3) := by decide +kernel
theorem dX5_pass_41 : decode cX5_pass 41 = .ok (.athrow, 1) := by decide +kernel
theorem dX5_pass_42 : decode cX5_pass 42 = .ok (.iconst 0, 1) := by decide +kernel
theorem dX5_pass_43 : decode cX5_pass 43 = .ok (.istore_n 2, 1) := by decide +kernel
theorem dX5_pass_44 : decode cX5_pass 44 = .ok (.iconst 0, 1) := by decide +kernel
theorem dX5_pass_45 : decode cX5_pass 45 = .ok (.istore_n 3, 1) := by decide +kernel
theorem dX5_pass_46 : decode cX5_pass 46 = .ok (.iload_n 3, 1) := by decide +kernel
theorem dX5_pass_47 : decode cX5_pass 47 = .ok (.iload_n 1, 1) := by decide +kernel
theorem dX5_pass_48 : decode cX5_pass 48 = .ok (.if_icmp .ge 38, 3) := by decide +kernel
theorem dX5_pass_51 : decode cX5_pass 51 = .ok (.aload_n 0, 1) := by decide +kernel
theorem dX5_pass_52 : decode cX5_pass 52 = .ok (.aload_n 0, 1) := by decide +kernel
theorem dX5_pass_53 : decode cX5_pass 53 = .ok (.aload_n 0, 1) := by decide +kernel
theorem dX5_pass_54 : decode cX5_pass 54 = .ok (.getfield 26, 3) := by decide +kernel
theorem dX5_pass_57 : decode cX5_pass 57 = .ok (.invokevirtual 68, 3) := by decide +kernel
theorem dX5_pass_60 : decode cX5_pass 60 = .ok (.invokevirtual 72, 3) := by decide +kernel
theorem dX5_pass_63 : decode cX5_pass 63 = .ok (.aload_n 0, 1) := by decide +kernel
theorem dX5_pass_64 : decode cX5_pass 64 = .ok (.dup, 1) := by decide +kernel
theorem dX5_pass_65 : decode cX5_pass 65 = .ok (.getfield 26, 3) := by decide +kernel
theorem dX5_pass_68 : decode cX5_pass 68 = .ok (.iconst 1, 1) := by decide +kernel
theorem dX5_pass_69 : decode cX5_pass 69 = .ok (.iadd, 1) := by decide +kernel
theorem dX5_pass_70 : decode cX5_pass 70 = .ok (.putfield 26, 3) := by decide +kernel
theorem dX5_pass_73 : decode cX5_pass 73 = .ok (.iload_n 2, 1) := by decide +kernel
theorem dX5_pass_74 : decode cX5_pass 74 = .ok (.aload_n 0, 1) := by decide +kernel
theorem dX5_pass_75 : decode cX5_pass 75 = .ok (.invokevirtual 76, 3) := by decide +kernel
theorem dX5_pass_78 : decode cX5_pass 78 = .ok (.iadd, 1) := by decide +kernel
theorem dX5_pass_79 : decode cX5_pass 79 = .ok (.istore_n 2, 1) := by decide +kernel
theorem dX5_pass_80 : decode cX5_pass 80 = .ok (.iinc 3 1, 3) := by decide +kernel
theorem dX5_pass_83 : decode cX5_pass 83 = .ok (.goto (-37), 3) := by decide +kernel
theorem dX5_pass_86 : decode cX5_pass 86 = .ok (.iload_n 2, 1) := by decide +kernel
theorem dX5_pass_87 : decode cX5_pass 87 = .ok (.ireturn, 1) := by decide +kernel
theorem dX5_board_0 : decode cX5_board 0 = .ok (.iload_n 1, 1) := by decide +kernel
theorem dX5_board_1 : decode cX5_board 1 = .ok (.iconst 0, 1) := by decide +kernel
theorem dX5_board_2 : decode cX5_board 2 = .ok (.iconst 3, 1) := by decide +kernel
theorem dX5_board_3 : decode cX5_board 3 = .ok (.invokestatic 52, 3) := by decide +kernel
theorem dX5_board_6 : decode cX5_board 6 = .ok (.ifCond .eq 23, 3) := by decide +kernel
theorem dX5_board_9 : decode cX5_board 9 = .ok (.iload_n 2, 1) := by decide +kernel
theorem dX5_board_10 : decode cX5_board 10 = .ok (.iconst 0, 1) := by decide +kernel
theorem dX5_board_11 : decode cX5_board 11 = .ok (.bipush 9, 2) := by decide +kernel
theorem dX5_board_13 : decode cX5_board 13 = .ok (.invokestatic 52, 3) := by decide +kernel
theorem dX5_board_16 : decode cX5_board 16 = .ok (.ifCond .eq 13, 3) := by decide +kernel
theorem dX5_board_19 : decode cX5_board 19 = .ok (.iload_n 3, 1) := by decide +kernel
theorem dX5_board_20 : decode cX5_board 20 = .ok (.iconst 0, 1) := by decide +kernel
theorem dX5_board_21 : decode cX5_board 21 = .ok (.bipush 20, 2) := by decide +kernel
theorem dX5_board_23 : decode cX5_board 23 = .ok (.invokestatic 52, 3) := by decide +kernel
theorem dX5_board_26 : decode cX5_board 26 = .ok (.ifCond .ne 13, 3) := by decide +kernel
theorem dX5_board_29 : decode cX5_board 29 = .ok (.new 56, 3) := by decide +kernel
theorem dX5_board_32 : decode cX5_board 32 = .ok (.dup, 1) := by decide +kernel
theorem dX5_board_33 : decode cX5_board 33 = .ok (.ldc 80, 2) := by decide +kernel
theorem dX5_board_35 : decode cX5_board 35 = .ok (.invokespecial 60, 3) := by decide +kernel
theorem dX5_board_38 : decode cX5_board 38 = .ok (.athrow, 1) := by decide +kernel
theorem dX5_board_39 : decode cX5_board 39 = .ok (.iload 4, 2) := by decide +kernel
theorem dX5_board_41 : decode cX5_board 41 = .ok (.bipush 100, 2) := by decide +kernel
theorem dX5_board_43 : decode cX5_board 43 = .ok (.sipush 6000, 3) := by decide +kernel
theorem dX5_board_46 : decode cX5_board 46 = .ok (.invokestatic 52, 3) := by decide +kernel
theorem dX5_board_49 : decode cX5_board 49 = .ok (.ifCond .eq 29, 3) := by decide +kernel
theorem dX5_board_52 : decode cX5_board 52 = .ok (.iload 5, 2) := by decide +kernel
theorem dX5_board_54 : decode cX5_board 54 = .ok (.bipush 100, 2) := by decide +kernel
theorem dX5_board_56 : decode cX5_board 56 = .ok (.sipush 30000, 3) := by decide +kernel
theorem dX5_board_59 : decode cX5_board 59 = .ok (.invokestatic 52, 3) := by decide +kernel
theorem dX5_board_62 : decode cX5_board 62 = .ok (.ifCond .eq 16, 3) := by decide +kernel
theorem dX5_board_65 : decode cX5_board 65 = .ok (.iload 6, 2) := by decide +kernel
theorem dX5_board_67 : decode cX5_board 67 = .ok (.bipush 40, 2) := by decide +kernel
theorem dX5_board_69 : decode cX5_board 69 = .ok (.sipush 300, 3) := by decide +kernel
theorem dX5_board_72 : decode cX5_board 72 = .ok (.invokestatic 52, 3) := by decide +kernel
theorem dX5_board_75 : decode cX5_board 75 = .ok (.ifCond .ne 13, 3) := by decide +kernel
theorem dX5_board_78 : decode cX5_board 78 = .ok (.new 56, 3) := by decide +kernel
theorem dX5_board_81 : decode cX5_board 81 = .ok (.dup, 1) := by decide +kernel
theorem dX5_board_82 : decode cX5_board 82 = .ok (.ldc 82, 2) := by decide +kernel
theorem dX5_board_84 : decode cX5_board 84 = .ok (.invokespecial 60, 3) := by decide +kernel
theorem dX5_board_87 : decode cX5_board 87 = .ok (.athrow, 1) := by decide +kernel
theorem dX5_board_88 : decode cX5_board 88 = .ok (.aload_n 0, 1) := by decide +kernel
theorem dX5_board_89 : decode cX5_board 89 = .ok (.getfield 10, 3) := by decide +kernel
theorem dX5_board_92 : decode cX5_board 92 = .ok (.invokevirtual 84, 3) := by decide +kernel
theorem dX5_board_95 : decode cX5_board 95 = .ok (.bipush 20, 2) := by decide +kernel
theorem dX5_board_97 : decode cX5_board 97 = .ok (.if_icmp .lt 13, 3) := by decide +kernel
theorem dX5_board_100 : decode cX5_board 100 = .ok (.new 63, 3) := by decide +kernel
theorem dX5_board_103 : decode cX5_board 103 = .ok (.dup, 1) := by decide +kernel
theorem dX5_board_104 : decode cX5_board 104 = .ok (.ldc 87, 2) := by decide +kernel
theorem dX5_board_106 : decode cX5_board 106 = .ok (.invokespecial 67, 3) := by decide +kernel
theorem dX5_board_109 : decode cX5_board 109 = .ok (.athrow, 1) := by decide +kernel
theorem dX5_board_110 : decode cX5_board 110 = .ok (.aload_n 0, 1) := by decide +kernel
theorem dX5_board_111 : decode cX5_board 111 = .ok (.iload_n 1, 1) := by decide +kernel
theorem dX5_board_112 : decode cX5_board 112 = .ok (.iload_n 2, 1) := by decide +kernel
theorem dX5_board_113 : decode cX5_board 113 = .ok (.iload_n 3, 1) := by decide +kernel
theorem dX5_board_114 : decode cX5_board 114 = .ok (.invokevirtual 89, 3) := by decide +kernel
theorem dX5_board_117 : decode cX5_board 117 = .ok (.ifCond .ne 13, 3) := by decide +kernel
theorem dX5_board_120 : decode cX5_board 120 = .ok (.new 63, 3) := by decide +kernel
theorem dX5_board_123 : decode cX5_board 123 = .ok (.dup, 1) := by decide +kernel
theorem dX5_board_124 : decode cX5_board 124 = .ok (.ldc 92, 2) := by decide +kernel
theorem dX5_board_126 : decode cX5_board 126 = .ok (.invokespecial 67, 3) := by decide +kernel
theorem dX5_board_129 : decode cX5_board 129 = .ok (.athrow, 1) := by decide +kernel
theorem dX5_board_130 : decode cX5_board 130 = .ok (.aload_n 0, 1) := by decide +kernel
theorem dX5_board_131 : decode cX5_board 131 = .ok (.getfield 10, 3) := by decide +kernel
theorem dX5_board_134 : decode cX5_board 134 = .ok (.invokevirtual 84, 3) := by decide +kernel
theorem dX5_board_137 : decode cX5_board 137 = .ok (.istore 7, 2) := by decide +kernel
theorem dX5_board_139 : decode cX5_board 139 = .ok (.aload_n 0, 1) := by decide +kernel
theorem dX5_board_140 : decode cX5_board 140 = .ok (.getfield 10, 3) := by decide +kernel
theorem dX5_board_143 : decode cX5_board 143 = .ok (.new 94, 3) := by decide +kernel
theorem dX5_board_146 : decode cX5_board 146 = .ok (.dup, 1) := by decide +kernel
theorem dX5_board_147 : decode cX5_board 147 = .ok (.iload 7, 2) := by decide +kernel
theorem dX5_board_149 : decode cX5_board 149 = .ok (.iload_n 1, 1) := by decide +kernel
theorem dX5_board_150 : decode cX5_board 150 = .ok (.iload_n 2, 1) := by decide +kernel
theorem dX5_board_151 : decode cX5_board 151 = .ok (.iload_n 3, 1) := by decide +kernel
theorem dX5_board_152 : decode cX5_board 152 = .ok (.iload 4, 2) := by decide +kernel
theorem dX5_board_154 : decode cX5_board 154 = .ok (.iload 5, 2) := by decide +kernel
theorem dX5_board_156 : decode cX5_board 156 = .ok (.iload 6, 2) := by decide +kernel
theorem dX5_board_158 : decode cX5_board 158 = .ok (.invokespecial 96, 3) := by decide +kernel
theorem dX5_board_161 : decode cX5_board 161 = .ok (.invokevirtual 99, 3) := by decide +kernel
theorem dX5_board_164 : decode cX5_board 164 = .ok (.pop, 1) := by decide +kernel
theorem dX5_board_165 : decode cX5_board 165 = .ok (.iload 7, 2) := by decide +kernel
theorem dX5_board_167 : decode cX5_board 167 = .ok (.ireturn, 1) := by decide +kernel
theorem dX5_knot_0 : decode cX5_knot 0 = .ok (.aload_n 0, 1) := by decide +kernel
theorem dX5_knot_1 : decode cX5_knot 1 = .ok (.iload_n 1, 1) := by decide +kernel
theorem dX5_knot_2 : decode cX5_knot 2 = .ok (.invokevirtual 103, 3) := by decide +kernel
theorem dX5_knot_5 : decode cX5_knot 5 = .ok (.astore 4, 2) := by decide +kernel
theorem dX5_knot_7 : decode cX5_knot 7 = .ok (.aload 4, 2) := by decide +kernel
theorem dX5_knot_9 : decode cX5_knot 9 = .ok (.ifnonnull 13, 3) := by decide +kernel
theorem dX5_knot_12 : decode cX5_knot 12 = .ok (.new 45, 3) := by decide +kernel
theorem dX5_knot_15 : decode cX5_knot 15 = .ok (.dup, 1) := by decide +kernel
theorem dX5_knot_16 : decode cX5_knot 16 = .ok (.ldc 107, 2) := by decide +kernel
theorem dX5_knot_18 : decode cX5_knot 18 = .ok (.invokespecial 49, 3) := by decide +kernel
theorem dX5_knot_21 : decode cX5_knot 21 = .ok (.athrow, 1) := by decide +kernel
theorem dX5_knot_22 : decode cX5_knot 22 = .ok (.iload_n 2, 1) := by decide +kernel
theorem dX5_knot_23 : decode cX5_knot 23 = .ok (.ifCond .lt 17, 3) := by decide +kernel
theorem dX5_knot_26 : decode cX5_knot 26 = .ok (.iload_n 3, 1) := by decide +kernel
theorem dX5_knot_27 : decode cX5_knot 27 = .ok (.iload_n 2, 1) := by decide +kernel
theorem dX5_knot_28 : decode cX5_knot 28 = .ok (.if_icmp .le 12, 3) := by decide +kernel
theorem dX5_knot_31 : decode cX5_knot 31 = .ok (.iload_n 3, 1) := by decide +kernel
theorem dX5_knot_32 : decode cX5_knot 32 = .ok (.aload 4, 2) := by decide +kernel
theorem dX5_knot_34 : decode cX5_knot 34 = .ok (.getfield 109, 3) := by decide +kernel
theorem dX5_knot_37 : decode cX5_knot 37 = .ok (.if_icmp .le 13, 3) := by decide +kernel
theorem dX5_knot_40 : decode cX5_knot 40 = .ok (.new 56, 3) := by decide +kernel
theorem dX5_knot_43 : decode cX5_knot 43 = .ok (.dup, 1) := by decide +kernel
theorem dX5_knot_44 : decode cX5_knot 44 = .ok (.ldc 112, 2) := by decide +kernel
theorem dX5_knot_46 : decode cX5_knot 46 = .ok (.invokespecial 60, 3) := by decide +kernel
theorem dX5_knot_49 : decode cX5_knot 49 = .ok (.athrow, 1) := by decide +kernel
theorem dX5_knot_50 : decode cX5_knot 50 = .ok (.aload 4, 2) := by decide +kernel
theorem dX5_knot_52 : decode cX5_knot 52 = .ok (.getfield 114, 3) := by decide +kernel
theorem dX5_knot_55 : decode cX5_knot 55 = .ok (.invokevirtual 84, 3) := by decide +kernel
theorem dX5_knot_58 : decode cX5_knot 58 = .ok (.iconst 4, 1) := by decide +kernel
theorem dX5_knot_59 : decode cX5_knot 59 = .ok (.if_icmp .lt 13, 3) := by decide +kernel
theorem dX5_knot_62 : decode cX5_knot 62 = .ok (.new 63, 3) := by decide +kernel
theorem dX5_knot_65 : decode cX5_knot 65 = .ok (.dup, 1) := by decide +kernel
theorem dX5_knot_66 : decode cX5_knot 66 = .ok (.ldc 117, 2) := by decide +kernel
theorem dX5_knot_68 : decode cX5_knot 68 = .ok (.invokespecial 67, 3) := by decide +kernel
theorem dX5_knot_71 : decode cX5_knot 71 = .ok (.athrow, 1) := by decide +kernel
theorem dX5_knot_72 : decode cX5_knot 72 = .ok (.aload 4, 2) := by decide +kernel
theorem dX5_knot_74 : decode cX5_knot 74 = .ok (.getfield 119, 3) := by decide +kernel
theorem dX5_knot_77 : decode cX5_knot 77 = .ok (.iload_n 2, 1) := by decide +kernel
theorem dX5_knot_78 : decode cX5_knot 78 = .ok (.iload_n 3, 1) := by decide +kernel
theorem dX5_knot_79 : decode cX5_knot 79 = .ok (.invokestatic 122, 3) := by decide +kernel
theorem dX5_knot_82 : decode cX5_knot 82 = .ok (.ifCond .eq 13, 3) := by decide +kernel
theorem dX5_knot_85 : decode cX5_knot 85 = .ok (.new 63, 3) := by decide +kernel
theorem dX5_knot_88 : decode cX5_knot 88 = .ok (.dup, 1) := by decide +kernel
theorem dX5_knot_89 : decode cX5_knot 89 = .ok (.ldc 126, 2) := by decide +kernel
theorem dX5_knot_91 : decode cX5_knot 91 = .ok (.invokespecial 67, 3) := by decide +kernel
theorem dX5_knot_94 : decode cX5_knot 94 = .ok (.athrow, 1) := by decide +kernel
theorem dX5_knot_95 : decode cX5_knot 95 = .ok (.aload 4, 2) := by decide +kernel
theorem dX5_knot_97 : decode cX5_knot 97 = .ok (.getfield 114, 3) := by decide +kernel
theorem dX5_knot_100 : decode cX5_knot 100 = .ok (.new 128, 3) := by decide +kernel
theorem dX5_knot_103 : decode cX5_knot 103 = .ok (.dup, 1) := by decide +kernel
theorem dX5_knot_104 : decode cX5_knot 104 = .ok (.iload_n 2, 1) := by decide +kernel
theorem dX5_knot_105 : decode cX5_knot 105 = .ok (.iload_n 3, 1) := by decide +kernel
theorem dX5_knot_106 : decode cX5_knot 106 = .ok (.invokespecial 130, 3) := by decide +kernel
theorem dX5_knot_109 : decode cX5_knot 109 = .ok (.invokevirtual 99, 3) := by decide +kernel
theorem dX5_knot_112 : decode cX5_knot 112 = .ok (.pop, 1) := by decide +kernel
theorem dX5_knot_113 : decode cX5_knot 113 = .ok (.aload 4, 2) := by decide +kernel
theorem dX5_knot_115 : decode cX5_knot 115 = .ok (.getfield 114, 3) := by decide +kernel
theorem dX5_knot_118 : decode cX5_knot 118 = .ok (.invokevirtual 84, 3) := by decide +kernel
theorem dX5_knot_121 : decode cX5_knot 121 = .ok (.ireturn, 1) := by decide +kernel
theorem dX5_cut_0 : decode cX5_cut 0 = .ok (.aload_n 0, 1) := by decide +kernel
theorem dX5_cut_1 : decode cX5_cut 1 = .ok (.iload_n 1, 1) := by decide +kernel
theorem dX5_cut_2 : decode cX5_cut 2 = .ok (.invokevirtual 103, 3) := by decide +kernel
theorem dX5_cut_5 : decode cX5_cut 5 = .ok (.astore 6, 2) := by decide +kernel
theorem dX5_cut_7 : decode cX5_cut 7 = .ok (.aload 6, 2) := by decide +kernel
theorem dX5_cut_9 : decode cX5_cut 9 = .ok (.ifnonnull 13, 3) := by decide +kernel
theorem dX5_cut_12 : decode cX5_cut 12 = .ok (.new 45, 3) := by decide +kernel
theorem dX5_cut_15 : decode cX5_cut 15 = .ok (.dup, 1) := by decide +kernel
theorem dX5_cut_16 : decode cX5_cut 16 = .ok (.ldc 107, 2) := by decide +kernel
theorem dX5_cut_18 : decode cX5_cut 18 = .ok (.invokespecial 49, 3) := by decide +kernel
theorem dX5_cut_21 : decode cX5_cut 21 = .ok (.athrow, 1) := by decide +kernel
theorem dX5_cut_22 : decode cX5_cut 22 = .ok (.iload_n 2, 1) := by decide +kernel
theorem dX5_cut_23 : decode cX5_cut 23 = .ok (.iconst 0, 1) := by decide +kernel
theorem dX5_cut_24 : decode cX5_cut 24 = .ok (.sipush 30000, 3) := by decide +kernel
theorem dX5_cut_27 : decode cX5_cut 27 = .ok (.invokestatic 52, 3) := by decide +kernel
theorem dX5_cut_30 : decode cX5_cut 30 = .ok (.ifCond .eq 28, 3) := by decide +kernel
theorem dX5_cut_33 : decode cX5_cut 33 = .ok (.iload_n 3, 1) := by decide +kernel
theorem dX5_cut_34 : decode cX5_cut 34 = .ok (.bipush 10, 2) := by decide +kernel
theorem dX5_cut_36 : decode cX5_cut 36 = .ok (.sipush 30000, 3) := by decide +kernel
theorem dX5_cut_39 : decode cX5_cut 39 = .ok (.invokestatic 52, 3) := by decide +kernel
theorem dX5_cut_42 : decode cX5_cut 42 = .ok (.ifCond .eq 16, 3) := by decide +kernel
theorem dX5_cut_45 : decode cX5_cut 45 = .ok (.iload 4, 2) := by decide +kernel
theorem dX5_cut_47 : decode cX5_cut 47 = .ok (.bipush 10, 2) := by decide +kernel
theorem dX5_cut_49 : decode cX5_cut 49 = .ok (.sipush 6000, 3) := by decide +kernel
theorem dX5_cut_52 : decode cX5_cut 52 = .ok (.invokestatic 52, 3) := by decide +kernel
theorem dX5_cut_55 : decode cX5_cut 55 = .ok (.ifCond .ne 13, 3) := by decide +kernel
theorem dX5_cut_58 : decode cX5_cut 58 = .ok (.new 56, 3) := by decide +kernel
theorem dX5_cut_61 : decode cX5_cut 61 = .ok (.dup, 1) := by decide +kernel
theorem dX5_cut_62 : decode cX5_cut 62 = .ok (.ldc 133, 2) := by decide +kernel
theorem dX5_cut_64 : decode cX5_cut 64 = .ok (.invokespecial 60, 3) := by decide +kernel
theorem dX5_cut_67 : decode cX5_cut 67 = .ok (.athrow, 1) := by decide +kernel
theorem dX5_cut_68 : decode cX5_cut 68 = .ok (.aload_n 0, 1) := by decide +kernel
theorem dX5_cut_69 : decode cX5_cut 69 = .ok (.getfield 16, 3) := by decide +kernel
theorem dX5_cut_72 : decode cX5_cut 72 = .ok (.invokevirtual 84, 3) := by decide +kernel
theorem dX5_cut_75 : decode cX5_cut 75 = .ok (.bipush 40, 2) := by decide +kernel
theorem dX5_cut_77 : decode cX5_cut 77 = .ok (.if_icmp .lt 13, 3) := by decide +kernel
theorem dX5_cut_80 : decode cX5_cut 80 = .ok (.new 63, 3) := by decide +kernel
theorem dX5_cut_83 : decode cX5_cut 83 = .ok (.dup, 1) := by decide +kernel
theorem dX5_cut_84 : decode cX5_cut 84 = .ok (.ldc 135, 2) := by decide +kernel
theorem dX5_cut_86 : decode cX5_cut 86 = .ok (.invokespecial 67, 3) := by decide +kernel
theorem dX5_cut_89 : decode cX5_cut 89 = .ok (.athrow, 1) := by decide +kernel
theorem dX5_cut_90 : decode cX5_cut 90 = .ok (.aload 6, 2) := by decide +kernel
theorem dX5_cut_92 : decode cX5_cut 92 = .ok (.iload_n 2, 1) := by decide +kernel
theorem dX5_cut_93 : decode cX5_cut 93 = .ok (.iload_n 3, 1) := by decide +kernel
theorem dX5_cut_94 : decode cX5_cut 94 = .ok (.invokevirtual 137, 3) := by decide +kernel
theorem dX5_cut_97 : decode cX5_cut 97 = .ok (.ifCond .eq 13, 3) := by decide +kernel
theorem dX5_cut_100 : decode cX5_cut 100 = .ok (.iload 4, 2) := by decide +kernel
theorem dX5_cut_102 : decode cX5_cut 102 = .ok (.aload 6, 2) := by decide +kernel
theorem dX5_cut_104 : decode cX5_cut 104 = .ok (.invokevirtual 141, 3) := by decide +kernel
theorem dX5_cut_107 : decode cX5_cut 107 = .ok (.if_icmp .le 13, 3) := by decide +kernel
theorem dX5_cut_110 : decode cX5_cut 110 = .ok (.new 63, 3) := by decide +kernel
theorem dX5_cut_113 : decode cX5_cut 113 = .ok (.dup, 1) := by decide +kernel
theorem dX5_cut_114 : decode cX5_cut 114 = .ok (.ldc 144, 2) := by decide +kernel
theorem dX5_cut_116 : decode cX5_cut 116 = .ok (.invokespecial 67, 3) := by decide +kernel
theorem dX5_cut_119 : decode cX5_cut 119 = .ok (.athrow, 1) := by decide +kernel
theorem dX5_cut_120 : decode cX5_cut 120 = .ok (.iload 5, 2) := by decide +kernel
theorem dX5_cut_122 : decode cX5_cut 122 = .ok (.ifCond .ne 28, 3) := by decide +kernel
theorem dX5_cut_125 : decode cX5_cut 125 = .ok (.aload 6, 2) := by decide +kernel
theorem dX5_cut_127 : decode cX5_cut 127 = .ok (.getfield 114, 3) := by decide +kernel
theorem dX5_cut_130 : decode cX5_cut 130 = .ok (.iload_n 2, 1) := by decide +kernel
theorem dX5_cut_131 : decode cX5_cut 131 = .ok (.iload_n 2, 1) := by decide +kernel
theorem dX5_cut_132 : decode cX5_cut 132 = .ok (.iload_n 3, 1) := by decide +kernel
theorem dX5_cut_133 : decode cX5_cut 133 = .ok (.iadd, 1) := by decide +kernel
theorem dX5_cut_134 : decode cX5_cut 134 = .ok (.invokestatic 122, 3) := by decide +kernel
theorem dX5_cut_137 : decode cX5_cut 137 = .ok (.ifCond .eq 13, 3) := by decide +kernel
theorem dX5_cut_140 : decode cX5_cut 140 = .ok (.new 63, 3) := by decide +kernel
theorem dX5_cut_143 : decode cX5_cut 143 = .ok (.dup, 1) := by decide +kernel
theorem dX5_cut_144 : decode cX5_cut 144 = .ok (.ldc 146, 2) := by decide +kernel
theorem dX5_cut_146 : decode cX5_cut 146 = .ok (.invokespecial 67, 3) := by decide +kernel
theorem dX5_cut_149 : decode cX5_cut 149 = .ok (.athrow, 1) := by decide +kernel
theorem dX5_cut_150 : decode cX5_cut 150 = .ok (.aload 6, 2) := by decide +kernel
theorem dX5_cut_152 : decode cX5_cut 152 = .ok (.getfield 148, 3) := by decide +kernel
theorem dX5_cut_155 : decode cX5_cut 155 = .ok (.invokestatic 151, 3) := by decide +kernel
theorem dX5_cut_158 : decode cX5_cut 158 = .ok (.istore 7, 2) := by decide +kernel
theorem dX5_cut_160 : decode cX5_cut 160 = .ok (.aload_n 0, 1) := by decide +kernel
theorem dX5_cut_161 : decode cX5_cut 161 = .ok (.getfield 30, 3) := by decide +kernel
theorem dX5_cut_164 : decode cX5_cut 164 = .ok (.iload 7, 2) := by decide +kernel
theorem dX5_cut_166 : decode cX5_cut 166 = .ok (.if_icmp .ge 13, 3) := by decide +kernel
theorem dX5_cut_169 : decode cX5_cut 169 = .ok (.new 63, 3) := by decide +kernel
theorem dX5_cut_172 : decode cX5_cut 172 = .ok (.dup, 1) := by decide +kernel
theorem dX5_cut_173 : decode cX5_cut 173 = .ok (.ldc 154, 2) := by decide +kernel
theorem dX5_cut_175 : decode cX5_cut 175 = .ok (.invokespecial 67, 3) := by decide +kernel
theorem dX5_cut_178 : decode cX5_cut 178 = .ok (.athrow, 1) := by decide +kernel
theorem dX5_cut_179 : decode cX5_cut 179 = .ok (.aload_n 0, 1) := by decide +kernel
theorem dX5_cut_180 : decode cX5_cut 180 = .ok (.dup, 1) := by decide +kernel
theorem dX5_cut_181 : decode cX5_cut 181 = .ok (.getfield 30, 3) := by decide +kernel
theorem dX5_cut_184 : decode cX5_cut 184 = .ok (.iload 7, 2) := by decide +kernel
theorem dX5_cut_186 : decode cX5_cut 186 = .ok (.isub, 1) := by decide +kernel
theorem dX5_cut_187 : decode cX5_cut 187 = .ok (.putfield 30, 3) := by decide +kernel
theorem dX5_cut_190 : decode cX5_cut 190 = .ok (.aload_n 0, 1) := by decide +kernel
theorem dX5_cut_191 : decode cX5_cut 191 = .ok (.getfield 16, 3) := by decide +kernel
theorem dX5_cut_194 : decode cX5_cut 194 = .ok (.invokevirtual 84, 3) := by decide +kernel
theorem dX5_cut_197 : decode cX5_cut 197 = .ok (.istore 8, 2) := by decide +kernel
theorem dX5_cut_199 : decode cX5_cut 199 = .ok (.aload_n 0, 1) := by decide +kernel
theorem dX5_cut_200 : decode cX5_cut 200 = .ok (.getfield 16, 3) := by decide +kernel
theorem dX5_cut_203 : decode cX5_cut 203 = .ok (.new 156, 3) := by decide +kernel
theorem dX5_cut_206 : decode cX5_cut 206 = .ok (.dup, 1) := by decide +kernel
theorem dX5_cut_207 : decode cX5_cut 207 = .ok (.iload 8, 2) := by decide +kernel
theorem dX5_cut_209 : decode cX5_cut 209 = .ok (.aload 6, 2) := by decide +kernel
theorem dX5_cut_211 : decode cX5_cut 211 = .ok (.iload_n 2, 1) := by decide +kernel
theorem dX5_cut_212 : decode cX5_cut 212 = .ok (.iload_n 3, 1) := by decide +kernel
theorem dX5_cut_213 : decode cX5_cut 213 = .ok (.iload 4, 2) := by decide +kernel
theorem dX5_cut_215 : decode cX5_cut 215 = .ok (.invokespecial 158, 3) := by decide +kernel
theorem dX5_cut_218 : decode cX5_cut 218 = .ok (.invokevirtual 99, 3) := by decide +kernel
theorem dX5_cut_221 : decode cX5_cut 221 = .ok (.pop, 1) := by decide +kernel
theorem dX5_cut_222 : decode cX5_cut 222 = .ok (.aload 6, 2) := by decide +kernel
theorem dX5_cut_224 : decode cX5_cut 224 = .ok (.getfield 119, 3) := by decide +kernel
theorem dX5_cut_227 : decode cX5_cut 227 = .ok (.new 128, 3) := by decide +kernel
theorem dX5_cut_230 : decode cX5_cut 230 = .ok (.dup, 1) := by decide +kernel
theorem dX5_cut_231 : decode cX5_cut 231 = .ok (.iload_n 2, 1) := by decide +kernel
theorem dX5_cut_232 : decode cX5_cut 232 = .ok (.bipush 30, 2) := by decide +kernel
theorem dX5_cut_234 : decode cX5_cut 234 = .ok (.isub, 1) := by decide +kernel
theorem dX5_cut_235 : decode cX5_cut 235 = .ok (.iload_n 2, 1) := by decide +kernel
theorem dX5_cut_236 : decode cX5_cut 236 = .ok (.iload_n 3, 1) := by decide +kernel
theorem dX5_cut_237 : decode cX5_cut 237 = .ok (.iadd, 1) := by decide +kernel
theorem dX5_cut_238 : decode cX5_cut 238 = .ok (.bipush 30, 2) := by decide +kernel
theorem dX5_cut_240 : decode cX5_cut 240 = .ok (.iadd, 1) := by decide +kernel
theorem dX5_cut_241 : decode cX5_cut 241 = .ok (.invokespecial 130, 3) := by decide +kernel
theorem dX5_cut_244 : decode cX5_cut 244 = .ok (.invokevirtual 99, 3) := by decide +kernel
theorem dX5_cut_247 : decode cX5_cut 247 = .ok (.pop, 1) := by decide +kernel
theorem dX5_cut_248 : decode cX5_cut 248 = .ok (.iload 8, 2) := by decide +kernel
theorem dX5_cut_250 : decode cX5_cut 250 = .ok (.ireturn, 1) := by decide +kernel
theorem dX5_sharpen_0 : decode cX5_sharpen 0 = .ok (.iload_n 1, 1) := by decide +kernel
theorem dX5_sharpen_1 : decode cX5_sharpen 1 = .ok (.iconst 0, 1) := by decide +kernel
theorem dX5_sharpen_2 : decode cX5_sharpen 2 = .ok (.iconst 1, 1) := by decide +kernel
theorem dX5_sharpen_3 : decode cX5_sharpen 3 = .ok (.invokestatic 52, 3) := by decide +kernel
theorem dX5_sharpen_6 : decode cX5_sharpen 6 = .ok (.ifCond .ne 13, 3) := by decide +kernel
theorem dX5_sharpen_9 : decode cX5_sharpen 9 = .ok (.new 45, 3) := by decide +kernel
theorem dX5_sharpen_12 : decode cX5_sharpen 12 = .ok (.dup, 1) := by decide +kernel
theorem dX5_sharpen_13 : decode cX5_sharpen 13 = .ok (.ldc 161, 2) := by decide +kernel
theorem dX5_sharpen_15 : decode cX5_sharpen 15 = .ok (.invokespecial 49, 3) := by decide +kernel
theorem dX5_sharpen_18 : decode cX5_sharpen 18 = .ok (.athrow, 1) := by decide +kernel
theorem dX5_sharpen_19 : decode cX5_sharpen 19 = .ok (.iload_n 1, 1) := by decide +kernel
theorem dX5_sharpen_20 : decode cX5_sharpen 20 = .ok (.ifCond .ne 10, 3) := by decide +kernel
theorem dX5_sharpen_23 : decode cX5_sharpen 23 = .ok (.aload_n 0, 1) := by decide +kernel
theorem dX5_sharpen_24 : decode cX5_sharpen 24 = .ok (.getfield 30, 3) := by decide +kernel
theorem dX5_sharpen_27 : decode cX5_sharpen 27 = .ok (.goto 7, 3) := by decide +kernel
theorem dX5_sharpen_30 : decode cX5_sharpen 30 = .ok (.aload_n 0, 1) := by decide +kernel
theorem dX5_sharpen_31 : decode cX5_sharpen 31 = .ok (.getfield 33, 3) := by decide +kernel
theorem dX5_sharpen_34 : decode cX5_sharpen 34 = .ok (.istore_n 2, 1) := by decide +kernel
theorem dX5_sharpen_35 : decode cX5_sharpen 35 = .ok (.iload_n 1, 1) := by decide +kernel
theorem dX5_sharpen_36 : decode cX5_sharpen 36 = .ok (.ifCond .ne 12, 3) := by decide +kernel
theorem dX5_sharpen_39 : decode cX5_sharpen 39 = .ok (.aload_n 0, 1) := by decide +kernel
theorem dX5_sharpen_40 : decode cX5_sharpen 40 = .ok (.bipush 100, 2) := by decide +kernel
theorem dX5_sharpen_42 : decode cX5_sharpen 42 = .ok (.putfield 30, 3) := by decide +kernel
theorem dX5_sharpen_45 : decode cX5_sharpen 45 = .ok (.goto 9, 3) := by decide +kernel
theorem dX5_sharpen_48 : decode cX5_sharpen 48 = .ok (.aload_n 0, 1) := by decide +kernel
theorem dX5_sharpen_49 : decode cX5_sharpen 49 = .ok (.bipush 100, 2) := by decide +kernel
theorem dX5_sharpen_51 : decode cX5_sharpen 51 = .ok (.putfield 33, 3) := by decide +kernel
theorem dX5_sharpen_54 : decode cX5_sharpen 54 = .ok (.iload_n 2, 1) := by decide +kernel
theorem dX5_sharpen_55 : decode cX5_sharpen 55 = .ok (.ireturn, 1) := by decide +kernel
theorem dX5_clearFrom_0 : decode cX5_clearFrom 0 = .ok (.aload_n 0, 1) := by decide +kernel
theorem dX5_clearFrom_1 : decode cX5_clearFrom 1 = .ok (.iload_n 1, 1) := by decide +kernel
theorem dX5_clearFrom_2 : decode cX5_clearFrom 2 = .ok (.invokevirtual 103, 3) := by decide +kernel
theorem dX5_clearFrom_5 : decode cX5_clearFrom 5 = .ok (.astore_n 3, 1) := by decide +kernel
theorem dX5_clearFrom_6 : decode cX5_clearFrom 6 = .ok (.aload_n 3, 1) := by decide +kernel
theorem dX5_clearFrom_7 : decode cX5_clearFrom 7 = .ok (.ifnonnull 13, 3) := by decide +kernel
theorem dX5_clearFrom_10 : decode cX5_clearFrom 10 = .ok (.new 45, 3) := by decide +kernel
theorem dX5_clearFrom_13 : decode cX5_clearFrom 13 = .ok (.dup, 1) := by decide +kernel
theorem dX5_clearFrom_14 : decode cX5_clearFrom 14 = .ok (.ldc 107, 2) := by decide +kernel
theorem dX5_clearFrom_16 : decode cX5_clearFrom 16 = .ok (.invokespecial 49, 3) := by decide +kernel
theorem dX5_clearFrom_19 : decode cX5_clearFrom 19 = .ok (.athrow, 1) := by decide +kernel
theorem dX5_clearFrom_20 : decode cX5_clearFrom 20 = .ok (.iload_n 2, 1) := by decide +kernel
theorem dX5_clearFrom_21 : decode cX5_clearFrom 21 = .ok (.bipush 10, 2) := by decide +kernel
theorem dX5_clearFrom_23 : decode cX5_clearFrom 23 = .ok (.sipush 30000, 3) := by decide +kernel
theorem dX5_clearFrom_26 : decode cX5_clearFrom 26 = .ok (.invokestatic 52, 3) := by decide +kernel
theorem dX5_clearFrom_29 : decode cX5_clearFrom 29 = .ok (.ifCond .ne 13, 3) := by decide +kernel
theorem dX5_clearFrom_32 : decode cX5_clearFrom 32 = .ok (.new 56, 3) := by decide +kernel
theorem dX5_clearFrom_35 : decode cX5_clearFrom 35 = .ok (.dup, 1) := by decide +kernel
theorem dX5_clearFrom_36 : decode cX5_clearFrom 36 = .ok (.ldc 163, 2) := by decide +kernel
theorem dX5_clearFrom_38 : decode cX5_clearFrom 38 = .ok (.invokespecial 60, 3) := by decide +kernel
theorem dX5_clearFrom_41 : decode cX5_clearFrom 41 = .ok (.athrow, 1) := by decide +kernel
theorem dX5_clearFrom_42 : decode cX5_clearFrom 42 = .ok (.aload_n 3, 1) := by decide +kernel
theorem dX5_clearFrom_43 : decode cX5_clearFrom 43 = .ok (.iconst 0, 1) := by decide +kernel
theorem dX5_clearFrom_44 : decode cX5_clearFrom 44 = .ok (.iload_n 2, 1) := by decide +kernel
theorem dX5_clearFrom_45 : decode cX5_clearFrom 45 = .ok (.invokevirtual 165, 3) := by decide +kernel
theorem dX5_clearFrom_48 : decode cX5_clearFrom 48 = .ok (.ifCond .eq 7, 3) := by decide +kernel
theorem dX5_clearFrom_51 : decode cX5_clearFrom 51 = .ok (.iconst 0, 1) := by decide +kernel
theorem dX5_clearFrom_52 : decode cX5_clearFrom 52 = .ok (.goto 4, 3) := by decide +kernel
theorem dX5_clearFrom_55 : decode cX5_clearFrom 55 = .ok (.iconst (-1), 1) := by decide +kernel
theorem dX5_clearFrom_56 : decode cX5_clearFrom 56 = .ok (.istore 4, 2) := by decide +kernel
theorem dX5_clearFrom_58 : decode cX5_clearFrom 58 = .ok (.aload_n 3, 1) := by decide +kernel
theorem dX5_clearFrom_59 : decode cX5_clearFrom 59 = .ok (.getfield 114, 3) := by decide +kernel
theorem dX5_clearFrom_62 : decode cX5_clearFrom 62 = .ok (.aload_n 3, 1) := by decide +kernel
theorem dX5_clearFrom_63 : decode cX5_clearFrom 63 = .ok (.iload_n 2, 1) := by decide +kernel
theorem dX5_clearFrom_64 : decode cX5_clearFrom 64 = .ok (.iload 4, 2) := by decide +kernel
theorem dX5_clearFrom_66 : decode cX5_clearFrom 66 = .ok (.invokestatic 168, 3) := by decide +kernel
theorem dX5_clearFrom_69 : decode cX5_clearFrom 69 = .ok (.istore 4, 2) := by decide +kernel
theorem dX5_clearFrom_71 : decode cX5_clearFrom 71 = .ok (.aload_n 3, 1) := by decide +kernel
theorem dX5_clearFrom_72 : decode cX5_clearFrom 72 = .ok (.getfield 119, 3) := by decide +kernel
theorem dX5_clearFrom_75 : decode cX5_clearFrom 75 = .ok (.aload_n 3, 1) := by decide +kernel
theorem dX5_clearFrom_76 : decode cX5_clearFrom 76 = .ok (.iload_n 2, 1) := by decide +kernel
theorem dX5_clearFrom_77 : decode cX5_clearFrom 77 = .ok (.iload 4, 2) := by decide +kernel
theorem dX5_clearFrom_79 : decode cX5_clearFrom 79 = .ok (.invokestatic 168, 3) := by decide +kernel
theorem dX5_clearFrom_82 : decode cX5_clearFrom 82 = .ok (.ireturn, 1) := by decide +kernel
theorem dX5_coat_0 : decode cX5_coat 0 = .ok (.aload_n 0, 1) := by decide +kernel
theorem dX5_coat_1 : decode cX5_coat 1 = .ok (.iload_n 1, 1) := by decide +kernel
theorem dX5_coat_2 : decode cX5_coat 2 = .ok (.invokevirtual 172, 3) := by decide +kernel
theorem dX5_coat_5 : decode cX5_coat 5 = .ok (.astore_n 2, 1) := by decide +kernel
theorem dX5_coat_6 : decode cX5_coat 6 = .ok (.aload_n 2, 1) := by decide +kernel
theorem dX5_coat_7 : decode cX5_coat 7 = .ok (.ifnonnull 13, 3) := by decide +kernel
theorem dX5_coat_10 : decode cX5_coat 10 = .ok (.new 45, 3) := by decide +kernel
theorem dX5_coat_13 : decode cX5_coat 13 = .ok (.dup, 1) := by decide +kernel
theorem dX5_coat_14 : decode cX5_coat 14 = .ok (.ldc 176, 2) := by decide +kernel
theorem dX5_coat_16 : decode cX5_coat 16 = .ok (.invokespecial 49, 3) := by decide +kernel
theorem dX5_coat_19 : decode cX5_coat 19 = .ok (.athrow, 1) := by decide +kernel
theorem dX5_coat_20 : decode cX5_coat 20 = .ok (.aload_n 2, 1) := by decide +kernel
theorem dX5_coat_21 : decode cX5_coat 21 = .ok (.getfield 178, 3) := by decide +kernel
theorem dX5_coat_24 : decode cX5_coat 24 = .ok (.bipush 6, 2) := by decide +kernel
theorem dX5_coat_26 : decode cX5_coat 26 = .ok (.if_icmp .lt 13, 3) := by decide +kernel
theorem dX5_coat_29 : decode cX5_coat 29 = .ok (.new 63, 3) := by decide +kernel
theorem dX5_coat_32 : decode cX5_coat 32 = .ok (.dup, 1) := by decide +kernel
theorem dX5_coat_33 : decode cX5_coat 33 = .ok (.ldc 181, 2) := by decide +kernel
theorem dX5_coat_35 : decode cX5_coat 35 = .ok (.invokespecial 67, 3) := by decide +kernel
theorem dX5_coat_38 : decode cX5_coat 38 = .ok (.athrow, 1) := by decide +kernel
theorem dX5_coat_39 : decode cX5_coat 39 = .ok (.aload_n 2, 1) := by decide +kernel
theorem dX5_coat_40 : decode cX5_coat 40 = .ok (.dup, 1) := by decide +kernel
theorem dX5_coat_41 : decode cX5_coat 41 = .ok (.getfield 178, 3) := by decide +kernel
theorem dX5_coat_44 : decode cX5_coat 44 = .ok (.iconst 1, 1) := by decide +kernel
theorem dX5_coat_45 : decode cX5_coat 45 = .ok (.iadd, 1) := by decide +kernel
theorem dX5_coat_46 : decode cX5_coat 46 = .ok (.putfield 178, 3) := by decide +kernel
theorem dX5_coat_49 : decode cX5_coat 49 = .ok (.aload_n 2, 1) := by decide +kernel
theorem dX5_coat_50 : decode cX5_coat 50 = .ok (.getfield 178, 3) := by decide +kernel
theorem dX5_coat_53 : decode cX5_coat 53 = .ok (.ireturn, 1) := by decide +kernel
theorem dX5_match_0 : decode cX5_match 0 = .ok (.aload_n 0, 1) := by decide +kernel
theorem dX5_match_1 : decode cX5_match 1 = .ok (.iload_n 1, 1) := by decide +kernel
theorem dX5_match_2 : decode cX5_match 2 = .ok (.invokevirtual 172, 3) := by decide +kernel
theorem dX5_match_5 : decode cX5_match 5 = .ok (.astore_n 3, 1) := by decide +kernel
theorem dX5_match_6 : decode cX5_match 6 = .ok (.aload_n 0, 1) := by decide +kernel
theorem dX5_match_7 : decode cX5_match 7 = .ok (.iload_n 2, 1) := by decide +kernel
theorem dX5_match_8 : decode cX5_match 8 = .ok (.invokevirtual 172, 3) := by decide +kernel
theorem dX5_match_11 : decode cX5_match 11 = .ok (.astore 4, 2) := by decide +kernel
theorem dX5_match_13 : decode cX5_match 13 = .ok (.aload_n 3, 1) := by decide +kernel
theorem dX5_match_14 : decode cX5_match 14 = .ok (.ifnull 8, 3) := by decide +kernel
theorem dX5_match_17 : decode cX5_match 17 = .ok (.aload 4, 2) := by decide +kernel
theorem dX5_match_19 : decode cX5_match 19 = .ok (.ifnonnull 13, 3) := by decide +kernel
theorem dX5_match_22 : decode cX5_match 22 = .ok (.new 45, 3) := by decide +kernel
theorem dX5_match_25 : decode cX5_match 25 = .ok (.dup, 1) := by decide +kernel
theorem dX5_match_26 : decode cX5_match 26 = .ok (.ldc 176, 2) := by decide +kernel
theorem dX5_match_28 : decode cX5_match 28 = .ok (.invokespecial 49, 3) := by decide +kernel
theorem dX5_match_31 : decode cX5_match 31 = .ok (.athrow, 1) := by decide +kernel
theorem dX5_match_32 : decode cX5_match 32 = .ok (.iload_n 1, 1) := by decide +kernel
theorem dX5_match_33 : decode cX5_match 33 = .ok (.iload_n 2, 1) := by decide +kernel
theorem dX5_match_34 : decode cX5_match 34 = .ok (.if_icmp .ne 13, 3) := by decide +kernel
theorem dX5_match_37 : decode cX5_match 37 = .ok (.new 56, 3) := by decide +kernel
theorem dX5_match_40 : decode cX5_match 40 = .ok (.dup, 1) := by decide +kernel
theorem dX5_match_41 : decode cX5_match 41 = .ok (.ldc 183, 2) := by decide +kernel
theorem dX5_match_43 : decode cX5_match 43 = .ok (.invokespecial 60, 3) := by decide +kernel
theorem dX5_match_46 : decode cX5_match 46 = .ok (.athrow, 1) := by decide +kernel
theorem dX5_match_47 : decode cX5_match 47 = .ok (.aload_n 3, 1) := by decide +kernel
theorem dX5_match_48 : decode cX5_match 48 = .ok (.getfield 185, 3) := by decide +kernel
theorem dX5_match_51 : decode cX5_match 51 = .ok (.aload 4, 2) := by decide +kernel
theorem dX5_match_53 : decode cX5_match 53 = .ok (.getfield 185, 3) := by decide +kernel
theorem dX5_match_56 : decode cX5_match 56 = .ok (.if_acmp .ne 5, 3) := by decide +kernel
theorem dX5_match_59 : decode cX5_match 59 = .ok (.iconst 3, 1) := by decide +kernel
theorem dX5_match_60 : decode cX5_match 60 = .ok (.ireturn, 1) := by decide +kernel
theorem dX5_match_61 : decode cX5_match 61 = .ok (.aload_n 3, 1) := by decide +kernel
theorem dX5_match_62 : decode cX5_match 62 = .ok (.getfield 185, 3) := by decide +kernel
theorem dX5_match_65 : decode cX5_match 65 = .ok (.getfield 189, 3) := by decide +kernel
theorem dX5_match_68 : decode cX5_match 68 = .ok (.aload 4, 2) := by decide +kernel
theorem dX5_match_70 : decode cX5_match 70 = .ok (.getfield 185, 3) := by decide +kernel
theorem dX5_match_73 : decode cX5_match 73 = .ok (.getfield 189, 3) := by decide +kernel
theorem dX5_match_76 : decode cX5_match 76 = .ok (.if_icmp .eq 5, 3) := by decide +kernel
theorem dX5_match_79 : decode cX5_match 79 = .ok (.iconst 0, 1) := by decide +kernel
theorem dX5_match_80 : decode cX5_match 80 = .ok (.ireturn, 1) := by decide +kernel
theorem dX5_match_81 : decode cX5_match 81 = .ok (.aload_n 3, 1) := by decide +kernel
theorem dX5_match_82 : decode cX5_match 82 = .ok (.getfield 185, 3) := by decide +kernel
theorem dX5_match_85 : decode cX5_match 85 = .ok (.getfield 192, 3) := by decide +kernel
theorem dX5_match_88 : decode cX5_match 88 = .ok (.aload 4, 2) := by decide +kernel
theorem dX5_match_90 : decode cX5_match 90 = .ok (.getfield 185, 3) := by decide +kernel
theorem dX5_match_93 : decode cX5_match 93 = .ok (.getfield 192, 3) := by decide +kernel
theorem dX5_match_96 : decode cX5_match 96 = .ok (.isub, 1) := by decide +kernel
theorem dX5_match_97 : decode cX5_match 97 = .ok (.invokestatic 195, 3) := by decide +kernel
theorem dX5_match_100 : decode cX5_match 100 = .ok (.iconst 1, 1) := by decide +kernel
theorem dX5_match_101 : decode cX5_match 101 = .ok (.if_icmp .ne 7, 3) := by decide +kernel
theorem dX5_match_104 : decode cX5_match 104 = .ok (.iconst 2, 1) := by decide +kernel
theorem dX5_match_105 : decode cX5_match 105 = .ok (.goto 4, 3) := by decide +kernel
theorem dX5_match_108 : decode cX5_match 108 = .ok (.iconst 1, 1) := by decide +kernel
theorem dX5_match_109 : decode cX5_match 109 = .ok (.ireturn, 1) := by decide +kernel
theorem dX5_joint_0 : decode cX5_joint 0 = .ok (.aload_n 0, 1) := by decide +kernel
theorem dX5_joint_1 : decode cX5_joint 1 = .ok (.iload_n 2, 1) := by decide +kernel
theorem dX5_joint_2 : decode cX5_joint 2 = .ok (.invokevirtual 172, 3) := by decide +kernel
theorem dX5_joint_5 : decode cX5_joint 5 = .ok (.astore 6, 2) := by decide +kernel
theorem dX5_joint_7 : decode cX5_joint 7 = .ok (.aload_n 0, 1) := by decide +kernel
theorem dX5_joint_8 : decode cX5_joint 8 = .ok (.iload_n 3, 1) := by decide +kernel
theorem dX5_joint_9 : decode cX5_joint 9 = .ok (.invokevirtual 172, 3) := by decide +kernel
theorem dX5_joint_12 : decode cX5_joint 12 = .ok (.astore 7, 2) := by decide +kernel
theorem dX5_joint_14 : decode cX5_joint 14 = .ok (.aload 6, 2) := by decide +kernel
theorem dX5_joint_16 : decode cX5_joint 16 = .ok (.ifnull 8, 3) := by decide +kernel
theorem dX5_joint_19 : decode cX5_joint 19 = .ok (.aload 7, 2) := by decide +kernel
theorem dX5_joint_21 : decode cX5_joint 21 = .ok (.ifnonnull 13, 3) := by decide +kernel
theorem dX5_joint_24 : decode cX5_joint 24 = .ok (.new 45, 3) := by decide +kernel
theorem dX5_joint_27 : decode cX5_joint 27 = .ok (.dup, 1) := by decide +kernel
theorem dX5_joint_28 : decode cX5_joint 28 = .ok (.ldc 176, 2) := by decide +kernel
theorem dX5_joint_30 : decode cX5_joint 30 = .ok (.invokespecial 49, 3) := by decide +kernel
theorem dX5_joint_33 : decode cX5_joint 33 = .ok (.athrow, 1) := by decide +kernel
theorem dX5_joint_34 : decode cX5_joint 34 = .ok (.iload_n 1, 1) := by decide +kernel
theorem dX5_joint_35 : decode cX5_joint 35 = .ok (.iconst 0, 1) := by decide +kernel
theorem dX5_joint_36 : decode cX5_joint 36 = .ok (.iconst 2, 1) := by decide +kernel
theorem dX5_joint_37 : decode cX5_joint 37 = .ok (.invokestatic 52, 3) := by decide +kernel
theorem dX5_joint_40 : decode cX5_joint 40 = .ok (.ifCond .eq 25, 3) := by decide +kernel
theorem dX5_joint_43 : decode cX5_joint 43 = .ok (.iload 4, 2) := by decide +kernel
theorem dX5_joint_45 : decode cX5_joint 45 = .ok (.bipush 10, 2) := by decide +kernel
theorem dX5_joint_47 : decode cX5_joint 47 = .ok (.sipush 30000, 3) := by decide +kernel
theorem dX5_joint_50 : decode cX5_joint 50 = .ok (.invokestatic 52, 3) := by decide +kernel
theorem dX5_joint_53 : decode cX5_joint 53 = .ok (.ifCond .eq 12, 3) := by decide +kernel
theorem dX5_joint_56 : decode cX5_joint 56 = .ok (.iload_n 1, 1) := by decide +kernel
theorem dX5_joint_57 : decode cX5_joint 57 = .ok (.iload 5, 2) := by decide +kernel
theorem dX5_joint_59 : decode cX5_joint 59 = .ok (.invokestatic 200, 3) := by decide +kernel
theorem dX5_joint_62 : decode cX5_joint 62 = .ok (.ifCond .ne 13, 3) := by decide +kernel
theorem dX5_joint_65 : decode cX5_joint 65 = .ok (.new 56, 3) := by decide +kernel
theorem dX5_joint_68 : decode cX5_joint 68 = .ok (.dup, 1) := by decide +kernel
theorem dX5_joint_69 : decode cX5_joint 69 = .ok (.ldc 203, 2) := by decide +kernel
theorem dX5_joint_71 : decode cX5_joint 71 = .ok (.invokespecial 60, 3) := by decide +kernel
theorem dX5_joint_74 : decode cX5_joint 74 = .ok (.athrow, 1) := by decide +kernel
theorem dX5_joint_75 : decode cX5_joint 75 = .ok (.iload_n 2, 1) := by decide +kernel
theorem dX5_joint_76 : decode cX5_joint 76 = .ok (.iload_n 3, 1) := by decide +kernel
theorem dX5_joint_77 : decode cX5_joint 77 = .ok (.if_icmp .ne 13, 3) := by decide +kernel
theorem dX5_joint_80 : decode cX5_joint 80 = .ok (.new 56, 3) := by decide +kernel
theorem dX5_joint_83 : decode cX5_joint 83 = .ok (.dup, 1) := by decide +kernel
theorem dX5_joint_84 : decode cX5_joint 84 = .ok (.ldc 183, 2) := by decide +kernel
theorem dX5_joint_86 : decode cX5_joint 86 = .ok (.invokespecial 60, 3) := by decide +kernel
theorem dX5_joint_89 : decode cX5_joint 89 = .ok (.athrow, 1) := by decide +kernel
theorem dX5_joint_90 : decode cX5_joint 90 = .ok (.aload_n 0, 1) := by decide +kernel
theorem dX5_joint_91 : decode cX5_joint 91 = .ok (.getfield 19, 3) := by decide +kernel
theorem dX5_joint_94 : decode cX5_joint 94 = .ok (.invokevirtual 84, 3) := by decide +kernel
theorem dX5_joint_97 : decode cX5_joint 97 = .ok (.bipush 30, 2) := by decide +kernel
theorem dX5_joint_99 : decode cX5_joint 99 = .ok (.if_icmp .lt 13, 3) := by decide +kernel
theorem dX5_joint_102 : decode cX5_joint 102 = .ok (.new 63, 3) := by decide +kernel
theorem dX5_joint_105 : decode cX5_joint 105 = .ok (.dup, 1) := by decide +kernel
theorem dX5_joint_106 : decode cX5_joint 106 = .ok (.ldc 205, 2) := by decide +kernel
theorem dX5_joint_108 : decode cX5_joint 108 = .ok (.invokespecial 67, 3) := by decide +kernel
theorem dX5_joint_111 : decode cX5_joint 111 = .ok (.athrow, 1) := by decide +kernel
theorem dX5_joint_112 : decode cX5_joint 112 = .ok (.iload_n 1, 1) := by decide +kernel
theorem dX5_joint_113 : decode cX5_joint 113 = .ok (.aload 6, 2) := by decide +kernel
theorem dX5_joint_115 : decode cX5_joint 115 = .ok (.iload 4, 2) := by decide +kernel
theorem dX5_joint_117 : decode cX5_joint 117 = .ok (.iload 5, 2) := by decide +kernel
theorem dX5_joint_119 : decode cX5_joint 119 = .ok (.invokestatic 207, 3) := by decide +kernel
theorem dX5_joint_122 : decode cX5_joint 122 = .ok (.ifCond .ne 13, 3) := by decide +kernel
theorem dX5_joint_125 : decode cX5_joint 125 = .ok (.new 63, 3) := by decide +kernel
theorem dX5_joint_128 : decode cX5_joint 128 = .ok (.dup, 1) := by decide +kernel
theorem dX5_joint_129 : decode cX5_joint 129 = .ok (.ldc 211, 2) := by decide +kernel
theorem dX5_joint_131 : decode cX5_joint 131 = .ok (.invokespecial 67, 3) := by decide +kernel
theorem dX5_joint_134 : decode cX5_joint 134 = .ok (.athrow, 1) := by decide +kernel
theorem dX5_joint_135 : decode cX5_joint 135 = .ok (.aload 6, 2) := by decide +kernel
theorem dX5_joint_137 : decode cX5_joint 137 = .ok (.getfield 213, 3) := by decide +kernel
theorem dX5_joint_140 : decode cX5_joint 140 = .ok (.invokestatic 151, 3) := by decide +kernel
theorem dX5_joint_143 : decode cX5_joint 143 = .ok (.istore 8, 2) := by decide +kernel
theorem dX5_joint_145 : decode cX5_joint 145 = .ok (.aload_n 0, 1) := by decide +kernel
theorem dX5_joint_146 : decode cX5_joint 146 = .ok (.getfield 33, 3) := by decide +kernel
theorem dX5_joint_149 : decode cX5_joint 149 = .ok (.iload 8, 2) := by decide +kernel
theorem dX5_joint_151 : decode cX5_joint 151 = .ok (.if_icmp .ge 13, 3) := by decide +kernel
theorem dX5_joint_154 : decode cX5_joint 154 = .ok (.new 63, 3) := by decide +kernel
theorem dX5_joint_157 : decode cX5_joint 157 = .ok (.dup, 1) := by decide +kernel
theorem dX5_joint_158 : decode cX5_joint 158 = .ok (.ldc 214, 2) := by decide +kernel
theorem dX5_joint_160 : decode cX5_joint 160 = .ok (.invokespecial 67, 3) := by decide +kernel
theorem dX5_joint_163 : decode cX5_joint 163 = .ok (.athrow, 1) := by decide +kernel
theorem dX5_joint_164 : decode cX5_joint 164 = .ok (.aload_n 0, 1) := by decide +kernel
theorem dX5_joint_165 : decode cX5_joint 165 = .ok (.dup, 1) := by decide +kernel
theorem dX5_joint_166 : decode cX5_joint 166 = .ok (.getfield 33, 3) := by decide +kernel
theorem dX5_joint_169 : decode cX5_joint 169 = .ok (.iload 8, 2) := by decide +kernel
theorem dX5_joint_171 : decode cX5_joint 171 = .ok (.isub, 1) := by decide +kernel
theorem dX5_joint_172 : decode cX5_joint 172 = .ok (.putfield 33, 3) := by decide +kernel
theorem dX5_joint_175 : decode cX5_joint 175 = .ok (.aload_n 0, 1) := by decide +kernel
theorem dX5_joint_176 : decode cX5_joint 176 = .ok (.getfield 19, 3) := by decide +kernel
theorem dX5_joint_179 : decode cX5_joint 179 = .ok (.invokevirtual 84, 3) := by decide +kernel
theorem dX5_joint_182 : decode cX5_joint 182 = .ok (.istore 9, 2) := by decide +kernel
theorem dX5_joint_184 : decode cX5_joint 184 = .ok (.aload_n 0, 1) := by decide +kernel
theorem dX5_joint_185 : decode cX5_joint 185 = .ok (.getfield 19, 3) := by decide +kernel
theorem dX5_joint_188 : decode cX5_joint 188 = .ok (.new 216, 3) := by decide +kernel
theorem dX5_joint_191 : decode cX5_joint 191 = .ok (.dup, 1) := by decide +kernel
theorem dX5_joint_192 : decode cX5_joint 192 = .ok (.iload_n 1, 1) := by decide +kernel
theorem dX5_joint_193 : decode cX5_joint 193 = .ok (.aload 6, 2) := by decide +kernel
theorem dX5_joint_195 : decode cX5_joint 195 = .ok (.aload 7, 2) := by decide +kernel
theorem dX5_joint_197 : decode cX5_joint 197 = .ok (.iload 4, 2) := by decide +kernel
theorem dX5_joint_199 : decode cX5_joint 199 = .ok (.iload 5, 2) := by decide +kernel
theorem dX5_joint_201 : decode cX5_joint 201 = .ok (.invokespecial 218, 3) := by decide +kernel
theorem dX5_joint_204 : decode cX5_joint 204 = .ok (.invokevirtual 99, 3) := by decide +kernel
theorem dX5_joint_207 : decode cX5_joint 207 = .ok (.pop, 1) := by decide +kernel
theorem dX5_joint_208 : decode cX5_joint 208 = .ok (.iload 9, 2) := by decide +kernel
theorem dX5_joint_210 : decode cX5_joint 210 = .ok (.ireturn, 1) := by decide +kernel
theorem dX5_need_0 : decode cX5_need 0 = .ok (.aload_n 0, 1) := by decide +kernel
theorem dX5_need_1 : decode cX5_need 1 = .ok (.iload_n 1, 1) := by decide +kernel
theorem dX5_need_2 : decode cX5_need 2 = .ok (.invokevirtual 221, 3) := by decide +kernel
theorem dX5_need_5 : decode cX5_need 5 = .ok (.astore_n 3, 1) := by decide +kernel
theorem dX5_need_6 : decode cX5_need 6 = .ok (.aload_n 3, 1) := by decide +kernel
theorem dX5_need_7 : decode cX5_need 7 = .ok (.ifnull 11, 3) := by decide +kernel
theorem dX5_need_10 : decode cX5_need 10 = .ok (.aload_n 0, 1) := by decide +kernel
theorem dX5_need_11 : decode cX5_need 11 = .ok (.iload_n 2, 1) := by decide +kernel
theorem dX5_need_12 : decode cX5_need 12 = .ok (.invokevirtual 221, 3) := by decide +kernel
theorem dX5_need_15 : decode cX5_need 15 = .ok (.ifnonnull 13, 3) := by decide +kernel
theorem dX5_need_18 : decode cX5_need 18 = .ok (.new 45, 3) := by decide +kernel
theorem dX5_need_21 : decode cX5_need 21 = .ok (.dup, 1) := by decide +kernel
theorem dX5_need_22 : decode cX5_need 22 = .ok (.ldc 225, 2) := by decide +kernel
theorem dX5_need_24 : decode cX5_need 24 = .ok (.invokespecial 49, 3) := by decide +kernel
theorem dX5_need_27 : decode cX5_need 27 = .ok (.athrow, 1) := by decide +kernel
theorem dX5_need_28 : decode cX5_need 28 = .ok (.iload_n 2, 1) := by decide +kernel
theorem dX5_need_29 : decode cX5_need 29 = .ok (.iload_n 1, 1) := by decide +kernel
theorem dX5_need_30 : decode cX5_need 30 = .ok (.if_icmp .lt 13, 3) := by decide +kernel
theorem dX5_need_33 : decode cX5_need 33 = .ok (.new 56, 3) := by decide +kernel
theorem dX5_need_36 : decode cX5_need 36 = .ok (.dup, 1) := by decide +kernel
theorem dX5_need_37 : decode cX5_need 37 = .ok (.ldc 227, 2) := by decide +kernel
theorem dX5_need_39 : decode cX5_need 39 = .ok (.invokespecial 60, 3) := by decide +kernel
theorem dX5_need_42 : decode cX5_need 42 = .ok (.athrow, 1) := by decide +kernel
theorem dX5_need_43 : decode cX5_need 43 = .ok (.aload_n 3, 1) := by decide +kernel
theorem dX5_need_44 : decode cX5_need 44 = .ok (.getfield 229, 3) := by decide +kernel
theorem dX5_need_47 : decode cX5_need 47 = .ok (.ifCond .eq 13, 3) := by decide +kernel
theorem dX5_need_50 : decode cX5_need 50 = .ok (.new 63, 3) := by decide +kernel
theorem dX5_need_53 : decode cX5_need 53 = .ok (.dup, 1) := by decide +kernel
theorem dX5_need_54 : decode cX5_need 54 = .ok (.ldc 233, 2) := by decide +kernel
theorem dX5_need_56 : decode cX5_need 56 = .ok (.invokespecial 67, 3) := by decide +kernel
theorem dX5_need_59 : decode cX5_need 59 = .ok (.athrow, 1) := by decide +kernel
theorem dX5_need_60 : decode cX5_need 60 = .ok (.aload_n 3, 1) := by decide +kernel
theorem dX5_need_61 : decode cX5_need 61 = .ok (.dup, 1) := by decide +kernel
theorem dX5_need_62 : decode cX5_need 62 = .ok (.getfield 235, 3) := by decide +kernel
theorem dX5_need_65 : decode cX5_need 65 = .ok (.iconst 1, 1) := by decide +kernel
theorem dX5_need_66 : decode cX5_need 66 = .ok (.iload_n 2, 1) := by decide +kernel
theorem dX5_need_67 : decode cX5_need 67 = .ok (.ishl, 1) := by decide +kernel
theorem dX5_need_68 : decode cX5_need 68 = .ok (.ior, 1) := by decide +kernel
theorem dX5_need_69 : decode cX5_need 69 = .ok (.putfield 235, 3) := by decide +kernel
theorem dX5_need_72 : decode cX5_need 72 = .ok (.aload_n 3, 1) := by decide +kernel
theorem dX5_need_73 : decode cX5_need 73 = .ok (.getfield 235, 3) := by decide +kernel
theorem dX5_need_76 : decode cX5_need 76 = .ok (.ireturn, 1) := by decide +kernel
theorem dX5_clamps_0 : decode cX5_clamps 0 = .ok (.iload_n 1, 1) := by decide +kernel
theorem dX5_clamps_1 : decode cX5_clamps 1 = .ok (.iconst 1, 1) := by decide +kernel
theorem dX5_clamps_2 : decode cX5_clamps 2 = .ok (.bipush 99, 2) := by decide +kernel
theorem dX5_clamps_4 : decode cX5_clamps 4 = .ok (.invokestatic 52, 3) := by decide +kernel
theorem dX5_clamps_7 : decode cX5_clamps 7 = .ok (.ifCond .ne 13, 3) := by decide +kernel
theorem dX5_clamps_10 : decode cX5_clamps 10 = .ok (.new 56, 3) := by decide +kernel
theorem dX5_clamps_13 : decode cX5_clamps 13 = .ok (.dup, 1) := by decide +kernel
theorem dX5_clamps_14 : decode cX5_clamps 14 = .ok (.ldc 238, 2) := by decide +kernel
theorem dX5_clamps_16 : decode cX5_clamps 16 = .ok (.invokespecial 60, 3) := by decide +kernel
theorem dX5_clamps_19 : decode cX5_clamps 19 = .ok (.athrow, 1) := by decide +kernel
theorem dX5_clamps_20 : decode cX5_clamps 20 = .ok (.aload_n 0, 1) := by decide +kernel
theorem dX5_clamps_21 : decode cX5_clamps 21 = .ok (.getfield 36, 3) := by decide +kernel
theorem dX5_clamps_24 : decode cX5_clamps 24 = .ok (.istore_n 2, 1) := by decide +kernel
theorem dX5_clamps_25 : decode cX5_clamps 25 = .ok (.aload_n 0, 1) := by decide +kernel
theorem dX5_clamps_26 : decode cX5_clamps 26 = .ok (.iload_n 1, 1) := by decide +kernel
theorem dX5_clamps_27 : decode cX5_clamps 27 = .ok (.putfield 36, 3) := by decide +kernel
theorem dX5_clamps_30 : decode cX5_clamps 30 = .ok (.iload_n 2, 1) := by decide +kernel
theorem dX5_clamps_31 : decode cX5_clamps 31 = .ok (.ireturn, 1) := by decide +kernel
theorem dX5_glue_0 : decode cX5_glue 0 = .ok (.iload_n 1, 1) := by decide +kernel
theorem dX5_glue_1 : decode cX5_glue 1 = .ok (.ifCond .le 16, 3) := by decide +kernel
theorem dX5_glue_4 : decode cX5_glue 4 = .ok (.iload_n 1, 1) := by decide +kernel
theorem dX5_glue_5 : decode cX5_glue 5 = .ok (.iconst 1, 1) := by decide +kernel
theorem dX5_glue_6 : decode cX5_glue 6 = .ok (.aload_n 0, 1) := by decide +kernel
theorem dX5_glue_7 : decode cX5_glue 7 = .ok (.getfield 19, 3) := by decide +kernel
theorem dX5_glue_10 : decode cX5_glue 10 = .ok (.invokevirtual 84, 3) := by decide +kernel
theorem dX5_glue_13 : decode cX5_glue 13 = .ok (.ishl, 1) := by decide +kernel
theorem dX5_glue_14 : decode cX5_glue 14 = .ok (.if_icmp .lt 13, 3) := by decide +kernel
theorem dX5_glue_17 : decode cX5_glue 17 = .ok (.new 56, 3) := by decide +kernel
theorem dX5_glue_20 : decode cX5_glue 20 = .ok (.dup, 1) := by decide +kernel
theorem dX5_glue_21 : decode cX5_glue 21 = .ok (.ldc 240, 2) := by decide +kernel
theorem dX5_glue_23 : decode cX5_glue 23 = .ok (.invokespecial 60, 3) := by decide +kernel
theorem dX5_glue_26 : decode cX5_glue 26 = .ok (.athrow, 1) := by decide +kernel
theorem dX5_glue_27 : decode cX5_glue 27 = .ok (.aload_n 0, 1) := by decide +kernel
theorem dX5_glue_28 : decode cX5_glue 28 = .ok (.iload_n 1, 1) := by decide +kernel
theorem dX5_glue_29 : decode cX5_glue 29 = .ok (.invokevirtual 242, 3) := by decide +kernel
theorem dX5_glue_32 : decode cX5_glue 32 = .ok (.ifCond .ne 13, 3) := by decide +kernel
theorem dX5_glue_35 : decode cX5_glue 35 = .ok (.new 63, 3) := by decide +kernel
theorem dX5_glue_38 : decode cX5_glue 38 = .ok (.dup, 1) := by decide +kernel
theorem dX5_glue_39 : decode cX5_glue 39 = .ok (.ldc 246, 2) := by decide +kernel
theorem dX5_glue_41 : decode cX5_glue 41 = .ok (.invokespecial 67, 3) := by decide +kernel
theorem dX5_glue_44 : decode cX5_glue 44 = .ok (.athrow, 1) := by decide +kernel
theorem dX5_glue_45 : decode cX5_glue 45 = .ok (.aload_n 0, 1) := by decide +kernel
theorem dX5_glue_46 : decode cX5_glue 46 = .ok (.iload_n 1, 1) := by decide +kernel
theorem dX5_glue_47 : decode cX5_glue 47 = .ok (.invokevirtual 248, 3) := by decide +kernel
theorem dX5_glue_50 : decode cX5_glue 50 = .ok (.istore_n 2, 1) := by decide +kernel
theorem dX5_glue_51 : decode cX5_glue 51 = .ok (.iload_n 2, 1) := by decide +kernel
theorem dX5_glue_52 : decode cX5_glue 52 = .ok (.bipush 30, 2) := by decide +kernel
theorem dX5_glue_54 : decode cX5_glue 54 = .ok (.if_icmp .gt 15, 3) := by decide +kernel
theorem dX5_glue_57 : decode cX5_glue 57 = .ok (.aload_n 0, 1) := by decide +kernel
theorem dX5_glue_58 : decode cX5_glue 58 = .ok (.iload_n 1, 1) := by decide +kernel
theorem dX5_glue_59 : decode cX5_glue 59 = .ok (.invokevirtual 251, 3) := by decide +kernel
theorem dX5_glue_62 : decode cX5_glue 62 = .ok (.aload_n 0, 1) := by decide +kernel
theorem dX5_glue_63 : decode cX5_glue 63 = .ok (.getfield 36, 3) := by decide +kernel
theorem dX5_glue_66 : decode cX5_glue 66 = .ok (.if_icmp .le 13, 3) := by decide +kernel
theorem dX5_glue_69 : decode cX5_glue 69 = .ok (.new 63, 3) := by decide +kernel
theorem dX5_glue_72 : decode cX5_glue 72 = .ok (.dup, 1) := by decide +kernel
theorem dX5_glue_73 : decode cX5_glue 73 = .ok (.ldc 254, 2) := by decide +kernel
theorem dX5_glue_75 : decode cX5_glue 75 = .ok (.invokespecial 67, 3) := by decide +kernel
theorem dX5_glue_78 : decode cX5_glue 78 = .ok (.athrow, 1) := by decide +kernel
theorem dX5_glue_79 : decode cX5_glue 79 = .ok (.iconst 0, 1) := by decide +kernel
theorem dX5_glue_80 : decode cX5_glue 80 = .ok (.istore_n 3, 1) := by decide +kernel
theorem dX5_glue_81 : decode cX5_glue 81 = .ok (.iload_n 3, 1) := by decide +kernel
theorem dX5_glue_82 : decode cX5_glue 82 = .ok (.aload_n 0, 1) := by decide +kernel
theorem dX5_glue_83 : decode cX5_glue 83 = .ok (.getfield 19, 3) := by decide +kernel
theorem dX5_glue_86 : decode cX5_glue 86 = .ok (.invokevirtual 84, 3) := by decide +kernel
theorem dX5_glue_89 : decode cX5_glue 89 = .ok (.if_icmp .ge 31, 3) := by decide +kernel
theorem dX5_glue_92 : decode cX5_glue 92 = .ok (.iload_n 1, 1) := by decide +kernel
theorem dX5_glue_93 : decode cX5_glue 93 = .ok (.iload_n 3, 1) := by decide +kernel
theorem dX5_glue_94 : decode cX5_glue 94 = .ok (.invokestatic 256, 3) := by decide +kernel
theorem dX5_glue_97 : decode cX5_glue 97 = .ok (.ifCond .eq 17, 3) := by decide +kernel
theorem dX5_glue_100 : decode cX5_glue 100 = .ok (.aload_n 0, 1) := by decide +kernel
theorem dX5_glue_101 : decode cX5_glue 101 = .ok (.getfield 19, 3) := by decide +kernel
theorem dX5_glue_104 : decode cX5_glue 104 = .ok (.iload_n 3, 1) := by decide +kernel
theorem dX5_glue_105 : decode cX5_glue 105 = .ok (.invokevirtual 259, 3) := by decide +kernel
theorem dX5_glue_108 : decode cX5_glue 108 = .ok (.checkcast 216, 3) := by decide +kernel
theorem dX5_glue_111 : decode cX5_glue 111 = .ok (.invokevirtual 263, 3) := by decide +kernel
theorem dX5_glue_114 : decode cX5_glue 114 = .ok (.iinc 3 1, 3) := by decide +kernel
theorem dX5_glue_117 : decode cX5_glue 117 = .ok (.goto (-36), 3) := by decide +kernel
theorem dX5_glue_120 : decode cX5_glue 120 = .ok (.iload_n 2, 1) := by decide +kernel
theorem dX5_glue_121 : decode cX5_glue 121 = .ok (.ireturn, 1) := by decide +kernel
theorem dX5_repair_0 : decode cX5_repair 0 = .ok (.aload_n 0, 1) := by decide +kernel
theorem dX5_repair_1 : decode cX5_repair 1 = .ok (.iload_n 1, 1) := by decide +kernel
theorem dX5_repair_2 : decode cX5_repair 2 = .ok (.invokevirtual 221, 3) := by decide +kernel
theorem dX5_repair_5 : decode cX5_repair 5 = .ok (.astore_n 2, 1) := by decide +kernel
theorem dX5_repair_6 : decode cX5_repair 6 = .ok (.aload_n 2, 1) := by decide +kernel
theorem dX5_repair_7 : decode cX5_repair 7 = .ok (.ifnonnull 13, 3) := by decide +kernel
theorem dX5_repair_10 : decode cX5_repair 10 = .ok (.new 45, 3) := by decide +kernel
theorem dX5_repair_13 : decode cX5_repair 13 = .ok (.dup, 1) := by decide +kernel
theorem dX5_repair_14 : decode cX5_repair 14 = .ok (.ldc 225, 2) := by decide +kernel
theorem dX5_repair_16 : decode cX5_repair 16 = .ok (.invokespecial 49, 3) := by decide +kernel
theorem dX5_repair_19 : decode cX5_repair 19 = .ok (.athrow, 1) := by decide +kernel
theorem dX5_repair_20 : decode cX5_repair 20 = .ok (.aload_n 2, 1) := by decide +kernel
theorem dX5_repair_21 : decode cX5_repair 21 = .ok (.getfield 266, 3) := by decide +kernel
theorem dX5_repair_24 : decode cX5_repair 24 = .ok (.ifCond .ne 14, 3) := by decide +kernel
theorem dX5_repair_27 : decode cX5_repair 27 = .ok (.new 63, 3) := by decide +kernel
theorem dX5_repair_30 : decode cX5_repair 30 = .ok (.dup, 1) := by decide +kernel
theorem dX5_repair_31 : decode cX5_repair 31 = .ok (.ldc_w 269, 3) := by decide +kernel
theorem dX5_repair_34 : decode cX5_repair 34 = .ok (.invokespecial 67, 3) := by decide +kernel
theorem dX5_repair_37 : decode cX5_repair 37 = .ok (.athrow, 1) := by decide +kernel
theorem dX5_repair_38 : decode cX5_repair 38 = .ok (.aload_n 2, 1) := by decide +kernel
theorem dX5_repair_39 : decode cX5_repair 39 = .ok (.getfield 271, 3) := by decide +kernel
theorem dX5_repair_42 : decode cX5_repair 42 = .ok (.iconst 2, 1) := by decide +kernel
theorem dX5_repair_43 : decode cX5_repair 43 = .ok (.if_icmp .ne 19, 3) := by decide +kernel
theorem dX5_repair_46 : decode cX5_repair 46 = .ok (.aload_n 2, 1) := by decide +kernel
theorem dX5_repair_47 : decode cX5_repair 47 = .ok (.aload_n 2, 1) := by decide +kernel
theorem dX5_repair_48 : decode cX5_repair 48 = .ok (.getfield 274, 3) := by decide +kernel
theorem dX5_repair_51 : decode cX5_repair 51 = .ok (.invokevirtual 278, 3) := by decide +kernel
theorem dX5_repair_54 : decode cX5_repair 54 = .ok (.aload_n 2, 1) := by decide +kernel
theorem dX5_repair_55 : decode cX5_repair 55 = .ok (.getfield 279, 3) := by decide +kernel
theorem dX5_repair_58 : decode cX5_repair 58 = .ok (.iadd, 1) := by decide +kernel
theorem dX5_repair_59 : decode cX5_repair 59 = .ok (.putfield 282, 3) := by decide +kernel
theorem dX5_repair_62 : decode cX5_repair 62 = .ok (.aload_n 2, 1) := by decide +kernel
theorem dX5_repair_63 : decode cX5_repair 63 = .ok (.invokevirtual 263, 3) := by decide +kernel
theorem dX5_repair_66 : decode cX5_repair 66 = .ok (.aload_n 2, 1) := by decide +kernel
theorem dX5_repair_67 : decode cX5_repair 67 = .ok (.getfield 282, 3) := by decide +kernel
theorem dX5_repair_70 : decode cX5_repair 70 = .ok (.ireturn, 1) := by decide +kernel
theorem dX5_through_0 : decode cX5_through 0 = .ok (.iload_n 1, 1) := by decide +kernel
theorem dX5_through_1 : decode cX5_through 1 = .ok (.iconst 1, 1) := by decide +kernel
theorem dX5_through_2 : decode cX5_through 2 = .ok (.bipush 24, 2) := by decide +kernel
theorem dX5_through_4 : decode cX5_through 4 = .ok (.invokestatic 52, 3) := by decide +kernel
theorem dX5_through_7 : decode cX5_through 7 = .ok (.ifCond .ne 13, 3) := by decide +kernel
theorem dX5_through_10 : decode cX5_through 10 = .ok (.new 56, 3) := by decide +kernel
theorem dX5_through_13 : decode cX5_through 13 = .ok (.dup, 1) := by decide +kernel
theorem dX5_through_14 : decode cX5_through 14 = .ok (.ldc 61, 2) := by decide +kernel
theorem dX5_through_16 : decode cX5_through 16 = .ok (.invokespecial 60, 3) := by decide +kernel
theorem dX5_through_19 : decode cX5_through 19 = .ok (.athrow, 1) := by decide +kernel
theorem dX5_through_20 : decode cX5_through 20 = .ok (.iconst 0, 1) := by decide +kernel
theorem dX5_through_21 : decode cX5_through 21 = .ok (.istore_n 2, 1) := by decide +kernel
theorem dX5_through_22 : decode cX5_through 22 = .ok (.iconst 0, 1) := by decide +kernel
theorem dX5_through_23 : decode cX5_through 23 = .ok (.istore_n 3, 1) := by decide +kernel
theorem dX5_through_24 : decode cX5_through 24 = .ok (.iload_n 3, 1) := by decide +kernel
theorem dX5_through_25 : decode cX5_through 25 = .ok (.aload_n 0, 1) := by decide +kernel
theorem dX5_through_26 : decode cX5_through 26 = .ok (.getfield 19, 3) := by decide +kernel
theorem dX5_through_29 : decode cX5_through 29 = .ok (.invokevirtual 84, 3) := by decide +kernel
theorem dX5_through_32 : decode cX5_through 32 = .ok (.if_icmp .ge 47, 3) := by decide +kernel
theorem dX5_through_35 : decode cX5_through 35 = .ok (.aload_n 0, 1) := by decide +kernel
theorem dX5_through_36 : decode cX5_through 36 = .ok (.getfield 19, 3) := by decide +kernel
theorem dX5_through_39 : decode cX5_through 39 = .ok (.iload_n 3, 1) := by decide +kernel
theorem dX5_through_40 : decode cX5_through 40 = .ok (.invokevirtual 259, 3) := by decide +kernel
theorem dX5_through_43 : decode cX5_through 43 = .ok (.checkcast 216, 3) := by decide +kernel
theorem dX5_through_46 : decode cX5_through 46 = .ok (.astore 4, 2) := by decide +kernel
theorem dX5_through_48 : decode cX5_through 48 = .ok (.aload 4, 2) := by decide +kernel
theorem dX5_through_50 : decode cX5_through 50 = .ok (.invokevirtual 284, 3) := by decide +kernel
theorem dX5_through_53 : decode cX5_through 53 = .ok (.ifCond .eq 20, 3) := by decide +kernel
theorem dX5_through_56 : decode cX5_through 56 = .ok (.aload_n 0, 1) := by decide +kernel
theorem dX5_through_57 : decode cX5_through 57 = .ok (.aload 4, 2) := by decide +kernel
theorem dX5_through_59 : decode cX5_through 59 = .ok (.iload_n 1, 1) := by decide +kernel
theorem dX5_through_60 : decode cX5_through 60 = .ok (.invokevirtual 288, 3) := by decide +kernel
theorem dX5_through_63 : decode cX5_through 63 = .ok (.iconst (-1), 1) := by decide +kernel
theorem dX5_through_64 : decode cX5_through 64 = .ok (.if_icmp .eq 9, 3) := by decide +kernel
theorem dX5_through_67 : decode cX5_through 67 = .ok (.iload_n 2, 1) := by decide +kernel
theorem dX5_through_68 : decode cX5_through 68 = .ok (.iconst 1, 1) := by decide +kernel
theorem dX5_through_69 : decode cX5_through 69 = .ok (.iload_n 3, 1) := by decide +kernel
theorem dX5_through_70 : decode cX5_through 70 = .ok (.ishl, 1) := by decide +kernel
theorem dX5_through_71 : decode cX5_through 71 = .ok (.ior, 1) := by decide +kernel
theorem dX5_through_72 : decode cX5_through 72 = .ok (.istore_n 2, 1) := by decide +kernel
theorem dX5_through_73 : decode cX5_through 73 = .ok (.iinc 3 1, 3) := by decide +kernel
theorem dX5_through_76 : decode cX5_through 76 = .ok (.goto (-52), 3) := by decide +kernel
theorem dX5_through_79 : decode cX5_through 79 = .ok (.iload_n 2, 1) := by decide +kernel
theorem dX5_through_80 : decode cX5_through 80 = .ok (.ireturn, 1) := by decide +kernel
theorem dX5_breaksIn_0 : decode cX5_breaksIn 0 = .ok (.aload_n 0, 1) := by decide +kernel
theorem dX5_breaksIn_1 : decode cX5_breaksIn 1 = .ok (.iload_n 1, 1) := by decide +kernel
theorem dX5_breaksIn_2 : decode cX5_breaksIn 2 = .ok (.invokevirtual 221, 3) := by decide +kernel
theorem dX5_breaksIn_5 : decode cX5_breaksIn 5 = .ok (.astore_n 3, 1) := by decide +kernel
theorem dX5_breaksIn_6 : decode cX5_breaksIn 6 = .ok (.aload_n 3, 1) := by decide +kernel
theorem dX5_breaksIn_7 : decode cX5_breaksIn 7 = .ok (.ifnonnull 13, 3) := by decide +kernel
theorem dX5_breaksIn_10 : decode cX5_breaksIn 10 = .ok (.new 45, 3) := by decide +kernel
theorem dX5_breaksIn_13 : decode cX5_breaksIn 13 = .ok (.dup, 1) := by decide +kernel
theorem dX5_breaksIn_14 : decode cX5_breaksIn 14 = .ok (.ldc 225, 2) := by decide +kernel
theorem dX5_breaksIn_16 : decode cX5_breaksIn 16 = .ok (.invokespecial 49, 3) := by decide +kernel
theorem dX5_breaksIn_19 : decode cX5_breaksIn 19 = .ok (.athrow, 1) := by decide +kernel
theorem dX5_breaksIn_20 : decode cX5_breaksIn 20 = .ok (.iload_n 2, 1) := by decide +kernel
theorem dX5_breaksIn_21 : decode cX5_breaksIn 21 = .ok (.iconst 1, 1) := by decide +kernel
theorem dX5_breaksIn_22 : decode cX5_breaksIn 22 = .ok (.bipush 24, 2) := by decide +kernel
theorem dX5_breaksIn_24 : decode cX5_breaksIn 24 = .ok (.invokestatic 52, 3) := by decide +kernel
theorem dX5_breaksIn_27 : decode cX5_breaksIn 27 = .ok (.ifCond .ne 13, 3) := by decide +kernel
theorem dX5_breaksIn_30 : decode cX5_breaksIn 30 = .ok (.new 56, 3) := by decide +kernel
theorem dX5_breaksIn_33 : decode cX5_breaksIn 33 = .ok (.dup, 1) := by decide +kernel
theorem dX5_breaksIn_34 : decode cX5_breaksIn 34 = .ok (.ldc 61, 2) := by decide +kernel
theorem dX5_breaksIn_36 : decode cX5_breaksIn 36 = .ok (.invokespecial 60, 3) := by decide +kernel
theorem dX5_breaksIn_39 : decode cX5_breaksIn 39 = .ok (.athrow, 1) := by decide +kernel
theorem dX5_breaksIn_40 : decode cX5_breaksIn 40 = .ok (.aload_n 3, 1) := by decide +kernel
theorem dX5_breaksIn_41 : decode cX5_breaksIn 41 = .ok (.invokevirtual 284, 3) := by decide +kernel
theorem dX5_breaksIn_44 : decode cX5_breaksIn 44 = .ok (.ifCond .ne 14, 3) := by decide +kernel
theorem dX5_breaksIn_47 : decode cX5_breaksIn 47 = .ok (.new 63, 3) := by decide +kernel
theorem dX5_breaksIn_50 : decode cX5_breaksIn 50 = .ok (.dup, 1) := by decide +kernel
theorem dX5_breaksIn_51 : decode cX5_breaksIn 51 = .ok (.ldc_w 292, 3) := by decide +kernel
theorem dX5_breaksIn_54 : decode cX5_breaksIn 54 = .ok (.invokespecial 67, 3) := by decide +kernel
theorem dX5_breaksIn_57 : decode cX5_breaksIn 57 = .ok (.athrow, 1) := by decide +kernel
theorem dX5_breaksIn_58 : decode cX5_breaksIn 58 = .ok (.aload_n 0, 1) := by decide +kernel
theorem dX5_breaksIn_59 : decode cX5_breaksIn 59 = .ok (.aload_n 3, 1) := by decide +kernel
theorem dX5_breaksIn_60 : decode cX5_breaksIn 60 = .ok (.iload_n 2, 1) := by decide +kernel
theorem dX5_breaksIn_61 : decode cX5_breaksIn 61 = .ok (.invokevirtual 288, 3) := by decide +kernel
theorem dX5_breaksIn_64 : decode cX5_breaksIn 64 = .ok (.ireturn, 1) := by decide +kernel
theorem dX5_month_0 : decode cX5_month 0 = .ok (.aload_n 0, 1) := by decide +kernel
theorem dX5_month_1 : decode cX5_month 1 = .ok (.getfield 26, 3) := by decide +kernel
theorem dX5_month_4 : decode cX5_month 4 = .ok (.ireturn, 1) := by decide +kernel
theorem dX5_ofBoard_0 : decode cX5_ofBoard 0 = .ok (.aload_n 0, 1) := by decide +kernel
theorem dX5_ofBoard_1 : decode cX5_ofBoard 1 = .ok (.iload_n 1, 1) := by decide +kernel
theorem dX5_ofBoard_2 : decode cX5_ofBoard 2 = .ok (.invokevirtual 103, 3) := by decide +kernel
theorem dX5_ofBoard_5 : decode cX5_ofBoard 5 = .ok (.astore_n 3, 1) := by decide +kernel
theorem dX5_ofBoard_6 : decode cX5_ofBoard 6 = .ok (.aload_n 3, 1) := by decide +kernel
theorem dX5_ofBoard_7 : decode cX5_ofBoard 7 = .ok (.ifnonnull 13, 3) := by decide +kernel
theorem dX5_ofBoard_10 : decode cX5_ofBoard 10 = .ok (.new 45, 3) := by decide +kernel
theorem dX5_ofBoard_13 : decode cX5_ofBoard 13 = .ok (.dup, 1) := by decide +kernel
theorem dX5_ofBoard_14 : decode cX5_ofBoard 14 = .ok (.ldc 107, 2) := by decide +kernel
theorem dX5_ofBoard_16 : decode cX5_ofBoard 16 = .ok (.invokespecial 49, 3) := by decide +kernel
theorem dX5_ofBoard_19 : decode cX5_ofBoard 19 = .ok (.athrow, 1) := by decide +kernel
theorem dX5_ofBoard_20 : decode cX5_ofBoard 20 = .ok (.iload_n 2, 1) := by decide +kernel
theorem dX5_ofBoard_21 : decode cX5_ofBoard 21 = .ok (.tableswitch 45 0 2 #[27, 32, 37], 27) := by decide +kernel
theorem dX5_ofBoard_48 : decode cX5_ofBoard 48 = .ok (.aload_n 3, 1) := by decide +kernel
theorem dX5_ofBoard_49 : decode cX5_ofBoard 49 = .ok (.getfield 294, 3) := by decide +kernel
theorem dX5_ofBoard_52 : decode cX5_ofBoard 52 = .ok (.ireturn, 1) := by decide +kernel
theorem dX5_ofBoard_53 : decode cX5_ofBoard 53 = .ok (.aload_n 3, 1) := by decide +kernel
theorem dX5_ofBoard_54 : decode cX5_ofBoard 54 = .ok (.invokevirtual 141, 3) := by decide +kernel
theorem dX5_ofBoard_57 : decode cX5_ofBoard 57 = .ok (.ireturn, 1) := by decide +kernel
theorem dX5_ofBoard_58 : decode cX5_ofBoard 58 = .ok (.aload_n 3, 1) := by decide +kernel
theorem dX5_ofBoard_59 : decode cX5_ofBoard 59 = .ok (.getfield 114, 3) := by decide +kernel
theorem dX5_ofBoard_62 : decode cX5_ofBoard 62 = .ok (.invokevirtual 84, 3) := by decide +kernel
theorem dX5_ofBoard_65 : decode cX5_ofBoard 65 = .ok (.ireturn, 1) := by decide +kernel
theorem dX5_ofBoard_66 : decode cX5_ofBoard 66 = .ok (.new 56, 3) := by decide +kernel
theorem dX5_ofBoard_69 : decode cX5_ofBoard 69 = .ok (.dup, 1) := by decide +kernel
theorem dX5_ofBoard_70 : decode cX5_ofBoard 70 = .ok (.ldc_w 297, 3) := by decide +kernel
theorem dX5_ofBoard_73 : decode cX5_ofBoard 73 = .ok (.invokespecial 60, 3) := by decide +kernel
theorem dX5_ofBoard_76 : decode cX5_ofBoard 76 = .ok (.athrow, 1) := by decide +kernel
theorem dX5_ofPart_0 : decode cX5_ofPart 0 = .ok (.aload_n 0, 1) := by decide +kernel
theorem dX5_ofPart_1 : decode cX5_ofPart 1 = .ok (.iload_n 1, 1) := by decide +kernel
theorem dX5_ofPart_2 : decode cX5_ofPart 2 = .ok (.invokevirtual 172, 3) := by decide +kernel
theorem dX5_ofPart_5 : decode cX5_ofPart 5 = .ok (.astore_n 3, 1) := by decide +kernel
theorem dX5_ofPart_6 : decode cX5_ofPart 6 = .ok (.aload_n 3, 1) := by decide +kernel
theorem dX5_ofPart_7 : decode cX5_ofPart 7 = .ok (.ifnonnull 13, 3) := by decide +kernel
theorem dX5_ofPart_10 : decode cX5_ofPart 10 = .ok (.new 45, 3) := by decide +kernel
theorem dX5_ofPart_13 : decode cX5_ofPart 13 = .ok (.dup, 1) := by decide +kernel
theorem dX5_ofPart_14 : decode cX5_ofPart 14 = .ok (.ldc 176, 2) := by decide +kernel
theorem dX5_ofPart_16 : decode cX5_ofPart 16 = .ok (.invokespecial 49, 3) := by decide +kernel
theorem dX5_ofPart_19 : decode cX5_ofPart 19 = .ok (.athrow, 1) := by decide +kernel
theorem dX5_ofPart_20 : decode cX5_ofPart 20 = .ok (.iload_n 2, 1) := by decide +kernel
theorem dX5_ofPart_21 : decode cX5_ofPart 21 = .ok (.tableswitch 63 0 4 #[35, 43, 48, 53, 58], 35) := by decide +kernel
theorem dX5_ofPart_56 : decode cX5_ofPart 56 = .ok (.aload_n 3, 1) := by decide +kernel
theorem dX5_ofPart_57 : decode cX5_ofPart 57 = .ok (.getfield 185, 3) := by decide +kernel
theorem dX5_ofPart_60 : decode cX5_ofPart 60 = .ok (.getfield 299, 3) := by decide +kernel
theorem dX5_ofPart_63 : decode cX5_ofPart 63 = .ok (.ireturn, 1) := by decide +kernel
theorem dX5_ofPart_64 : decode cX5_ofPart 64 = .ok (.aload_n 3, 1) := by decide +kernel
theorem dX5_ofPart_65 : decode cX5_ofPart 65 = .ok (.invokevirtual 278, 3) := by decide +kernel
theorem dX5_ofPart_68 : decode cX5_ofPart 68 = .ok (.ireturn, 1) := by decide +kernel
theorem dX5_ofPart_69 : decode cX5_ofPart 69 = .ok (.aload_n 3, 1) := by decide +kernel
theorem dX5_ofPart_70 : decode cX5_ofPart 70 = .ok (.getfield 302, 3) := by decide +kernel
theorem dX5_ofPart_73 : decode cX5_ofPart 73 = .ok (.ireturn, 1) := by decide +kernel
theorem dX5_ofPart_74 : decode cX5_ofPart 74 = .ok (.aload_n 3, 1) := by decide +kernel
theorem dX5_ofPart_75 : decode cX5_ofPart 75 = .ok (.getfield 178, 3) := by decide +kernel
theorem dX5_ofPart_78 : decode cX5_ofPart 78 = .ok (.ireturn, 1) := by decide +kernel
theorem dX5_ofPart_79 : decode cX5_ofPart 79 = .ok (.aload_n 3, 1) := by decide +kernel
theorem dX5_ofPart_80 : decode cX5_ofPart 80 = .ok (.getfield 303, 3) := by decide +kernel
theorem dX5_ofPart_83 : decode cX5_ofPart 83 = .ok (.ireturn, 1) := by decide +kernel
theorem dX5_ofPart_84 : decode cX5_ofPart 84 = .ok (.new 56, 3) := by decide +kernel
theorem dX5_ofPart_87 : decode cX5_ofPart 87 = .ok (.dup, 1) := by decide +kernel
theorem dX5_ofPart_88 : decode cX5_ofPart 88 = .ok (.ldc_w 297, 3) := by decide +kernel
theorem dX5_ofPart_91 : decode cX5_ofPart 91 = .ok (.invokespecial 60, 3) := by decide +kernel
theorem dX5_ofPart_94 : decode cX5_ofPart 94 = .ok (.athrow, 1) := by decide +kernel
theorem dX5_ofJoint_0 : decode cX5_ofJoint 0 = .ok (.aload_n 0, 1) := by decide +kernel
theorem dX5_ofJoint_1 : decode cX5_ofJoint 1 = .ok (.iload_n 1, 1) := by decide +kernel
theorem dX5_ofJoint_2 : decode cX5_ofJoint 2 = .ok (.invokevirtual 221, 3) := by decide +kernel
theorem dX5_ofJoint_5 : decode cX5_ofJoint 5 = .ok (.astore_n 3, 1) := by decide +kernel
theorem dX5_ofJoint_6 : decode cX5_ofJoint 6 = .ok (.aload_n 3, 1) := by decide +kernel
theorem dX5_ofJoint_7 : decode cX5_ofJoint 7 = .ok (.ifnonnull 13, 3) := by decide +kernel
theorem dX5_ofJoint_10 : decode cX5_ofJoint 10 = .ok (.new 45, 3) := by decide +kernel
theorem dX5_ofJoint_13 : decode cX5_ofJoint 13 = .ok (.dup, 1) := by decide +kernel
theorem dX5_ofJoint_14 : decode cX5_ofJoint 14 = .ok (.ldc 225, 2) := by decide +kernel
theorem dX5_ofJoint_16 : decode cX5_ofJoint 16 = .ok (.invokespecial 49, 3) := by decide +kernel
theorem dX5_ofJoint_19 : decode cX5_ofJoint 19 = .ok (.athrow, 1) := by decide +kernel
theorem dX5_ofJoint_20 : decode cX5_ofJoint 20 = .ok (.iload_n 2, 1) := by decide +kernel
theorem dX5_ofJoint_21 : decode cX5_ofJoint 21 = .ok (.tableswitch 66 0 4 #[35, 40, 45, 50, 58], 35) := by decide +kernel
theorem dX5_ofJoint_56 : decode cX5_ofJoint 56 = .ok (.aload_n 3, 1) := by decide +kernel
theorem dX5_ofJoint_57 : decode cX5_ofJoint 57 = .ok (.invokevirtual 306, 3) := by decide +kernel
theorem dX5_ofJoint_60 : decode cX5_ofJoint 60 = .ok (.ireturn, 1) := by decide +kernel
theorem dX5_ofJoint_61 : decode cX5_ofJoint 61 = .ok (.aload_n 3, 1) := by decide +kernel
theorem dX5_ofJoint_62 : decode cX5_ofJoint 62 = .ok (.getfield 282, 3) := by decide +kernel
theorem dX5_ofJoint_65 : decode cX5_ofJoint 65 = .ok (.ireturn, 1) := by decide +kernel
theorem dX5_ofJoint_66 : decode cX5_ofJoint 66 = .ok (.aload_n 3, 1) := by decide +kernel
theorem dX5_ofJoint_67 : decode cX5_ofJoint 67 = .ok (.getfield 235, 3) := by decide +kernel
theorem dX5_ofJoint_70 : decode cX5_ofJoint 70 = .ok (.ireturn, 1) := by decide +kernel
theorem dX5_ofJoint_71 : decode cX5_ofJoint 71 = .ok (.aload_n 3, 1) := by decide +kernel
theorem dX5_ofJoint_72 : decode cX5_ofJoint 72 = .ok (.getfield 274, 3) := by decide +kernel
theorem dX5_ofJoint_75 : decode cX5_ofJoint 75 = .ok (.getfield 309, 3) := by decide +kernel
theorem dX5_ofJoint_78 : decode cX5_ofJoint 78 = .ok (.ireturn, 1) := by decide +kernel
theorem dX5_ofJoint_79 : decode cX5_ofJoint 79 = .ok (.aload_n 3, 1) := by decide +kernel
theorem dX5_ofJoint_80 : decode cX5_ofJoint 80 = .ok (.getfield 310, 3) := by decide +kernel
theorem dX5_ofJoint_83 : decode cX5_ofJoint 83 = .ok (.getfield 309, 3) := by decide +kernel
theorem dX5_ofJoint_86 : decode cX5_ofJoint 86 = .ok (.ireturn, 1) := by decide +kernel
theorem dX5_ofJoint_87 : decode cX5_ofJoint 87 = .ok (.new 56, 3) := by decide +kernel
theorem dX5_ofJoint_90 : decode cX5_ofJoint 90 = .ok (.dup, 1) := by decide +kernel
theorem dX5_ofJoint_91 : decode cX5_ofJoint 91 = .ok (.ldc_w 297, 3) := by decide +kernel
theorem dX5_ofJoint_94 : decode cX5_ofJoint 94 = .ok (.invokespecial 60, 3) := by decide +kernel
theorem dX5_ofJoint_97 : decode cX5_ofJoint 97 = .ok (.athrow, 1) := by decide +kernel
theorem dX5_isWithin_0 : decode cX5_isWithin 0 = .ok (.iload_n 0, 1) := by decide +kernel
theorem dX5_isWithin_1 : decode cX5_isWithin 1 = .ok (.iload_n 1, 1) := by decide +kernel
theorem dX5_isWithin_2 : decode cX5_isWithin 2 = .ok (.if_icmp .lt 12, 3) := by decide +kernel
theorem dX5_isWithin_5 : decode cX5_isWithin 5 = .ok (.iload_n 0, 1) := by decide +kernel
theorem dX5_isWithin_6 : decode cX5_isWithin 6 = .ok (.iload_n 2, 1) := by decide +kernel
theorem dX5_isWithin_7 : decode cX5_isWithin 7 = .ok (.if_icmp .gt 7, 3) := by decide +kernel
theorem dX5_isWithin_10 : decode cX5_isWithin 10 = .ok (.iconst 1, 1) := by decide +kernel
theorem dX5_isWithin_11 : decode cX5_isWithin 11 = .ok (.goto 4, 3) := by decide +kernel
theorem dX5_isWithin_14 : decode cX5_isWithin 14 = .ok (.iconst 0, 1) := by decide +kernel
theorem dX5_isWithin_15 : decode cX5_isWithin 15 = .ok (.ireturn, 1) := by decide +kernel
theorem dX5_has_0 : decode cX5_has 0 = .ok (.iload_n 0, 1) := by decide +kernel
theorem dX5_has_1 : decode cX5_has 1 = .ok (.iconst 1, 1) := by decide +kernel
theorem dX5_has_2 : decode cX5_has 2 = .ok (.iload_n 1, 1) := by decide +kernel
theorem dX5_has_3 : decode cX5_has 3 = .ok (.ishl, 1) := by decide +kernel
theorem dX5_has_4 : decode cX5_has 4 = .ok (.iand, 1) := by decide +kernel
theorem dX5_has_5 : decode cX5_has 5 = .ok (.ifCond .eq 7, 3) := by decide +kernel
theorem dX5_has_8 : decode cX5_has 8 = .ok (.iconst 1, 1) := by decide +kernel
theorem dX5_has_9 : decode cX5_has 9 = .ok (.goto 4, 3) := by decide +kernel
theorem dX5_has_12 : decode cX5_has 12 = .ok (.iconst 0, 1) := by decide +kernel
theorem dX5_has_13 : decode cX5_has 13 = .ok (.ireturn, 1) := by decide +kernel
theorem dX5_findBoard_0 : decode cX5_findBoard 0 = .ok (.iload_n 1, 1) := by decide +kernel
theorem dX5_findBoard_1 : decode cX5_findBoard 1 = .ok (.ifCond .lt 28, 3) := by decide +kernel
theorem dX5_findBoard_4 : decode cX5_findBoard 4 = .ok (.iload_n 1, 1) := by decide +kernel
theorem dX5_findBoard_5 : decode cX5_findBoard 5 = .ok (.aload_n 0, 1) := by decide +kernel
theorem dX5_findBoard_6 : decode cX5_findBoard 6 = .ok (.getfield 10, 3) := by decide +kernel
theorem dX5_findBoard_9 : decode cX5_findBoard 9 = .ok (.invokevirtual 84, 3) := by decide +kernel
theorem dX5_findBoard_12 : decode cX5_findBoard 12 = .ok (.if_icmp .ge 17, 3) := by decide +kernel
theorem dX5_findBoard_15 : decode cX5_findBoard 15 = .ok (.aload_n 0, 1) := by decide +kernel
theorem dX5_findBoard_16 : decode cX5_findBoard 16 = .ok (.getfield 10, 3) := by decide +kernel
theorem dX5_findBoard_19 : decode cX5_findBoard 19 = .ok (.iload_n 1, 1) := by decide +kernel
theorem dX5_findBoard_20 : decode cX5_findBoard 20 = .ok (.invokevirtual 259, 3) := by decide +kernel
theorem dX5_findBoard_23 : decode cX5_findBoard 23 = .ok (.checkcast 94, 3) := by decide +kernel
theorem dX5_findBoard_26 : decode cX5_findBoard 26 = .ok (.goto 4, 3) := by decide +kernel
theorem dX5_findBoard_29 : decode cX5_findBoard 29 = .ok (.aconst_null, 1) := by decide +kernel
theorem dX5_findBoard_30 : decode cX5_findBoard 30 = .ok (.areturn, 1) := by decide +kernel
theorem dX5_findPart_0 : decode cX5_findPart 0 = .ok (.iload_n 1, 1) := by decide +kernel
theorem dX5_findPart_1 : decode cX5_findPart 1 = .ok (.ifCond .lt 28, 3) := by decide +kernel
theorem dX5_findPart_4 : decode cX5_findPart 4 = .ok (.iload_n 1, 1) := by decide +kernel
theorem dX5_findPart_5 : decode cX5_findPart 5 = .ok (.aload_n 0, 1) := by decide +kernel
theorem dX5_findPart_6 : decode cX5_findPart 6 = .ok (.getfield 16, 3) := by decide +kernel
theorem dX5_findPart_9 : decode cX5_findPart 9 = .ok (.invokevirtual 84, 3) := by decide +kernel
theorem dX5_findPart_12 : decode cX5_findPart 12 = .ok (.if_icmp .ge 17, 3) := by decide +kernel
theorem dX5_findPart_15 : decode cX5_findPart 15 = .ok (.aload_n 0, 1) := by decide +kernel
theorem dX5_findPart_16 : decode cX5_findPart 16 = .ok (.getfield 16, 3) := by decide +kernel
theorem dX5_findPart_19 : decode cX5_findPart 19 = .ok (.iload_n 1, 1) := by decide +kernel
theorem dX5_findPart_20 : decode cX5_findPart 20 = .ok (.invokevirtual 259, 3) := by decide +kernel
theorem dX5_findPart_23 : decode cX5_findPart 23 = .ok (.checkcast 156, 3) := by decide +kernel
theorem dX5_findPart_26 : decode cX5_findPart 26 = .ok (.goto 4, 3) := by decide +kernel
theorem dX5_findPart_29 : decode cX5_findPart 29 = .ok (.aconst_null, 1) := by decide +kernel
theorem dX5_findPart_30 : decode cX5_findPart 30 = .ok (.areturn, 1) := by decide +kernel
theorem dX5_findJoint_0 : decode cX5_findJoint 0 = .ok (.iload_n 1, 1) := by decide +kernel
theorem dX5_findJoint_1 : decode cX5_findJoint 1 = .ok (.ifCond .lt 28, 3) := by decide +kernel
theorem dX5_findJoint_4 : decode cX5_findJoint 4 = .ok (.iload_n 1, 1) := by decide +kernel
theorem dX5_findJoint_5 : decode cX5_findJoint 5 = .ok (.aload_n 0, 1) := by decide +kernel
theorem dX5_findJoint_6 : decode cX5_findJoint 6 = .ok (.getfield 19, 3) := by decide +kernel
theorem dX5_findJoint_9 : decode cX5_findJoint 9 = .ok (.invokevirtual 84, 3) := by decide +kernel
theorem dX5_findJoint_12 : decode cX5_findJoint 12 = .ok (.if_icmp .ge 17, 3) := by decide +kernel
theorem dX5_findJoint_15 : decode cX5_findJoint 15 = .ok (.aload_n 0, 1) := by decide +kernel
theorem dX5_findJoint_16 : decode cX5_findJoint 16 = .ok (.getfield 19, 3) := by decide +kernel
theorem dX5_findJoint_19 : decode cX5_findJoint 19 = .ok (.iload_n 1, 1) := by decide +kernel
theorem dX5_findJoint_20 : decode cX5_findJoint 20 = .ok (.invokevirtual 259, 3) := by decide +kernel
theorem dX5_findJoint_23 : decode cX5_findJoint 23 = .ok (.checkcast 216, 3) := by decide +kernel
theorem dX5_findJoint_26 : decode cX5_findJoint 26 = .ok (.goto 4, 3) := by decide +kernel
theorem dX5_findJoint_29 : decode cX5_findJoint 29 = .ok (.aconst_null, 1) := by decide +kernel
theorem dX5_findJoint_30 : decode cX5_findJoint 30 = .ok (.areturn, 1) := by decide +kernel
theorem dX5_airIn_0 : decode cX5_airIn 0 = .ok (.aload_n 0, 1) := by decide +kernel
theorem dX5_airIn_1 : decode cX5_airIn 1 = .ok (.getfield 22, 3) := by decide +kernel
theorem dX5_airIn_4 : decode cX5_airIn 4 = .ok (.iload_n 1, 1) := by decide +kernel
theorem dX5_airIn_5 : decode cX5_airIn 5 = .ok (.bipush 12, 2) := by decide +kernel
theorem dX5_airIn_7 : decode cX5_airIn 7 = .ok (.invokestatic 313, 3) := by decide +kernel
theorem dX5_airIn_10 : decode cX5_airIn 10 = .ok (.iaload, 1) := by decide +kernel
theorem dX5_airIn_11 : decode cX5_airIn 11 = .ok (.ireturn, 1) := by decide +kernel
theorem dX5_moistenAll_0 : decode cX5_moistenAll 0 = .ok (.iconst 0, 1) := by decide +kernel
theorem dX5_moistenAll_1 : decode cX5_moistenAll 1 = .ok (.istore_n 2, 1) := by decide +kernel
theorem dX5_moistenAll_2 : decode cX5_moistenAll 2 = .ok (.iload_n 2, 1) := by decide +kernel
theorem dX5_moistenAll_3 : decode cX5_moistenAll 3 = .ok (.aload_n 0, 1) := by decide +kernel
theorem dX5_moistenAll_4 : decode cX5_moistenAll 4 = .ok (.getfield 10, 3) := by decide +kernel
theorem dX5_moistenAll_7 : decode cX5_moistenAll 7 = .ok (.invokevirtual 84, 3) := by decide +kernel
theorem dX5_moistenAll_10 : decode cX5_moistenAll 10 = .ok (.if_icmp .ge 24, 3) := by decide +kernel
theorem dX5_moistenAll_13 : decode cX5_moistenAll 13 = .ok (.aload_n 0, 1) := by decide +kernel
theorem dX5_moistenAll_14 : decode cX5_moistenAll 14 = .ok (.getfield 10, 3) := by decide +kernel
theorem dX5_moistenAll_17 : decode cX5_moistenAll 17 = .ok (.iload_n 2, 1) := by decide +kernel
theorem dX5_moistenAll_18 : decode cX5_moistenAll 18 = .ok (.invokevirtual 259, 3) := by decide +kernel
theorem dX5_moistenAll_21 : decode cX5_moistenAll 21 = .ok (.checkcast 94, 3) := by decide +kernel
theorem dX5_moistenAll_24 : decode cX5_moistenAll 24 = .ok (.iload_n 1, 1) := by decide +kernel
theorem dX5_moistenAll_25 : decode cX5_moistenAll 25 = .ok (.invokevirtual 317, 3) := by decide +kernel
theorem dX5_moistenAll_28 : decode cX5_moistenAll 28 = .ok (.iinc 2 1, 3) := by decide +kernel
theorem dX5_moistenAll_31 : decode cX5_moistenAll 31 = .ok (.goto (-29), 3) := by decide +kernel
theorem dX5_moistenAll_34 : decode cX5_moistenAll 34 = .ok (.iconst 0, 1) := by decide +kernel
theorem dX5_moistenAll_35 : decode cX5_moistenAll 35 = .ok (.istore_n 2, 1) := by decide +kernel
theorem dX5_moistenAll_36 : decode cX5_moistenAll 36 = .ok (.iload_n 2, 1) := by decide +kernel
theorem dX5_moistenAll_37 : decode cX5_moistenAll 37 = .ok (.aload_n 0, 1) := by decide +kernel
theorem dX5_moistenAll_38 : decode cX5_moistenAll 38 = .ok (.getfield 16, 3) := by decide +kernel
theorem dX5_moistenAll_41 : decode cX5_moistenAll 41 = .ok (.invokevirtual 84, 3) := by decide +kernel
theorem dX5_moistenAll_44 : decode cX5_moistenAll 44 = .ok (.if_icmp .ge 24, 3) := by decide +kernel
theorem dX5_moistenAll_47 : decode cX5_moistenAll 47 = .ok (.aload_n 0, 1) := by decide +kernel
theorem dX5_moistenAll_48 : decode cX5_moistenAll 48 = .ok (.getfield 16, 3) := by decide +kernel
theorem dX5_moistenAll_51 : decode cX5_moistenAll 51 = .ok (.iload_n 2, 1) := by decide +kernel
theorem dX5_moistenAll_52 : decode cX5_moistenAll 52 = .ok (.invokevirtual 259, 3) := by decide +kernel
theorem dX5_moistenAll_55 : decode cX5_moistenAll 55 = .ok (.checkcast 156, 3) := by decide +kernel
theorem dX5_moistenAll_58 : decode cX5_moistenAll 58 = .ok (.iload_n 1, 1) := by decide +kernel
theorem dX5_moistenAll_59 : decode cX5_moistenAll 59 = .ok (.invokevirtual 320, 3) := by decide +kernel
theorem dX5_moistenAll_62 : decode cX5_moistenAll 62 = .ok (.iinc 2 1, 3) := by decide +kernel
theorem dX5_moistenAll_65 : decode cX5_moistenAll 65 = .ok (.goto (-29), 3) := by decide +kernel
theorem dX5_moistenAll_68 : decode cX5_moistenAll 68 = .ok (.return_, 1) := by decide +kernel
theorem dX5_breakJoints_0 : decode cX5_breakJoints 0 = .ok (.iconst 0, 1) := by decide +kernel
theorem dX5_breakJoints_1 : decode cX5_breakJoints 1 = .ok (.istore_n 1, 1) := by decide +kernel
theorem dX5_breakJoints_2 : decode cX5_breakJoints 2 = .ok (.iconst 0, 1) := by decide +kernel
theorem dX5_breakJoints_3 : decode cX5_breakJoints 3 = .ok (.istore_n 2, 1) := by decide +kernel
theorem dX5_breakJoints_4 : decode cX5_breakJoints 4 = .ok (.iload_n 2, 1) := by decide +kernel
theorem dX5_breakJoints_5 : decode cX5_breakJoints 5 = .ok (.aload_n 0, 1) := by decide +kernel
theorem dX5_breakJoints_6 : decode cX5_breakJoints 6 = .ok (.getfield 19, 3) := by decide +kernel
theorem dX5_breakJoints_9 : decode cX5_breakJoints 9 = .ok (.invokevirtual 84, 3) := by decide +kernel
theorem dX5_breakJoints_12 : decode cX5_breakJoints 12 = .ok (.if_icmp .ge 50, 3) := by decide +kernel
theorem dX5_breakJoints_15 : decode cX5_breakJoints 15 = .ok (.aload_n 0, 1) := by decide +kernel
theorem dX5_breakJoints_16 : decode cX5_breakJoints 16 = .ok (.getfield 19, 3) := by decide +kernel
theorem dX5_breakJoints_19 : decode cX5_breakJoints 19 = .ok (.iload_n 2, 1) := by decide +kernel
theorem dX5_breakJoints_20 : decode cX5_breakJoints 20 = .ok (.invokevirtual 259, 3) := by decide +kernel
theorem dX5_breakJoints_23 : decode cX5_breakJoints 23 = .ok (.checkcast 216, 3) := by decide +kernel
theorem dX5_breakJoints_26 : decode cX5_breakJoints 26 = .ok (.astore_n 3, 1) := by decide +kernel
theorem dX5_breakJoints_27 : decode cX5_breakJoints 27 = .ok (.aload_n 3, 1) := by decide +kernel
theorem dX5_breakJoints_28 : decode cX5_breakJoints 28 = .ok (.invokevirtual 284, 3) := by decide +kernel
theorem dX5_breakJoints_31 : decode cX5_breakJoints 31 = .ok (.ifCond .eq 25, 3) := by decide +kernel
theorem dX5_breakJoints_34 : decode cX5_breakJoints 34 = .ok (.aload_n 3, 1) := by decide +kernel
theorem dX5_breakJoints_35 : decode cX5_breakJoints 35 = .ok (.aload_n 3, 1) := by decide +kernel
theorem dX5_breakJoints_36 : decode cX5_breakJoints 36 = .ok (.getfield 274, 3) := by decide +kernel
theorem dX5_breakJoints_39 : decode cX5_breakJoints 39 = .ok (.getfield 302, 3) := by decide +kernel
theorem dX5_breakJoints_42 : decode cX5_breakJoints 42 = .ok (.invokevirtual 321, 3) := by decide +kernel
theorem dX5_breakJoints_45 : decode cX5_breakJoints 45 = .ok (.ifCond .eq 11, 3) := by decide +kernel
theorem dX5_breakJoints_48 : decode cX5_breakJoints 48 = .ok (.aload_n 3, 1) := by decide +kernel
theorem dX5_breakJoints_49 : decode cX5_breakJoints 49 = .ok (.iconst 1, 1) := by decide +kernel
theorem dX5_breakJoints_50 : decode cX5_breakJoints 50 = .ok (.putfield 266, 3) := by decide +kernel
theorem dX5_breakJoints_53 : decode cX5_breakJoints 53 = .ok (.iinc 1 1, 3) := by decide +kernel
theorem dX5_breakJoints_56 : decode cX5_breakJoints 56 = .ok (.iinc 2 1, 3) := by decide +kernel
theorem dX5_breakJoints_59 : decode cX5_breakJoints 59 = .ok (.goto (-55), 3) := by decide +kernel
theorem dX5_breakJoints_62 : decode cX5_breakJoints 62 = .ok (.iload_n 1, 1) := by decide +kernel
theorem dX5_breakJoints_63 : decode cX5_breakJoints 63 = .ok (.ireturn, 1) := by decide +kernel
theorem dX5_monthOfBreak_0 : decode cX5_monthOfBreak 0 = .ok (.aload_n 1, 1) := by decide +kernel
theorem dX5_monthOfBreak_1 : decode cX5_monthOfBreak 1 = .ok (.getfield 274, 3) := by decide +kernel
theorem dX5_monthOfBreak_4 : decode cX5_monthOfBreak 4 = .ok (.getfield 302, 3) := by decide +kernel
theorem dX5_monthOfBreak_7 : decode cX5_monthOfBreak 7 = .ok (.istore_n 3, 1) := by decide +kernel
theorem dX5_monthOfBreak_8 : decode cX5_monthOfBreak 8 = .ok (.iconst 0, 1) := by decide +kernel
theorem dX5_monthOfBreak_9 : decode cX5_monthOfBreak 9 = .ok (.istore 4, 2) := by decide +kernel
theorem dX5_monthOfBreak_11 : decode cX5_monthOfBreak 11 = .ok (.iload 4, 2) := by decide +kernel
theorem dX5_monthOfBreak_13 : decode cX5_monthOfBreak 13 = .ok (.iload_n 2, 1) := by decide +kernel
theorem dX5_monthOfBreak_14 : decode cX5_monthOfBreak 14 = .ok (.if_icmp .ge 42, 3) := by decide +kernel
theorem dX5_monthOfBreak_17 : decode cX5_monthOfBreak 17 = .ok (.aload_n 1, 1) := by decide +kernel
theorem dX5_monthOfBreak_18 : decode cX5_monthOfBreak 18 = .ok (.getfield 274, 3) := by decide +kernel
theorem dX5_monthOfBreak_21 : decode cX5_monthOfBreak 21 = .ok (.iload_n 3, 1) := by decide +kernel
theorem dX5_monthOfBreak_22 : decode cX5_monthOfBreak 22 = .ok (.aload_n 0, 1) := by decide +kernel
theorem dX5_monthOfBreak_23 : decode cX5_monthOfBreak 23 = .ok (.aload_n 0, 1) := by decide +kernel
theorem dX5_monthOfBreak_24 : decode cX5_monthOfBreak 24 = .ok (.getfield 26, 3) := by decide +kernel
theorem dX5_monthOfBreak_27 : decode cX5_monthOfBreak 27 = .ok (.iload 4, 2) := by decide +kernel
theorem dX5_monthOfBreak_29 : decode cX5_monthOfBreak 29 = .ok (.iadd, 1) := by decide +kernel
theorem dX5_monthOfBreak_30 : decode cX5_monthOfBreak 30 = .ok (.invokevirtual 68, 3) := by decide +kernel
theorem dX5_monthOfBreak_33 : decode cX5_monthOfBreak 33 = .ok (.invokevirtual 324, 3) := by decide +kernel
theorem dX5_monthOfBreak_36 : decode cX5_monthOfBreak 36 = .ok (.istore_n 3, 1) := by decide +kernel
theorem dX5_monthOfBreak_37 : decode cX5_monthOfBreak 37 = .ok (.aload_n 1, 1) := by decide +kernel
theorem dX5_monthOfBreak_38 : decode cX5_monthOfBreak 38 = .ok (.iload_n 3, 1) := by decide +kernel
theorem dX5_monthOfBreak_39 : decode cX5_monthOfBreak 39 = .ok (.invokevirtual 321, 3) := by decide +kernel
theorem dX5_monthOfBreak_42 : decode cX5_monthOfBreak 42 = .ok (.ifCond .eq 8, 3) := by decide +kernel
theorem dX5_monthOfBreak_45 : decode cX5_monthOfBreak 45 = .ok (.iload 4, 2) := by decide +kernel
theorem dX5_monthOfBreak_47 : decode cX5_monthOfBreak 47 = .ok (.iconst 1, 1) := by decide +kernel
theorem dX5_monthOfBreak_48 : decode cX5_monthOfBreak 48 = .ok (.iadd, 1) := by decide +kernel
theorem dX5_monthOfBreak_49 : decode cX5_monthOfBreak 49 = .ok (.ireturn, 1) := by decide +kernel
theorem dX5_monthOfBreak_50 : decode cX5_monthOfBreak 50 = .ok (.iinc 4 1, 3) := by decide +kernel
theorem dX5_monthOfBreak_53 : decode cX5_monthOfBreak 53 = .ok (.goto (-42), 3) := by decide +kernel
theorem dX5_monthOfBreak_56 : decode cX5_monthOfBreak 56 = .ok (.iconst (-1), 1) := by decide +kernel
theorem dX5_monthOfBreak_57 : decode cX5_monthOfBreak 57 = .ok (.ireturn, 1) := by decide +kernel
theorem dX5_movingOf_0 : decode cX5_movingOf 0 = .ok (.iload_n 0, 1) := by decide +kernel
theorem dX5_movingOf_1 : decode cX5_movingOf 1 = .ok (.tableswitch 33 0 2 #[27, 29, 31], 27) := by decide +kernel
theorem dX5_movingOf_28 : decode cX5_movingOf 28 = .ok (.iconst 2, 1) := by decide +kernel
theorem dX5_movingOf_29 : decode cX5_movingOf 29 = .ok (.ireturn, 1) := by decide +kernel
theorem dX5_movingOf_30 : decode cX5_movingOf 30 = .ok (.iconst 3, 1) := by decide +kernel
theorem dX5_movingOf_31 : decode cX5_movingOf 31 = .ok (.ireturn, 1) := by decide +kernel
theorem dX5_movingOf_32 : decode cX5_movingOf 32 = .ok (.iconst 4, 1) := by decide +kernel
theorem dX5_movingOf_33 : decode cX5_movingOf 33 = .ok (.ireturn, 1) := by decide +kernel
theorem dX5_movingOf_34 : decode cX5_movingOf 34 = .ok (.iconst 5, 1) := by decide +kernel
theorem dX5_movingOf_35 : decode cX5_movingOf 35 = .ok (.ireturn, 1) := by decide +kernel
theorem dX5_hardnessOf_0 : decode cX5_hardnessOf 0 = .ok (.iload_n 0, 1) := by decide +kernel
theorem dX5_hardnessOf_1 : decode cX5_hardnessOf 1 = .ok (.tableswitch 34 0 2 #[27, 29, 31], 27) := by decide +kernel
theorem dX5_hardnessOf_28 : decode cX5_hardnessOf 28 = .ok (.iconst 2, 1) := by decide +kernel
theorem dX5_hardnessOf_29 : decode cX5_hardnessOf 29 = .ok (.ireturn, 1) := by decide +kernel
theorem dX5_hardnessOf_30 : decode cX5_hardnessOf 30 = .ok (.iconst 4, 1) := by decide +kernel
theorem dX5_hardnessOf_31 : decode cX5_hardnessOf 31 = .ok (.ireturn, 1) := by decide +kernel
theorem dX5_hardnessOf_32 : decode cX5_hardnessOf 32 = .ok (.bipush 7, 2) := by decide +kernel
theorem dX5_hardnessOf_34 : decode cX5_hardnessOf 34 = .ok (.ireturn, 1) := by decide +kernel
theorem dX5_hardnessOf_35 : decode cX5_hardnessOf 35 = .ok (.bipush 9, 2) := by decide +kernel
theorem dX5_hardnessOf_37 : decode cX5_hardnessOf 37 = .ok (.ireturn, 1) := by decide +kernel
theorem dX5_suitsFlitch_0 : decode cX5_suitsFlitch 0 = .ok (.iconst 0, 1) := by decide +kernel
theorem dX5_suitsFlitch_1 : decode cX5_suitsFlitch 1 = .ok (.istore 4, 2) := by decide +kernel
theorem dX5_suitsFlitch_3 : decode cX5_suitsFlitch 3 = .ok (.iload 4, 2) := by decide +kernel
theorem dX5_suitsFlitch_5 : decode cX5_suitsFlitch 5 = .ok (.aload_n 0, 1) := by decide +kernel
theorem dX5_suitsFlitch_6 : decode cX5_suitsFlitch 6 = .ok (.getfield 10, 3) := by decide +kernel
theorem dX5_suitsFlitch_9 : decode cX5_suitsFlitch 9 = .ok (.invokevirtual 84, 3) := by decide +kernel
theorem dX5_suitsFlitch_12 : decode cX5_suitsFlitch 12 = .ok (.if_icmp .ge 52, 3) := by decide +kernel
theorem dX5_suitsFlitch_15 : decode cX5_suitsFlitch 15 = .ok (.aload_n 0, 1) := by decide +kernel
theorem dX5_suitsFlitch_16 : decode cX5_suitsFlitch 16 = .ok (.getfield 10, 3) := by decide +kernel
theorem dX5_suitsFlitch_19 : decode cX5_suitsFlitch 19 = .ok (.iload 4, 2) := by decide +kernel
theorem dX5_suitsFlitch_21 : decode cX5_suitsFlitch 21 = .ok (.invokevirtual 259, 3) := by decide +kernel
theorem dX5_suitsFlitch_24 : decode cX5_suitsFlitch 24 = .ok (.checkcast 94, 3) := by decide +kernel
theorem dX5_suitsFlitch_27 : decode cX5_suitsFlitch 27 = .ok (.astore 5, 2) := by decide +kernel
theorem dX5_suitsFlitch_29 : decode cX5_suitsFlitch 29 = .ok (.aload 5, 2) := by decide +kernel
theorem dX5_suitsFlitch_31 : decode cX5_suitsFlitch 31 = .ok (.getfield 189, 3) := by decide +kernel
theorem dX5_suitsFlitch_34 : decode cX5_suitsFlitch 34 = .ok (.iload_n 2, 1) := by decide +kernel
theorem dX5_suitsFlitch_35 : decode cX5_suitsFlitch 35 = .ok (.if_icmp .ne 23, 3) := by decide +kernel
theorem dX5_suitsFlitch_38 : decode cX5_suitsFlitch 38 = .ok (.aload 5, 2) := by decide +kernel
theorem dX5_suitsFlitch_40 : decode cX5_suitsFlitch 40 = .ok (.getfield 192, 3) := by decide +kernel
theorem dX5_suitsFlitch_43 : decode cX5_suitsFlitch 43 = .ok (.iload_n 3, 1) := by decide +kernel
theorem dX5_suitsFlitch_44 : decode cX5_suitsFlitch 44 = .ok (.if_icmp .eq 12, 3) := by decide +kernel
theorem dX5_suitsFlitch_47 : decode cX5_suitsFlitch 47 = .ok (.aload 5, 2) := by decide +kernel
theorem dX5_suitsFlitch_49 : decode cX5_suitsFlitch 49 = .ok (.getfield 148, 3) := by decide +kernel
theorem dX5_suitsFlitch_52 : decode cX5_suitsFlitch 52 = .ok (.iload_n 1, 1) := by decide +kernel
theorem dX5_suitsFlitch_53 : decode cX5_suitsFlitch 53 = .ok (.if_icmp .eq 5, 3) := by decide +kernel
theorem dX5_suitsFlitch_56 : decode cX5_suitsFlitch 56 = .ok (.iconst 0, 1) := by decide +kernel
theorem dX5_suitsFlitch_57 : decode cX5_suitsFlitch 57 = .ok (.ireturn, 1) := by decide +kernel
theorem dX5_suitsFlitch_58 : decode cX5_suitsFlitch 58 = .ok (.iinc 4 1, 3) := by decide +kernel
theorem dX5_suitsFlitch_61 : decode cX5_suitsFlitch 61 = .ok (.goto (-58), 3) := by decide +kernel
theorem dX5_suitsFlitch_64 : decode cX5_suitsFlitch 64 = .ok (.iconst 1, 1) := by decide +kernel
theorem dX5_suitsFlitch_65 : decode cX5_suitsFlitch 65 = .ok (.ireturn, 1) := by decide +kernel
theorem dX5_touchesAny_0 : decode cX5_touchesAny 0 = .ok (.iconst 0, 1) := by decide +kernel
theorem dX5_touchesAny_1 : decode cX5_touchesAny 1 = .ok (.istore_n 3, 1) := by decide +kernel
theorem dX5_touchesAny_2 : decode cX5_touchesAny 2 = .ok (.iload_n 3, 1) := by decide +kernel
theorem dX5_touchesAny_3 : decode cX5_touchesAny 3 = .ok (.aload_n 0, 1) := by decide +kernel
theorem dX5_touchesAny_4 : decode cX5_touchesAny 4 = .ok (.invokevirtual 84, 3) := by decide +kernel
theorem dX5_touchesAny_7 : decode cX5_touchesAny 7 = .ok (.if_icmp .ge 27, 3) := by decide +kernel
theorem dX5_touchesAny_10 : decode cX5_touchesAny 10 = .ok (.aload_n 0, 1) := by decide +kernel
theorem dX5_touchesAny_11 : decode cX5_touchesAny 11 = .ok (.iload_n 3, 1) := by decide +kernel
theorem dX5_touchesAny_12 : decode cX5_touchesAny 12 = .ok (.invokevirtual 259, 3) := by decide +kernel
theorem dX5_touchesAny_15 : decode cX5_touchesAny 15 = .ok (.checkcast 128, 3) := by decide +kernel
theorem dX5_touchesAny_18 : decode cX5_touchesAny 18 = .ok (.iload_n 1, 1) := by decide +kernel
theorem dX5_touchesAny_19 : decode cX5_touchesAny 19 = .ok (.iload_n 2, 1) := by decide +kernel
theorem dX5_touchesAny_20 : decode cX5_touchesAny 20 = .ok (.invokevirtual 327, 3) := by decide +kernel
theorem dX5_touchesAny_23 : decode cX5_touchesAny 23 = .ok (.ifCond .eq 5, 3) := by decide +kernel
theorem dX5_touchesAny_26 : decode cX5_touchesAny 26 = .ok (.iconst 1, 1) := by decide +kernel
theorem dX5_touchesAny_27 : decode cX5_touchesAny 27 = .ok (.ireturn, 1) := by decide +kernel
theorem dX5_touchesAny_28 : decode cX5_touchesAny 28 = .ok (.iinc 3 1, 3) := by decide +kernel
theorem dX5_touchesAny_31 : decode cX5_touchesAny 31 = .ok (.goto (-29), 3) := by decide +kernel
theorem dX5_touchesAny_34 : decode cX5_touchesAny 34 = .ok (.iconst 0, 1) := by decide +kernel
theorem dX5_touchesAny_35 : decode cX5_touchesAny 35 = .ok (.ireturn, 1) := by decide +kernel
theorem dX5_earlierBehind_0 : decode cX5_earlierBehind 0 = .ok (.iload_n 3, 1) := by decide +kernel
theorem dX5_earlierBehind_1 : decode cX5_earlierBehind 1 = .ok (.istore 4, 2) := by decide +kernel
theorem dX5_earlierBehind_3 : decode cX5_earlierBehind 3 = .ok (.iconst 0, 1) := by decide +kernel
theorem dX5_earlierBehind_4 : decode cX5_earlierBehind 4 = .ok (.istore 5, 2) := by decide +kernel
theorem dX5_earlierBehind_6 : decode cX5_earlierBehind 6 = .ok (.iload 5, 2) := by decide +kernel
theorem dX5_earlierBehind_8 : decode cX5_earlierBehind 8 = .ok (.aload_n 0, 1) := by decide +kernel
theorem dX5_earlierBehind_9 : decode cX5_earlierBehind 9 = .ok (.invokevirtual 84, 3) := by decide +kernel
theorem dX5_earlierBehind_12 : decode cX5_earlierBehind 12 = .ok (.if_icmp .ge 50, 3) := by decide +kernel
theorem dX5_earlierBehind_15 : decode cX5_earlierBehind 15 = .ok (.aload_n 0, 1) := by decide +kernel
theorem dX5_earlierBehind_16 : decode cX5_earlierBehind 16 = .ok (.iload 5, 2) := by decide +kernel
theorem dX5_earlierBehind_18 : decode cX5_earlierBehind 18 = .ok (.invokevirtual 259, 3) := by decide +kernel
theorem dX5_earlierBehind_21 : decode cX5_earlierBehind 21 = .ok (.checkcast 128, 3) := by decide +kernel
theorem dX5_earlierBehind_24 : decode cX5_earlierBehind 24 = .ok (.getfield 330, 3) := by decide +kernel
theorem dX5_earlierBehind_27 : decode cX5_earlierBehind 27 = .ok (.istore 6, 2) := by decide +kernel
theorem dX5_earlierBehind_29 : decode cX5_earlierBehind 29 = .ok (.iload 4, 2) := by decide +kernel
theorem dX5_earlierBehind_31 : decode cX5_earlierBehind 31 = .ok (.iconst (-1), 1) := by decide +kernel
theorem dX5_earlierBehind_32 : decode cX5_earlierBehind 32 = .ok (.if_icmp .eq 10, 3) := by decide +kernel
theorem dX5_earlierBehind_35 : decode cX5_earlierBehind 35 = .ok (.iload 6, 2) := by decide +kernel
theorem dX5_earlierBehind_37 : decode cX5_earlierBehind 37 = .ok (.iload 4, 2) := by decide +kernel
theorem dX5_earlierBehind_39 : decode cX5_earlierBehind 39 = .ok (.if_icmp .ge 17, 3) := by decide +kernel
theorem dX5_earlierBehind_42 : decode cX5_earlierBehind 42 = .ok (.aload_n 1, 1) := by decide +kernel
theorem dX5_earlierBehind_43 : decode cX5_earlierBehind 43 = .ok (.iload 6, 2) := by decide +kernel
theorem dX5_earlierBehind_45 : decode cX5_earlierBehind 45 = .ok (.iload_n 2, 1) := by decide +kernel
theorem dX5_earlierBehind_46 : decode cX5_earlierBehind 46 = .ok (.invokevirtual 165, 3) := by decide +kernel
theorem dX5_earlierBehind_49 : decode cX5_earlierBehind 49 = .ok (.ifCond .eq 7, 3) := by decide +kernel
theorem dX5_earlierBehind_52 : decode cX5_earlierBehind 52 = .ok (.iload 6, 2) := by decide +kernel
theorem dX5_earlierBehind_54 : decode cX5_earlierBehind 54 = .ok (.istore 4, 2) := by decide +kernel
theorem dX5_earlierBehind_56 : decode cX5_earlierBehind 56 = .ok (.iinc 5 1, 3) := by decide +kernel
theorem dX5_earlierBehind_59 : decode cX5_earlierBehind 59 = .ok (.goto (-53), 3) := by decide +kernel
theorem dX5_earlierBehind_62 : decode cX5_earlierBehind 62 = .ok (.iload 4, 2) := by decide +kernel
theorem dX5_earlierBehind_64 : decode cX5_earlierBehind 64 = .ok (.ireturn, 1) := by decide +kernel
theorem dX5_isTongue_0 : decode cX5_isTongue 0 = .ok (.iload_n 0, 1) := by decide +kernel
theorem dX5_isTongue_1 : decode cX5_isTongue 1 = .ok (.iconst 2, 1) := by decide +kernel
theorem dX5_isTongue_2 : decode cX5_isTongue 2 = .ok (.if_icmp .ne 14, 3) := by decide +kernel
theorem dX5_isTongue_5 : decode cX5_isTongue 5 = .ok (.iload_n 1, 1) := by decide +kernel
theorem dX5_isTongue_6 : decode cX5_isTongue 6 = .ok (.iconst 1, 1) := by decide +kernel
theorem dX5_isTongue_7 : decode cX5_isTongue 7 = .ok (.sipush 200, 3) := by decide +kernel
theorem dX5_isTongue_10 : decode cX5_isTongue 10 = .ok (.invokestatic 52, 3) := by decide +kernel
theorem dX5_isTongue_13 : decode cX5_isTongue 13 = .ok (.goto 12, 3) := by decide +kernel
theorem dX5_isTongue_16 : decode cX5_isTongue 16 = .ok (.iload_n 1, 1) := by decide +kernel
theorem dX5_isTongue_17 : decode cX5_isTongue 17 = .ok (.ifCond .ne 7, 3) := by decide +kernel
theorem dX5_isTongue_20 : decode cX5_isTongue 20 = .ok (.iconst 1, 1) := by decide +kernel
theorem dX5_isTongue_21 : decode cX5_isTongue 21 = .ok (.goto 4, 3) := by decide +kernel
theorem dX5_isTongue_24 : decode cX5_isTongue 24 = .ok (.iconst 0, 1) := by decide +kernel
theorem dX5_isTongue_25 : decode cX5_isTongue 25 = .ok (.ireturn, 1) := by decide +kernel
theorem dX5_fits_0 : decode cX5_fits 0 = .ok (.iload_n 0, 1) := by decide +kernel
theorem dX5_fits_1 : decode cX5_fits 1 = .ok (.lookupswitch 55 #[(0, 27), (1, 41)], 27) := by decide +kernel
theorem dX5_fits_28 : decode cX5_fits 28 = .ok (.iload_n 2, 1) := by decide +kernel
theorem dX5_fits_29 : decode cX5_fits 29 = .ok (.aload_n 1, 1) := by decide +kernel
theorem dX5_fits_30 : decode cX5_fits 30 = .ok (.getfield 333, 3) := by decide +kernel
theorem dX5_fits_33 : decode cX5_fits 33 = .ok (.if_icmp .gt 7, 3) := by decide +kernel
theorem dX5_fits_36 : decode cX5_fits 36 = .ok (.iconst 1, 1) := by decide +kernel
theorem dX5_fits_37 : decode cX5_fits 37 = .ok (.goto 4, 3) := by decide +kernel
theorem dX5_fits_40 : decode cX5_fits 40 = .ok (.iconst 0, 1) := by decide +kernel
theorem dX5_fits_41 : decode cX5_fits 41 = .ok (.ireturn, 1) := by decide +kernel
theorem dX5_fits_42 : decode cX5_fits 42 = .ok (.iload_n 2, 1) := by decide +kernel
theorem dX5_fits_43 : decode cX5_fits 43 = .ok (.aload_n 1, 1) := by decide +kernel
theorem dX5_fits_44 : decode cX5_fits 44 = .ok (.invokevirtual 278, 3) := by decide +kernel
theorem dX5_fits_47 : decode cX5_fits 47 = .ok (.if_icmp .gt 7, 3) := by decide +kernel
theorem dX5_fits_50 : decode cX5_fits 50 = .ok (.iconst 1, 1) := by decide +kernel
theorem dX5_fits_51 : decode cX5_fits 51 = .ok (.goto 4, 3) := by decide +kernel
theorem dX5_fits_54 : decode cX5_fits 54 = .ok (.iconst 0, 1) := by decide +kernel
theorem dX5_fits_55 : decode cX5_fits 55 = .ok (.ireturn, 1) := by decide +kernel
theorem dX5_fits_56 : decode cX5_fits 56 = .ok (.aload_n 1, 1) := by decide +kernel
theorem dX5_fits_57 : decode cX5_fits 57 = .ok (.invokevirtual 278, 3) := by decide +kernel
theorem dX5_fits_60 : decode cX5_fits 60 = .ok (.iload_n 2, 1) := by decide +kernel
theorem dX5_fits_61 : decode cX5_fits 61 = .ok (.iconst 2, 1) := by decide +kernel
theorem dX5_fits_62 : decode cX5_fits 62 = .ok (.iload_n 3, 1) := by decide +kernel
theorem dX5_fits_63 : decode cX5_fits 63 = .ok (.imul, 1) := by decide +kernel
theorem dX5_fits_64 : decode cX5_fits 64 = .ok (.isub, 1) := by decide +kernel
theorem dX5_fits_65 : decode cX5_fits 65 = .ok (.iload_n 2, 1) := by decide +kernel
theorem dX5_fits_66 : decode cX5_fits 66 = .ok (.invokestatic 52, 3) := by decide +kernel
theorem dX5_fits_69 : decode cX5_fits 69 = .ok (.ireturn, 1) := by decide +kernel
theorem dX5_canBeGlued_0 : decode cX5_canBeGlued 0 = .ok (.iload_n 1, 1) := by decide +kernel
theorem dX5_canBeGlued_1 : decode cX5_canBeGlued 1 = .ok (.istore_n 2, 1) := by decide +kernel
theorem dX5_canBeGlued_2 : decode cX5_canBeGlued 2 = .ok (.iconst 0, 1) := by decide +kernel
theorem dX5_canBeGlued_3 : decode cX5_canBeGlued 3 = .ok (.istore_n 3, 1) := by decide +kernel
theorem dX5_canBeGlued_4 : decode cX5_canBeGlued 4 = .ok (.iload_n 3, 1) := by decide +kernel
theorem dX5_canBeGlued_5 : decode cX5_canBeGlued 5 = .ok (.aload_n 0, 1) := by decide +kernel
theorem dX5_canBeGlued_6 : decode cX5_canBeGlued 6 = .ok (.getfield 19, 3) := by decide +kernel
theorem dX5_canBeGlued_9 : decode cX5_canBeGlued 9 = .ok (.invokevirtual 84, 3) := by decide +kernel
theorem dX5_canBeGlued_12 : decode cX5_canBeGlued 12 = .ok (.if_icmp .ge 32, 3) := by decide +kernel
theorem dX5_canBeGlued_15 : decode cX5_canBeGlued 15 = .ok (.aload_n 0, 1) := by decide +kernel
theorem dX5_canBeGlued_16 : decode cX5_canBeGlued 16 = .ok (.getfield 19, 3) := by decide +kernel
theorem dX5_canBeGlued_19 : decode cX5_canBeGlued 19 = .ok (.iload_n 3, 1) := by decide +kernel
theorem dX5_canBeGlued_20 : decode cX5_canBeGlued 20 = .ok (.invokevirtual 259, 3) := by decide +kernel
theorem dX5_canBeGlued_23 : decode cX5_canBeGlued 23 = .ok (.checkcast 216, 3) := by decide +kernel
theorem dX5_canBeGlued_26 : decode cX5_canBeGlued 26 = .ok (.getfield 229, 3) := by decide +kernel
theorem dX5_canBeGlued_29 : decode cX5_canBeGlued 29 = .ok (.ifCond .eq 9, 3) := by decide +kernel
theorem dX5_canBeGlued_32 : decode cX5_canBeGlued 32 = .ok (.iload_n 2, 1) := by decide +kernel
theorem dX5_canBeGlued_33 : decode cX5_canBeGlued 33 = .ok (.iconst 1, 1) := by decide +kernel
theorem dX5_canBeGlued_34 : decode cX5_canBeGlued 34 = .ok (.iload_n 3, 1) := by decide +kernel
theorem dX5_canBeGlued_35 : decode cX5_canBeGlued 35 = .ok (.ishl, 1) := by decide +kernel
theorem dX5_canBeGlued_36 : decode cX5_canBeGlued 36 = .ok (.ior, 1) := by decide +kernel
theorem dX5_canBeGlued_37 : decode cX5_canBeGlued 37 = .ok (.istore_n 2, 1) := by decide +kernel
theorem dX5_canBeGlued_38 : decode cX5_canBeGlued 38 = .ok (.iinc 3 1, 3) := by decide +kernel
theorem dX5_canBeGlued_41 : decode cX5_canBeGlued 41 = .ok (.goto (-37), 3) := by decide +kernel
theorem dX5_canBeGlued_44 : decode cX5_canBeGlued 44 = .ok (.iconst 0, 1) := by decide +kernel
theorem dX5_canBeGlued_45 : decode cX5_canBeGlued 45 = .ok (.istore_n 3, 1) := by decide +kernel
theorem dX5_canBeGlued_46 : decode cX5_canBeGlued 46 = .ok (.iload_n 3, 1) := by decide +kernel
theorem dX5_canBeGlued_47 : decode cX5_canBeGlued 47 = .ok (.aload_n 0, 1) := by decide +kernel
theorem dX5_canBeGlued_48 : decode cX5_canBeGlued 48 = .ok (.getfield 19, 3) := by decide +kernel
theorem dX5_canBeGlued_51 : decode cX5_canBeGlued 51 = .ok (.invokevirtual 84, 3) := by decide +kernel
theorem dX5_canBeGlued_54 : decode cX5_canBeGlued 54 = .ok (.if_icmp .ge 52, 3) := by decide +kernel
theorem dX5_canBeGlued_57 : decode cX5_canBeGlued 57 = .ok (.aload_n 0, 1) := by decide +kernel
theorem dX5_canBeGlued_58 : decode cX5_canBeGlued 58 = .ok (.getfield 19, 3) := by decide +kernel
theorem dX5_canBeGlued_61 : decode cX5_canBeGlued 61 = .ok (.iload_n 3, 1) := by decide +kernel
theorem dX5_canBeGlued_62 : decode cX5_canBeGlued 62 = .ok (.invokevirtual 259, 3) := by decide +kernel
theorem dX5_canBeGlued_65 : decode cX5_canBeGlued 65 = .ok (.checkcast 216, 3) := by decide +kernel
theorem dX5_canBeGlued_68 : decode cX5_canBeGlued 68 = .ok (.astore 4, 2) := by decide +kernel
theorem dX5_canBeGlued_70 : decode cX5_canBeGlued 70 = .ok (.iload_n 1, 1) := by decide +kernel
theorem dX5_canBeGlued_71 : decode cX5_canBeGlued 71 = .ok (.iload_n 3, 1) := by decide +kernel
theorem dX5_canBeGlued_72 : decode cX5_canBeGlued 72 = .ok (.invokestatic 256, 3) := by decide +kernel
theorem dX5_canBeGlued_75 : decode cX5_canBeGlued 75 = .ok (.ifCond .eq 25, 3) := by decide +kernel
theorem dX5_canBeGlued_78 : decode cX5_canBeGlued 78 = .ok (.aload 4, 2) := by decide +kernel
theorem dX5_canBeGlued_80 : decode cX5_canBeGlued 80 = .ok (.getfield 229, 3) := by decide +kernel
theorem dX5_canBeGlued_83 : decode cX5_canBeGlued 83 = .ok (.ifCond .ne 15, 3) := by decide +kernel
theorem dX5_canBeGlued_86 : decode cX5_canBeGlued 86 = .ok (.aload 4, 2) := by decide +kernel
theorem dX5_canBeGlued_88 : decode cX5_canBeGlued 88 = .ok (.getfield 235, 3) := by decide +kernel
theorem dX5_canBeGlued_91 : decode cX5_canBeGlued 91 = .ok (.iload_n 2, 1) := by decide +kernel
theorem dX5_canBeGlued_92 : decode cX5_canBeGlued 92 = .ok (.iconst (-1), 1) := by decide +kernel
theorem dX5_canBeGlued_93 : decode cX5_canBeGlued 93 = .ok (.ixor, 1) := by decide +kernel
theorem dX5_canBeGlued_94 : decode cX5_canBeGlued 94 = .ok (.iand, 1) := by decide +kernel
theorem dX5_canBeGlued_95 : decode cX5_canBeGlued 95 = .ok (.ifCond .eq 5, 3) := by decide +kernel
theorem dX5_canBeGlued_98 : decode cX5_canBeGlued 98 = .ok (.iconst 0, 1) := by decide +kernel
theorem dX5_canBeGlued_99 : decode cX5_canBeGlued 99 = .ok (.ireturn, 1) := by decide +kernel
theorem dX5_canBeGlued_100 : decode cX5_canBeGlued 100 = .ok (.iinc 3 1, 3) := by decide +kernel
theorem dX5_canBeGlued_103 : decode cX5_canBeGlued 103 = .ok (.goto (-57), 3) := by decide +kernel
theorem dX5_canBeGlued_106 : decode cX5_canBeGlued 106 = .ok (.iconst 1, 1) := by decide +kernel
theorem dX5_canBeGlued_107 : decode cX5_canBeGlued 107 = .ok (.ireturn, 1) := by decide +kernel
theorem dX5_minutesOf_0 : decode cX5_minutesOf 0 = .ok (.iconst 0, 1) := by decide +kernel
theorem dX5_minutesOf_1 : decode cX5_minutesOf 1 = .ok (.istore_n 2, 1) := by decide +kernel
theorem dX5_minutesOf_2 : decode cX5_minutesOf 2 = .ok (.iconst 0, 1) := by decide +kernel
theorem dX5_minutesOf_3 : decode cX5_minutesOf 3 = .ok (.istore_n 3, 1) := by decide +kernel
theorem dX5_minutesOf_4 : decode cX5_minutesOf 4 = .ok (.iload_n 3, 1) := by decide +kernel
theorem dX5_minutesOf_5 : decode cX5_minutesOf 5 = .ok (.aload_n 0, 1) := by decide +kernel
theorem dX5_minutesOf_6 : decode cX5_minutesOf 6 = .ok (.getfield 19, 3) := by decide +kernel
theorem dX5_minutesOf_9 : decode cX5_minutesOf 9 = .ok (.invokevirtual 84, 3) := by decide +kernel
theorem dX5_minutesOf_12 : decode cX5_minutesOf 12 = .ok (.if_icmp .ge 40, 3) := by decide +kernel
theorem dX5_minutesOf_15 : decode cX5_minutesOf 15 = .ok (.iload_n 1, 1) := by decide +kernel
theorem dX5_minutesOf_16 : decode cX5_minutesOf 16 = .ok (.iload_n 3, 1) := by decide +kernel
theorem dX5_minutesOf_17 : decode cX5_minutesOf 17 = .ok (.invokestatic 256, 3) := by decide +kernel
theorem dX5_minutesOf_20 : decode cX5_minutesOf 20 = .ok (.ifCond .eq 26, 3) := by decide +kernel
theorem dX5_minutesOf_23 : decode cX5_minutesOf 23 = .ok (.iload_n 2, 1) := by decide +kernel
theorem dX5_minutesOf_24 : decode cX5_minutesOf 24 = .ok (.iconst 3, 1) := by decide +kernel
theorem dX5_minutesOf_25 : decode cX5_minutesOf 25 = .ok (.aload_n 0, 1) := by decide +kernel
theorem dX5_minutesOf_26 : decode cX5_minutesOf 26 = .ok (.getfield 19, 3) := by decide +kernel
theorem dX5_minutesOf_29 : decode cX5_minutesOf 29 = .ok (.iload_n 3, 1) := by decide +kernel
theorem dX5_minutesOf_30 : decode cX5_minutesOf 30 = .ok (.invokevirtual 259, 3) := by decide +kernel
theorem dX5_minutesOf_33 : decode cX5_minutesOf 33 = .ok (.checkcast 216, 3) := by decide +kernel
theorem dX5_minutesOf_36 : decode cX5_minutesOf 36 = .ok (.getfield 282, 3) := by decide +kernel
theorem dX5_minutesOf_39 : decode cX5_minutesOf 39 = .ok (.sipush 1000, 3) := by decide +kernel
theorem dX5_minutesOf_42 : decode cX5_minutesOf 42 = .ok (.idiv, 1) := by decide +kernel
theorem dX5_minutesOf_43 : decode cX5_minutesOf 43 = .ok (.iadd, 1) := by decide +kernel
theorem dX5_minutesOf_44 : decode cX5_minutesOf 44 = .ok (.iadd, 1) := by decide +kernel
theorem dX5_minutesOf_45 : decode cX5_minutesOf 45 = .ok (.istore_n 2, 1) := by decide +kernel
theorem dX5_minutesOf_46 : decode cX5_minutesOf 46 = .ok (.iinc 3 1, 3) := by decide +kernel
theorem dX5_minutesOf_49 : decode cX5_minutesOf 49 = .ok (.goto (-45), 3) := by decide +kernel
theorem dX5_minutesOf_52 : decode cX5_minutesOf 52 = .ok (.iload_n 2, 1) := by decide +kernel
theorem dX5_minutesOf_53 : decode cX5_minutesOf 53 = .ok (.ireturn, 1) := by decide +kernel
theorem dX5_clampsOf_0 : decode cX5_clampsOf 0 = .ok (.iconst 0, 1) := by decide +kernel
theorem dX5_clampsOf_1 : decode cX5_clampsOf 1 = .ok (.istore_n 2, 1) := by decide +kernel
theorem dX5_clampsOf_2 : decode cX5_clampsOf 2 = .ok (.iconst 0, 1) := by decide +kernel
theorem dX5_clampsOf_3 : decode cX5_clampsOf 3 = .ok (.istore_n 3, 1) := by decide +kernel
theorem dX5_clampsOf_4 : decode cX5_clampsOf 4 = .ok (.iload_n 3, 1) := by decide +kernel
theorem dX5_clampsOf_5 : decode cX5_clampsOf 5 = .ok (.aload_n 0, 1) := by decide +kernel
theorem dX5_clampsOf_6 : decode cX5_clampsOf 6 = .ok (.getfield 19, 3) := by decide +kernel
theorem dX5_clampsOf_9 : decode cX5_clampsOf 9 = .ok (.invokevirtual 84, 3) := by decide +kernel
theorem dX5_clampsOf_12 : decode cX5_clampsOf 12 = .ok (.if_icmp .ge 40, 3) := by decide +kernel
theorem dX5_clampsOf_15 : decode cX5_clampsOf 15 = .ok (.iload_n 1, 1) := by decide +kernel
theorem dX5_clampsOf_16 : decode cX5_clampsOf 16 = .ok (.iload_n 3, 1) := by decide +kernel
theorem dX5_clampsOf_17 : decode cX5_clampsOf 17 = .ok (.invokestatic 256, 3) := by decide +kernel
theorem dX5_clampsOf_20 : decode cX5_clampsOf 20 = .ok (.ifCond .eq 26, 3) := by decide +kernel
theorem dX5_clampsOf_23 : decode cX5_clampsOf 23 = .ok (.iload_n 2, 1) := by decide +kernel
theorem dX5_clampsOf_24 : decode cX5_clampsOf 24 = .ok (.iconst 1, 1) := by decide +kernel
theorem dX5_clampsOf_25 : decode cX5_clampsOf 25 = .ok (.aload_n 0, 1) := by decide +kernel
theorem dX5_clampsOf_26 : decode cX5_clampsOf 26 = .ok (.getfield 19, 3) := by decide +kernel
theorem dX5_clampsOf_29 : decode cX5_clampsOf 29 = .ok (.iload_n 3, 1) := by decide +kernel
theorem dX5_clampsOf_30 : decode cX5_clampsOf 30 = .ok (.invokevirtual 259, 3) := by decide +kernel
theorem dX5_clampsOf_33 : decode cX5_clampsOf 33 = .ok (.checkcast 216, 3) := by decide +kernel
theorem dX5_clampsOf_36 : decode cX5_clampsOf 36 = .ok (.getfield 282, 3) := by decide +kernel
theorem dX5_clampsOf_39 : decode cX5_clampsOf 39 = .ok (.sipush 500, 3) := by decide +kernel
theorem dX5_clampsOf_42 : decode cX5_clampsOf 42 = .ok (.idiv, 1) := by decide +kernel
theorem dX5_clampsOf_43 : decode cX5_clampsOf 43 = .ok (.iadd, 1) := by decide +kernel
theorem dX5_clampsOf_44 : decode cX5_clampsOf 44 = .ok (.iadd, 1) := by decide +kernel
theorem dX5_clampsOf_45 : decode cX5_clampsOf 45 = .ok (.istore_n 2, 1) := by decide +kernel
theorem dX5_clampsOf_46 : decode cX5_clampsOf 46 = .ok (.iinc 3 1, 3) := by decide +kernel
theorem dX5_clampsOf_49 : decode cX5_clampsOf 49 = .ok (.goto (-45), 3) := by decide +kernel
theorem dX5_clampsOf_52 : decode cX5_clampsOf 52 = .ok (.iload_n 2, 1) := by decide +kernel
theorem dX5_clampsOf_53 : decode cX5_clampsOf 53 = .ok (.ireturn, 1) := by decide +kernel
theorem dJ6_signum_0f7a4_0 : decode cJ6_signum_0f7a4 0 = .ok (.iload_n 0, 1) := by decide +kernel
theorem dJ6_signum_0f7a4_1 : decode cJ6_signum_0f7a4 1 = .ok (.bipush 31, 2) := by decide +kernel
theorem dJ6_signum_0f7a4_3 : decode cJ6_signum_0f7a4 3 = .ok (.ishr, 1) := by decide +kernel
theorem dJ6_signum_0f7a4_4 : decode cJ6_signum_0f7a4 4 = .ok (.iload_n 0, 1) := by decide +kernel
theorem dJ6_signum_0f7a4_5 : decode cJ6_signum_0f7a4 5 = .ok (.ineg, 1) := by decide +kernel
theorem dJ6_signum_0f7a4_6 : decode cJ6_signum_0f7a4 6 = .ok (.bipush 31, 2) := by decide +kernel
theorem dJ6_signum_0f7a4_8 : decode cJ6_signum_0f7a4 8 = .ok (.iushr, 1) := by decide +kernel
theorem dJ6_signum_0f7a4_9 : decode cJ6_signum_0f7a4 9 = .ok (.ior, 1) := by decide +kernel
theorem dJ6_signum_0f7a4_10 : decode cJ6_signum_0f7a4 10 = .ok (.ireturn, 1) := by decide +kernel
theorem dJ9_floorMod_7cf53_0 : decode cJ9_floorMod_7cf53 0 = .ok (.iload_n 0, 1) := by decide +kernel
theorem dJ9_floorMod_7cf53_1 : decode cJ9_floorMod_7cf53 1 = .ok (.iload_n 1, 1) := by decide +kernel
theorem dJ9_floorMod_7cf53_2 : decode cJ9_floorMod_7cf53 2 = .ok (.irem, 1) := by decide +kernel
theorem dJ9_floorMod_7cf53_3 : decode cJ9_floorMod_7cf53 3 = .ok (.istore_n 2, 1) := by decide +kernel
theorem dJ9_floorMod_7cf53_4 : decode cJ9_floorMod_7cf53 4 = .ok (.iload_n 0, 1) := by decide +kernel
theorem dJ9_floorMod_7cf53_5 : decode cJ9_floorMod_7cf53 5 = .ok (.iload_n 1, 1) := by decide +kernel
theorem dJ9_floorMod_7cf53_6 : decode cJ9_floorMod_7cf53 6 = .ok (.ixor, 1) := by decide +kernel
theorem dJ9_floorMod_7cf53_7 : decode cJ9_floorMod_7cf53 7 = .ok (.ifCond .ge 11, 3) := by decide +kernel
theorem dJ9_floorMod_7cf53_10 : decode cJ9_floorMod_7cf53 10 = .ok (.iload_n 2, 1) := by decide +kernel
theorem dJ9_floorMod_7cf53_11 : decode cJ9_floorMod_7cf53 11 = .ok (.ifCond .eq 7, 3) := by decide +kernel
theorem dJ9_floorMod_7cf53_14 : decode cJ9_floorMod_7cf53 14 = .ok (.iload_n 2, 1) := by decide +kernel
theorem dJ9_floorMod_7cf53_15 : decode cJ9_floorMod_7cf53 15 = .ok (.iload_n 1, 1) := by decide +kernel
theorem dJ9_floorMod_7cf53_16 : decode cJ9_floorMod_7cf53 16 = .ok (.iadd, 1) := by decide +kernel
theorem dJ9_floorMod_7cf53_17 : decode cJ9_floorMod_7cf53 17 = .ok (.ireturn, 1) := by decide +kernel
theorem dJ9_floorMod_7cf53_18 : decode cJ9_floorMod_7cf53 18 = .ok (.iload_n 2, 1) := by decide +kernel
theorem dJ9_floorMod_7cf53_19 : decode cJ9_floorMod_7cf53 19 = .ok (.ireturn, 1) := by decide +kernel
theorem dJ9_abs_0f7a4_0 : decode cJ9_abs_0f7a4 0 = .ok (.iload_n 0, 1) := by decide +kernel
theorem dJ9_abs_0f7a4_1 : decode cJ9_abs_0f7a4 1 = .ok (.ifCond .ge 8, 3) := by decide +kernel
theorem dJ9_abs_0f7a4_4 : decode cJ9_abs_0f7a4 4 = .ok (.iload_n 0, 1) := by decide +kernel
theorem dJ9_abs_0f7a4_5 : decode cJ9_abs_0f7a4 5 = .ok (.ineg, 1) := by decide +kernel
theorem dJ9_abs_0f7a4_6 : decode cJ9_abs_0f7a4 6 = .ok (.goto 4, 3) := by decide +kernel
theorem dJ9_abs_0f7a4_9 : decode cJ9_abs_0f7a4 9 = .ok (.iload_n 0, 1) := by decide +kernel
theorem dJ9_abs_0f7a4_10 : decode cJ9_abs_0f7a4 10 = .ok (.ireturn, 1) := by decide +kernel
theorem dJ9_max_7cf53_0 : decode cJ9_max_7cf53 0 = .ok (.iload_n 0, 1) := by decide +kernel
theorem dJ9_max_7cf53_1 : decode cJ9_max_7cf53 1 = .ok (.iload_n 1, 1) := by decide +kernel
theorem dJ9_max_7cf53_2 : decode cJ9_max_7cf53 2 = .ok (.if_icmp .lt 7, 3) := by decide +kernel
theorem dJ9_max_7cf53_5 : decode cJ9_max_7cf53 5 = .ok (.iload_n 0, 1) := by decide +kernel
theorem dJ9_max_7cf53_6 : decode cJ9_max_7cf53 6 = .ok (.goto 4, 3) := by decide +kernel
theorem dJ9_max_7cf53_9 : decode cJ9_max_7cf53 9 = .ok (.iload_n 1, 1) := by decide +kernel
theorem dJ9_max_7cf53_10 : decode cJ9_max_7cf53 10 = .ok (.ireturn, 1) := by decide +kernel
theorem dJ9_min_7cf53_0 : decode cJ9_min_7cf53 0 = .ok (.iload_n 0, 1) := by decide +kernel
theorem dJ9_min_7cf53_1 : decode cJ9_min_7cf53 1 = .ok (.iload_n 1, 1) := by decide +kernel
theorem dJ9_min_7cf53_2 : decode cJ9_min_7cf53 2 = .ok (.if_icmp .gt 7, 3) := by decide +kernel
theorem dJ9_min_7cf53_5 : decode cJ9_min_7cf53 5 = .ok (.iload_n 0, 1) := by decide +kernel
theorem dJ9_min_7cf53_6 : decode cJ9_min_7cf53 6 = .ok (.goto 4, 3) := by decide +kernel
theorem dJ9_min_7cf53_9 : decode cJ9_min_7cf53 9 = .ok (.iload_n 1, 1) := by decide +kernel
theorem dJ9_min_7cf53_10 : decode cJ9_min_7cf53 10 = .ok (.ireturn, 1) := by decide +kernel
theorem dJxa1e45_init_da8c8_0 : decode cJxa1e45_init_da8c8 0 = .ok (.aload_n 0, 1) := by decide +kernel
theorem dJxa1e45_init_da8c8_1 : decode cJxa1e45_init_da8c8 1 = .ok (.invokespecial 1, 3) := by decide +kernel
theorem dJxa1e45_init_da8c8_4 : decode cJxa1e45_init_da8c8 4 = .ok (.return_, 1) := by decide +kernel
theorem dJxc12de_init_da8c8_0 : decode cJxc12de_init_da8c8 0 = .ok (.aload_n 0, 1) := by decide +kernel
theorem dJxc12de_init_da8c8_1 : decode cJxc12de_init_da8c8 1 = .ok (.invokespecial 1, 3) := by decide +kernel
theorem dJxc12de_init_da8c8_4 : decode cJxc12de_init_da8c8 4 = .ok (.aload_n 0, 1) := by decide +kernel
theorem dJxc12de_init_da8c8_5 : decode cJxc12de_init_da8c8 5 = .ok (.iconst 0, 1) := by decide +kernel
theorem dJxc12de_init_da8c8_6 : decode cJxc12de_init_da8c8 6 = .ok (.putfield 7, 3) := by decide +kernel
theorem dJxc12de_init_da8c8_9 : decode cJxc12de_init_da8c8 9 = .ok (.return_, 1) := by decide +kernel
theorem dJx4a65c_init_da8c8_0 : decode cJx4a65c_init_da8c8 0 = .ok (.aload_n 0, 1) := by decide +kernel
theorem dJx4a65c_init_da8c8_1 : decode cJx4a65c_init_da8c8 1 = .ok (.invokespecial 1, 3) := by decide +kernel
theorem dJx4a65c_init_da8c8_4 : decode cJx4a65c_init_da8c8 4 = .ok (.aload_n 0, 1) := by decide +kernel
theorem dJx4a65c_init_da8c8_5 : decode cJx4a65c_init_da8c8 5 = .ok (.getstatic 39, 3) := by decide +kernel
theorem dJx4a65c_init_da8c8_8 : decode cJx4a65c_init_da8c8 8 = .ok (.putfield 9, 3) := by decide +kernel
theorem dJx4a65c_init_da8c8_11 : decode cJx4a65c_init_da8c8 11 = .ok (.return_, 1) := by decide +kernel
theorem dJx4a65c_grow_92f84_0 : decode cJx4a65c_grow_92f84 0 = .ok (.aload_n 0, 1) := by decide +kernel
theorem dJx4a65c_grow_92f84_1 : decode cJx4a65c_grow_92f84 1 = .ok (.getfield 9, 3) := by decide +kernel
theorem dJx4a65c_grow_92f84_4 : decode cJx4a65c_grow_92f84 4 = .ok (.arraylength, 1) := by decide +kernel
theorem dJx4a65c_grow_92f84_5 : decode cJx4a65c_grow_92f84 5 = .ok (.istore_n 2, 1) := by decide +kernel
theorem dJx4a65c_grow_92f84_6 : decode cJx4a65c_grow_92f84 6 = .ok (.iload_n 2, 1) := by decide +kernel
theorem dJx4a65c_grow_92f84_7 : decode cJx4a65c_grow_92f84 7 = .ok (.ifCond .gt 13, 3) := by decide +kernel
theorem dJx4a65c_grow_92f84_10 : decode cJx4a65c_grow_92f84 10 = .ok (.aload_n 0, 1) := by decide +kernel
theorem dJx4a65c_grow_92f84_11 : decode cJx4a65c_grow_92f84 11 = .ok (.getfield 9, 3) := by decide +kernel
theorem dJx4a65c_grow_92f84_14 : decode cJx4a65c_grow_92f84 14 = .ok (.getstatic 39, 3) := by decide +kernel
theorem dJx4a65c_grow_92f84_17 : decode cJx4a65c_grow_92f84 17 = .ok (.if_acmp .eq 28, 3) := by decide +kernel
theorem dJx4a65c_grow_92f84_20 : decode cJx4a65c_grow_92f84 20 = .ok (.iload_n 2, 1) := by decide +kernel
theorem dJx4a65c_grow_92f84_21 : decode cJx4a65c_grow_92f84 21 = .ok (.iload_n 1, 1) := by decide +kernel
theorem dJx4a65c_grow_92f84_22 : decode cJx4a65c_grow_92f84 22 = .ok (.iload_n 2, 1) := by decide +kernel
theorem dJx4a65c_grow_92f84_23 : decode cJx4a65c_grow_92f84 23 = .ok (.isub, 1) := by decide +kernel
theorem dJx4a65c_grow_92f84_24 : decode cJx4a65c_grow_92f84 24 = .ok (.iload_n 2, 1) := by decide +kernel
theorem dJx4a65c_grow_92f84_25 : decode cJx4a65c_grow_92f84 25 = .ok (.iconst 1, 1) := by decide +kernel
theorem dJx4a65c_grow_92f84_26 : decode cJx4a65c_grow_92f84 26 = .ok (.ishr, 1) := by decide +kernel
theorem dJx4a65c_grow_92f84_27 : decode cJx4a65c_grow_92f84 27 = .ok (.invokestatic 73, 3) := by decide +kernel
theorem dJx4a65c_grow_92f84_30 : decode cJx4a65c_grow_92f84 30 = .ok (.istore_n 3, 1) := by decide +kernel
theorem dJx4a65c_grow_92f84_31 : decode cJx4a65c_grow_92f84 31 = .ok (.aload_n 0, 1) := by decide +kernel
theorem dJx4a65c_grow_92f84_32 : decode cJx4a65c_grow_92f84 32 = .ok (.aload_n 0, 1) := by decide +kernel
theorem dJx4a65c_grow_92f84_33 : decode cJx4a65c_grow_92f84 33 = .ok (.getfield 9, 3) := by decide +kernel
theorem dJx4a65c_grow_92f84_36 : decode cJx4a65c_grow_92f84 36 = .ok (.iload_n 3, 1) := by decide +kernel
theorem dJx4a65c_grow_92f84_37 : decode cJx4a65c_grow_92f84 37 = .ok (.invokestatic 66, 3) := by decide +kernel
theorem dJx4a65c_grow_92f84_40 : decode cJx4a65c_grow_92f84 40 = .ok (.dup_x1, 1) := by decide +kernel
theorem dJx4a65c_grow_92f84_41 : decode cJx4a65c_grow_92f84 41 = .ok (.putfield 9, 3) := by decide +kernel
theorem dJx4a65c_grow_92f84_44 : decode cJx4a65c_grow_92f84 44 = .ok (.areturn, 1) := by decide +kernel
theorem dJx4a65c_grow_92f84_45 : decode cJx4a65c_grow_92f84 45 = .ok (.aload_n 0, 1) := by decide +kernel
theorem dJx4a65c_grow_92f84_46 : decode cJx4a65c_grow_92f84 46 = .ok (.bipush 10, 2) := by decide +kernel
theorem dJx4a65c_grow_92f84_48 : decode cJx4a65c_grow_92f84 48 = .ok (.iload_n 1, 1) := by decide +kernel
theorem dJx4a65c_grow_92f84_49 : decode cJx4a65c_grow_92f84 49 = .ok (.invokestatic 79, 3) := by decide +kernel
theorem dJx4a65c_grow_92f84_52 : decode cJx4a65c_grow_92f84 52 = .ok (.anewarray 7, 3) := by decide +kernel
theorem dJx4a65c_grow_92f84_55 : decode cJx4a65c_grow_92f84 55 = .ok (.dup_x1, 1) := by decide +kernel
theorem dJx4a65c_grow_92f84_56 : decode cJx4a65c_grow_92f84 56 = .ok (.putfield 9, 3) := by decide +kernel
theorem dJx4a65c_grow_92f84_59 : decode cJx4a65c_grow_92f84 59 = .ok (.areturn, 1) := by decide +kernel
theorem dJx4a65c_grow_d5877_0 : decode cJx4a65c_grow_d5877 0 = .ok (.aload_n 0, 1) := by decide +kernel
theorem dJx4a65c_grow_d5877_1 : decode cJx4a65c_grow_d5877 1 = .ok (.aload_n 0, 1) := by decide +kernel
theorem dJx4a65c_grow_d5877_2 : decode cJx4a65c_grow_d5877 2 = .ok (.getfield 48, 3) := by decide +kernel
theorem dJx4a65c_grow_d5877_5 : decode cJx4a65c_grow_d5877 5 = .ok (.iconst 1, 1) := by decide +kernel
theorem dJx4a65c_grow_d5877_6 : decode cJx4a65c_grow_d5877 6 = .ok (.iadd, 1) := by decide +kernel
theorem dJx4a65c_grow_d5877_7 : decode cJx4a65c_grow_d5877 7 = .ok (.invokevirtual 69, 3) := by decide +kernel
theorem dJx4a65c_grow_d5877_10 : decode cJx4a65c_grow_d5877 10 = .ok (.areturn, 1) := by decide +kernel
theorem dJx4a65c_size_8abf5_0 : decode cJx4a65c_size_8abf5 0 = .ok (.aload_n 0, 1) := by decide +kernel
theorem dJx4a65c_size_8abf5_1 : decode cJx4a65c_size_8abf5 1 = .ok (.getfield 48, 3) := by decide +kernel
theorem dJx4a65c_size_8abf5_4 : decode cJx4a65c_size_8abf5 4 = .ok (.ireturn, 1) := by decide +kernel
theorem dJx4a65c_elementData_915e3_0 : decode cJx4a65c_elementData_915e3 0 = .ok (.aload_n 0, 1) := by decide +kernel
theorem dJx4a65c_elementData_915e3_1 : decode cJx4a65c_elementData_915e3 1 = .ok (.getfield 9, 3) := by decide +kernel
theorem dJx4a65c_elementData_915e3_4 : decode cJx4a65c_elementData_915e3 4 = .ok (.iload_n 1, 1) := by decide +kernel
theorem dJx4a65c_elementData_915e3_5 : decode cJx4a65c_elementData_915e3 5 = .ok (.aaload, 1) := by decide +kernel
theorem dJx4a65c_elementData_915e3_6 : decode cJx4a65c_elementData_915e3 6 = .ok (.areturn, 1) := by decide +kernel
theorem dJx4a65c_get_915e3_0 : decode cJx4a65c_get_915e3 0 = .ok (.iload_n 1, 1) := by decide +kernel
theorem dJx4a65c_get_915e3_1 : decode cJx4a65c_get_915e3 1 = .ok (.aload_n 0, 1) := by decide +kernel
theorem dJx4a65c_get_915e3_2 : decode cJx4a65c_get_915e3 2 = .ok (.getfield 48, 3) := by decide +kernel
theorem dJx4a65c_get_915e3_5 : decode cJx4a65c_get_915e3 5 = .ok (.invokestatic 118, 3) := by decide +kernel
theorem dJx4a65c_get_915e3_8 : decode cJx4a65c_get_915e3 8 = .ok (.pop, 1) := by decide +kernel
theorem dJx4a65c_get_915e3_9 : decode cJx4a65c_get_915e3 9 = .ok (.aload_n 0, 1) := by decide +kernel
theorem dJx4a65c_get_915e3_10 : decode cJx4a65c_get_915e3 10 = .ok (.iload_n 1, 1) := by decide +kernel
theorem dJx4a65c_get_915e3_11 : decode cJx4a65c_get_915e3 11 = .ok (.invokevirtual 123, 3) := by decide +kernel
theorem dJx4a65c_get_915e3_14 : decode cJx4a65c_get_915e3 14 = .ok (.areturn, 1) := by decide +kernel
theorem dJx4a65c_add_72be8_0 : decode cJx4a65c_add_72be8 0 = .ok (.iload_n 3, 1) := by decide +kernel
theorem dJx4a65c_add_72be8_1 : decode cJx4a65c_add_72be8 1 = .ok (.aload_n 2, 1) := by decide +kernel
theorem dJx4a65c_add_72be8_2 : decode cJx4a65c_add_72be8 2 = .ok (.arraylength, 1) := by decide +kernel
theorem dJx4a65c_add_72be8_3 : decode cJx4a65c_add_72be8 3 = .ok (.if_icmp .ne 8, 3) := by decide +kernel
theorem dJx4a65c_add_72be8_6 : decode cJx4a65c_add_72be8 6 = .ok (.aload_n 0, 1) := by decide +kernel
theorem dJx4a65c_add_72be8_7 : decode cJx4a65c_add_72be8 7 = .ok (.invokevirtual 129, 3) := by decide +kernel
theorem dJx4a65c_add_72be8_10 : decode cJx4a65c_add_72be8 10 = .ok (.astore_n 2, 1) := by decide +kernel
theorem dJx4a65c_add_72be8_11 : decode cJx4a65c_add_72be8 11 = .ok (.aload_n 2, 1) := by decide +kernel
theorem dJx4a65c_add_72be8_12 : decode cJx4a65c_add_72be8 12 = .ok (.iload_n 3, 1) := by decide +kernel
theorem dJx4a65c_add_72be8_13 : decode cJx4a65c_add_72be8 13 = .ok (.aload_n 1, 1) := by decide +kernel
theorem dJx4a65c_add_72be8_14 : decode cJx4a65c_add_72be8 14 = .ok (.aastore, 1) := by decide +kernel
theorem dJx4a65c_add_72be8_15 : decode cJx4a65c_add_72be8 15 = .ok (.aload_n 0, 1) := by decide +kernel
theorem dJx4a65c_add_72be8_16 : decode cJx4a65c_add_72be8 16 = .ok (.iload_n 3, 1) := by decide +kernel
theorem dJx4a65c_add_72be8_17 : decode cJx4a65c_add_72be8 17 = .ok (.iconst 1, 1) := by decide +kernel
theorem dJx4a65c_add_72be8_18 : decode cJx4a65c_add_72be8 18 = .ok (.iadd, 1) := by decide +kernel
theorem dJx4a65c_add_72be8_19 : decode cJx4a65c_add_72be8 19 = .ok (.putfield 48, 3) := by decide +kernel
theorem dJx4a65c_add_72be8_22 : decode cJx4a65c_add_72be8 22 = .ok (.return_, 1) := by decide +kernel
theorem dJx4a65c_add_9ea2d_0 : decode cJx4a65c_add_9ea2d 0 = .ok (.aload_n 0, 1) := by decide +kernel
theorem dJx4a65c_add_9ea2d_1 : decode cJx4a65c_add_9ea2d 1 = .ok (.dup, 1) := by decide +kernel
theorem dJx4a65c_add_9ea2d_2 : decode cJx4a65c_add_9ea2d 2 = .ok (.getfield 63, 3) := by decide +kernel
theorem dJx4a65c_add_9ea2d_5 : decode cJx4a65c_add_9ea2d 5 = .ok (.iconst 1, 1) := by decide +kernel
theorem dJx4a65c_add_9ea2d_6 : decode cJx4a65c_add_9ea2d 6 = .ok (.iadd, 1) := by decide +kernel
theorem dJx4a65c_add_9ea2d_7 : decode cJx4a65c_add_9ea2d 7 = .ok (.putfield 63, 3) := by decide +kernel
theorem dJx4a65c_add_9ea2d_10 : decode cJx4a65c_add_9ea2d 10 = .ok (.aload_n 0, 1) := by decide +kernel
theorem dJx4a65c_add_9ea2d_11 : decode cJx4a65c_add_9ea2d 11 = .ok (.aload_n 1, 1) := by decide +kernel
theorem dJx4a65c_add_9ea2d_12 : decode cJx4a65c_add_9ea2d 12 = .ok (.aload_n 0, 1) := by decide +kernel
theorem dJx4a65c_add_9ea2d_13 : decode cJx4a65c_add_9ea2d 13 = .ok (.getfield 9, 3) := by decide +kernel
theorem dJx4a65c_add_9ea2d_16 : decode cJx4a65c_add_9ea2d 16 = .ok (.aload_n 0, 1) := by decide +kernel
theorem dJx4a65c_add_9ea2d_17 : decode cJx4a65c_add_9ea2d 17 = .ok (.getfield 48, 3) := by decide +kernel
theorem dJx4a65c_add_9ea2d_20 : decode cJx4a65c_add_9ea2d 20 = .ok (.invokevirtual 131, 3) := by decide +kernel
theorem dJx4a65c_add_9ea2d_23 : decode cJx4a65c_add_9ea2d 23 = .ok (.iconst 1, 1) := by decide +kernel
theorem dJx4a65c_add_9ea2d_24 : decode cJx4a65c_add_9ea2d 24 = .ok (.ireturn, 1) := by decide +kernel
theorem dJ7_fill_53178_0 : decode cJ7_fill_53178 0 = .ok (.iconst 0, 1) := by decide +kernel
theorem dJ7_fill_53178_1 : decode cJ7_fill_53178 1 = .ok (.istore_n 2, 1) := by decide +kernel
theorem dJ7_fill_53178_2 : decode cJ7_fill_53178 2 = .ok (.aload_n 0, 1) := by decide +kernel
theorem dJ7_fill_53178_3 : decode cJ7_fill_53178 3 = .ok (.arraylength, 1) := by decide +kernel
theorem dJ7_fill_53178_4 : decode cJ7_fill_53178 4 = .ok (.istore_n 3, 1) := by decide +kernel
theorem dJ7_fill_53178_5 : decode cJ7_fill_53178 5 = .ok (.iload_n 2, 1) := by decide +kernel
theorem dJ7_fill_53178_6 : decode cJ7_fill_53178 6 = .ok (.iload_n 3, 1) := by decide +kernel
theorem dJ7_fill_53178_7 : decode cJ7_fill_53178 7 = .ok (.if_icmp .ge 13, 3) := by decide +kernel
theorem dJ7_fill_53178_10 : decode cJ7_fill_53178 10 = .ok (.aload_n 0, 1) := by decide +kernel
theorem dJ7_fill_53178_11 : decode cJ7_fill_53178 11 = .ok (.iload_n 2, 1) := by decide +kernel
theorem dJ7_fill_53178_12 : decode cJ7_fill_53178 12 = .ok (.iload_n 1, 1) := by decide +kernel
theorem dJ7_fill_53178_13 : decode cJ7_fill_53178 13 = .ok (.iastore, 1) := by decide +kernel
theorem dJ7_fill_53178_14 : decode cJ7_fill_53178 14 = .ok (.iinc 2 1, 3) := by decide +kernel
theorem dJ7_fill_53178_17 : decode cJ7_fill_53178 17 = .ok (.goto (-12), 3) := by decide +kernel
theorem dJ7_fill_53178_20 : decode cJ7_fill_53178 20 = .ok (.return_, 1) := by decide +kernel
theorem dJ7_copyOf_1904c_0 : decode cJ7_copyOf_1904c 0 = .ok (.aload_n 0, 1) := by decide +kernel
theorem dJ7_copyOf_1904c_1 : decode cJ7_copyOf_1904c 1 = .ok (.iload_n 1, 1) := by decide +kernel
theorem dJ7_copyOf_1904c_2 : decode cJ7_copyOf_1904c 2 = .ok (.aload_n 0, 1) := by decide +kernel
theorem dJ7_copyOf_1904c_3 : decode cJ7_copyOf_1904c 3 = .ok (.invokevirtual 86, 3) := by decide +kernel
theorem dJ7_copyOf_1904c_6 : decode cJ7_copyOf_1904c 6 = .ok (.invokestatic 300, 3) := by decide +kernel
theorem dJ7_copyOf_1904c_9 : decode cJ7_copyOf_1904c 9 = .ok (.areturn, 1) := by decide +kernel
theorem dJ7_copyOf_6403c_0 : decode cJ7_copyOf_6403c 0 = .ok (.aload_n 2, 1) := by decide +kernel
theorem dJ7_copyOf_6403c_1 : decode cJ7_copyOf_6403c 1 = .ok (.ldc 110, 2) := by decide +kernel
theorem dJ7_copyOf_6403c_3 : decode cJ7_copyOf_6403c 3 = .ok (.if_acmp .ne 10, 3) := by decide +kernel
theorem dJ7_copyOf_6403c_6 : decode cJ7_copyOf_6403c 6 = .ok (.iload_n 1, 1) := by decide +kernel
theorem dJ7_copyOf_6403c_7 : decode cJ7_copyOf_6403c 7 = .ok (.anewarray 2, 3) := by decide +kernel
theorem dJ7_copyOf_6403c_10 : decode cJ7_copyOf_6403c 10 = .ok (.goto 14, 3) := by decide +kernel
theorem dJ7_copyOf_6403c_13 : decode cJ7_copyOf_6403c 13 = .ok (.aload_n 2, 1) := by decide +kernel
theorem dJ7_copyOf_6403c_14 : decode cJ7_copyOf_6403c 14 = .ok (.invokevirtual 90, 3) := by decide +kernel
theorem dJ7_copyOf_6403c_17 : decode cJ7_copyOf_6403c 17 = .ok (.iload_n 1, 1) := by decide +kernel
theorem dJ7_copyOf_6403c_18 : decode cJ7_copyOf_6403c 18 = .ok (.invokestatic 95, 3) := by decide +kernel
theorem dJ7_copyOf_6403c_21 : decode cJ7_copyOf_6403c 21 = .ok (.checkcast 110, 3) := by decide +kernel
theorem dJ7_copyOf_6403c_24 : decode cJ7_copyOf_6403c 24 = .ok (.astore_n 3, 1) := by decide +kernel
theorem dJ7_copyOf_6403c_25 : decode cJ7_copyOf_6403c 25 = .ok (.aload_n 0, 1) := by decide +kernel
theorem dJ7_copyOf_6403c_26 : decode cJ7_copyOf_6403c 26 = .ok (.iconst 0, 1) := by decide +kernel
theorem dJ7_copyOf_6403c_27 : decode cJ7_copyOf_6403c 27 = .ok (.aload_n 3, 1) := by decide +kernel
theorem dJ7_copyOf_6403c_28 : decode cJ7_copyOf_6403c 28 = .ok (.iconst 0, 1) := by decide +kernel
theorem dJ7_copyOf_6403c_29 : decode cJ7_copyOf_6403c 29 = .ok (.aload_n 0, 1) := by decide +kernel
theorem dJ7_copyOf_6403c_30 : decode cJ7_copyOf_6403c 30 = .ok (.arraylength, 1) := by decide +kernel
theorem dJ7_copyOf_6403c_31 : decode cJ7_copyOf_6403c 31 = .ok (.iload_n 1, 1) := by decide +kernel
theorem dJ7_copyOf_6403c_32 : decode cJ7_copyOf_6403c 32 = .ok (.invokestatic 304, 3) := by decide +kernel
theorem dJ7_copyOf_6403c_35 : decode cJ7_copyOf_6403c 35 = .ok (.invokestatic 150, 3) := by decide +kernel
theorem dJ7_copyOf_6403c_38 : decode cJ7_copyOf_6403c 38 = .ok (.aload_n 3, 1) := by decide +kernel
theorem dJ7_copyOf_6403c_39 : decode cJ7_copyOf_6403c 39 = .ok (.areturn, 1) := by decide +kernel
theorem dJ15_checkIndex_7cf53_0 : decode cJ15_checkIndex_7cf53 0 = .ok (.iload_n 0, 1) := by decide +kernel
theorem dJ15_checkIndex_7cf53_1 : decode cJ15_checkIndex_7cf53 1 = .ok (.iload_n 1, 1) := by decide +kernel
theorem dJ15_checkIndex_7cf53_2 : decode cJ15_checkIndex_7cf53 2 = .ok (.aconst_null, 1) := by decide +kernel
theorem dJ15_checkIndex_7cf53_3 : decode cJ15_checkIndex_7cf53 3 = .ok (.invokestatic 105, 3) := by decide +kernel
theorem dJ15_checkIndex_7cf53_6 : decode cJ15_checkIndex_7cf53 6 = .ok (.ireturn, 1) := by decide +kernel
theorem dJ8_newLength_cabcc_0 : decode cJ8_newLength_cabcc 0 = .ok (.iload_n 0, 1) := by decide +kernel
theorem dJ8_newLength_cabcc_1 : decode cJ8_newLength_cabcc 1 = .ok (.iload_n 1, 1) := by decide +kernel
theorem dJ8_newLength_cabcc_2 : decode cJ8_newLength_cabcc 2 = .ok (.iload_n 2, 1) := by decide +kernel
theorem dJ8_newLength_cabcc_3 : decode cJ8_newLength_cabcc 3 = .ok (.invokestatic 194, 3) := by decide +kernel
theorem dJ8_newLength_cabcc_6 : decode cJ8_newLength_cabcc 6 = .ok (.iadd, 1) := by decide +kernel
theorem dJ8_newLength_cabcc_7 : decode cJ8_newLength_cabcc 7 = .ok (.istore_n 3, 1) := by decide +kernel
theorem dJ8_newLength_cabcc_8 : decode cJ8_newLength_cabcc 8 = .ok (.iconst 0, 1) := by decide +kernel
theorem dJ8_newLength_cabcc_9 : decode cJ8_newLength_cabcc 9 = .ok (.iload_n 3, 1) := by decide +kernel
theorem dJ8_newLength_cabcc_10 : decode cJ8_newLength_cabcc 10 = .ok (.if_icmp .ge 11, 3) := by decide +kernel
theorem dJ8_newLength_cabcc_13 : decode cJ8_newLength_cabcc 13 = .ok (.iload_n 3, 1) := by decide +kernel
theorem dJ8_newLength_cabcc_14 : decode cJ8_newLength_cabcc 14 = .ok (.ldc 200, 2) := by decide +kernel
theorem dJ8_newLength_cabcc_16 : decode cJ8_newLength_cabcc 16 = .ok (.if_icmp .gt 5, 3) := by decide +kernel
theorem dJ8_newLength_cabcc_19 : decode cJ8_newLength_cabcc 19 = .ok (.iload_n 3, 1) := by decide +kernel
theorem dJ8_newLength_cabcc_20 : decode cJ8_newLength_cabcc 20 = .ok (.ireturn, 1) := by decide +kernel
theorem dJ8_newLength_cabcc_21 : decode cJ8_newLength_cabcc 21 = .ok (.iload_n 0, 1) := by decide +kernel
theorem dJ8_newLength_cabcc_22 : decode cJ8_newLength_cabcc 22 = .ok (.iload_n 1, 1) := by decide +kernel
theorem dJ8_newLength_cabcc_23 : decode cJ8_newLength_cabcc 23 = .ok (.invokestatic 201, 3) := by decide +kernel
theorem dJ8_newLength_cabcc_26 : decode cJ8_newLength_cabcc 26 = .ok (.ireturn, 1) := by decide +kernel
theorem dJ8_hugeLength_7cf53_0 : decode cJ8_hugeLength_7cf53 0 = .ok (.iload_n 0, 1) := by decide +kernel
theorem dJ8_hugeLength_7cf53_1 : decode cJ8_hugeLength_7cf53 1 = .ok (.iload_n 1, 1) := by decide +kernel
theorem dJ8_hugeLength_7cf53_2 : decode cJ8_hugeLength_7cf53 2 = .ok (.iadd, 1) := by decide +kernel
theorem dJ8_hugeLength_7cf53_3 : decode cJ8_hugeLength_7cf53 3 = .ok (.istore_n 2, 1) := by decide +kernel
theorem dJ8_hugeLength_7cf53_4 : decode cJ8_hugeLength_7cf53 4 = .ok (.iload_n 2, 1) := by decide +kernel
theorem dJ8_hugeLength_7cf53_5 : decode cJ8_hugeLength_7cf53 5 = .ok (.ifCond .ge 44, 3) := by decide +kernel
theorem dJ8_hugeLength_7cf53_8 : decode cJ8_hugeLength_7cf53 8 = .ok (.new 204, 3) := by decide +kernel
theorem dJ8_hugeLength_7cf53_11 : decode cJ8_hugeLength_7cf53 11 = .ok (.dup, 1) := by decide +kernel
theorem dJ8_hugeLength_7cf53_12 : decode cJ8_hugeLength_7cf53 12 = .ok (.new 89, 3) := by decide +kernel
theorem dJ8_hugeLength_7cf53_15 : decode cJ8_hugeLength_7cf53 15 = .ok (.dup, 1) := by decide +kernel
theorem dJ8_hugeLength_7cf53_16 : decode cJ8_hugeLength_7cf53 16 = .ok (.invokespecial 91, 3) := by decide +kernel
theorem dJ8_hugeLength_7cf53_19 : decode cJ8_hugeLength_7cf53 19 = .ok (.ldc 206, 2) := by decide +kernel
theorem dJ8_hugeLength_7cf53_21 : decode cJ8_hugeLength_7cf53 21 = .ok (.invokevirtual 94, 3) := by decide +kernel
theorem dJ8_hugeLength_7cf53_24 : decode cJ8_hugeLength_7cf53 24 = .ok (.iload_n 0, 1) := by decide +kernel
theorem dJ8_hugeLength_7cf53_25 : decode cJ8_hugeLength_7cf53 25 = .ok (.invokevirtual 98, 3) := by decide +kernel
theorem dJ8_hugeLength_7cf53_28 : decode cJ8_hugeLength_7cf53 28 = .ok (.ldc 208, 2) := by decide +kernel
theorem dJ8_hugeLength_7cf53_30 : decode cJ8_hugeLength_7cf53 30 = .ok (.invokevirtual 94, 3) := by decide +kernel
theorem dJ8_hugeLength_7cf53_33 : decode cJ8_hugeLength_7cf53 33 = .ok (.iload_n 1, 1) := by decide +kernel
theorem dJ8_hugeLength_7cf53_34 : decode cJ8_hugeLength_7cf53 34 = .ok (.invokevirtual 98, 3) := by decide +kernel
theorem dJ8_hugeLength_7cf53_37 : decode cJ8_hugeLength_7cf53 37 = .ok (.ldc 210, 2) := by decide +kernel
theorem dJ8_hugeLength_7cf53_39 : decode cJ8_hugeLength_7cf53 39 = .ok (.invokevirtual 94, 3) := by decide +kernel
theorem dJ8_hugeLength_7cf53_42 : decode cJ8_hugeLength_7cf53 42 = .ok (.invokevirtual 101, 3) := by decide +kernel
theorem dJ8_hugeLength_7cf53_45 : decode cJ8_hugeLength_7cf53 45 = .ok (.invokespecial 212, 3) := by decide +kernel
theorem dJ8_hugeLength_7cf53_48 : decode cJ8_hugeLength_7cf53 48 = .ok (.athrow, 1) := by decide +kernel
theorem dJ8_hugeLength_7cf53_49 : decode cJ8_hugeLength_7cf53 49 = .ok (.iload_n 2, 1) := by decide +kernel
theorem dJ8_hugeLength_7cf53_50 : decode cJ8_hugeLength_7cf53 50 = .ok (.ldc 200, 2) := by decide +kernel
theorem dJ8_hugeLength_7cf53_52 : decode cJ8_hugeLength_7cf53 52 = .ok (.if_icmp .gt 6, 3) := by decide +kernel
theorem dJ8_hugeLength_7cf53_55 : decode cJ8_hugeLength_7cf53 55 = .ok (.ldc 200, 2) := by decide +kernel
theorem dJ8_hugeLength_7cf53_57 : decode cJ8_hugeLength_7cf53 57 = .ok (.ireturn, 1) := by decide +kernel
theorem dJ8_hugeLength_7cf53_58 : decode cJ8_hugeLength_7cf53 58 = .ok (.iload_n 2, 1) := by decide +kernel
theorem dJ8_hugeLength_7cf53_59 : decode cJ8_hugeLength_7cf53 59 = .ok (.ireturn, 1) := by decide +kernel
theorem dJ3_checkIndex_8e157_0 : decode cJ3_checkIndex_8e157 0 = .ok (.iload_n 0, 1) := by decide +kernel
theorem dJ3_checkIndex_8e157_1 : decode cJ3_checkIndex_8e157 1 = .ok (.ifCond .lt 8, 3) := by decide +kernel
theorem dJ3_checkIndex_8e157_4 : decode cJ3_checkIndex_8e157 4 = .ok (.iload_n 0, 1) := by decide +kernel
theorem dJ3_checkIndex_8e157_5 : decode cJ3_checkIndex_8e157 5 = .ok (.iload_n 1, 1) := by decide +kernel
theorem dJ3_checkIndex_8e157_6 : decode cJ3_checkIndex_8e157 6 = .ok (.if_icmp .lt 10, 3) := by decide +kernel
theorem dJ3_checkIndex_8e157_9 : decode cJ3_checkIndex_8e157 9 = .ok (.aload_n 2, 1) := by decide +kernel
theorem dJ3_checkIndex_8e157_10 : decode cJ3_checkIndex_8e157 10 = .ok (.iload_n 0, 1) := by decide +kernel
theorem dJ3_checkIndex_8e157_11 : decode cJ3_checkIndex_8e157 11 = .ok (.iload_n 1, 1) := by decide +kernel
theorem dJ3_checkIndex_8e157_12 : decode cJ3_checkIndex_8e157 12 = .ok (.invokestatic 95, 3) := by decide +kernel
theorem dJ3_checkIndex_8e157_15 : decode cJ3_checkIndex_8e157 15 = .ok (.athrow, 1) := by decide +kernel
theorem dJ3_checkIndex_8e157_16 : decode cJ3_checkIndex_8e157 16 = .ok (.iload_n 0, 1) := by decide +kernel
theorem dJ3_checkIndex_8e157_17 : decode cJ3_checkIndex_8e157 17 = .ok (.ireturn, 1) := by decide +kernel
end
section
theorem dL_weather_0 : decode cL_weather 0 = .ok (.aload_n 3, 1) := by decide +kernel
theorem dL_weather_1 : decode cL_weather 1 = .ok (.iconst 0, 1) := by decide +kernel
theorem dL_weather_2 : decode cL_weather 2 = .ok (.aload_n 0, 1) := by decide +kernel
theorem dL_weather_3 : decode cL_weather 3 = .ok (.iload_n 1, 1) := by decide +kernel
theorem dL_weather_4 : decode cL_weather 4 = .ok (.iload_n 2, 1) := by decide +kernel
theorem dL_weather_5 : decode cL_weather 5 = .ok (.invokevirtual 7, 3) := by decide +kernel
theorem dL_weather_8 : decode cL_weather 8 = .ok (.i2l, 1) := by decide +kernel
theorem dL_weather_9 : decode cL_weather 9 = .ok (.lastore, 1) := by decide +kernel
theorem dL_weather_10 : decode cL_weather 10 = .ok (.goto 11, 3) := by decide +kernel
theorem dL_weather_13 : decode cL_weather 13 = .ok (.astore 4, 2) := by decide +kernel
theorem dL_weather_15 : decode cL_weather 15 = .ok (.iconst 1, 1) := by decide +kernel
theorem dL_weather_16 : decode cL_weather 16 = .ok (.ireturn, 1) := by decide +kernel
theorem dL_weather_17 : decode cL_weather 17 = .ok (.astore 4, 2) := by decide +kernel
theorem dL_weather_19 : decode cL_weather 19 = .ok (.iconst 2, 1) := by decide +kernel
theorem dL_weather_20 : decode cL_weather 20 = .ok (.ireturn, 1) := by decide +kernel
theorem dL_weather_21 : decode cL_weather 21 = .ok (.iconst 0, 1) := by decide +kernel
theorem dL_weather_22 : decode cL_weather 22 = .ok (.ireturn, 1) := by decide +kernel
theorem dL_pass_0 : decode cL_pass 0 = .ok (.aload_n 2, 1) := by decide +kernel
theorem dL_pass_1 : decode cL_pass 1 = .ok (.iconst 0, 1) := by decide +kernel
theorem dL_pass_2 : decode cL_pass 2 = .ok (.aload_n 0, 1) := by decide +kernel
theorem dL_pass_3 : decode cL_pass 3 = .ok (.iload_n 1, 1) := by decide +kernel
theorem dL_pass_4 : decode cL_pass 4 = .ok (.invokevirtual 17, 3) := by decide +kernel
theorem dL_pass_7 : decode cL_pass 7 = .ok (.i2l, 1) := by decide +kernel
theorem dL_pass_8 : decode cL_pass 8 = .ok (.lastore, 1) := by decide +kernel
theorem dL_pass_9 : decode cL_pass 9 = .ok (.goto 9, 3) := by decide +kernel
theorem dL_pass_12 : decode cL_pass 12 = .ok (.astore_n 3, 1) := by decide +kernel
theorem dL_pass_13 : decode cL_pass 13 = .ok (.iconst 1, 1) := by decide +kernel
theorem dL_pass_14 : decode cL_pass 14 = .ok (.ireturn, 1) := by decide +kernel
theorem dL_pass_15 : decode cL_pass 15 = .ok (.astore_n 3, 1) := by decide +kernel
theorem dL_pass_16 : decode cL_pass 16 = .ok (.iconst 2, 1) := by decide +kernel
theorem dL_pass_17 : decode cL_pass 17 = .ok (.ireturn, 1) := by decide +kernel
theorem dL_pass_18 : decode cL_pass 18 = .ok (.iconst 0, 1) := by decide +kernel
theorem dL_pass_19 : decode cL_pass 19 = .ok (.ireturn, 1) := by decide +kernel
theorem dL_board_0 : decode cL_board 0 = .ok (.aload 7, 2) := by decide +kernel
theorem dL_board_2 : decode cL_board 2 = .ok (.iconst 0, 1) := by decide +kernel
theorem dL_board_3 : decode cL_board 3 = .ok (.aload_n 0, 1) := by decide +kernel
theorem dL_board_4 : decode cL_board 4 = .ok (.iload_n 1, 1) := by decide +kernel
theorem dL_board_5 : decode cL_board 5 = .ok (.iload_n 2, 1) := by decide +kernel
theorem dL_board_6 : decode cL_board 6 = .ok (.iload_n 3, 1) := by decide +kernel
theorem dL_board_7 : decode cL_board 7 = .ok (.iload 4, 2) := by decide +kernel
theorem dL_board_9 : decode cL_board 9 = .ok (.iload 5, 2) := by decide +kernel
theorem dL_board_11 : decode cL_board 11 = .ok (.iload 6, 2) := by decide +kernel
theorem dL_board_13 : decode cL_board 13 = .ok (.invokevirtual 23, 3) := by decide +kernel
theorem dL_board_16 : decode cL_board 16 = .ok (.i2l, 1) := by decide +kernel
theorem dL_board_17 : decode cL_board 17 = .ok (.lastore, 1) := by decide +kernel
theorem dL_board_18 : decode cL_board 18 = .ok (.goto 11, 3) := by decide +kernel
theorem dL_board_21 : decode cL_board 21 = .ok (.astore 8, 2) := by decide +kernel
theorem dL_board_23 : decode cL_board 23 = .ok (.iconst 1, 1) := by decide +kernel
theorem dL_board_24 : decode cL_board 24 = .ok (.ireturn, 1) := by decide +kernel
theorem dL_board_25 : decode cL_board 25 = .ok (.astore 8, 2) := by decide +kernel
theorem dL_board_27 : decode cL_board 27 = .ok (.iconst 2, 1) := by decide +kernel
theorem dL_board_28 : decode cL_board 28 = .ok (.ireturn, 1) := by decide +kernel
theorem dL_board_29 : decode cL_board 29 = .ok (.iconst 0, 1) := by decide +kernel
theorem dL_board_30 : decode cL_board 30 = .ok (.ireturn, 1) := by decide +kernel
theorem dL_knot_0 : decode cL_knot 0 = .ok (.aload 4, 2) := by decide +kernel
theorem dL_knot_2 : decode cL_knot 2 = .ok (.iconst 0, 1) := by decide +kernel
theorem dL_knot_3 : decode cL_knot 3 = .ok (.aload_n 0, 1) := by decide +kernel
theorem dL_knot_4 : decode cL_knot 4 = .ok (.iload_n 1, 1) := by decide +kernel
theorem dL_knot_5 : decode cL_knot 5 = .ok (.iload_n 2, 1) := by decide +kernel
theorem dL_knot_6 : decode cL_knot 6 = .ok (.iload_n 3, 1) := by decide +kernel
theorem dL_knot_7 : decode cL_knot 7 = .ok (.invokevirtual 27, 3) := by decide +kernel
theorem dL_knot_10 : decode cL_knot 10 = .ok (.i2l, 1) := by decide +kernel
theorem dL_knot_11 : decode cL_knot 11 = .ok (.lastore, 1) := by decide +kernel
theorem dL_knot_12 : decode cL_knot 12 = .ok (.goto 15, 3) := by decide +kernel
theorem dL_knot_15 : decode cL_knot 15 = .ok (.astore 5, 2) := by decide +kernel
theorem dL_knot_17 : decode cL_knot 17 = .ok (.iconst 1, 1) := by decide +kernel
theorem dL_knot_18 : decode cL_knot 18 = .ok (.ireturn, 1) := by decide +kernel
theorem dL_knot_19 : decode cL_knot 19 = .ok (.astore 5, 2) := by decide +kernel
theorem dL_knot_21 : decode cL_knot 21 = .ok (.iconst 2, 1) := by decide +kernel
theorem dL_knot_22 : decode cL_knot 22 = .ok (.ireturn, 1) := by decide +kernel
theorem dL_knot_23 : decode cL_knot 23 = .ok (.astore 5, 2) := by decide +kernel
theorem dL_knot_25 : decode cL_knot 25 = .ok (.iconst 3, 1) := by decide +kernel
theorem dL_knot_26 : decode cL_knot 26 = .ok (.ireturn, 1) := by decide +kernel
theorem dL_knot_27 : decode cL_knot 27 = .ok (.iconst 0, 1) := by decide +kernel
theorem dL_knot_28 : decode cL_knot 28 = .ok (.ireturn, 1) := by decide +kernel
theorem dL_cut_0 : decode cL_cut 0 = .ok (.aload 6, 2) := by decide +kernel
theorem dL_cut_2 : decode cL_cut 2 = .ok (.iconst 0, 1) := by decide +kernel
theorem dL_cut_3 : decode cL_cut 3 = .ok (.aload_n 0, 1) := by decide +kernel
theorem dL_cut_4 : decode cL_cut 4 = .ok (.iload_n 1, 1) := by decide +kernel
theorem dL_cut_5 : decode cL_cut 5 = .ok (.iload_n 2, 1) := by decide +kernel
theorem dL_cut_6 : decode cL_cut 6 = .ok (.iload_n 3, 1) := by decide +kernel
theorem dL_cut_7 : decode cL_cut 7 = .ok (.iload 4, 2) := by decide +kernel
theorem dL_cut_9 : decode cL_cut 9 = .ok (.iload 5, 2) := by decide +kernel
theorem dL_cut_11 : decode cL_cut 11 = .ok (.invokevirtual 31, 3) := by decide +kernel
theorem dL_cut_14 : decode cL_cut 14 = .ok (.i2l, 1) := by decide +kernel
theorem dL_cut_15 : decode cL_cut 15 = .ok (.lastore, 1) := by decide +kernel
theorem dL_cut_16 : decode cL_cut 16 = .ok (.goto 15, 3) := by decide +kernel
theorem dL_cut_19 : decode cL_cut 19 = .ok (.astore 7, 2) := by decide +kernel
theorem dL_cut_21 : decode cL_cut 21 = .ok (.iconst 1, 1) := by decide +kernel
theorem dL_cut_22 : decode cL_cut 22 = .ok (.ireturn, 1) := by decide +kernel
theorem dL_cut_23 : decode cL_cut 23 = .ok (.astore 7, 2) := by decide +kernel
theorem dL_cut_25 : decode cL_cut 25 = .ok (.iconst 2, 1) := by decide +kernel
theorem dL_cut_26 : decode cL_cut 26 = .ok (.ireturn, 1) := by decide +kernel
theorem dL_cut_27 : decode cL_cut 27 = .ok (.astore 7, 2) := by decide +kernel
theorem dL_cut_29 : decode cL_cut 29 = .ok (.iconst 3, 1) := by decide +kernel
theorem dL_cut_30 : decode cL_cut 30 = .ok (.ireturn, 1) := by decide +kernel
theorem dL_cut_31 : decode cL_cut 31 = .ok (.iconst 0, 1) := by decide +kernel
theorem dL_cut_32 : decode cL_cut 32 = .ok (.ireturn, 1) := by decide +kernel
theorem dL_sharpen_0 : decode cL_sharpen 0 = .ok (.aload_n 2, 1) := by decide +kernel
theorem dL_sharpen_1 : decode cL_sharpen 1 = .ok (.iconst 0, 1) := by decide +kernel
theorem dL_sharpen_2 : decode cL_sharpen 2 = .ok (.aload_n 0, 1) := by decide +kernel
theorem dL_sharpen_3 : decode cL_sharpen 3 = .ok (.iload_n 1, 1) := by decide +kernel
theorem dL_sharpen_4 : decode cL_sharpen 4 = .ok (.invokevirtual 35, 3) := by decide +kernel
theorem dL_sharpen_7 : decode cL_sharpen 7 = .ok (.i2l, 1) := by decide +kernel
theorem dL_sharpen_8 : decode cL_sharpen 8 = .ok (.lastore, 1) := by decide +kernel
theorem dL_sharpen_9 : decode cL_sharpen 9 = .ok (.goto 6, 3) := by decide +kernel
theorem dL_sharpen_12 : decode cL_sharpen 12 = .ok (.astore_n 3, 1) := by decide +kernel
theorem dL_sharpen_13 : decode cL_sharpen 13 = .ok (.iconst 1, 1) := by decide +kernel
theorem dL_sharpen_14 : decode cL_sharpen 14 = .ok (.ireturn, 1) := by decide +kernel
theorem dL_sharpen_15 : decode cL_sharpen 15 = .ok (.iconst 0, 1) := by decide +kernel
theorem dL_sharpen_16 : decode cL_sharpen 16 = .ok (.ireturn, 1) := by decide +kernel
theorem dL_clearFrom_0 : decode cL_clearFrom 0 = .ok (.aload_n 3, 1) := by decide +kernel
theorem dL_clearFrom_1 : decode cL_clearFrom 1 = .ok (.iconst 0, 1) := by decide +kernel
theorem dL_clearFrom_2 : decode cL_clearFrom 2 = .ok (.aload_n 0, 1) := by decide +kernel
theorem dL_clearFrom_3 : decode cL_clearFrom 3 = .ok (.iload_n 1, 1) := by decide +kernel
theorem dL_clearFrom_4 : decode cL_clearFrom 4 = .ok (.iload_n 2, 1) := by decide +kernel
theorem dL_clearFrom_5 : decode cL_clearFrom 5 = .ok (.invokevirtual 38, 3) := by decide +kernel
theorem dL_clearFrom_8 : decode cL_clearFrom 8 = .ok (.i2l, 1) := by decide +kernel
theorem dL_clearFrom_9 : decode cL_clearFrom 9 = .ok (.lastore, 1) := by decide +kernel
theorem dL_clearFrom_10 : decode cL_clearFrom 10 = .ok (.goto 11, 3) := by decide +kernel
theorem dL_clearFrom_13 : decode cL_clearFrom 13 = .ok (.astore 4, 2) := by decide +kernel
theorem dL_clearFrom_15 : decode cL_clearFrom 15 = .ok (.iconst 1, 1) := by decide +kernel
theorem dL_clearFrom_16 : decode cL_clearFrom 16 = .ok (.ireturn, 1) := by decide +kernel
theorem dL_clearFrom_17 : decode cL_clearFrom 17 = .ok (.astore 4, 2) := by decide +kernel
theorem dL_clearFrom_19 : decode cL_clearFrom 19 = .ok (.iconst 2, 1) := by decide +kernel
theorem dL_clearFrom_20 : decode cL_clearFrom 20 = .ok (.ireturn, 1) := by decide +kernel
theorem dL_clearFrom_21 : decode cL_clearFrom 21 = .ok (.iconst 0, 1) := by decide +kernel
theorem dL_clearFrom_22 : decode cL_clearFrom 22 = .ok (.ireturn, 1) := by decide +kernel
theorem dL_coat_0 : decode cL_coat 0 = .ok (.aload_n 2, 1) := by decide +kernel
theorem dL_coat_1 : decode cL_coat 1 = .ok (.iconst 0, 1) := by decide +kernel
theorem dL_coat_2 : decode cL_coat 2 = .ok (.aload_n 0, 1) := by decide +kernel
theorem dL_coat_3 : decode cL_coat 3 = .ok (.iload_n 1, 1) := by decide +kernel
theorem dL_coat_4 : decode cL_coat 4 = .ok (.invokevirtual 41, 3) := by decide +kernel
theorem dL_coat_7 : decode cL_coat 7 = .ok (.i2l, 1) := by decide +kernel
theorem dL_coat_8 : decode cL_coat 8 = .ok (.lastore, 1) := by decide +kernel
theorem dL_coat_9 : decode cL_coat 9 = .ok (.goto 9, 3) := by decide +kernel
theorem dL_coat_12 : decode cL_coat 12 = .ok (.astore_n 3, 1) := by decide +kernel
theorem dL_coat_13 : decode cL_coat 13 = .ok (.iconst 1, 1) := by decide +kernel
theorem dL_coat_14 : decode cL_coat 14 = .ok (.ireturn, 1) := by decide +kernel
theorem dL_coat_15 : decode cL_coat 15 = .ok (.astore_n 3, 1) := by decide +kernel
theorem dL_coat_16 : decode cL_coat 16 = .ok (.iconst 2, 1) := by decide +kernel
theorem dL_coat_17 : decode cL_coat 17 = .ok (.ireturn, 1) := by decide +kernel
theorem dL_coat_18 : decode cL_coat 18 = .ok (.iconst 0, 1) := by decide +kernel
theorem dL_coat_19 : decode cL_coat 19 = .ok (.ireturn, 1) := by decide +kernel
theorem dL_match_0 : decode cL_match 0 = .ok (.aload_n 3, 1) := by decide +kernel
theorem dL_match_1 : decode cL_match 1 = .ok (.iconst 0, 1) := by decide +kernel
theorem dL_match_2 : decode cL_match 2 = .ok (.aload_n 0, 1) := by decide +kernel
theorem dL_match_3 : decode cL_match 3 = .ok (.iload_n 1, 1) := by decide +kernel
theorem dL_match_4 : decode cL_match 4 = .ok (.iload_n 2, 1) := by decide +kernel
theorem dL_match_5 : decode cL_match 5 = .ok (.invokevirtual 44, 3) := by decide +kernel
theorem dL_match_8 : decode cL_match 8 = .ok (.i2l, 1) := by decide +kernel
theorem dL_match_9 : decode cL_match 9 = .ok (.lastore, 1) := by decide +kernel
theorem dL_match_10 : decode cL_match 10 = .ok (.goto 11, 3) := by decide +kernel
theorem dL_match_13 : decode cL_match 13 = .ok (.astore 4, 2) := by decide +kernel
theorem dL_match_15 : decode cL_match 15 = .ok (.iconst 1, 1) := by decide +kernel
theorem dL_match_16 : decode cL_match 16 = .ok (.ireturn, 1) := by decide +kernel
theorem dL_match_17 : decode cL_match 17 = .ok (.astore 4, 2) := by decide +kernel
theorem dL_match_19 : decode cL_match 19 = .ok (.iconst 2, 1) := by decide +kernel
theorem dL_match_20 : decode cL_match 20 = .ok (.ireturn, 1) := by decide +kernel
theorem dL_match_21 : decode cL_match 21 = .ok (.iconst 0, 1) := by decide +kernel
theorem dL_match_22 : decode cL_match 22 = .ok (.ireturn, 1) := by decide +kernel
theorem dL_joint_0 : decode cL_joint 0 = .ok (.aload 6, 2) := by decide +kernel
theorem dL_joint_2 : decode cL_joint 2 = .ok (.iconst 0, 1) := by decide +kernel
theorem dL_joint_3 : decode cL_joint 3 = .ok (.aload_n 0, 1) := by decide +kernel
theorem dL_joint_4 : decode cL_joint 4 = .ok (.iload_n 1, 1) := by decide +kernel
theorem dL_joint_5 : decode cL_joint 5 = .ok (.iload_n 2, 1) := by decide +kernel
theorem dL_joint_6 : decode cL_joint 6 = .ok (.iload_n 3, 1) := by decide +kernel
theorem dL_joint_7 : decode cL_joint 7 = .ok (.iload 4, 2) := by decide +kernel
theorem dL_joint_9 : decode cL_joint 9 = .ok (.iload 5, 2) := by decide +kernel
theorem dL_joint_11 : decode cL_joint 11 = .ok (.invokevirtual 47, 3) := by decide +kernel
theorem dL_joint_14 : decode cL_joint 14 = .ok (.i2l, 1) := by decide +kernel
theorem dL_joint_15 : decode cL_joint 15 = .ok (.lastore, 1) := by decide +kernel
theorem dL_joint_16 : decode cL_joint 16 = .ok (.goto 15, 3) := by decide +kernel
theorem dL_joint_19 : decode cL_joint 19 = .ok (.astore 7, 2) := by decide +kernel
theorem dL_joint_21 : decode cL_joint 21 = .ok (.iconst 1, 1) := by decide +kernel
theorem dL_joint_22 : decode cL_joint 22 = .ok (.ireturn, 1) := by decide +kernel
theorem dL_joint_23 : decode cL_joint 23 = .ok (.astore 7, 2) := by decide +kernel
theorem dL_joint_25 : decode cL_joint 25 = .ok (.iconst 2, 1) := by decide +kernel
theorem dL_joint_26 : decode cL_joint 26 = .ok (.ireturn, 1) := by decide +kernel
theorem dL_joint_27 : decode cL_joint 27 = .ok (.astore 7, 2) := by decide +kernel
theorem dL_joint_29 : decode cL_joint 29 = .ok (.iconst 3, 1) := by decide +kernel
theorem dL_joint_30 : decode cL_joint 30 = .ok (.ireturn, 1) := by decide +kernel
theorem dL_joint_31 : decode cL_joint 31 = .ok (.iconst 0, 1) := by decide +kernel
theorem dL_joint_32 : decode cL_joint 32 = .ok (.ireturn, 1) := by decide +kernel
theorem dL_need_0 : decode cL_need 0 = .ok (.aload_n 3, 1) := by decide +kernel
theorem dL_need_1 : decode cL_need 1 = .ok (.iconst 0, 1) := by decide +kernel
theorem dL_need_2 : decode cL_need 2 = .ok (.aload_n 0, 1) := by decide +kernel
theorem dL_need_3 : decode cL_need 3 = .ok (.iload_n 1, 1) := by decide +kernel
theorem dL_need_4 : decode cL_need 4 = .ok (.iload_n 2, 1) := by decide +kernel
theorem dL_need_5 : decode cL_need 5 = .ok (.invokevirtual 51, 3) := by decide +kernel
theorem dL_need_8 : decode cL_need 8 = .ok (.i2l, 1) := by decide +kernel
theorem dL_need_9 : decode cL_need 9 = .ok (.lastore, 1) := by decide +kernel
theorem dL_need_10 : decode cL_need 10 = .ok (.goto 15, 3) := by decide +kernel
theorem dL_need_13 : decode cL_need 13 = .ok (.astore 4, 2) := by decide +kernel
theorem dL_need_15 : decode cL_need 15 = .ok (.iconst 1, 1) := by decide +kernel
theorem dL_need_16 : decode cL_need 16 = .ok (.ireturn, 1) := by decide +kernel
theorem dL_need_17 : decode cL_need 17 = .ok (.astore 4, 2) := by decide +kernel
theorem dL_need_19 : decode cL_need 19 = .ok (.iconst 2, 1) := by decide +kernel
theorem dL_need_20 : decode cL_need 20 = .ok (.ireturn, 1) := by decide +kernel
theorem dL_need_21 : decode cL_need 21 = .ok (.astore 4, 2) := by decide +kernel
theorem dL_need_23 : decode cL_need 23 = .ok (.iconst 3, 1) := by decide +kernel
theorem dL_need_24 : decode cL_need 24 = .ok (.ireturn, 1) := by decide +kernel
theorem dL_need_25 : decode cL_need 25 = .ok (.iconst 0, 1) := by decide +kernel
theorem dL_need_26 : decode cL_need 26 = .ok (.ireturn, 1) := by decide +kernel
theorem dL_clamps_0 : decode cL_clamps 0 = .ok (.aload_n 2, 1) := by decide +kernel
theorem dL_clamps_1 : decode cL_clamps 1 = .ok (.iconst 0, 1) := by decide +kernel
theorem dL_clamps_2 : decode cL_clamps 2 = .ok (.aload_n 0, 1) := by decide +kernel
theorem dL_clamps_3 : decode cL_clamps 3 = .ok (.iload_n 1, 1) := by decide +kernel
theorem dL_clamps_4 : decode cL_clamps 4 = .ok (.invokevirtual 54, 3) := by decide +kernel
theorem dL_clamps_7 : decode cL_clamps 7 = .ok (.i2l, 1) := by decide +kernel
theorem dL_clamps_8 : decode cL_clamps 8 = .ok (.lastore, 1) := by decide +kernel
theorem dL_clamps_9 : decode cL_clamps 9 = .ok (.goto 6, 3) := by decide +kernel
theorem dL_clamps_12 : decode cL_clamps 12 = .ok (.astore_n 3, 1) := by decide +kernel
theorem dL_clamps_13 : decode cL_clamps 13 = .ok (.iconst 1, 1) := by decide +kernel
theorem dL_clamps_14 : decode cL_clamps 14 = .ok (.ireturn, 1) := by decide +kernel
theorem dL_clamps_15 : decode cL_clamps 15 = .ok (.iconst 0, 1) := by decide +kernel
theorem dL_clamps_16 : decode cL_clamps 16 = .ok (.ireturn, 1) := by decide +kernel
theorem dL_glue_0 : decode cL_glue 0 = .ok (.aload_n 2, 1) := by decide +kernel
theorem dL_glue_1 : decode cL_glue 1 = .ok (.iconst 0, 1) := by decide +kernel
theorem dL_glue_2 : decode cL_glue 2 = .ok (.aload_n 0, 1) := by decide +kernel
theorem dL_glue_3 : decode cL_glue 3 = .ok (.iload_n 1, 1) := by decide +kernel
theorem dL_glue_4 : decode cL_glue 4 = .ok (.invokevirtual 57, 3) := by decide +kernel
theorem dL_glue_7 : decode cL_glue 7 = .ok (.i2l, 1) := by decide +kernel
theorem dL_glue_8 : decode cL_glue 8 = .ok (.lastore, 1) := by decide +kernel
theorem dL_glue_9 : decode cL_glue 9 = .ok (.goto 9, 3) := by decide +kernel
theorem dL_glue_12 : decode cL_glue 12 = .ok (.astore_n 3, 1) := by decide +kernel
theorem dL_glue_13 : decode cL_glue 13 = .ok (.iconst 1, 1) := by decide +kernel
theorem dL_glue_14 : decode cL_glue 14 = .ok (.ireturn, 1) := by decide +kernel
theorem dL_glue_15 : decode cL_glue 15 = .ok (.astore_n 3, 1) := by decide +kernel
theorem dL_glue_16 : decode cL_glue 16 = .ok (.iconst 2, 1) := by decide +kernel
theorem dL_glue_17 : decode cL_glue 17 = .ok (.ireturn, 1) := by decide +kernel
theorem dL_glue_18 : decode cL_glue 18 = .ok (.iconst 0, 1) := by decide +kernel
theorem dL_glue_19 : decode cL_glue 19 = .ok (.ireturn, 1) := by decide +kernel
theorem dL_repair_0 : decode cL_repair 0 = .ok (.aload_n 2, 1) := by decide +kernel
theorem dL_repair_1 : decode cL_repair 1 = .ok (.iconst 0, 1) := by decide +kernel
theorem dL_repair_2 : decode cL_repair 2 = .ok (.aload_n 0, 1) := by decide +kernel
theorem dL_repair_3 : decode cL_repair 3 = .ok (.iload_n 1, 1) := by decide +kernel
theorem dL_repair_4 : decode cL_repair 4 = .ok (.invokevirtual 60, 3) := by decide +kernel
theorem dL_repair_7 : decode cL_repair 7 = .ok (.i2l, 1) := by decide +kernel
theorem dL_repair_8 : decode cL_repair 8 = .ok (.lastore, 1) := by decide +kernel
theorem dL_repair_9 : decode cL_repair 9 = .ok (.goto 9, 3) := by decide +kernel
theorem dL_repair_12 : decode cL_repair 12 = .ok (.astore_n 3, 1) := by decide +kernel
theorem dL_repair_13 : decode cL_repair 13 = .ok (.iconst 1, 1) := by decide +kernel
theorem dL_repair_14 : decode cL_repair 14 = .ok (.ireturn, 1) := by decide +kernel
theorem dL_repair_15 : decode cL_repair 15 = .ok (.astore_n 3, 1) := by decide +kernel
theorem dL_repair_16 : decode cL_repair 16 = .ok (.iconst 2, 1) := by decide +kernel
theorem dL_repair_17 : decode cL_repair 17 = .ok (.ireturn, 1) := by decide +kernel
theorem dL_repair_18 : decode cL_repair 18 = .ok (.iconst 0, 1) := by decide +kernel
theorem dL_repair_19 : decode cL_repair 19 = .ok (.ireturn, 1) := by decide +kernel
theorem dL_through_0 : decode cL_through 0 = .ok (.aload_n 2, 1) := by decide +kernel
theorem dL_through_1 : decode cL_through 1 = .ok (.iconst 0, 1) := by decide +kernel
theorem dL_through_2 : decode cL_through 2 = .ok (.aload_n 0, 1) := by decide +kernel
theorem dL_through_3 : decode cL_through 3 = .ok (.iload_n 1, 1) := by decide +kernel
theorem dL_through_4 : decode cL_through 4 = .ok (.invokevirtual 63, 3) := by decide +kernel
theorem dL_through_7 : decode cL_through 7 = .ok (.i2l, 1) := by decide +kernel
theorem dL_through_8 : decode cL_through 8 = .ok (.lastore, 1) := by decide +kernel
theorem dL_through_9 : decode cL_through 9 = .ok (.goto 6, 3) := by decide +kernel
theorem dL_through_12 : decode cL_through 12 = .ok (.astore_n 3, 1) := by decide +kernel
theorem dL_through_13 : decode cL_through 13 = .ok (.iconst 1, 1) := by decide +kernel
theorem dL_through_14 : decode cL_through 14 = .ok (.ireturn, 1) := by decide +kernel
theorem dL_through_15 : decode cL_through 15 = .ok (.iconst 0, 1) := by decide +kernel
theorem dL_through_16 : decode cL_through 16 = .ok (.ireturn, 1) := by decide +kernel
theorem dL_breaksIn_0 : decode cL_breaksIn 0 = .ok (.aload_n 3, 1) := by decide +kernel
theorem dL_breaksIn_1 : decode cL_breaksIn 1 = .ok (.iconst 0, 1) := by decide +kernel
theorem dL_breaksIn_2 : decode cL_breaksIn 2 = .ok (.aload_n 0, 1) := by decide +kernel
theorem dL_breaksIn_3 : decode cL_breaksIn 3 = .ok (.iload_n 1, 1) := by decide +kernel
theorem dL_breaksIn_4 : decode cL_breaksIn 4 = .ok (.iload_n 2, 1) := by decide +kernel
theorem dL_breaksIn_5 : decode cL_breaksIn 5 = .ok (.invokevirtual 66, 3) := by decide +kernel
theorem dL_breaksIn_8 : decode cL_breaksIn 8 = .ok (.i2l, 1) := by decide +kernel
theorem dL_breaksIn_9 : decode cL_breaksIn 9 = .ok (.lastore, 1) := by decide +kernel
theorem dL_breaksIn_10 : decode cL_breaksIn 10 = .ok (.goto 15, 3) := by decide +kernel
theorem dL_breaksIn_13 : decode cL_breaksIn 13 = .ok (.astore 4, 2) := by decide +kernel
theorem dL_breaksIn_15 : decode cL_breaksIn 15 = .ok (.iconst 1, 1) := by decide +kernel
theorem dL_breaksIn_16 : decode cL_breaksIn 16 = .ok (.ireturn, 1) := by decide +kernel
theorem dL_breaksIn_17 : decode cL_breaksIn 17 = .ok (.astore 4, 2) := by decide +kernel
theorem dL_breaksIn_19 : decode cL_breaksIn 19 = .ok (.iconst 2, 1) := by decide +kernel
theorem dL_breaksIn_20 : decode cL_breaksIn 20 = .ok (.ireturn, 1) := by decide +kernel
theorem dL_breaksIn_21 : decode cL_breaksIn 21 = .ok (.astore 4, 2) := by decide +kernel
theorem dL_breaksIn_23 : decode cL_breaksIn 23 = .ok (.iconst 3, 1) := by decide +kernel
theorem dL_breaksIn_24 : decode cL_breaksIn 24 = .ok (.ireturn, 1) := by decide +kernel
theorem dL_breaksIn_25 : decode cL_breaksIn 25 = .ok (.iconst 0, 1) := by decide +kernel
theorem dL_breaksIn_26 : decode cL_breaksIn 26 = .ok (.ireturn, 1) := by decide +kernel
theorem dL_ofBoard_0 : decode cL_ofBoard 0 = .ok (.aload_n 3, 1) := by decide +kernel
theorem dL_ofBoard_1 : decode cL_ofBoard 1 = .ok (.iconst 0, 1) := by decide +kernel
theorem dL_ofBoard_2 : decode cL_ofBoard 2 = .ok (.aload_n 0, 1) := by decide +kernel
theorem dL_ofBoard_3 : decode cL_ofBoard 3 = .ok (.iload_n 1, 1) := by decide +kernel
theorem dL_ofBoard_4 : decode cL_ofBoard 4 = .ok (.iload_n 2, 1) := by decide +kernel
theorem dL_ofBoard_5 : decode cL_ofBoard 5 = .ok (.invokevirtual 69, 3) := by decide +kernel
theorem dL_ofBoard_8 : decode cL_ofBoard 8 = .ok (.i2l, 1) := by decide +kernel
theorem dL_ofBoard_9 : decode cL_ofBoard 9 = .ok (.lastore, 1) := by decide +kernel
theorem dL_ofBoard_10 : decode cL_ofBoard 10 = .ok (.goto 11, 3) := by decide +kernel
theorem dL_ofBoard_13 : decode cL_ofBoard 13 = .ok (.astore 4, 2) := by decide +kernel
theorem dL_ofBoard_15 : decode cL_ofBoard 15 = .ok (.iconst 1, 1) := by decide +kernel
theorem dL_ofBoard_16 : decode cL_ofBoard 16 = .ok (.ireturn, 1) := by decide +kernel
theorem dL_ofBoard_17 : decode cL_ofBoard 17 = .ok (.astore 4, 2) := by decide +kernel
theorem dL_ofBoard_19 : decode cL_ofBoard 19 = .ok (.iconst 2, 1) := by decide +kernel
theorem dL_ofBoard_20 : decode cL_ofBoard 20 = .ok (.ireturn, 1) := by decide +kernel
theorem dL_ofBoard_21 : decode cL_ofBoard 21 = .ok (.iconst 0, 1) := by decide +kernel
theorem dL_ofBoard_22 : decode cL_ofBoard 22 = .ok (.ireturn, 1) := by decide +kernel
theorem dL_ofPart_0 : decode cL_ofPart 0 = .ok (.aload_n 3, 1) := by decide +kernel
theorem dL_ofPart_1 : decode cL_ofPart 1 = .ok (.iconst 0, 1) := by decide +kernel
theorem dL_ofPart_2 : decode cL_ofPart 2 = .ok (.aload_n 0, 1) := by decide +kernel
theorem dL_ofPart_3 : decode cL_ofPart 3 = .ok (.iload_n 1, 1) := by decide +kernel
theorem dL_ofPart_4 : decode cL_ofPart 4 = .ok (.iload_n 2, 1) := by decide +kernel
theorem dL_ofPart_5 : decode cL_ofPart 5 = .ok (.invokevirtual 72, 3) := by decide +kernel
theorem dL_ofPart_8 : decode cL_ofPart 8 = .ok (.i2l, 1) := by decide +kernel
theorem dL_ofPart_9 : decode cL_ofPart 9 = .ok (.lastore, 1) := by decide +kernel
theorem dL_ofPart_10 : decode cL_ofPart 10 = .ok (.goto 11, 3) := by decide +kernel
theorem dL_ofPart_13 : decode cL_ofPart 13 = .ok (.astore 4, 2) := by decide +kernel
theorem dL_ofPart_15 : decode cL_ofPart 15 = .ok (.iconst 1, 1) := by decide +kernel
theorem dL_ofPart_16 : decode cL_ofPart 16 = .ok (.ireturn, 1) := by decide +kernel
theorem dL_ofPart_17 : decode cL_ofPart 17 = .ok (.astore 4, 2) := by decide +kernel
theorem dL_ofPart_19 : decode cL_ofPart 19 = .ok (.iconst 2, 1) := by decide +kernel
theorem dL_ofPart_20 : decode cL_ofPart 20 = .ok (.ireturn, 1) := by decide +kernel
theorem dL_ofPart_21 : decode cL_ofPart 21 = .ok (.iconst 0, 1) := by decide +kernel
theorem dL_ofPart_22 : decode cL_ofPart 22 = .ok (.ireturn, 1) := by decide +kernel
theorem dL_ofJoint_0 : decode cL_ofJoint 0 = .ok (.aload_n 3, 1) := by decide +kernel
theorem dL_ofJoint_1 : decode cL_ofJoint 1 = .ok (.iconst 0, 1) := by decide +kernel
theorem dL_ofJoint_2 : decode cL_ofJoint 2 = .ok (.aload_n 0, 1) := by decide +kernel
theorem dL_ofJoint_3 : decode cL_ofJoint 3 = .ok (.iload_n 1, 1) := by decide +kernel
theorem dL_ofJoint_4 : decode cL_ofJoint 4 = .ok (.iload_n 2, 1) := by decide +kernel
theorem dL_ofJoint_5 : decode cL_ofJoint 5 = .ok (.invokevirtual 75, 3) := by decide +kernel
theorem dL_ofJoint_8 : decode cL_ofJoint 8 = .ok (.i2l, 1) := by decide +kernel
theorem dL_ofJoint_9 : decode cL_ofJoint 9 = .ok (.lastore, 1) := by decide +kernel
theorem dL_ofJoint_10 : decode cL_ofJoint 10 = .ok (.goto 11, 3) := by decide +kernel
theorem dL_ofJoint_13 : decode cL_ofJoint 13 = .ok (.astore 4, 2) := by decide +kernel
theorem dL_ofJoint_15 : decode cL_ofJoint 15 = .ok (.iconst 1, 1) := by decide +kernel
theorem dL_ofJoint_16 : decode cL_ofJoint 16 = .ok (.ireturn, 1) := by decide +kernel
theorem dL_ofJoint_17 : decode cL_ofJoint 17 = .ok (.astore 4, 2) := by decide +kernel
theorem dL_ofJoint_19 : decode cL_ofJoint 19 = .ok (.iconst 2, 1) := by decide +kernel
theorem dL_ofJoint_20 : decode cL_ofJoint 20 = .ok (.ireturn, 1) := by decide +kernel
theorem dL_ofJoint_21 : decode cL_ofJoint 21 = .ok (.iconst 0, 1) := by decide +kernel
theorem dL_ofJoint_22 : decode cL_ofJoint 22 = .ok (.ireturn, 1) := by decide +kernel
theorem dL_law_0 : decode cL_law 0 = .ok (.new 8, 3) := by decide +kernel
theorem dL_law_3 : decode cL_law 3 = .ok (.dup, 1) := by decide +kernel
theorem dL_law_4 : decode cL_law 4 = .ok (.invokespecial 78, 3) := by decide +kernel
theorem dL_law_7 : decode cL_law 7 = .ok (.astore_n 1, 1) := by decide +kernel
theorem dL_law_8 : decode cL_law 8 = .ok (.new 79, 3) := by decide +kernel
theorem dL_law_11 : decode cL_law 11 = .ok (.dup, 1) := by decide +kernel
theorem dL_law_12 : decode cL_law 12 = .ok (.invokespecial 81, 3) := by decide +kernel
theorem dL_law_15 : decode cL_law 15 = .ok (.astore_n 2, 1) := by decide +kernel
theorem dL_law_16 : decode cL_law 16 = .ok (.iconst 1, 1) := by decide +kernel
theorem dL_law_17 : decode cL_law 17 = .ok (.newarray .long, 2) := by decide +kernel
theorem dL_law_19 : decode cL_law 19 = .ok (.astore_n 3, 1) := by decide +kernel
theorem dL_law_20 : decode cL_law 20 = .ok (.iconst 0, 1) := by decide +kernel
theorem dL_law_21 : decode cL_law 21 = .ok (.istore 4, 2) := by decide +kernel
theorem dL_law_23 : decode cL_law 23 = .ok (.iload 4, 2) := by decide +kernel
theorem dL_law_25 : decode cL_law 25 = .ok (.aload_n 0, 1) := by decide +kernel
theorem dL_law_26 : decode cL_law 26 = .ok (.arraylength, 1) := by decide +kernel
theorem dL_law_27 : decode cL_law 27 = .ok (.bipush 7, 2) := by decide +kernel
theorem dL_law_29 : decode cL_law 29 = .ok (.isub, 1) := by decide +kernel
theorem dL_law_30 : decode cL_law 30 = .ok (.if_icmp .gt 1483, 3) := by decide +kernel
theorem dL_law_33 : decode cL_law 33 = .ok (.aload_n 0, 1) := by decide +kernel
theorem dL_law_34 : decode cL_law 34 = .ok (.iload 4, 2) := by decide +kernel
theorem dL_law_36 : decode cL_law 36 = .ok (.iaload, 1) := by decide +kernel
theorem dL_law_37 : decode cL_law 37 = .ok (.bipush 31, 2) := by decide +kernel
theorem dL_law_39 : decode cL_law 39 = .ok (.iand, 1) := by decide +kernel
theorem dL_law_40 : decode cL_law 40 = .ok (.tableswitch 1467 0 19 #[96, 164, 220, 338, 418, 538, 594, 662, 718, 786, 890, 958, 1014, 1070, 1126, 1182, 1250, 1263, 1331, 1399], 96) := by decide +kernel
theorem dL_law_136 : decode cL_law 136 = .ok (.aload_n 1, 1) := by decide +kernel
theorem dL_law_137 : decode cL_law 137 = .ok (.aload_n 0, 1) := by decide +kernel
theorem dL_law_138 : decode cL_law 138 = .ok (.iload 4, 2) := by decide +kernel
theorem dL_law_140 : decode cL_law 140 = .ok (.iconst 1, 1) := by decide +kernel
theorem dL_law_141 : decode cL_law 141 = .ok (.iadd, 1) := by decide +kernel
theorem dL_law_142 : decode cL_law 142 = .ok (.iaload, 1) := by decide +kernel
theorem dL_law_143 : decode cL_law 143 = .ok (.aload_n 0, 1) := by decide +kernel
theorem dL_law_144 : decode cL_law 144 = .ok (.iload 4, 2) := by decide +kernel
theorem dL_law_146 : decode cL_law 146 = .ok (.iconst 2, 1) := by decide +kernel
theorem dL_law_147 : decode cL_law 147 = .ok (.iadd, 1) := by decide +kernel
theorem dL_law_148 : decode cL_law 148 = .ok (.iaload, 1) := by decide +kernel
theorem dL_law_149 : decode cL_law 149 = .ok (.aload_n 3, 1) := by decide +kernel
theorem dL_law_150 : decode cL_law 150 = .ok (.invokestatic 82, 3) := by decide +kernel
theorem dL_law_153 : decode cL_law 153 = .ok (.istore 5, 2) := by decide +kernel
theorem dL_law_155 : decode cL_law 155 = .ok (.aload_n 2, 1) := by decide +kernel
theorem dL_law_156 : decode cL_law 156 = .ok (.aload_n 0, 1) := by decide +kernel
theorem dL_law_157 : decode cL_law 157 = .ok (.iload 4, 2) := by decide +kernel
theorem dL_law_159 : decode cL_law 159 = .ok (.iconst 1, 1) := by decide +kernel
theorem dL_law_160 : decode cL_law 160 = .ok (.iadd, 1) := by decide +kernel
theorem dL_law_161 : decode cL_law 161 = .ok (.iaload, 1) := by decide +kernel
theorem dL_law_162 : decode cL_law 162 = .ok (.aload_n 0, 1) := by decide +kernel
theorem dL_law_163 : decode cL_law 163 = .ok (.iload 4, 2) := by decide +kernel
theorem dL_law_165 : decode cL_law 165 = .ok (.iconst 2, 1) := by decide +kernel
theorem dL_law_166 : decode cL_law 166 = .ok (.iadd, 1) := by decide +kernel
theorem dL_law_167 : decode cL_law 167 = .ok (.iaload, 1) := by decide +kernel
theorem dL_law_168 : decode cL_law 168 = .ok (.invokevirtual 87, 3) := by decide +kernel
theorem dL_law_171 : decode cL_law 171 = .ok (.istore 6, 2) := by decide +kernel
theorem dL_law_173 : decode cL_law 173 = .ok (.aload_n 2, 1) := by decide +kernel
theorem dL_law_174 : decode cL_law 174 = .ok (.invokevirtual 88, 3) := by decide +kernel
theorem dL_law_177 : decode cL_law 177 = .ok (.iload 5, 2) := by decide +kernel
theorem dL_law_179 : decode cL_law 179 = .ok (.if_icmp .eq 5, 3) := by decide +kernel
theorem dL_law_182 : decode cL_law 182 = .ok (.iconst 0, 1) := by decide +kernel
theorem dL_law_183 : decode cL_law 183 = .ok (.ireturn, 1) := by decide +kernel
theorem dL_law_184 : decode cL_law 184 = .ok (.iload 5, 2) := by decide +kernel
theorem dL_law_186 : decode cL_law 186 = .ok (.ifCond .ne 15, 3) := by decide +kernel
theorem dL_law_189 : decode cL_law 189 = .ok (.aload_n 3, 1) := by decide +kernel
theorem dL_law_190 : decode cL_law 190 = .ok (.iconst 0, 1) := by decide +kernel
theorem dL_law_191 : decode cL_law 191 = .ok (.laload, 1) := by decide +kernel
theorem dL_law_192 : decode cL_law 192 = .ok (.iload 6, 2) := by decide +kernel
theorem dL_law_194 : decode cL_law 194 = .ok (.i2l, 1) := by decide +kernel
theorem dL_law_195 : decode cL_law 195 = .ok (.lcmp, 1) := by decide +kernel
theorem dL_law_196 : decode cL_law 196 = .ok (.ifCond .eq 5, 3) := by decide +kernel
theorem dL_law_199 : decode cL_law 199 = .ok (.iconst 0, 1) := by decide +kernel
theorem dL_law_200 : decode cL_law 200 = .ok (.ireturn, 1) := by decide +kernel
theorem dL_law_201 : decode cL_law 201 = .ok (.goto 1306, 3) := by decide +kernel
theorem dL_law_204 : decode cL_law 204 = .ok (.aload_n 1, 1) := by decide +kernel
theorem dL_law_205 : decode cL_law 205 = .ok (.aload_n 0, 1) := by decide +kernel
theorem dL_law_206 : decode cL_law 206 = .ok (.iload 4, 2) := by decide +kernel
theorem dL_law_208 : decode cL_law 208 = .ok (.iconst 1, 1) := by decide +kernel
theorem dL_law_209 : decode cL_law 209 = .ok (.iadd, 1) := by decide +kernel
theorem dL_law_210 : decode cL_law 210 = .ok (.iaload, 1) := by decide +kernel
theorem dL_law_211 : decode cL_law 211 = .ok (.aload_n 3, 1) := by decide +kernel
theorem dL_law_212 : decode cL_law 212 = .ok (.invokestatic 92, 3) := by decide +kernel
theorem dL_law_215 : decode cL_law 215 = .ok (.istore 5, 2) := by decide +kernel
theorem dL_law_217 : decode cL_law 217 = .ok (.aload_n 2, 1) := by decide +kernel
theorem dL_law_218 : decode cL_law 218 = .ok (.aload_n 0, 1) := by decide +kernel
theorem dL_law_219 : decode cL_law 219 = .ok (.iload 4, 2) := by decide +kernel
theorem dL_law_221 : decode cL_law 221 = .ok (.iconst 1, 1) := by decide +kernel
theorem dL_law_222 : decode cL_law 222 = .ok (.iadd, 1) := by decide +kernel
theorem dL_law_223 : decode cL_law 223 = .ok (.iaload, 1) := by decide +kernel
theorem dL_law_224 : decode cL_law 224 = .ok (.invokevirtual 95, 3) := by decide +kernel
theorem dL_law_227 : decode cL_law 227 = .ok (.istore 6, 2) := by decide +kernel
theorem dL_law_229 : decode cL_law 229 = .ok (.aload_n 2, 1) := by decide +kernel
theorem dL_law_230 : decode cL_law 230 = .ok (.invokevirtual 88, 3) := by decide +kernel
theorem dL_law_233 : decode cL_law 233 = .ok (.iload 5, 2) := by decide +kernel
theorem dL_law_235 : decode cL_law 235 = .ok (.if_icmp .eq 5, 3) := by decide +kernel
theorem dL_law_238 : decode cL_law 238 = .ok (.iconst 0, 1) := by decide +kernel
theorem dL_law_239 : decode cL_law 239 = .ok (.ireturn, 1) := by decide +kernel
theorem dL_law_240 : decode cL_law 240 = .ok (.iload 5, 2) := by decide +kernel
theorem dL_law_242 : decode cL_law 242 = .ok (.ifCond .ne 15, 3) := by decide +kernel
theorem dL_law_245 : decode cL_law 245 = .ok (.aload_n 3, 1) := by decide +kernel
theorem dL_law_246 : decode cL_law 246 = .ok (.iconst 0, 1) := by decide +kernel
theorem dL_law_247 : decode cL_law 247 = .ok (.laload, 1) := by decide +kernel
theorem dL_law_248 : decode cL_law 248 = .ok (.iload 6, 2) := by decide +kernel
theorem dL_law_250 : decode cL_law 250 = .ok (.i2l, 1) := by decide +kernel
theorem dL_law_251 : decode cL_law 251 = .ok (.lcmp, 1) := by decide +kernel
theorem dL_law_252 : decode cL_law 252 = .ok (.ifCond .eq 5, 3) := by decide +kernel
theorem dL_law_255 : decode cL_law 255 = .ok (.iconst 0, 1) := by decide +kernel
theorem dL_law_256 : decode cL_law 256 = .ok (.ireturn, 1) := by decide +kernel
theorem dL_law_257 : decode cL_law 257 = .ok (.goto 1250, 3) := by decide +kernel
theorem dL_law_260 : decode cL_law 260 = .ok (.aload_n 1, 1) := by decide +kernel
theorem dL_law_261 : decode cL_law 261 = .ok (.aload_n 0, 1) := by decide +kernel
theorem dL_law_262 : decode cL_law 262 = .ok (.iload 4, 2) := by decide +kernel
theorem dL_law_264 : decode cL_law 264 = .ok (.iconst 1, 1) := by decide +kernel
theorem dL_law_265 : decode cL_law 265 = .ok (.iadd, 1) := by decide +kernel
theorem dL_law_266 : decode cL_law 266 = .ok (.iaload, 1) := by decide +kernel
theorem dL_law_267 : decode cL_law 267 = .ok (.aload_n 0, 1) := by decide +kernel
theorem dL_law_268 : decode cL_law 268 = .ok (.iload 4, 2) := by decide +kernel
theorem dL_law_270 : decode cL_law 270 = .ok (.iconst 2, 1) := by decide +kernel
theorem dL_law_271 : decode cL_law 271 = .ok (.iadd, 1) := by decide +kernel
theorem dL_law_272 : decode cL_law 272 = .ok (.iaload, 1) := by decide +kernel
theorem dL_law_273 : decode cL_law 273 = .ok (.aload_n 0, 1) := by decide +kernel
theorem dL_law_274 : decode cL_law 274 = .ok (.iload 4, 2) := by decide +kernel
theorem dL_law_276 : decode cL_law 276 = .ok (.iconst 3, 1) := by decide +kernel
theorem dL_law_277 : decode cL_law 277 = .ok (.iadd, 1) := by decide +kernel
theorem dL_law_278 : decode cL_law 278 = .ok (.iaload, 1) := by decide +kernel
theorem dL_law_279 : decode cL_law 279 = .ok (.aload_n 0, 1) := by decide +kernel
theorem dL_law_280 : decode cL_law 280 = .ok (.iload 4, 2) := by decide +kernel
theorem dL_law_282 : decode cL_law 282 = .ok (.iconst 4, 1) := by decide +kernel
theorem dL_law_283 : decode cL_law 283 = .ok (.iadd, 1) := by decide +kernel
theorem dL_law_284 : decode cL_law 284 = .ok (.iaload, 1) := by decide +kernel
theorem dL_law_285 : decode cL_law 285 = .ok (.aload_n 0, 1) := by decide +kernel
theorem dL_law_286 : decode cL_law 286 = .ok (.iload 4, 2) := by decide +kernel
theorem dL_law_288 : decode cL_law 288 = .ok (.iconst 5, 1) := by decide +kernel
theorem dL_law_289 : decode cL_law 289 = .ok (.iadd, 1) := by decide +kernel
theorem dL_law_290 : decode cL_law 290 = .ok (.iaload, 1) := by decide +kernel
theorem dL_law_291 : decode cL_law 291 = .ok (.aload_n 0, 1) := by decide +kernel
theorem dL_law_292 : decode cL_law 292 = .ok (.iload 4, 2) := by decide +kernel
theorem dL_law_294 : decode cL_law 294 = .ok (.bipush 6, 2) := by decide +kernel
theorem dL_law_296 : decode cL_law 296 = .ok (.iadd, 1) := by decide +kernel
theorem dL_law_297 : decode cL_law 297 = .ok (.iaload, 1) := by decide +kernel
theorem dL_law_298 : decode cL_law 298 = .ok (.aload_n 3, 1) := by decide +kernel
theorem dL_law_299 : decode cL_law 299 = .ok (.invokestatic 96, 3) := by decide +kernel
theorem dL_law_302 : decode cL_law 302 = .ok (.istore 5, 2) := by decide +kernel
theorem dL_law_304 : decode cL_law 304 = .ok (.aload_n 2, 1) := by decide +kernel
theorem dL_law_305 : decode cL_law 305 = .ok (.aload_n 0, 1) := by decide +kernel
theorem dL_law_306 : decode cL_law 306 = .ok (.iload 4, 2) := by decide +kernel
theorem dL_law_308 : decode cL_law 308 = .ok (.iconst 1, 1) := by decide +kernel
theorem dL_law_309 : decode cL_law 309 = .ok (.iadd, 1) := by decide +kernel
theorem dL_law_310 : decode cL_law 310 = .ok (.iaload, 1) := by decide +kernel
theorem dL_law_311 : decode cL_law 311 = .ok (.aload_n 0, 1) := by decide +kernel
theorem dL_law_312 : decode cL_law 312 = .ok (.iload 4, 2) := by decide +kernel
theorem dL_law_314 : decode cL_law 314 = .ok (.iconst 2, 1) := by decide +kernel
theorem dL_law_315 : decode cL_law 315 = .ok (.iadd, 1) := by decide +kernel
theorem dL_law_316 : decode cL_law 316 = .ok (.iaload, 1) := by decide +kernel
theorem dL_law_317 : decode cL_law 317 = .ok (.aload_n 0, 1) := by decide +kernel
theorem dL_law_318 : decode cL_law 318 = .ok (.iload 4, 2) := by decide +kernel
theorem dL_law_320 : decode cL_law 320 = .ok (.iconst 3, 1) := by decide +kernel
theorem dL_law_321 : decode cL_law 321 = .ok (.iadd, 1) := by decide +kernel
theorem dL_law_322 : decode cL_law 322 = .ok (.iaload, 1) := by decide +kernel
theorem dL_law_323 : decode cL_law 323 = .ok (.aload_n 0, 1) := by decide +kernel
theorem dL_law_324 : decode cL_law 324 = .ok (.iload 4, 2) := by decide +kernel
theorem dL_law_326 : decode cL_law 326 = .ok (.iconst 4, 1) := by decide +kernel
theorem dL_law_327 : decode cL_law 327 = .ok (.iadd, 1) := by decide +kernel
theorem dL_law_328 : decode cL_law 328 = .ok (.iaload, 1) := by decide +kernel
theorem dL_law_329 : decode cL_law 329 = .ok (.aload_n 0, 1) := by decide +kernel
theorem dL_law_330 : decode cL_law 330 = .ok (.iload 4, 2) := by decide +kernel
theorem dL_law_332 : decode cL_law 332 = .ok (.iconst 5, 1) := by decide +kernel
theorem dL_law_333 : decode cL_law 333 = .ok (.iadd, 1) := by decide +kernel
theorem dL_law_334 : decode cL_law 334 = .ok (.iaload, 1) := by decide +kernel
theorem dL_law_335 : decode cL_law 335 = .ok (.aload_n 0, 1) := by decide +kernel
theorem dL_law_336 : decode cL_law 336 = .ok (.iload 4, 2) := by decide +kernel
theorem dL_law_338 : decode cL_law 338 = .ok (.bipush 6, 2) := by decide +kernel
theorem dL_law_340 : decode cL_law 340 = .ok (.iadd, 1) := by decide +kernel
theorem dL_law_341 : decode cL_law 341 = .ok (.iaload, 1) := by decide +kernel
theorem dL_law_342 : decode cL_law 342 = .ok (.invokevirtual 99, 3) := by decide +kernel
theorem dL_law_345 : decode cL_law 345 = .ok (.istore 6, 2) := by decide +kernel
theorem dL_law_347 : decode cL_law 347 = .ok (.aload_n 2, 1) := by decide +kernel
theorem dL_law_348 : decode cL_law 348 = .ok (.invokevirtual 88, 3) := by decide +kernel
theorem dL_law_351 : decode cL_law 351 = .ok (.iload 5, 2) := by decide +kernel
theorem dL_law_353 : decode cL_law 353 = .ok (.if_icmp .eq 5, 3) := by decide +kernel
theorem dL_law_356 : decode cL_law 356 = .ok (.iconst 0, 1) := by decide +kernel
theorem dL_law_357 : decode cL_law 357 = .ok (.ireturn, 1) := by decide +kernel
theorem dL_law_358 : decode cL_law 358 = .ok (.iload 5, 2) := by decide +kernel
theorem dL_law_360 : decode cL_law 360 = .ok (.ifCond .ne 15, 3) := by decide +kernel
theorem dL_law_363 : decode cL_law 363 = .ok (.aload_n 3, 1) := by decide +kernel
theorem dL_law_364 : decode cL_law 364 = .ok (.iconst 0, 1) := by decide +kernel
theorem dL_law_365 : decode cL_law 365 = .ok (.laload, 1) := by decide +kernel
theorem dL_law_366 : decode cL_law 366 = .ok (.iload 6, 2) := by decide +kernel
theorem dL_law_368 : decode cL_law 368 = .ok (.i2l, 1) := by decide +kernel
theorem dL_law_369 : decode cL_law 369 = .ok (.lcmp, 1) := by decide +kernel
theorem dL_law_370 : decode cL_law 370 = .ok (.ifCond .eq 5, 3) := by decide +kernel
theorem dL_law_373 : decode cL_law 373 = .ok (.iconst 0, 1) := by decide +kernel
theorem dL_law_374 : decode cL_law 374 = .ok (.ireturn, 1) := by decide +kernel
theorem dL_law_375 : decode cL_law 375 = .ok (.goto 1132, 3) := by decide +kernel
theorem dL_law_378 : decode cL_law 378 = .ok (.aload_n 1, 1) := by decide +kernel
theorem dL_law_379 : decode cL_law 379 = .ok (.aload_n 0, 1) := by decide +kernel
theorem dL_law_380 : decode cL_law 380 = .ok (.iload 4, 2) := by decide +kernel
theorem dL_law_382 : decode cL_law 382 = .ok (.iconst 1, 1) := by decide +kernel
theorem dL_law_383 : decode cL_law 383 = .ok (.iadd, 1) := by decide +kernel
theorem dL_law_384 : decode cL_law 384 = .ok (.iaload, 1) := by decide +kernel
theorem dL_law_385 : decode cL_law 385 = .ok (.aload_n 0, 1) := by decide +kernel
theorem dL_law_386 : decode cL_law 386 = .ok (.iload 4, 2) := by decide +kernel
theorem dL_law_388 : decode cL_law 388 = .ok (.iconst 2, 1) := by decide +kernel
theorem dL_law_389 : decode cL_law 389 = .ok (.iadd, 1) := by decide +kernel
theorem dL_law_390 : decode cL_law 390 = .ok (.iaload, 1) := by decide +kernel
theorem dL_law_391 : decode cL_law 391 = .ok (.aload_n 0, 1) := by decide +kernel
theorem dL_law_392 : decode cL_law 392 = .ok (.iload 4, 2) := by decide +kernel
theorem dL_law_394 : decode cL_law 394 = .ok (.iconst 3, 1) := by decide +kernel
theorem dL_law_395 : decode cL_law 395 = .ok (.iadd, 1) := by decide +kernel
theorem dL_law_396 : decode cL_law 396 = .ok (.iaload, 1) := by decide +kernel
theorem dL_law_397 : decode cL_law 397 = .ok (.aload_n 3, 1) := by decide +kernel
theorem dL_law_398 : decode cL_law 398 = .ok (.invokestatic 100, 3) := by decide +kernel
theorem dL_law_401 : decode cL_law 401 = .ok (.istore 5, 2) := by decide +kernel
theorem dL_law_403 : decode cL_law 403 = .ok (.aload_n 2, 1) := by decide +kernel
theorem dL_law_404 : decode cL_law 404 = .ok (.aload_n 0, 1) := by decide +kernel
theorem dL_law_405 : decode cL_law 405 = .ok (.iload 4, 2) := by decide +kernel
theorem dL_law_407 : decode cL_law 407 = .ok (.iconst 1, 1) := by decide +kernel
theorem dL_law_408 : decode cL_law 408 = .ok (.iadd, 1) := by decide +kernel
theorem dL_law_409 : decode cL_law 409 = .ok (.iaload, 1) := by decide +kernel
theorem dL_law_410 : decode cL_law 410 = .ok (.aload_n 0, 1) := by decide +kernel
theorem dL_law_411 : decode cL_law 411 = .ok (.iload 4, 2) := by decide +kernel
theorem dL_law_413 : decode cL_law 413 = .ok (.iconst 2, 1) := by decide +kernel
theorem dL_law_414 : decode cL_law 414 = .ok (.iadd, 1) := by decide +kernel
theorem dL_law_415 : decode cL_law 415 = .ok (.iaload, 1) := by decide +kernel
theorem dL_law_416 : decode cL_law 416 = .ok (.aload_n 0, 1) := by decide +kernel
theorem dL_law_417 : decode cL_law 417 = .ok (.iload 4, 2) := by decide +kernel
theorem dL_law_419 : decode cL_law 419 = .ok (.iconst 3, 1) := by decide +kernel
theorem dL_law_420 : decode cL_law 420 = .ok (.iadd, 1) := by decide +kernel
theorem dL_law_421 : decode cL_law 421 = .ok (.iaload, 1) := by decide +kernel
theorem dL_law_422 : decode cL_law 422 = .ok (.invokevirtual 103, 3) := by decide +kernel
theorem dL_law_425 : decode cL_law 425 = .ok (.istore 6, 2) := by decide +kernel
theorem dL_law_427 : decode cL_law 427 = .ok (.aload_n 2, 1) := by decide +kernel
theorem dL_law_428 : decode cL_law 428 = .ok (.invokevirtual 88, 3) := by decide +kernel
theorem dL_law_431 : decode cL_law 431 = .ok (.iload 5, 2) := by decide +kernel
theorem dL_law_433 : decode cL_law 433 = .ok (.if_icmp .eq 5, 3) := by decide +kernel
theorem dL_law_436 : decode cL_law 436 = .ok (.iconst 0, 1) := by decide +kernel
theorem dL_law_437 : decode cL_law 437 = .ok (.ireturn, 1) := by decide +kernel
theorem dL_law_438 : decode cL_law 438 = .ok (.iload 5, 2) := by decide +kernel
theorem dL_law_440 : decode cL_law 440 = .ok (.ifCond .ne 15, 3) := by decide +kernel
theorem dL_law_443 : decode cL_law 443 = .ok (.aload_n 3, 1) := by decide +kernel
theorem dL_law_444 : decode cL_law 444 = .ok (.iconst 0, 1) := by decide +kernel
theorem dL_law_445 : decode cL_law 445 = .ok (.laload, 1) := by decide +kernel
theorem dL_law_446 : decode cL_law 446 = .ok (.iload 6, 2) := by decide +kernel
theorem dL_law_448 : decode cL_law 448 = .ok (.i2l, 1) := by decide +kernel
theorem dL_law_449 : decode cL_law 449 = .ok (.lcmp, 1) := by decide +kernel
theorem dL_law_450 : decode cL_law 450 = .ok (.ifCond .eq 5, 3) := by decide +kernel
theorem dL_law_453 : decode cL_law 453 = .ok (.iconst 0, 1) := by decide +kernel
theorem dL_law_454 : decode cL_law 454 = .ok (.ireturn, 1) := by decide +kernel
theorem dL_law_455 : decode cL_law 455 = .ok (.goto 1052, 3) := by decide +kernel
theorem dL_law_458 : decode cL_law 458 = .ok (.aload_n 1, 1) := by decide +kernel
theorem dL_law_459 : decode cL_law 459 = .ok (.aload_n 0, 1) := by decide +kernel
theorem dL_law_460 : decode cL_law 460 = .ok (.iload 4, 2) := by decide +kernel
theorem dL_law_462 : decode cL_law 462 = .ok (.iconst 1, 1) := by decide +kernel
theorem dL_law_463 : decode cL_law 463 = .ok (.iadd, 1) := by decide +kernel
theorem dL_law_464 : decode cL_law 464 = .ok (.iaload, 1) := by decide +kernel
theorem dL_law_465 : decode cL_law 465 = .ok (.aload_n 0, 1) := by decide +kernel
theorem dL_law_466 : decode cL_law 466 = .ok (.iload 4, 2) := by decide +kernel
theorem dL_law_468 : decode cL_law 468 = .ok (.iconst 2, 1) := by decide +kernel
theorem dL_law_469 : decode cL_law 469 = .ok (.iadd, 1) := by decide +kernel
theorem dL_law_470 : decode cL_law 470 = .ok (.iaload, 1) := by decide +kernel
theorem dL_law_471 : decode cL_law 471 = .ok (.aload_n 0, 1) := by decide +kernel
theorem dL_law_472 : decode cL_law 472 = .ok (.iload 4, 2) := by decide +kernel
theorem dL_law_474 : decode cL_law 474 = .ok (.iconst 3, 1) := by decide +kernel
theorem dL_law_475 : decode cL_law 475 = .ok (.iadd, 1) := by decide +kernel
theorem dL_law_476 : decode cL_law 476 = .ok (.iaload, 1) := by decide +kernel
theorem dL_law_477 : decode cL_law 477 = .ok (.aload_n 0, 1) := by decide +kernel
theorem dL_law_478 : decode cL_law 478 = .ok (.iload 4, 2) := by decide +kernel
theorem dL_law_480 : decode cL_law 480 = .ok (.iconst 4, 1) := by decide +kernel
theorem dL_law_481 : decode cL_law 481 = .ok (.iadd, 1) := by decide +kernel
theorem dL_law_482 : decode cL_law 482 = .ok (.iaload, 1) := by decide +kernel
theorem dL_law_483 : decode cL_law 483 = .ok (.aload_n 0, 1) := by decide +kernel
theorem dL_law_484 : decode cL_law 484 = .ok (.iload 4, 2) := by decide +kernel
theorem dL_law_486 : decode cL_law 486 = .ok (.iconst 5, 1) := by decide +kernel
theorem dL_law_487 : decode cL_law 487 = .ok (.iadd, 1) := by decide +kernel
theorem dL_law_488 : decode cL_law 488 = .ok (.iaload, 1) := by decide +kernel
theorem dL_law_489 : decode cL_law 489 = .ok (.ifCond .eq 7, 3) := by decide +kernel
theorem dL_law_492 : decode cL_law 492 = .ok (.iconst 1, 1) := by decide +kernel
theorem dL_law_493 : decode cL_law 493 = .ok (.goto 4, 3) := by decide +kernel
theorem dL_law_496 : decode cL_law 496 = .ok (.iconst 0, 1) := by decide +kernel
theorem dL_law_497 : decode cL_law 497 = .ok (.aload_n 3, 1) := by decide +kernel
theorem dL_law_498 : decode cL_law 498 = .ok (.invokestatic 104, 3) := by decide +kernel
theorem dL_law_501 : decode cL_law 501 = .ok (.istore 5, 2) := by decide +kernel
theorem dL_law_503 : decode cL_law 503 = .ok (.aload_n 2, 1) := by decide +kernel
theorem dL_law_504 : decode cL_law 504 = .ok (.aload_n 0, 1) := by decide +kernel
theorem dL_law_505 : decode cL_law 505 = .ok (.iload 4, 2) := by decide +kernel
theorem dL_law_507 : decode cL_law 507 = .ok (.iconst 1, 1) := by decide +kernel
theorem dL_law_508 : decode cL_law 508 = .ok (.iadd, 1) := by decide +kernel
theorem dL_law_509 : decode cL_law 509 = .ok (.iaload, 1) := by decide +kernel
theorem dL_law_510 : decode cL_law 510 = .ok (.aload_n 0, 1) := by decide +kernel
theorem dL_law_511 : decode cL_law 511 = .ok (.iload 4, 2) := by decide +kernel
theorem dL_law_513 : decode cL_law 513 = .ok (.iconst 2, 1) := by decide +kernel
theorem dL_law_514 : decode cL_law 514 = .ok (.iadd, 1) := by decide +kernel
theorem dL_law_515 : decode cL_law 515 = .ok (.iaload, 1) := by decide +kernel
theorem dL_law_516 : decode cL_law 516 = .ok (.aload_n 0, 1) := by decide +kernel
theorem dL_law_517 : decode cL_law 517 = .ok (.iload 4, 2) := by decide +kernel
theorem dL_law_519 : decode cL_law 519 = .ok (.iconst 3, 1) := by decide +kernel
theorem dL_law_520 : decode cL_law 520 = .ok (.iadd, 1) := by decide +kernel
theorem dL_law_521 : decode cL_law 521 = .ok (.iaload, 1) := by decide +kernel
theorem dL_law_522 : decode cL_law 522 = .ok (.aload_n 0, 1) := by decide +kernel
theorem dL_law_523 : decode cL_law 523 = .ok (.iload 4, 2) := by decide +kernel
theorem dL_law_525 : decode cL_law 525 = .ok (.iconst 4, 1) := by decide +kernel
theorem dL_law_526 : decode cL_law 526 = .ok (.iadd, 1) := by decide +kernel
theorem dL_law_527 : decode cL_law 527 = .ok (.iaload, 1) := by decide +kernel
theorem dL_law_528 : decode cL_law 528 = .ok (.aload_n 0, 1) := by decide +kernel
theorem dL_law_529 : decode cL_law 529 = .ok (.iload 4, 2) := by decide +kernel
theorem dL_law_531 : decode cL_law 531 = .ok (.iconst 5, 1) := by decide +kernel
theorem dL_law_532 : decode cL_law 532 = .ok (.iadd, 1) := by decide +kernel
theorem dL_law_533 : decode cL_law 533 = .ok (.iaload, 1) := by decide +kernel
theorem dL_law_534 : decode cL_law 534 = .ok (.ifCond .eq 7, 3) := by decide +kernel
theorem dL_law_537 : decode cL_law 537 = .ok (.iconst 1, 1) := by decide +kernel
theorem dL_law_538 : decode cL_law 538 = .ok (.goto 4, 3) := by decide +kernel
theorem dL_law_541 : decode cL_law 541 = .ok (.iconst 0, 1) := by decide +kernel
theorem dL_law_542 : decode cL_law 542 = .ok (.invokevirtual 107, 3) := by decide +kernel
theorem dL_law_545 : decode cL_law 545 = .ok (.istore 6, 2) := by decide +kernel
theorem dL_law_547 : decode cL_law 547 = .ok (.aload_n 2, 1) := by decide +kernel
theorem dL_law_548 : decode cL_law 548 = .ok (.invokevirtual 88, 3) := by decide +kernel
theorem dL_law_551 : decode cL_law 551 = .ok (.iload 5, 2) := by decide +kernel
theorem dL_law_553 : decode cL_law 553 = .ok (.if_icmp .eq 5, 3) := by decide +kernel
theorem dL_law_556 : decode cL_law 556 = .ok (.iconst 0, 1) := by decide +kernel
theorem dL_law_557 : decode cL_law 557 = .ok (.ireturn, 1) := by decide +kernel
theorem dL_law_558 : decode cL_law 558 = .ok (.iload 5, 2) := by decide +kernel
theorem dL_law_560 : decode cL_law 560 = .ok (.ifCond .ne 15, 3) := by decide +kernel
theorem dL_law_563 : decode cL_law 563 = .ok (.aload_n 3, 1) := by decide +kernel
theorem dL_law_564 : decode cL_law 564 = .ok (.iconst 0, 1) := by decide +kernel
theorem dL_law_565 : decode cL_law 565 = .ok (.laload, 1) := by decide +kernel
theorem dL_law_566 : decode cL_law 566 = .ok (.iload 6, 2) := by decide +kernel
theorem dL_law_568 : decode cL_law 568 = .ok (.i2l, 1) := by decide +kernel
theorem dL_law_569 : decode cL_law 569 = .ok (.lcmp, 1) := by decide +kernel
theorem dL_law_570 : decode cL_law 570 = .ok (.ifCond .eq 5, 3) := by decide +kernel
theorem dL_law_573 : decode cL_law 573 = .ok (.iconst 0, 1) := by decide +kernel
theorem dL_law_574 : decode cL_law 574 = .ok (.ireturn, 1) := by decide +kernel
theorem dL_law_575 : decode cL_law 575 = .ok (.goto 932, 3) := by decide +kernel
theorem dL_law_578 : decode cL_law 578 = .ok (.aload_n 1, 1) := by decide +kernel
theorem dL_law_579 : decode cL_law 579 = .ok (.aload_n 0, 1) := by decide +kernel
theorem dL_law_580 : decode cL_law 580 = .ok (.iload 4, 2) := by decide +kernel
theorem dL_law_582 : decode cL_law 582 = .ok (.iconst 1, 1) := by decide +kernel
theorem dL_law_583 : decode cL_law 583 = .ok (.iadd, 1) := by decide +kernel
theorem dL_law_584 : decode cL_law 584 = .ok (.iaload, 1) := by decide +kernel
theorem dL_law_585 : decode cL_law 585 = .ok (.aload_n 3, 1) := by decide +kernel
theorem dL_law_586 : decode cL_law 586 = .ok (.invokestatic 108, 3) := by decide +kernel
theorem dL_law_589 : decode cL_law 589 = .ok (.istore 5, 2) := by decide +kernel
theorem dL_law_591 : decode cL_law 591 = .ok (.aload_n 2, 1) := by decide +kernel
theorem dL_law_592 : decode cL_law 592 = .ok (.aload_n 0, 1) := by decide +kernel
theorem dL_law_593 : decode cL_law 593 = .ok (.iload 4, 2) := by decide +kernel
theorem dL_law_595 : decode cL_law 595 = .ok (.iconst 1, 1) := by decide +kernel
theorem dL_law_596 : decode cL_law 596 = .ok (.iadd, 1) := by decide +kernel
theorem dL_law_597 : decode cL_law 597 = .ok (.iaload, 1) := by decide +kernel
theorem dL_law_598 : decode cL_law 598 = .ok (.invokevirtual 110, 3) := by decide +kernel
theorem dL_law_601 : decode cL_law 601 = .ok (.istore 6, 2) := by decide +kernel
theorem dL_law_603 : decode cL_law 603 = .ok (.aload_n 2, 1) := by decide +kernel
theorem dL_law_604 : decode cL_law 604 = .ok (.invokevirtual 88, 3) := by decide +kernel
theorem dL_law_607 : decode cL_law 607 = .ok (.iload 5, 2) := by decide +kernel
theorem dL_law_609 : decode cL_law 609 = .ok (.if_icmp .eq 5, 3) := by decide +kernel
theorem dL_law_612 : decode cL_law 612 = .ok (.iconst 0, 1) := by decide +kernel
theorem dL_law_613 : decode cL_law 613 = .ok (.ireturn, 1) := by decide +kernel
theorem dL_law_614 : decode cL_law 614 = .ok (.iload 5, 2) := by decide +kernel
theorem dL_law_616 : decode cL_law 616 = .ok (.ifCond .ne 15, 3) := by decide +kernel
theorem dL_law_619 : decode cL_law 619 = .ok (.aload_n 3, 1) := by decide +kernel
theorem dL_law_620 : decode cL_law 620 = .ok (.iconst 0, 1) := by decide +kernel
theorem dL_law_621 : decode cL_law 621 = .ok (.laload, 1) := by decide +kernel
theorem dL_law_622 : decode cL_law 622 = .ok (.iload 6, 2) := by decide +kernel
theorem dL_law_624 : decode cL_law 624 = .ok (.i2l, 1) := by decide +kernel
theorem dL_law_625 : decode cL_law 625 = .ok (.lcmp, 1) := by decide +kernel
theorem dL_law_626 : decode cL_law 626 = .ok (.ifCond .eq 5, 3) := by decide +kernel
theorem dL_law_629 : decode cL_law 629 = .ok (.iconst 0, 1) := by decide +kernel
theorem dL_law_630 : decode cL_law 630 = .ok (.ireturn, 1) := by decide +kernel
theorem dL_law_631 : decode cL_law 631 = .ok (.goto 876, 3) := by decide +kernel
theorem dL_law_634 : decode cL_law 634 = .ok (.aload_n 1, 1) := by decide +kernel
theorem dL_law_635 : decode cL_law 635 = .ok (.aload_n 0, 1) := by decide +kernel
theorem dL_law_636 : decode cL_law 636 = .ok (.iload 4, 2) := by decide +kernel
theorem dL_law_638 : decode cL_law 638 = .ok (.iconst 1, 1) := by decide +kernel
theorem dL_law_639 : decode cL_law 639 = .ok (.iadd, 1) := by decide +kernel
theorem dL_law_640 : decode cL_law 640 = .ok (.iaload, 1) := by decide +kernel
theorem dL_law_641 : decode cL_law 641 = .ok (.aload_n 0, 1) := by decide +kernel
theorem dL_law_642 : decode cL_law 642 = .ok (.iload 4, 2) := by decide +kernel
theorem dL_law_644 : decode cL_law 644 = .ok (.iconst 2, 1) := by decide +kernel
theorem dL_law_645 : decode cL_law 645 = .ok (.iadd, 1) := by decide +kernel
theorem dL_law_646 : decode cL_law 646 = .ok (.iaload, 1) := by decide +kernel
theorem dL_law_647 : decode cL_law 647 = .ok (.aload_n 3, 1) := by decide +kernel
theorem dL_law_648 : decode cL_law 648 = .ok (.invokestatic 111, 3) := by decide +kernel
theorem dL_law_651 : decode cL_law 651 = .ok (.istore 5, 2) := by decide +kernel
theorem dL_law_653 : decode cL_law 653 = .ok (.aload_n 2, 1) := by decide +kernel
theorem dL_law_654 : decode cL_law 654 = .ok (.aload_n 0, 1) := by decide +kernel
theorem dL_law_655 : decode cL_law 655 = .ok (.iload 4, 2) := by decide +kernel
theorem dL_law_657 : decode cL_law 657 = .ok (.iconst 1, 1) := by decide +kernel
theorem dL_law_658 : decode cL_law 658 = .ok (.iadd, 1) := by decide +kernel
theorem dL_law_659 : decode cL_law 659 = .ok (.iaload, 1) := by decide +kernel
theorem dL_law_660 : decode cL_law 660 = .ok (.aload_n 0, 1) := by decide +kernel
theorem dL_law_661 : decode cL_law 661 = .ok (.iload 4, 2) := by decide +kernel
theorem dL_law_663 : decode cL_law 663 = .ok (.iconst 2, 1) := by decide +kernel
theorem dL_law_664 : decode cL_law 664 = .ok (.iadd, 1) := by decide +kernel
theorem dL_law_665 : decode cL_law 665 = .ok (.iaload, 1) := by decide +kernel
theorem dL_law_666 : decode cL_law 666 = .ok (.invokevirtual 113, 3) := by decide +kernel
theorem dL_law_669 : decode cL_law 669 = .ok (.istore 6, 2) := by decide +kernel
theorem dL_law_671 : decode cL_law 671 = .ok (.aload_n 2, 1) := by decide +kernel
theorem dL_law_672 : decode cL_law 672 = .ok (.invokevirtual 88, 3) := by decide +kernel
theorem dL_law_675 : decode cL_law 675 = .ok (.iload 5, 2) := by decide +kernel
theorem dL_law_677 : decode cL_law 677 = .ok (.if_icmp .eq 5, 3) := by decide +kernel
theorem dL_law_680 : decode cL_law 680 = .ok (.iconst 0, 1) := by decide +kernel
theorem dL_law_681 : decode cL_law 681 = .ok (.ireturn, 1) := by decide +kernel
theorem dL_law_682 : decode cL_law 682 = .ok (.iload 5, 2) := by decide +kernel
theorem dL_law_684 : decode cL_law 684 = .ok (.ifCond .ne 15, 3) := by decide +kernel
theorem dL_law_687 : decode cL_law 687 = .ok (.aload_n 3, 1) := by decide +kernel
theorem dL_law_688 : decode cL_law 688 = .ok (.iconst 0, 1) := by decide +kernel
theorem dL_law_689 : decode cL_law 689 = .ok (.laload, 1) := by decide +kernel
theorem dL_law_690 : decode cL_law 690 = .ok (.iload 6, 2) := by decide +kernel
theorem dL_law_692 : decode cL_law 692 = .ok (.i2l, 1) := by decide +kernel
theorem dL_law_693 : decode cL_law 693 = .ok (.lcmp, 1) := by decide +kernel
theorem dL_law_694 : decode cL_law 694 = .ok (.ifCond .eq 5, 3) := by decide +kernel
theorem dL_law_697 : decode cL_law 697 = .ok (.iconst 0, 1) := by decide +kernel
theorem dL_law_698 : decode cL_law 698 = .ok (.ireturn, 1) := by decide +kernel
theorem dL_law_699 : decode cL_law 699 = .ok (.goto 808, 3) := by decide +kernel
theorem dL_law_702 : decode cL_law 702 = .ok (.aload_n 1, 1) := by decide +kernel
theorem dL_law_703 : decode cL_law 703 = .ok (.aload_n 0, 1) := by decide +kernel
theorem dL_law_704 : decode cL_law 704 = .ok (.iload 4, 2) := by decide +kernel
theorem dL_law_706 : decode cL_law 706 = .ok (.iconst 1, 1) := by decide +kernel
theorem dL_law_707 : decode cL_law 707 = .ok (.iadd, 1) := by decide +kernel
theorem dL_law_708 : decode cL_law 708 = .ok (.iaload, 1) := by decide +kernel
theorem dL_law_709 : decode cL_law 709 = .ok (.aload_n 3, 1) := by decide +kernel
theorem dL_law_710 : decode cL_law 710 = .ok (.invokestatic 114, 3) := by decide +kernel
theorem dL_law_713 : decode cL_law 713 = .ok (.istore 5, 2) := by decide +kernel
theorem dL_law_715 : decode cL_law 715 = .ok (.aload_n 2, 1) := by decide +kernel
theorem dL_law_716 : decode cL_law 716 = .ok (.aload_n 0, 1) := by decide +kernel
theorem dL_law_717 : decode cL_law 717 = .ok (.iload 4, 2) := by decide +kernel
theorem dL_law_719 : decode cL_law 719 = .ok (.iconst 1, 1) := by decide +kernel
theorem dL_law_720 : decode cL_law 720 = .ok (.iadd, 1) := by decide +kernel
theorem dL_law_721 : decode cL_law 721 = .ok (.iaload, 1) := by decide +kernel
theorem dL_law_722 : decode cL_law 722 = .ok (.invokevirtual 116, 3) := by decide +kernel
theorem dL_law_725 : decode cL_law 725 = .ok (.istore 6, 2) := by decide +kernel
theorem dL_law_727 : decode cL_law 727 = .ok (.aload_n 2, 1) := by decide +kernel
theorem dL_law_728 : decode cL_law 728 = .ok (.invokevirtual 88, 3) := by decide +kernel
theorem dL_law_731 : decode cL_law 731 = .ok (.iload 5, 2) := by decide +kernel
theorem dL_law_733 : decode cL_law 733 = .ok (.if_icmp .eq 5, 3) := by decide +kernel
theorem dL_law_736 : decode cL_law 736 = .ok (.iconst 0, 1) := by decide +kernel
theorem dL_law_737 : decode cL_law 737 = .ok (.ireturn, 1) := by decide +kernel
theorem dL_law_738 : decode cL_law 738 = .ok (.iload 5, 2) := by decide +kernel
theorem dL_law_740 : decode cL_law 740 = .ok (.ifCond .ne 15, 3) := by decide +kernel
theorem dL_law_743 : decode cL_law 743 = .ok (.aload_n 3, 1) := by decide +kernel
theorem dL_law_744 : decode cL_law 744 = .ok (.iconst 0, 1) := by decide +kernel
theorem dL_law_745 : decode cL_law 745 = .ok (.laload, 1) := by decide +kernel
theorem dL_law_746 : decode cL_law 746 = .ok (.iload 6, 2) := by decide +kernel
theorem dL_law_748 : decode cL_law 748 = .ok (.i2l, 1) := by decide +kernel
theorem dL_law_749 : decode cL_law 749 = .ok (.lcmp, 1) := by decide +kernel
theorem dL_law_750 : decode cL_law 750 = .ok (.ifCond .eq 5, 3) := by decide +kernel
theorem dL_law_753 : decode cL_law 753 = .ok (.iconst 0, 1) := by decide +kernel
theorem dL_law_754 : decode cL_law 754 = .ok (.ireturn, 1) := by decide +kernel
theorem dL_law_755 : decode cL_law 755 = .ok (.goto 752, 3) := by decide +kernel
theorem dL_law_758 : decode cL_law 758 = .ok (.aload_n 1, 1) := by decide +kernel
theorem dL_law_759 : decode cL_law 759 = .ok (.aload_n 0, 1) := by decide +kernel
theorem dL_law_760 : decode cL_law 760 = .ok (.iload 4, 2) := by decide +kernel
theorem dL_law_762 : decode cL_law 762 = .ok (.iconst 1, 1) := by decide +kernel
theorem dL_law_763 : decode cL_law 763 = .ok (.iadd, 1) := by decide +kernel
theorem dL_law_764 : decode cL_law 764 = .ok (.iaload, 1) := by decide +kernel
theorem dL_law_765 : decode cL_law 765 = .ok (.aload_n 0, 1) := by decide +kernel
theorem dL_law_766 : decode cL_law 766 = .ok (.iload 4, 2) := by decide +kernel
theorem dL_law_768 : decode cL_law 768 = .ok (.iconst 2, 1) := by decide +kernel
theorem dL_law_769 : decode cL_law 769 = .ok (.iadd, 1) := by decide +kernel
theorem dL_law_770 : decode cL_law 770 = .ok (.iaload, 1) := by decide +kernel
theorem dL_law_771 : decode cL_law 771 = .ok (.aload_n 3, 1) := by decide +kernel
theorem dL_law_772 : decode cL_law 772 = .ok (.invokestatic 117, 3) := by decide +kernel
theorem dL_law_775 : decode cL_law 775 = .ok (.istore 5, 2) := by decide +kernel
theorem dL_law_777 : decode cL_law 777 = .ok (.aload_n 2, 1) := by decide +kernel
theorem dL_law_778 : decode cL_law 778 = .ok (.aload_n 0, 1) := by decide +kernel
theorem dL_law_779 : decode cL_law 779 = .ok (.iload 4, 2) := by decide +kernel
theorem dL_law_781 : decode cL_law 781 = .ok (.iconst 1, 1) := by decide +kernel
theorem dL_law_782 : decode cL_law 782 = .ok (.iadd, 1) := by decide +kernel
theorem dL_law_783 : decode cL_law 783 = .ok (.iaload, 1) := by decide +kernel
theorem dL_law_784 : decode cL_law 784 = .ok (.aload_n 0, 1) := by decide +kernel
theorem dL_law_785 : decode cL_law 785 = .ok (.iload 4, 2) := by decide +kernel
theorem dL_law_787 : decode cL_law 787 = .ok (.iconst 2, 1) := by decide +kernel
theorem dL_law_788 : decode cL_law 788 = .ok (.iadd, 1) := by decide +kernel
theorem dL_law_789 : decode cL_law 789 = .ok (.iaload, 1) := by decide +kernel
theorem dL_law_790 : decode cL_law 790 = .ok (.invokevirtual 119, 3) := by decide +kernel
theorem dL_law_793 : decode cL_law 793 = .ok (.istore 6, 2) := by decide +kernel
theorem dL_law_795 : decode cL_law 795 = .ok (.aload_n 2, 1) := by decide +kernel
theorem dL_law_796 : decode cL_law 796 = .ok (.invokevirtual 88, 3) := by decide +kernel
theorem dL_law_799 : decode cL_law 799 = .ok (.iload 5, 2) := by decide +kernel
theorem dL_law_801 : decode cL_law 801 = .ok (.if_icmp .eq 5, 3) := by decide +kernel
theorem dL_law_804 : decode cL_law 804 = .ok (.iconst 0, 1) := by decide +kernel
theorem dL_law_805 : decode cL_law 805 = .ok (.ireturn, 1) := by decide +kernel
theorem dL_law_806 : decode cL_law 806 = .ok (.iload 5, 2) := by decide +kernel
theorem dL_law_808 : decode cL_law 808 = .ok (.ifCond .ne 15, 3) := by decide +kernel
theorem dL_law_811 : decode cL_law 811 = .ok (.aload_n 3, 1) := by decide +kernel
theorem dL_law_812 : decode cL_law 812 = .ok (.iconst 0, 1) := by decide +kernel
theorem dL_law_813 : decode cL_law 813 = .ok (.laload, 1) := by decide +kernel
theorem dL_law_814 : decode cL_law 814 = .ok (.iload 6, 2) := by decide +kernel
theorem dL_law_816 : decode cL_law 816 = .ok (.i2l, 1) := by decide +kernel
theorem dL_law_817 : decode cL_law 817 = .ok (.lcmp, 1) := by decide +kernel
theorem dL_law_818 : decode cL_law 818 = .ok (.ifCond .eq 5, 3) := by decide +kernel
theorem dL_law_821 : decode cL_law 821 = .ok (.iconst 0, 1) := by decide +kernel
theorem dL_law_822 : decode cL_law 822 = .ok (.ireturn, 1) := by decide +kernel
theorem dL_law_823 : decode cL_law 823 = .ok (.goto 684, 3) := by decide +kernel
theorem dL_law_826 : decode cL_law 826 = .ok (.aload_n 1, 1) := by decide +kernel
theorem dL_law_827 : decode cL_law 827 = .ok (.aload_n 0, 1) := by decide +kernel
theorem dL_law_828 : decode cL_law 828 = .ok (.iload 4, 2) := by decide +kernel
theorem dL_law_830 : decode cL_law 830 = .ok (.iconst 1, 1) := by decide +kernel
theorem dL_law_831 : decode cL_law 831 = .ok (.iadd, 1) := by decide +kernel
theorem dL_law_832 : decode cL_law 832 = .ok (.iaload, 1) := by decide +kernel
theorem dL_law_833 : decode cL_law 833 = .ok (.aload_n 0, 1) := by decide +kernel
theorem dL_law_834 : decode cL_law 834 = .ok (.iload 4, 2) := by decide +kernel
theorem dL_law_836 : decode cL_law 836 = .ok (.iconst 2, 1) := by decide +kernel
theorem dL_law_837 : decode cL_law 837 = .ok (.iadd, 1) := by decide +kernel
theorem dL_law_838 : decode cL_law 838 = .ok (.iaload, 1) := by decide +kernel
theorem dL_law_839 : decode cL_law 839 = .ok (.aload_n 0, 1) := by decide +kernel
theorem dL_law_840 : decode cL_law 840 = .ok (.iload 4, 2) := by decide +kernel
theorem dL_law_842 : decode cL_law 842 = .ok (.iconst 3, 1) := by decide +kernel
theorem dL_law_843 : decode cL_law 843 = .ok (.iadd, 1) := by decide +kernel
theorem dL_law_844 : decode cL_law 844 = .ok (.iaload, 1) := by decide +kernel
theorem dL_law_845 : decode cL_law 845 = .ok (.aload_n 0, 1) := by decide +kernel
theorem dL_law_846 : decode cL_law 846 = .ok (.iload 4, 2) := by decide +kernel
theorem dL_law_848 : decode cL_law 848 = .ok (.iconst 4, 1) := by decide +kernel
theorem dL_law_849 : decode cL_law 849 = .ok (.iadd, 1) := by decide +kernel
theorem dL_law_850 : decode cL_law 850 = .ok (.iaload, 1) := by decide +kernel
theorem dL_law_851 : decode cL_law 851 = .ok (.aload_n 0, 1) := by decide +kernel
theorem dL_law_852 : decode cL_law 852 = .ok (.iload 4, 2) := by decide +kernel
theorem dL_law_854 : decode cL_law 854 = .ok (.iconst 5, 1) := by decide +kernel
theorem dL_law_855 : decode cL_law 855 = .ok (.iadd, 1) := by decide +kernel
theorem dL_law_856 : decode cL_law 856 = .ok (.iaload, 1) := by decide +kernel
theorem dL_law_857 : decode cL_law 857 = .ok (.aload_n 3, 1) := by decide +kernel
theorem dL_law_858 : decode cL_law 858 = .ok (.invokestatic 120, 3) := by decide +kernel
theorem dL_law_861 : decode cL_law 861 = .ok (.istore 5, 2) := by decide +kernel
theorem dL_law_863 : decode cL_law 863 = .ok (.aload_n 2, 1) := by decide +kernel
theorem dL_law_864 : decode cL_law 864 = .ok (.aload_n 0, 1) := by decide +kernel
theorem dL_law_865 : decode cL_law 865 = .ok (.iload 4, 2) := by decide +kernel
theorem dL_law_867 : decode cL_law 867 = .ok (.iconst 1, 1) := by decide +kernel
theorem dL_law_868 : decode cL_law 868 = .ok (.iadd, 1) := by decide +kernel
theorem dL_law_869 : decode cL_law 869 = .ok (.iaload, 1) := by decide +kernel
theorem dL_law_870 : decode cL_law 870 = .ok (.aload_n 0, 1) := by decide +kernel
theorem dL_law_871 : decode cL_law 871 = .ok (.iload 4, 2) := by decide +kernel
theorem dL_law_873 : decode cL_law 873 = .ok (.iconst 2, 1) := by decide +kernel
theorem dL_law_874 : decode cL_law 874 = .ok (.iadd, 1) := by decide +kernel
theorem dL_law_875 : decode cL_law 875 = .ok (.iaload, 1) := by decide +kernel
theorem dL_law_876 : decode cL_law 876 = .ok (.aload_n 0, 1) := by decide +kernel
theorem dL_law_877 : decode cL_law 877 = .ok (.iload 4, 2) := by decide +kernel
theorem dL_law_879 : decode cL_law 879 = .ok (.iconst 3, 1) := by decide +kernel
theorem dL_law_880 : decode cL_law 880 = .ok (.iadd, 1) := by decide +kernel
theorem dL_law_881 : decode cL_law 881 = .ok (.iaload, 1) := by decide +kernel
theorem dL_law_882 : decode cL_law 882 = .ok (.aload_n 0, 1) := by decide +kernel
theorem dL_law_883 : decode cL_law 883 = .ok (.iload 4, 2) := by decide +kernel
theorem dL_law_885 : decode cL_law 885 = .ok (.iconst 4, 1) := by decide +kernel
theorem dL_law_886 : decode cL_law 886 = .ok (.iadd, 1) := by decide +kernel
theorem dL_law_887 : decode cL_law 887 = .ok (.iaload, 1) := by decide +kernel
theorem dL_law_888 : decode cL_law 888 = .ok (.aload_n 0, 1) := by decide +kernel
theorem dL_law_889 : decode cL_law 889 = .ok (.iload 4, 2) := by decide +kernel
theorem dL_law_891 : decode cL_law 891 = .ok (.iconst 5, 1) := by decide +kernel
theorem dL_law_892 : decode cL_law 892 = .ok (.iadd, 1) := by decide +kernel
theorem dL_law_893 : decode cL_law 893 = .ok (.iaload, 1) := by decide +kernel
theorem dL_law_894 : decode cL_law 894 = .ok (.invokevirtual 123, 3) := by decide +kernel
theorem dL_law_897 : decode cL_law 897 = .ok (.istore 6, 2) := by decide +kernel
theorem dL_law_899 : decode cL_law 899 = .ok (.aload_n 2, 1) := by decide +kernel
theorem dL_law_900 : decode cL_law 900 = .ok (.invokevirtual 88, 3) := by decide +kernel
theorem dL_law_903 : decode cL_law 903 = .ok (.iload 5, 2) := by decide +kernel
theorem dL_law_905 : decode cL_law 905 = .ok (.if_icmp .eq 5, 3) := by decide +kernel
theorem dL_law_908 : decode cL_law 908 = .ok (.iconst 0, 1) := by decide +kernel
theorem dL_law_909 : decode cL_law 909 = .ok (.ireturn, 1) := by decide +kernel
theorem dL_law_910 : decode cL_law 910 = .ok (.iload 5, 2) := by decide +kernel
theorem dL_law_912 : decode cL_law 912 = .ok (.ifCond .ne 15, 3) := by decide +kernel
theorem dL_law_915 : decode cL_law 915 = .ok (.aload_n 3, 1) := by decide +kernel
theorem dL_law_916 : decode cL_law 916 = .ok (.iconst 0, 1) := by decide +kernel
theorem dL_law_917 : decode cL_law 917 = .ok (.laload, 1) := by decide +kernel
theorem dL_law_918 : decode cL_law 918 = .ok (.iload 6, 2) := by decide +kernel
theorem dL_law_920 : decode cL_law 920 = .ok (.i2l, 1) := by decide +kernel
theorem dL_law_921 : decode cL_law 921 = .ok (.lcmp, 1) := by decide +kernel
theorem dL_law_922 : decode cL_law 922 = .ok (.ifCond .eq 5, 3) := by decide +kernel
theorem dL_law_925 : decode cL_law 925 = .ok (.iconst 0, 1) := by decide +kernel
theorem dL_law_926 : decode cL_law 926 = .ok (.ireturn, 1) := by decide +kernel
theorem dL_law_927 : decode cL_law 927 = .ok (.goto 580, 3) := by decide +kernel
theorem dL_law_930 : decode cL_law 930 = .ok (.aload_n 1, 1) := by decide +kernel
theorem dL_law_931 : decode cL_law 931 = .ok (.aload_n 0, 1) := by decide +kernel
theorem dL_law_932 : decode cL_law 932 = .ok (.iload 4, 2) := by decide +kernel
theorem dL_law_934 : decode cL_law 934 = .ok (.iconst 1, 1) := by decide +kernel
theorem dL_law_935 : decode cL_law 935 = .ok (.iadd, 1) := by decide +kernel
theorem dL_law_936 : decode cL_law 936 = .ok (.iaload, 1) := by decide +kernel
theorem dL_law_937 : decode cL_law 937 = .ok (.aload_n 0, 1) := by decide +kernel
theorem dL_law_938 : decode cL_law 938 = .ok (.iload 4, 2) := by decide +kernel
theorem dL_law_940 : decode cL_law 940 = .ok (.iconst 2, 1) := by decide +kernel
theorem dL_law_941 : decode cL_law 941 = .ok (.iadd, 1) := by decide +kernel
theorem dL_law_942 : decode cL_law 942 = .ok (.iaload, 1) := by decide +kernel
theorem dL_law_943 : decode cL_law 943 = .ok (.aload_n 3, 1) := by decide +kernel
theorem dL_law_944 : decode cL_law 944 = .ok (.invokestatic 124, 3) := by decide +kernel
theorem dL_law_947 : decode cL_law 947 = .ok (.istore 5, 2) := by decide +kernel
theorem dL_law_949 : decode cL_law 949 = .ok (.aload_n 2, 1) := by decide +kernel
theorem dL_law_950 : decode cL_law 950 = .ok (.aload_n 0, 1) := by decide +kernel
theorem dL_law_951 : decode cL_law 951 = .ok (.iload 4, 2) := by decide +kernel
theorem dL_law_953 : decode cL_law 953 = .ok (.iconst 1, 1) := by decide +kernel
theorem dL_law_954 : decode cL_law 954 = .ok (.iadd, 1) := by decide +kernel
theorem dL_law_955 : decode cL_law 955 = .ok (.iaload, 1) := by decide +kernel
theorem dL_law_956 : decode cL_law 956 = .ok (.aload_n 0, 1) := by decide +kernel
theorem dL_law_957 : decode cL_law 957 = .ok (.iload 4, 2) := by decide +kernel
theorem dL_law_959 : decode cL_law 959 = .ok (.iconst 2, 1) := by decide +kernel
theorem dL_law_960 : decode cL_law 960 = .ok (.iadd, 1) := by decide +kernel
theorem dL_law_961 : decode cL_law 961 = .ok (.iaload, 1) := by decide +kernel
theorem dL_law_962 : decode cL_law 962 = .ok (.invokevirtual 126, 3) := by decide +kernel
theorem dL_law_965 : decode cL_law 965 = .ok (.istore 6, 2) := by decide +kernel
theorem dL_law_967 : decode cL_law 967 = .ok (.aload_n 2, 1) := by decide +kernel
theorem dL_law_968 : decode cL_law 968 = .ok (.invokevirtual 88, 3) := by decide +kernel
theorem dL_law_971 : decode cL_law 971 = .ok (.iload 5, 2) := by decide +kernel
theorem dL_law_973 : decode cL_law 973 = .ok (.if_icmp .eq 5, 3) := by decide +kernel
theorem dL_law_976 : decode cL_law 976 = .ok (.iconst 0, 1) := by decide +kernel
theorem dL_law_977 : decode cL_law 977 = .ok (.ireturn, 1) := by decide +kernel
theorem dL_law_978 : decode cL_law 978 = .ok (.iload 5, 2) := by decide +kernel
theorem dL_law_980 : decode cL_law 980 = .ok (.ifCond .ne 15, 3) := by decide +kernel
theorem dL_law_983 : decode cL_law 983 = .ok (.aload_n 3, 1) := by decide +kernel
theorem dL_law_984 : decode cL_law 984 = .ok (.iconst 0, 1) := by decide +kernel
theorem dL_law_985 : decode cL_law 985 = .ok (.laload, 1) := by decide +kernel
theorem dL_law_986 : decode cL_law 986 = .ok (.iload 6, 2) := by decide +kernel
theorem dL_law_988 : decode cL_law 988 = .ok (.i2l, 1) := by decide +kernel
theorem dL_law_989 : decode cL_law 989 = .ok (.lcmp, 1) := by decide +kernel
theorem dL_law_990 : decode cL_law 990 = .ok (.ifCond .eq 5, 3) := by decide +kernel
theorem dL_law_993 : decode cL_law 993 = .ok (.iconst 0, 1) := by decide +kernel
theorem dL_law_994 : decode cL_law 994 = .ok (.ireturn, 1) := by decide +kernel
theorem dL_law_995 : decode cL_law 995 = .ok (.goto 512, 3) := by decide +kernel
theorem dL_law_998 : decode cL_law 998 = .ok (.aload_n 1, 1) := by decide +kernel
theorem dL_law_999 : decode cL_law 999 = .ok (.aload_n 0, 1) := by decide +kernel
theorem dL_law_1000 : decode cL_law 1000 = .ok (.iload 4, 2) := by decide +kernel
theorem dL_law_1002 : decode cL_law 1002 = .ok (.iconst 1, 1) := by decide +kernel
theorem dL_law_1003 : decode cL_law 1003 = .ok (.iadd, 1) := by decide +kernel
theorem dL_law_1004 : decode cL_law 1004 = .ok (.iaload, 1) := by decide +kernel
theorem dL_law_1005 : decode cL_law 1005 = .ok (.aload_n 3, 1) := by decide +kernel
theorem dL_law_1006 : decode cL_law 1006 = .ok (.invokestatic 127, 3) := by decide +kernel
theorem dL_law_1009 : decode cL_law 1009 = .ok (.istore 5, 2) := by decide +kernel
theorem dL_law_1011 : decode cL_law 1011 = .ok (.aload_n 2, 1) := by decide +kernel
theorem dL_law_1012 : decode cL_law 1012 = .ok (.aload_n 0, 1) := by decide +kernel
theorem dL_law_1013 : decode cL_law 1013 = .ok (.iload 4, 2) := by decide +kernel
theorem dL_law_1015 : decode cL_law 1015 = .ok (.iconst 1, 1) := by decide +kernel
theorem dL_law_1016 : decode cL_law 1016 = .ok (.iadd, 1) := by decide +kernel
theorem dL_law_1017 : decode cL_law 1017 = .ok (.iaload, 1) := by decide +kernel
theorem dL_law_1018 : decode cL_law 1018 = .ok (.invokevirtual 129, 3) := by decide +kernel
theorem dL_law_1021 : decode cL_law 1021 = .ok (.istore 6, 2) := by decide +kernel
theorem dL_law_1023 : decode cL_law 1023 = .ok (.aload_n 2, 1) := by decide +kernel
theorem dL_law_1024 : decode cL_law 1024 = .ok (.invokevirtual 88, 3) := by decide +kernel
theorem dL_law_1027 : decode cL_law 1027 = .ok (.iload 5, 2) := by decide +kernel
theorem dL_law_1029 : decode cL_law 1029 = .ok (.if_icmp .eq 5, 3) := by decide +kernel
theorem dL_law_1032 : decode cL_law 1032 = .ok (.iconst 0, 1) := by decide +kernel
theorem dL_law_1033 : decode cL_law 1033 = .ok (.ireturn, 1) := by decide +kernel
theorem dL_law_1034 : decode cL_law 1034 = .ok (.iload 5, 2) := by decide +kernel
theorem dL_law_1036 : decode cL_law 1036 = .ok (.ifCond .ne 15, 3) := by decide +kernel
theorem dL_law_1039 : decode cL_law 1039 = .ok (.aload_n 3, 1) := by decide +kernel
theorem dL_law_1040 : decode cL_law 1040 = .ok (.iconst 0, 1) := by decide +kernel
theorem dL_law_1041 : decode cL_law 1041 = .ok (.laload, 1) := by decide +kernel
theorem dL_law_1042 : decode cL_law 1042 = .ok (.iload 6, 2) := by decide +kernel
theorem dL_law_1044 : decode cL_law 1044 = .ok (.i2l, 1) := by decide +kernel
theorem dL_law_1045 : decode cL_law 1045 = .ok (.lcmp, 1) := by decide +kernel
theorem dL_law_1046 : decode cL_law 1046 = .ok (.ifCond .eq 5, 3) := by decide +kernel
theorem dL_law_1049 : decode cL_law 1049 = .ok (.iconst 0, 1) := by decide +kernel
theorem dL_law_1050 : decode cL_law 1050 = .ok (.ireturn, 1) := by decide +kernel
theorem dL_law_1051 : decode cL_law 1051 = .ok (.goto 456, 3) := by decide +kernel
theorem dL_law_1054 : decode cL_law 1054 = .ok (.aload_n 1, 1) := by decide +kernel
theorem dL_law_1055 : decode cL_law 1055 = .ok (.aload_n 0, 1) := by decide +kernel
theorem dL_law_1056 : decode cL_law 1056 = .ok (.iload 4, 2) := by decide +kernel
theorem dL_law_1058 : decode cL_law 1058 = .ok (.iconst 1, 1) := by decide +kernel
theorem dL_law_1059 : decode cL_law 1059 = .ok (.iadd, 1) := by decide +kernel
theorem dL_law_1060 : decode cL_law 1060 = .ok (.iaload, 1) := by decide +kernel
theorem dL_law_1061 : decode cL_law 1061 = .ok (.aload_n 3, 1) := by decide +kernel
theorem dL_law_1062 : decode cL_law 1062 = .ok (.invokestatic 130, 3) := by decide +kernel
theorem dL_law_1065 : decode cL_law 1065 = .ok (.istore 5, 2) := by decide +kernel
theorem dL_law_1067 : decode cL_law 1067 = .ok (.aload_n 2, 1) := by decide +kernel
theorem dL_law_1068 : decode cL_law 1068 = .ok (.aload_n 0, 1) := by decide +kernel
theorem dL_law_1069 : decode cL_law 1069 = .ok (.iload 4, 2) := by decide +kernel
theorem dL_law_1071 : decode cL_law 1071 = .ok (.iconst 1, 1) := by decide +kernel
theorem dL_law_1072 : decode cL_law 1072 = .ok (.iadd, 1) := by decide +kernel
theorem dL_law_1073 : decode cL_law 1073 = .ok (.iaload, 1) := by decide +kernel
theorem dL_law_1074 : decode cL_law 1074 = .ok (.invokevirtual 132, 3) := by decide +kernel
theorem dL_law_1077 : decode cL_law 1077 = .ok (.istore 6, 2) := by decide +kernel
theorem dL_law_1079 : decode cL_law 1079 = .ok (.aload_n 2, 1) := by decide +kernel
theorem dL_law_1080 : decode cL_law 1080 = .ok (.invokevirtual 88, 3) := by decide +kernel
theorem dL_law_1083 : decode cL_law 1083 = .ok (.iload 5, 2) := by decide +kernel
theorem dL_law_1085 : decode cL_law 1085 = .ok (.if_icmp .eq 5, 3) := by decide +kernel
theorem dL_law_1088 : decode cL_law 1088 = .ok (.iconst 0, 1) := by decide +kernel
theorem dL_law_1089 : decode cL_law 1089 = .ok (.ireturn, 1) := by decide +kernel
theorem dL_law_1090 : decode cL_law 1090 = .ok (.iload 5, 2) := by decide +kernel
theorem dL_law_1092 : decode cL_law 1092 = .ok (.ifCond .ne 15, 3) := by decide +kernel
theorem dL_law_1095 : decode cL_law 1095 = .ok (.aload_n 3, 1) := by decide +kernel
theorem dL_law_1096 : decode cL_law 1096 = .ok (.iconst 0, 1) := by decide +kernel
theorem dL_law_1097 : decode cL_law 1097 = .ok (.laload, 1) := by decide +kernel
theorem dL_law_1098 : decode cL_law 1098 = .ok (.iload 6, 2) := by decide +kernel
theorem dL_law_1100 : decode cL_law 1100 = .ok (.i2l, 1) := by decide +kernel
theorem dL_law_1101 : decode cL_law 1101 = .ok (.lcmp, 1) := by decide +kernel
theorem dL_law_1102 : decode cL_law 1102 = .ok (.ifCond .eq 5, 3) := by decide +kernel
theorem dL_law_1105 : decode cL_law 1105 = .ok (.iconst 0, 1) := by decide +kernel
theorem dL_law_1106 : decode cL_law 1106 = .ok (.ireturn, 1) := by decide +kernel
theorem dL_law_1107 : decode cL_law 1107 = .ok (.goto 400, 3) := by decide +kernel
theorem dL_law_1110 : decode cL_law 1110 = .ok (.aload_n 1, 1) := by decide +kernel
theorem dL_law_1111 : decode cL_law 1111 = .ok (.aload_n 0, 1) := by decide +kernel
theorem dL_law_1112 : decode cL_law 1112 = .ok (.iload 4, 2) := by decide +kernel
theorem dL_law_1114 : decode cL_law 1114 = .ok (.iconst 1, 1) := by decide +kernel
theorem dL_law_1115 : decode cL_law 1115 = .ok (.iadd, 1) := by decide +kernel
theorem dL_law_1116 : decode cL_law 1116 = .ok (.iaload, 1) := by decide +kernel
theorem dL_law_1117 : decode cL_law 1117 = .ok (.aload_n 3, 1) := by decide +kernel
theorem dL_law_1118 : decode cL_law 1118 = .ok (.invokestatic 133, 3) := by decide +kernel
theorem dL_law_1121 : decode cL_law 1121 = .ok (.istore 5, 2) := by decide +kernel
theorem dL_law_1123 : decode cL_law 1123 = .ok (.aload_n 2, 1) := by decide +kernel
theorem dL_law_1124 : decode cL_law 1124 = .ok (.aload_n 0, 1) := by decide +kernel
theorem dL_law_1125 : decode cL_law 1125 = .ok (.iload 4, 2) := by decide +kernel
theorem dL_law_1127 : decode cL_law 1127 = .ok (.iconst 1, 1) := by decide +kernel
theorem dL_law_1128 : decode cL_law 1128 = .ok (.iadd, 1) := by decide +kernel
theorem dL_law_1129 : decode cL_law 1129 = .ok (.iaload, 1) := by decide +kernel
theorem dL_law_1130 : decode cL_law 1130 = .ok (.invokevirtual 135, 3) := by decide +kernel
theorem dL_law_1133 : decode cL_law 1133 = .ok (.istore 6, 2) := by decide +kernel
theorem dL_law_1135 : decode cL_law 1135 = .ok (.aload_n 2, 1) := by decide +kernel
theorem dL_law_1136 : decode cL_law 1136 = .ok (.invokevirtual 88, 3) := by decide +kernel
theorem dL_law_1139 : decode cL_law 1139 = .ok (.iload 5, 2) := by decide +kernel
theorem dL_law_1141 : decode cL_law 1141 = .ok (.if_icmp .eq 5, 3) := by decide +kernel
theorem dL_law_1144 : decode cL_law 1144 = .ok (.iconst 0, 1) := by decide +kernel
theorem dL_law_1145 : decode cL_law 1145 = .ok (.ireturn, 1) := by decide +kernel
theorem dL_law_1146 : decode cL_law 1146 = .ok (.iload 5, 2) := by decide +kernel
theorem dL_law_1148 : decode cL_law 1148 = .ok (.ifCond .ne 15, 3) := by decide +kernel
theorem dL_law_1151 : decode cL_law 1151 = .ok (.aload_n 3, 1) := by decide +kernel
theorem dL_law_1152 : decode cL_law 1152 = .ok (.iconst 0, 1) := by decide +kernel
theorem dL_law_1153 : decode cL_law 1153 = .ok (.laload, 1) := by decide +kernel
theorem dL_law_1154 : decode cL_law 1154 = .ok (.iload 6, 2) := by decide +kernel
theorem dL_law_1156 : decode cL_law 1156 = .ok (.i2l, 1) := by decide +kernel
theorem dL_law_1157 : decode cL_law 1157 = .ok (.lcmp, 1) := by decide +kernel
theorem dL_law_1158 : decode cL_law 1158 = .ok (.ifCond .eq 5, 3) := by decide +kernel
theorem dL_law_1161 : decode cL_law 1161 = .ok (.iconst 0, 1) := by decide +kernel
theorem dL_law_1162 : decode cL_law 1162 = .ok (.ireturn, 1) := by decide +kernel
theorem dL_law_1163 : decode cL_law 1163 = .ok (.goto 344, 3) := by decide +kernel
theorem dL_law_1166 : decode cL_law 1166 = .ok (.aload_n 1, 1) := by decide +kernel
theorem dL_law_1167 : decode cL_law 1167 = .ok (.aload_n 0, 1) := by decide +kernel
theorem dL_law_1168 : decode cL_law 1168 = .ok (.iload 4, 2) := by decide +kernel
theorem dL_law_1170 : decode cL_law 1170 = .ok (.iconst 1, 1) := by decide +kernel
theorem dL_law_1171 : decode cL_law 1171 = .ok (.iadd, 1) := by decide +kernel
theorem dL_law_1172 : decode cL_law 1172 = .ok (.iaload, 1) := by decide +kernel
theorem dL_law_1173 : decode cL_law 1173 = .ok (.aload_n 3, 1) := by decide +kernel
theorem dL_law_1174 : decode cL_law 1174 = .ok (.invokestatic 136, 3) := by decide +kernel
theorem dL_law_1177 : decode cL_law 1177 = .ok (.istore 5, 2) := by decide +kernel
theorem dL_law_1179 : decode cL_law 1179 = .ok (.aload_n 2, 1) := by decide +kernel
theorem dL_law_1180 : decode cL_law 1180 = .ok (.aload_n 0, 1) := by decide +kernel
theorem dL_law_1181 : decode cL_law 1181 = .ok (.iload 4, 2) := by decide +kernel
theorem dL_law_1183 : decode cL_law 1183 = .ok (.iconst 1, 1) := by decide +kernel
theorem dL_law_1184 : decode cL_law 1184 = .ok (.iadd, 1) := by decide +kernel
theorem dL_law_1185 : decode cL_law 1185 = .ok (.iaload, 1) := by decide +kernel
theorem dL_law_1186 : decode cL_law 1186 = .ok (.invokevirtual 138, 3) := by decide +kernel
theorem dL_law_1189 : decode cL_law 1189 = .ok (.istore 6, 2) := by decide +kernel
theorem dL_law_1191 : decode cL_law 1191 = .ok (.aload_n 2, 1) := by decide +kernel
theorem dL_law_1192 : decode cL_law 1192 = .ok (.invokevirtual 88, 3) := by decide +kernel
theorem dL_law_1195 : decode cL_law 1195 = .ok (.iload 5, 2) := by decide +kernel
theorem dL_law_1197 : decode cL_law 1197 = .ok (.if_icmp .eq 5, 3) := by decide +kernel
theorem dL_law_1200 : decode cL_law 1200 = .ok (.iconst 0, 1) := by decide +kernel
theorem dL_law_1201 : decode cL_law 1201 = .ok (.ireturn, 1) := by decide +kernel
theorem dL_law_1202 : decode cL_law 1202 = .ok (.iload 5, 2) := by decide +kernel
theorem dL_law_1204 : decode cL_law 1204 = .ok (.ifCond .ne 15, 3) := by decide +kernel
theorem dL_law_1207 : decode cL_law 1207 = .ok (.aload_n 3, 1) := by decide +kernel
theorem dL_law_1208 : decode cL_law 1208 = .ok (.iconst 0, 1) := by decide +kernel
theorem dL_law_1209 : decode cL_law 1209 = .ok (.laload, 1) := by decide +kernel
theorem dL_law_1210 : decode cL_law 1210 = .ok (.iload 6, 2) := by decide +kernel
theorem dL_law_1212 : decode cL_law 1212 = .ok (.i2l, 1) := by decide +kernel
theorem dL_law_1213 : decode cL_law 1213 = .ok (.lcmp, 1) := by decide +kernel
theorem dL_law_1214 : decode cL_law 1214 = .ok (.ifCond .eq 5, 3) := by decide +kernel
theorem dL_law_1217 : decode cL_law 1217 = .ok (.iconst 0, 1) := by decide +kernel
theorem dL_law_1218 : decode cL_law 1218 = .ok (.ireturn, 1) := by decide +kernel
theorem dL_law_1219 : decode cL_law 1219 = .ok (.goto 288, 3) := by decide +kernel
theorem dL_law_1222 : decode cL_law 1222 = .ok (.aload_n 1, 1) := by decide +kernel
theorem dL_law_1223 : decode cL_law 1223 = .ok (.aload_n 0, 1) := by decide +kernel
theorem dL_law_1224 : decode cL_law 1224 = .ok (.iload 4, 2) := by decide +kernel
theorem dL_law_1226 : decode cL_law 1226 = .ok (.iconst 1, 1) := by decide +kernel
theorem dL_law_1227 : decode cL_law 1227 = .ok (.iadd, 1) := by decide +kernel
theorem dL_law_1228 : decode cL_law 1228 = .ok (.iaload, 1) := by decide +kernel
theorem dL_law_1229 : decode cL_law 1229 = .ok (.aload_n 0, 1) := by decide +kernel
theorem dL_law_1230 : decode cL_law 1230 = .ok (.iload 4, 2) := by decide +kernel
theorem dL_law_1232 : decode cL_law 1232 = .ok (.iconst 2, 1) := by decide +kernel
theorem dL_law_1233 : decode cL_law 1233 = .ok (.iadd, 1) := by decide +kernel
theorem dL_law_1234 : decode cL_law 1234 = .ok (.iaload, 1) := by decide +kernel
theorem dL_law_1235 : decode cL_law 1235 = .ok (.aload_n 3, 1) := by decide +kernel
theorem dL_law_1236 : decode cL_law 1236 = .ok (.invokestatic 139, 3) := by decide +kernel
theorem dL_law_1239 : decode cL_law 1239 = .ok (.istore 5, 2) := by decide +kernel
theorem dL_law_1241 : decode cL_law 1241 = .ok (.aload_n 2, 1) := by decide +kernel
theorem dL_law_1242 : decode cL_law 1242 = .ok (.aload_n 0, 1) := by decide +kernel
theorem dL_law_1243 : decode cL_law 1243 = .ok (.iload 4, 2) := by decide +kernel
theorem dL_law_1245 : decode cL_law 1245 = .ok (.iconst 1, 1) := by decide +kernel
theorem dL_law_1246 : decode cL_law 1246 = .ok (.iadd, 1) := by decide +kernel
theorem dL_law_1247 : decode cL_law 1247 = .ok (.iaload, 1) := by decide +kernel
theorem dL_law_1248 : decode cL_law 1248 = .ok (.aload_n 0, 1) := by decide +kernel
theorem dL_law_1249 : decode cL_law 1249 = .ok (.iload 4, 2) := by decide +kernel
theorem dL_law_1251 : decode cL_law 1251 = .ok (.iconst 2, 1) := by decide +kernel
theorem dL_law_1252 : decode cL_law 1252 = .ok (.iadd, 1) := by decide +kernel
theorem dL_law_1253 : decode cL_law 1253 = .ok (.iaload, 1) := by decide +kernel
theorem dL_law_1254 : decode cL_law 1254 = .ok (.invokevirtual 141, 3) := by decide +kernel
theorem dL_law_1257 : decode cL_law 1257 = .ok (.istore 6, 2) := by decide +kernel
theorem dL_law_1259 : decode cL_law 1259 = .ok (.aload_n 2, 1) := by decide +kernel
theorem dL_law_1260 : decode cL_law 1260 = .ok (.invokevirtual 88, 3) := by decide +kernel
theorem dL_law_1263 : decode cL_law 1263 = .ok (.iload 5, 2) := by decide +kernel
theorem dL_law_1265 : decode cL_law 1265 = .ok (.if_icmp .eq 5, 3) := by decide +kernel
theorem dL_law_1268 : decode cL_law 1268 = .ok (.iconst 0, 1) := by decide +kernel
theorem dL_law_1269 : decode cL_law 1269 = .ok (.ireturn, 1) := by decide +kernel
theorem dL_law_1270 : decode cL_law 1270 = .ok (.iload 5, 2) := by decide +kernel
theorem dL_law_1272 : decode cL_law 1272 = .ok (.ifCond .ne 15, 3) := by decide +kernel
theorem dL_law_1275 : decode cL_law 1275 = .ok (.aload_n 3, 1) := by decide +kernel
theorem dL_law_1276 : decode cL_law 1276 = .ok (.iconst 0, 1) := by decide +kernel
theorem dL_law_1277 : decode cL_law 1277 = .ok (.laload, 1) := by decide +kernel
theorem dL_law_1278 : decode cL_law 1278 = .ok (.iload 6, 2) := by decide +kernel
theorem dL_law_1280 : decode cL_law 1280 = .ok (.i2l, 1) := by decide +kernel
theorem dL_law_1281 : decode cL_law 1281 = .ok (.lcmp, 1) := by decide +kernel
theorem dL_law_1282 : decode cL_law 1282 = .ok (.ifCond .eq 5, 3) := by decide +kernel
theorem dL_law_1285 : decode cL_law 1285 = .ok (.iconst 0, 1) := by decide +kernel
theorem dL_law_1286 : decode cL_law 1286 = .ok (.ireturn, 1) := by decide +kernel
theorem dL_law_1287 : decode cL_law 1287 = .ok (.goto 220, 3) := by decide +kernel
theorem dL_law_1290 : decode cL_law 1290 = .ok (.aload_n 1, 1) := by decide +kernel
theorem dL_law_1291 : decode cL_law 1291 = .ok (.invokevirtual 142, 3) := by decide +kernel
theorem dL_law_1294 : decode cL_law 1294 = .ok (.aload_n 2, 1) := by decide +kernel
theorem dL_law_1295 : decode cL_law 1295 = .ok (.invokevirtual 145, 3) := by decide +kernel
theorem dL_law_1298 : decode cL_law 1298 = .ok (.if_icmp .eq 209, 3) := by decide +kernel
theorem dL_law_1301 : decode cL_law 1301 = .ok (.iconst 0, 1) := by decide +kernel
theorem dL_law_1302 : decode cL_law 1302 = .ok (.ireturn, 1) := by decide +kernel
theorem dL_law_1303 : decode cL_law 1303 = .ok (.aload_n 1, 1) := by decide +kernel
theorem dL_law_1304 : decode cL_law 1304 = .ok (.aload_n 0, 1) := by decide +kernel
theorem dL_law_1305 : decode cL_law 1305 = .ok (.iload 4, 2) := by decide +kernel
theorem dL_law_1307 : decode cL_law 1307 = .ok (.iconst 1, 1) := by decide +kernel
theorem dL_law_1308 : decode cL_law 1308 = .ok (.iadd, 1) := by decide +kernel
theorem dL_law_1309 : decode cL_law 1309 = .ok (.iaload, 1) := by decide +kernel
theorem dL_law_1310 : decode cL_law 1310 = .ok (.aload_n 0, 1) := by decide +kernel
theorem dL_law_1311 : decode cL_law 1311 = .ok (.iload 4, 2) := by decide +kernel
theorem dL_law_1313 : decode cL_law 1313 = .ok (.iconst 2, 1) := by decide +kernel
theorem dL_law_1314 : decode cL_law 1314 = .ok (.iadd, 1) := by decide +kernel
theorem dL_law_1315 : decode cL_law 1315 = .ok (.iaload, 1) := by decide +kernel
theorem dL_law_1316 : decode cL_law 1316 = .ok (.aload_n 3, 1) := by decide +kernel
theorem dL_law_1317 : decode cL_law 1317 = .ok (.invokestatic 146, 3) := by decide +kernel
theorem dL_law_1320 : decode cL_law 1320 = .ok (.istore 5, 2) := by decide +kernel
theorem dL_law_1322 : decode cL_law 1322 = .ok (.aload_n 2, 1) := by decide +kernel
theorem dL_law_1323 : decode cL_law 1323 = .ok (.aload_n 0, 1) := by decide +kernel
theorem dL_law_1324 : decode cL_law 1324 = .ok (.iload 4, 2) := by decide +kernel
theorem dL_law_1326 : decode cL_law 1326 = .ok (.iconst 1, 1) := by decide +kernel
theorem dL_law_1327 : decode cL_law 1327 = .ok (.iadd, 1) := by decide +kernel
theorem dL_law_1328 : decode cL_law 1328 = .ok (.iaload, 1) := by decide +kernel
theorem dL_law_1329 : decode cL_law 1329 = .ok (.aload_n 0, 1) := by decide +kernel
theorem dL_law_1330 : decode cL_law 1330 = .ok (.iload 4, 2) := by decide +kernel
theorem dL_law_1332 : decode cL_law 1332 = .ok (.iconst 2, 1) := by decide +kernel
theorem dL_law_1333 : decode cL_law 1333 = .ok (.iadd, 1) := by decide +kernel
theorem dL_law_1334 : decode cL_law 1334 = .ok (.iaload, 1) := by decide +kernel
theorem dL_law_1335 : decode cL_law 1335 = .ok (.invokevirtual 148, 3) := by decide +kernel
theorem dL_law_1338 : decode cL_law 1338 = .ok (.istore 6, 2) := by decide +kernel
theorem dL_law_1340 : decode cL_law 1340 = .ok (.aload_n 2, 1) := by decide +kernel
theorem dL_law_1341 : decode cL_law 1341 = .ok (.invokevirtual 88, 3) := by decide +kernel
theorem dL_law_1344 : decode cL_law 1344 = .ok (.iload 5, 2) := by decide +kernel
theorem dL_law_1346 : decode cL_law 1346 = .ok (.if_icmp .eq 5, 3) := by decide +kernel
theorem dL_law_1349 : decode cL_law 1349 = .ok (.iconst 0, 1) := by decide +kernel
theorem dL_law_1350 : decode cL_law 1350 = .ok (.ireturn, 1) := by decide +kernel
theorem dL_law_1351 : decode cL_law 1351 = .ok (.iload 5, 2) := by decide +kernel
theorem dL_law_1353 : decode cL_law 1353 = .ok (.ifCond .ne 15, 3) := by decide +kernel
theorem dL_law_1356 : decode cL_law 1356 = .ok (.aload_n 3, 1) := by decide +kernel
theorem dL_law_1357 : decode cL_law 1357 = .ok (.iconst 0, 1) := by decide +kernel
theorem dL_law_1358 : decode cL_law 1358 = .ok (.laload, 1) := by decide +kernel
theorem dL_law_1359 : decode cL_law 1359 = .ok (.iload 6, 2) := by decide +kernel
theorem dL_law_1361 : decode cL_law 1361 = .ok (.i2l, 1) := by decide +kernel
theorem dL_law_1362 : decode cL_law 1362 = .ok (.lcmp, 1) := by decide +kernel
theorem dL_law_1363 : decode cL_law 1363 = .ok (.ifCond .eq 5, 3) := by decide +kernel
theorem dL_law_1366 : decode cL_law 1366 = .ok (.iconst 0, 1) := by decide +kernel
theorem dL_law_1367 : decode cL_law 1367 = .ok (.ireturn, 1) := by decide +kernel
theorem dL_law_1368 : decode cL_law 1368 = .ok (.goto 139, 3) := by decide +kernel
theorem dL_law_1371 : decode cL_law 1371 = .ok (.aload_n 1, 1) := by decide +kernel
theorem dL_law_1372 : decode cL_law 1372 = .ok (.aload_n 0, 1) := by decide +kernel
theorem dL_law_1373 : decode cL_law 1373 = .ok (.iload 4, 2) := by decide +kernel
theorem dL_law_1375 : decode cL_law 1375 = .ok (.iconst 1, 1) := by decide +kernel
theorem dL_law_1376 : decode cL_law 1376 = .ok (.iadd, 1) := by decide +kernel
theorem dL_law_1377 : decode cL_law 1377 = .ok (.iaload, 1) := by decide +kernel
theorem dL_law_1378 : decode cL_law 1378 = .ok (.aload_n 0, 1) := by decide +kernel
theorem dL_law_1379 : decode cL_law 1379 = .ok (.iload 4, 2) := by decide +kernel
theorem dL_law_1381 : decode cL_law 1381 = .ok (.iconst 2, 1) := by decide +kernel
theorem dL_law_1382 : decode cL_law 1382 = .ok (.iadd, 1) := by decide +kernel
theorem dL_law_1383 : decode cL_law 1383 = .ok (.iaload, 1) := by decide +kernel
theorem dL_law_1384 : decode cL_law 1384 = .ok (.aload_n 3, 1) := by decide +kernel
theorem dL_law_1385 : decode cL_law 1385 = .ok (.invokestatic 149, 3) := by decide +kernel
theorem dL_law_1388 : decode cL_law 1388 = .ok (.istore 5, 2) := by decide +kernel
theorem dL_law_1390 : decode cL_law 1390 = .ok (.aload_n 2, 1) := by decide +kernel
theorem dL_law_1391 : decode cL_law 1391 = .ok (.aload_n 0, 1) := by decide +kernel
theorem dL_law_1392 : decode cL_law 1392 = .ok (.iload 4, 2) := by decide +kernel
theorem dL_law_1394 : decode cL_law 1394 = .ok (.iconst 1, 1) := by decide +kernel
theorem dL_law_1395 : decode cL_law 1395 = .ok (.iadd, 1) := by decide +kernel
theorem dL_law_1396 : decode cL_law 1396 = .ok (.iaload, 1) := by decide +kernel
theorem dL_law_1397 : decode cL_law 1397 = .ok (.aload_n 0, 1) := by decide +kernel
theorem dL_law_1398 : decode cL_law 1398 = .ok (.iload 4, 2) := by decide +kernel
theorem dL_law_1400 : decode cL_law 1400 = .ok (.iconst 2, 1) := by decide +kernel
theorem dL_law_1401 : decode cL_law 1401 = .ok (.iadd, 1) := by decide +kernel
theorem dL_law_1402 : decode cL_law 1402 = .ok (.iaload, 1) := by decide +kernel
theorem dL_law_1403 : decode cL_law 1403 = .ok (.invokevirtual 151, 3) := by decide +kernel
theorem dL_law_1406 : decode cL_law 1406 = .ok (.istore 6, 2) := by decide +kernel
theorem dL_law_1408 : decode cL_law 1408 = .ok (.aload_n 2, 1) := by decide +kernel
theorem dL_law_1409 : decode cL_law 1409 = .ok (.invokevirtual 88, 3) := by decide +kernel
theorem dL_law_1412 : decode cL_law 1412 = .ok (.iload 5, 2) := by decide +kernel
theorem dL_law_1414 : decode cL_law 1414 = .ok (.if_icmp .eq 5, 3) := by decide +kernel
theorem dL_law_1417 : decode cL_law 1417 = .ok (.iconst 0, 1) := by decide +kernel
theorem dL_law_1418 : decode cL_law 1418 = .ok (.ireturn, 1) := by decide +kernel
theorem dL_law_1419 : decode cL_law 1419 = .ok (.iload 5, 2) := by decide +kernel
theorem dL_law_1421 : decode cL_law 1421 = .ok (.ifCond .ne 15, 3) := by decide +kernel
theorem dL_law_1424 : decode cL_law 1424 = .ok (.aload_n 3, 1) := by decide +kernel
theorem dL_law_1425 : decode cL_law 1425 = .ok (.iconst 0, 1) := by decide +kernel
theorem dL_law_1426 : decode cL_law 1426 = .ok (.laload, 1) := by decide +kernel
theorem dL_law_1427 : decode cL_law 1427 = .ok (.iload 6, 2) := by decide +kernel
theorem dL_law_1429 : decode cL_law 1429 = .ok (.i2l, 1) := by decide +kernel
theorem dL_law_1430 : decode cL_law 1430 = .ok (.lcmp, 1) := by decide +kernel
theorem dL_law_1431 : decode cL_law 1431 = .ok (.ifCond .eq 5, 3) := by decide +kernel
theorem dL_law_1434 : decode cL_law 1434 = .ok (.iconst 0, 1) := by decide +kernel
theorem dL_law_1435 : decode cL_law 1435 = .ok (.ireturn, 1) := by decide +kernel
theorem dL_law_1436 : decode cL_law 1436 = .ok (.goto 71, 3) := by decide +kernel
theorem dL_law_1439 : decode cL_law 1439 = .ok (.aload_n 1, 1) := by decide +kernel
theorem dL_law_1440 : decode cL_law 1440 = .ok (.aload_n 0, 1) := by decide +kernel
theorem dL_law_1441 : decode cL_law 1441 = .ok (.iload 4, 2) := by decide +kernel
theorem dL_law_1443 : decode cL_law 1443 = .ok (.iconst 1, 1) := by decide +kernel
theorem dL_law_1444 : decode cL_law 1444 = .ok (.iadd, 1) := by decide +kernel
theorem dL_law_1445 : decode cL_law 1445 = .ok (.iaload, 1) := by decide +kernel
theorem dL_law_1446 : decode cL_law 1446 = .ok (.aload_n 0, 1) := by decide +kernel
theorem dL_law_1447 : decode cL_law 1447 = .ok (.iload 4, 2) := by decide +kernel
theorem dL_law_1449 : decode cL_law 1449 = .ok (.iconst 2, 1) := by decide +kernel
theorem dL_law_1450 : decode cL_law 1450 = .ok (.iadd, 1) := by decide +kernel
theorem dL_law_1451 : decode cL_law 1451 = .ok (.iaload, 1) := by decide +kernel
theorem dL_law_1452 : decode cL_law 1452 = .ok (.aload_n 3, 1) := by decide +kernel
theorem dL_law_1453 : decode cL_law 1453 = .ok (.invokestatic 152, 3) := by decide +kernel
theorem dL_law_1456 : decode cL_law 1456 = .ok (.istore 5, 2) := by decide +kernel
theorem dL_law_1458 : decode cL_law 1458 = .ok (.aload_n 2, 1) := by decide +kernel
theorem dL_law_1459 : decode cL_law 1459 = .ok (.aload_n 0, 1) := by decide +kernel
theorem dL_law_1460 : decode cL_law 1460 = .ok (.iload 4, 2) := by decide +kernel
theorem dL_law_1462 : decode cL_law 1462 = .ok (.iconst 1, 1) := by decide +kernel
theorem dL_law_1463 : decode cL_law 1463 = .ok (.iadd, 1) := by decide +kernel
theorem dL_law_1464 : decode cL_law 1464 = .ok (.iaload, 1) := by decide +kernel
theorem dL_law_1465 : decode cL_law 1465 = .ok (.aload_n 0, 1) := by decide +kernel
theorem dL_law_1466 : decode cL_law 1466 = .ok (.iload 4, 2) := by decide +kernel
theorem dL_law_1468 : decode cL_law 1468 = .ok (.iconst 2, 1) := by decide +kernel
theorem dL_law_1469 : decode cL_law 1469 = .ok (.iadd, 1) := by decide +kernel
theorem dL_law_1470 : decode cL_law 1470 = .ok (.iaload, 1) := by decide +kernel
theorem dL_law_1471 : decode cL_law 1471 = .ok (.invokevirtual 154, 3) := by decide +kernel
theorem dL_law_1474 : decode cL_law 1474 = .ok (.istore 6, 2) := by decide +kernel
theorem dL_law_1476 : decode cL_law 1476 = .ok (.aload_n 2, 1) := by decide +kernel
theorem dL_law_1477 : decode cL_law 1477 = .ok (.invokevirtual 88, 3) := by decide +kernel
theorem dL_law_1480 : decode cL_law 1480 = .ok (.iload 5, 2) := by decide +kernel
theorem dL_law_1482 : decode cL_law 1482 = .ok (.if_icmp .eq 5, 3) := by decide +kernel
theorem dL_law_1485 : decode cL_law 1485 = .ok (.iconst 0, 1) := by decide +kernel
theorem dL_law_1486 : decode cL_law 1486 = .ok (.ireturn, 1) := by decide +kernel
theorem dL_law_1487 : decode cL_law 1487 = .ok (.iload 5, 2) := by decide +kernel
theorem dL_law_1489 : decode cL_law 1489 = .ok (.ifCond .ne 15, 3) := by decide +kernel
theorem dL_law_1492 : decode cL_law 1492 = .ok (.aload_n 3, 1) := by decide +kernel
theorem dL_law_1493 : decode cL_law 1493 = .ok (.iconst 0, 1) := by decide +kernel
theorem dL_law_1494 : decode cL_law 1494 = .ok (.laload, 1) := by decide +kernel
theorem dL_law_1495 : decode cL_law 1495 = .ok (.iload 6, 2) := by decide +kernel
theorem dL_law_1497 : decode cL_law 1497 = .ok (.i2l, 1) := by decide +kernel
theorem dL_law_1498 : decode cL_law 1498 = .ok (.lcmp, 1) := by decide +kernel
theorem dL_law_1499 : decode cL_law 1499 = .ok (.ifCond .eq 5, 3) := by decide +kernel
theorem dL_law_1502 : decode cL_law 1502 = .ok (.iconst 0, 1) := by decide +kernel
theorem dL_law_1503 : decode cL_law 1503 = .ok (.ireturn, 1) := by decide +kernel
theorem dL_law_1504 : decode cL_law 1504 = .ok (.goto 3, 3) := by decide +kernel
theorem dL_law_1507 : decode cL_law 1507 = .ok (.iinc 4 7, 3) := by decide +kernel
theorem dL_law_1510 : decode cL_law 1510 = .ok (.goto (-1487), 3) := by decide +kernel
theorem dL_law_1513 : decode cL_law 1513 = .ok (.iconst 1, 1) := by decide +kernel
theorem dL_law_1514 : decode cL_law 1514 = .ok (.ireturn, 1) := by decide +kernel
end
section
/-! ===== state words: what the two systems' cells hold ===== -/
abbrev GS : Type := Nat → Nat → Int32
def gup (g : GS) (k i : Nat) (v : Int32) : GS := fun a b => if a = k ∧ b = i then v else g a b
theorem gup_s {g : GS} {k i : Nat} {v : Int32} : gup g k i v k i = v := by simp [gup]
theorem gup_k {g : GS} {k i a b : Nat} {v : Int32} (h : a ≠ k) : gup g k i v a b = g a b := by simp [gup, h]
theorem gup_i {g : GS} {k i a b : Nat} {v : Int32} (h : b ≠ i) : gup g k i v a b = g a b := by simp [gup, h]
def bI (b : Bool) : Int32 := if b then 1 else 0
theorem bI_ne {b : Bool} (h : ¬ bI b = 0) : b = true := by cases b <;> simp_all [bI]
theorem bI_eq {b : Bool} (h : bI b = 0) : b = false := by cases b <;> simp_all [bI]
def anyN : Nat → (Nat → Bool) → Bool
  | 0, _ => false
  | n + 1, f => anyN n f || f n
theorem anyN_iff {n : Nat} {f : Nat → Bool} : anyN n f = true ↔ ∃ i, i < n ∧ f i = true := by
  induction n with
  | zero => simp [anyN]
  | succ n ih =>
    simp only [anyN, Bool.or_eq_true, ih]
    constructor
    · rintro (⟨i, h1, h2⟩ | h)
      · exact ⟨i, by omega, h2⟩
      · exact ⟨n, by omega, h⟩
    · rintro ⟨i, h1, h2⟩
      rcases Nat.lt_or_ge i n with h | h
      · exact Or.inl ⟨i, h, h2⟩
      · have : i = n := by omega
        subst this
        exact Or.inr h2
/-- the fixed things of a run: classes and slots; the array classes; the empty list's array; where the law's own cells begin -/
abbrev ZE : Type := va_G × (ClassId × ClassId × ClassId × ClassId) × Nat × Nat
abbrev zD (z : ZE) : va_G := z.1
abbrev zI (z : ZE) : ClassId := z.2.1.1
abbrev zZ (z : ZE) : ClassId := z.2.1.2.1
abbrev zL (z : ZE) : ClassId := z.2.1.2.2.1
abbrev zO (z : ZE) : ClassId := z.2.1.2.2.2
abbrev zd (z : ZE) : Nat := z.2.2.1
abbrev zB (z : ZE) : Nat := z.2.2.2
def zA (z : ZE) : Nat → Prop := fun q => zB z ≤ q
abbrev tysZ (z : ZE) : List (ClassId × FieldType) := [(zI z, .int), (zZ z, .boolean), (zL z, .long), (zO z, .object "java/lang/Object")]
abbrev cI (c : ClassId) (n : Nat) (f : Nat → Int32) : va_E := .inl (c, n, .inl f)
abbrev cL (c : ClassId) (n : Nat) (f : Nat → Int64) : va_E := .inl (c, n, .inr (.inl f))
abbrev cQ (c : ClassId) (n : Nat) (f : Nat → Option Nat) : va_E := .inl (c, n, .inr (.inr (.inr (.inr f))))
/-- counts -/
def nb (g : GS) : Nat := (g 5 0).toNatClampNeg
def np (g : GS) : Nat := (g 16 0).toNatClampNeg
def nj (g : GS) : Nat := (g 24 0).toNatClampNeg
def kn (g : GS) (b : Nat) : Nat := (g 13 b).toNatClampNeg
def pb (g : GS) (p : Nat) : Nat := (g 17 p).toNatClampNeg
def jp (g : GS) (j : Nat) : Nat := (g 26 j).toNatClampNeg
def jo (g : GS) (j : Nat) : Nat := (g 27 j).toNatClampNeg
/-- the parts of a board, by rising numbers -/
def tk (g : GS) (b : Nat) : List Nat := (List.range (np g)).filter (fun p => pb g p == b)
/-- the lists: 0 boards, 1 parts, 2 joints, 3 + 2 b the knots of board b, 4 + 2 b what is taken of it; their lengths -/
def ll (g : GS) (i : Nat) : Nat := if i = 0 then nb g else if i = 1 then np g else if i = 2 then nj g else if i % 2 = 1 then kn g ((i - 3) / 2) else (tk g ((i - 4) / 2)).length
/-- .. and which things they hold: kind and number -/
def lk (i : Nat) : Nat := if i = 0 then 2 else if i = 1 then 3 else if i = 2 then 4 else if i % 2 = 1 then 7 else 8
def li (g : GS) (i j : Nat) : Nat := if i < 3 then j else if i % 2 = 1 then 4 * ((i - 3) / 2) + j else (tk g ((i - 4) / 2)).getD j 0
/-- ghosts: addresses by kind and number; of a list: modCount, its array's length and contents -/
abbrev WG : Type := (Nat → Nat → Nat) × (Nat → Int32) × (Nat → Nat) × (Nat → Nat → Option Nat)
abbrev wad (w : WG) : Nat → Nat → Nat := w.1
abbrev wmc (w : WG) : Nat → Int32 := w.2.1
abbrev wcp (w : WG) : Nat → Nat := w.2.2.1
abbrev wel (w : WG) : Nat → Nat → Option Nat := w.2.2.2
/-- the reference's fields that are arrays; their lengths -/
def isA (i : Nat) : Bool := decide (i < 36) && !(i == 0 || i == 1 || i == 4 || i == 5 || i == 16 || i == 24)
def isZ (i : Nat) : Bool := i == 31 || i == 32
def ln (i : Nat) : Nat := if i = 2 then 12 else if i = 3 then 2 else if i < 14 then 20 else if i < 16 then 80 else if i < 24 then 40 else if i = 34 then 40 else 30
/-- kinds: 0 the shop, 1 its air, 2 boards, 3 parts, 4 joints, 5 lists, 6 lists' arrays, 7 knots' spans, 8 parts' spans, 9 the reference, 10 its arrays, 11 the law's out -/
def lv_e (g : GS) (k i : Nat) : Prop := match k with
  | 0 => i = 0
  | 1 => i = 0
  | 2 => i < nb g
  | 3 => i < np g
  | 4 => i < nj g
  | 5 => i < 3 + 2 * nb g
  | 6 => i < 3 + 2 * nb g ∧ 0 < ll g i
  | 7 => i / 4 < nb g ∧ i % 4 < kn g (i / 4)
  | 8 => i < np g
  | 9 => i = 0
  | 10 => isA i = true
  | 11 => i = 0
  | _ => False
def mf (w : WG) (gm : GS) (i : Nat) : Value := if isA i then .ref (wad w 10 i) else .int (gm i 0)
def ct (z : ZE) (w : WG) (g gm : GS) (o : Nat → Int64) (k i : Nat) : va_E := match k with
  | 0 => .inr (5, [.ref (wad w 5 0), .ref (wad w 5 1), .ref (wad w 5 2), .ref (wad w 1 0), .int (g 1 0), .int (g 3 0), .int (g 3 1), .int (g 4 0)])
  | 1 => cI (zI z) 12 (g 2)
  | 2 => .inr (1, [.int (g 6 i), .int (g 9 i), .int (g 11 i), .int (g 12 i), .int 0, .int (nI i), .int (g 7 i), .int (g 8 i), .int (g 10 i), .ref (wad w 5 (3 + 2 * i)), .ref (wad w 5 (4 + 2 * i))])
  | 3 => .inr (3, [.int (g 6 (pb g i)), .int (g 20 i), .int (g 21 i), .int (g 22 i), .int (g 23 i), .int (nI i), .ref (wad w 2 (pb g i)), .int (g 18 i), .int (g 19 i)])
  | 4 => .inr (2, [.int (g 25 i), .ref (wad w 3 (jp g i)), .ref (wad w 3 (jo g i)), .int (g 29 i), .int (g 28 i), .int (g 30 i), .int (g 31 i), .int (g 32 i), .int (g 33 i)])
  | 5 => .inr (0, [.int (wmc w i), .ref (if ll g i = 0 then zd z else wad w 6 i), .int (nI (ll g i))])
  | 6 => cQ (zO z) (wcp w i) (wel w i)
  | 7 => .inr (4, [.int (g 14 i), .int (g 15 i)])
  | 8 => .inr (4, [.int (g 18 i - 30), .int (g 18 i + g 19 i + 30)])
  | 9 => .inr (6, (List.range 36).map (mf w gm))
  | 10 => cI (if isZ i then zZ z else zI z) (ln i) (gm i)
  | _ => cL (zL z) 1 o
/-- THE WORLD: every live thing lies at its address and holds what the states say; things are apart; what lists hold -/
def WW (z : ZE) (w : WG) (g gm : GS) (o : Nat → Int64) (H : Heap) : Prop :=
  (∀ k i, lv_e g k i → va_at (zD z) vwCl (wad w k i, ct z w g gm o k i) H) ∧
  (∀ k i k' i', lv_e g k i → lv_e g k' i' → wad w k i = wad w k' i' → k = k' ∧ i = i') ∧
  (∀ k i, lv_e g k i → zB z ≤ wad w k i) ∧
  (∀ i, i < 3 + 2 * nb g → ll g i ≤ wcp w i ∧ wcp w i ≤ 100 ∧ ∀ j, j < ll g i → wel w i j = some (wad w (lk i) (li g i j)))
/-- words of the tables that callees' own lists can't hold -/
def nwL : List (String × String) := [(RX0, "java/lang/Object"), (RX1, "java/lang/Object"), (RX2, "java/lang/Object"), (RX3, "java/lang/Object"), ("java/lang/IndexOutOfBoundsException", "java/lang/IndexOutOfBoundsException"), ("java/lang/IllegalArgumentException", "java/lang/IllegalArgumentException"), ("java/lang/IllegalStateException", "java/lang/IllegalStateException")]
def ncL : List (String × String) := [("java/lang/IllegalArgumentException", "java/lang/IndexOutOfBoundsException"), ("java/lang/IllegalStateException", "java/lang/IndexOutOfBoundsException"), ("java/lang/IllegalStateException", "java/lang/IllegalArgumentException")]
/-- the shop's String constants: place and text -/
def strL : List (Nat × String) := [(47, "there is no such month"), (58, "moisture is out of its range"), (61, "months is out of its range"), (65, "the month would be above 1200"), (80, "species, flitch or place is out of its range"), (82, "width, length or moisture is out of its range"), (87, "there are 20 boards"), (92, "the flitch has that place, or is of another species"), (107, "there is no such board"), (112, "from or to is out of its range"), (117, "the board has 4 knots"), (126, "something of the knot is taken up"), (133, "from, length or width is out of its range"), (135, "there are 40 parts"), (144, "the board has no room for it"), (146, "the part would have a knot that is not hidden"), (154, "the saw is not sharp enough"), (161, "there is no such edge"), (163, "length is out of its range"), (176, "there is no such part"), (181, "the part has 6 coats"), (183, "both parts are the same"), (203, "kind, size or tongue is out of its range"), (205, "there are 30 joints"), (211, "the size does not fit"), (214, "the chisel is not sharp enough"), (225, "there is no such joint"), (227, "needed is not lower"), (233, "the joint is glued"), (238, "clamps is out of its range"), (240, "the set is empty, or has a joint that there is not"), (246, "one is glued, or one that it needs is not glued by then"), (254, "it would take too long, or too many clamps"), (269, "the joint is not broken"), (292, "the joint is not glued, or is broken"), (297, "what is out of its range")]
/-- what holds of the machine all along -/
def EV (z : ZE) (U : State) (H : Heap) : Prop :=
  va_K (zD z) vwCl (tysZ z) U ∧
  (vx_Zq Bundle.tN "UNASSIGNED_STACK" Bundle.steD (zA z) U H ∧ vx_Zq Bundle.tN "SUPPRESSED_SENTINEL" Bundle.listD (zA z) U H) ∧
  va_Z "java/util/ArrayList" "DEFAULTCAPACITY_EMPTY_ELEMENTDATA" "[Ljava/lang/Object;" (.ref (zd z)) (zA z) U H ∧
  (zd z < zB z ∧ va_T (.object "java/lang/Object") (zd z) 0 (fun _ => .null) (zA z) U H) ∧
  zB z ≤ H.size ∧
  (va_AO "java/lang/Object" U ∧ va_Dc U ∧ ∃ mi, va_Mi "[Ljava/lang/Object;" mi U) ∧
  (∀ q ∈ nwL, va_Nw (.castable q.1 q.2) U) ∧
  (va_Nw (.methodLinkNest RX4 25 yX5_movingOf RX5) U ∧ va_Nw (.methodLinkNest RX0 34 yX5_touchesAny RX5) U) ∧
  (∀ q ∈ strL, ∃ a, vk_R RX5 q.1 q.2 a U) ∧
  ∀ q ∈ ncL, va_Nc q.1 q.2 U
theorem EV.same {z : ZE} {u U : State} {H : Heap} (hv : u.vm = U.vm) (h : EV z u H) : EV z U H := by
  have hA : u.vm.Alike U.vm := hv ▸ Vm.Alike.refl u.vm
  obtain ⟨h1, ⟨h2, h2b⟩, h3, ⟨h4, h4b⟩, h5, ⟨h6, h6b, mi, h6c⟩, h7, ⟨h8, h8b⟩, h9, h10⟩ := h
  exact ⟨va_K.moved hA h1, ⟨h2.moved hA, h2b.moved hA⟩, h3.moved hA, ⟨h4, h4b.moved hA⟩, h5, ⟨h6.moved hA, h6b.moved hA, mi, h6c.moved hA⟩, fun q hq => va_Nw.same rfl hv (h7 q hq), ⟨va_Nw.same rfl hv h8, va_Nw.same rfl hv h8b⟩, fun q hq => by obtain ⟨a, ha⟩ := h9 q hq; exact ⟨a, vk_R.same hv.symm ha⟩, fun q hq => (h10 q hq).moved hA⟩
theorem EV.warm {z : ZE} {s U : State} {H : Heap} (hW : s.WarmedH U.vm) (h : EV z s H) : EV z U H := by
  have hA : s.vm.Alike U.vm := hW.alike
  obtain ⟨h1, ⟨h2, h2b⟩, h3, ⟨h4, h4b⟩, h5, ⟨h6, h6b, mi, h6c⟩, h7, ⟨h8, h8b⟩, h9, h10⟩ := h
  exact ⟨va_K.moved hA h1, ⟨h2.moved hA, h2b.moved hA⟩, h3.moved hA, ⟨h4, h4b.moved hA⟩, h5, ⟨h6.moved hA, h6b.moved hA, mi, h6c.moved hA⟩, fun q hq => va_Nw.warmC hW (h7 q hq), ⟨va_Nw.warmM hW h8, va_Nw.warmM hW h8b⟩, fun q hq => by obtain ⟨a, ha⟩ := h9 q hq; exact ⟨a, vk_R.warm hW ha⟩, fun q hq => (h10 q hq).moved hA⟩
theorem EV.kept {z : ZE} {U : State} {H H1 : Heap} (h : EV z U H) (hz : H.size ≤ H1.size) (hq : ∀ q : Nat, q < H.size → ¬ zA z q → H1[q]? = H[q]?) : EV z U H1 := by
  obtain ⟨h1, ⟨h2, h2b⟩, h3, ⟨h4, h4b⟩, h5, h6, h7, h8, h9, h10⟩ := h
  exact ⟨h1, ⟨h2.kept hq, h2b.kept hq⟩, h3.kept hq, ⟨h4, h4b.kept hq⟩, Nat.le_trans h5 hz, h6, h7, h8, h9, h10⟩
theorem EV.at {z : ZE} {s U : State} {H : Heap} {locs : List Loc} (h : EV z s s.heap) (hS : va_S (zA z) s.heap H locs) (hU : U.heap = H) (hW : s.WarmedH U.vm) : EV z U U.heap := by
  rw [hU]
  exact (h.kept hS.1 hS.2.1).warm hW
/-- what a contract asks at its start: the arguments, the machine, and of the heap P -/
def PE (z : ZE) (av : List Value) (P : Heap → Prop) : Array Value → State → Prop := fun v U => v = av.toArray ∧ EV z U U.heap ∧ P U.heap
theorem PE.blind {z : ZE} {av : List Value} {P : Heap → Prop} : FrameBlind (PE z av P) := fun a U g mk h => ⟨h.1, EV.same (u := U) (U := U.calling g mk a) rfl h.2.1, h.2.2⟩
theorem P1 {D : va_G} {cl : List vw_C} {q : Nat × va_E} {H : Heap} (h : va_at D cl q H) : va_P D cl [q] H := fun k r hk => by
  cases k with
  | zero => cases hk; exact h
  | succ k => simp at hk
theorem EV.recv {z : ZE} {s : State} {H0 H : Heap} (hE : EV z s H0) {ci a : Nat} {q : vw_C} {fs : List Value} (hat : va_at (zD z) vwCl (a, .inr (ci, fs)) H) (hc : vwCl[ci]? = some q) : ∃ cell : Cell, H[a]? = some cell ∧ cell.vm.isStatics = false ∧ s.vm.findClass q.1 = some cell.cls :=
  va_recv (q0 := 0) (ws := [(a, .inr (ci, fs))]) hE.1 (P1 hat) hc rfl
/-- the world stands while its cells do -/
theorem WW.kept {z : ZE} {w : WG} {g gm : GS} {o : Nat → Int64} {H H1 : Heap} (h : WW z w g gm o H) (hq : ∀ q : Nat, q < H.size → H1[q]? = H[q]?) : WW z w g gm o H1 :=
  ⟨fun k i hl => (h.1 k i hl).kept (hq _ (h.1 k i hl).lt), h.2⟩
theorem WW.sh {z : ZE} {w : WG} {g gm : GS} {o : Nat → Int64} {H : Heap} (h : WW z w g gm o H) : va_at (zD z) vwCl (wad w 0 0, .inr (5, [.ref (wad w 5 0), .ref (wad w 5 1), .ref (wad w 5 2), .ref (wad w 1 0), .int (g 1 0), .int (g 3 0), .int (g 3 1), .int (g 4 0)])) H := h.1 0 0 rfl
theorem WW.air {z : ZE} {w : WG} {g gm : GS} {o : Nat → Int64} {H : Heap} (h : WW z w g gm o H) : va_at (zD z) vwCl (wad w 1 0, cI (zI z) 12 (g 2)) H := h.1 1 0 rfl
theorem WW.bd {z : ZE} {w : WG} {g gm : GS} {o : Nat → Int64} {H : Heap} (h : WW z w g gm o H) {i : Nat} (hi : i < nb g) : va_at (zD z) vwCl (wad w 2 i, .inr (1, [.int (g 6 i), .int (g 9 i), .int (g 11 i), .int (g 12 i), .int 0, .int (nI i), .int (g 7 i), .int (g 8 i), .int (g 10 i), .ref (wad w 5 (3 + 2 * i)), .ref (wad w 5 (4 + 2 * i))])) H := h.1 2 i hi
theorem WW.pt {z : ZE} {w : WG} {g gm : GS} {o : Nat → Int64} {H : Heap} (h : WW z w g gm o H) {i : Nat} (hi : i < np g) : va_at (zD z) vwCl (wad w 3 i, .inr (3, [.int (g 6 (pb g i)), .int (g 20 i), .int (g 21 i), .int (g 22 i), .int (g 23 i), .int (nI i), .ref (wad w 2 (pb g i)), .int (g 18 i), .int (g 19 i)])) H := h.1 3 i hi
theorem WW.jt {z : ZE} {w : WG} {g gm : GS} {o : Nat → Int64} {H : Heap} (h : WW z w g gm o H) {i : Nat} (hi : i < nj g) : va_at (zD z) vwCl (wad w 4 i, .inr (2, [.int (g 25 i), .ref (wad w 3 (jp g i)), .ref (wad w 3 (jo g i)), .int (g 29 i), .int (g 28 i), .int (g 30 i), .int (g 31 i), .int (g 32 i), .int (g 33 i)])) H := h.1 4 i hi
theorem WW.lst {z : ZE} {w : WG} {g gm : GS} {o : Nat → Int64} {H : Heap} (h : WW z w g gm o H) {i : Nat} (hi : i < 3 + 2 * nb g) : va_at (zD z) vwCl (wad w 5 i, .inr (0, [.int (wmc w i), .ref (if ll g i = 0 then zd z else wad w 6 i), .int (nI (ll g i))])) H := h.1 5 i hi
theorem WW.arr {z : ZE} {w : WG} {g gm : GS} {o : Nat → Int64} {H : Heap} (h : WW z w g gm o H) {i : Nat} (hi : i < 3 + 2 * nb g) (h0 : 0 < ll g i) : va_at (zD z) vwCl (wad w 6 i, cQ (zO z) (wcp w i) (wel w i)) H := h.1 6 i ⟨hi, h0⟩
theorem WW.ks {z : ZE} {w : WG} {g gm : GS} {o : Nat → Int64} {H : Heap} (h : WW z w g gm o H) {b j : Nat} (hb : b < nb g) (hj : j < kn g b) (h4 : kn g b ≤ 4) : va_at (zD z) vwCl (wad w 7 (4 * b + j), .inr (4, [.int (g 14 (4 * b + j)), .int (g 15 (4 * b + j))])) H := by
  refine h.1 7 (4 * b + j) ⟨?_, ?_⟩
  · rw [show (4 * b + j) / 4 = b by omega]; exact hb
  · rw [show (4 * b + j) / 4 = b by omega, show (4 * b + j) % 4 = j by omega]; exact hj
theorem WW.ts {z : ZE} {w : WG} {g gm : GS} {o : Nat → Int64} {H : Heap} (h : WW z w g gm o H) {i : Nat} (hi : i < np g) : va_at (zD z) vwCl (wad w 8 i, .inr (4, [.int (g 18 i - 30), .int (g 18 i + g 19 i + 30)])) H := h.1 8 i hi
theorem WW.md {z : ZE} {w : WG} {g gm : GS} {o : Nat → Int64} {H : Heap} (h : WW z w g gm o H) : va_at (zD z) vwCl (wad w 9 0, .inr (6, (List.range 36).map (mf w gm))) H := h.1 9 0 rfl
theorem WW.ma {z : ZE} {w : WG} {g gm : GS} {o : Nat → Int64} {H : Heap} (h : WW z w g gm o H) {i : Nat} (hi : isA i = true) : va_at (zD z) vwCl (wad w 10 i, cI (if isZ i then zZ z else zI z) (ln i) (gm i)) H := h.1 10 i hi
theorem WW.out {z : ZE} {w : WG} {g gm : GS} {o : Nat → Int64} {H : Heap} (h : WW z w g gm o H) : va_at (zD z) vwCl (wad w 11 0, cL (zL z) 1 o) H := h.1 11 0 rfl
/-- one cell of the world is written -/
theorem WW.wr {z : ZE} {w : WG} {g gm : GS} {o : Nat → Int64} {H H1 : Heap} {w' : WG} {g' gm' : GS} {o' : Nat → Int64} (h : WW z w g gm o H) (k0 i0 : Nat) (hl : lv_e g k0 i0)
    (he : va_at (zD z) vwCl (wad w k0 i0, ct z w' g' gm' o' k0 i0) H1) (oq : ∀ q : Nat, q ≠ wad w k0 i0 → H1[q]? = H[q]?) (hw : wad w' = wad w)
    (hlv : ∀ k i, lv_e g' k i → lv_e g k i) (hct : ∀ k i, lv_e g' k i → ¬ (k = k0 ∧ i = i0) → ct z w' g' gm' o' k i = ct z w g gm o k i)
    (hL : ∀ i, i < 3 + 2 * nb g' → ll g' i ≤ wcp w' i ∧ wcp w' i ≤ 100 ∧ ∀ j, j < ll g' i → wel w' i j = some (wad w (lk i) (li g' i j))) : WW z w' g' gm' o' H1 := by
  refine ⟨fun k i hk => ?_, fun k i k' i' h1 h2 h3 => ?_, fun k i h1 => ?_, fun i hi => ?_⟩
  · rw [hw]
    by_cases e : k = k0 ∧ i = i0
    · obtain ⟨rfl, rfl⟩ := e
      exact he
    · rw [hct k i hk e]
      refine (h.1 k i (hlv k i hk)).kept (oq _ fun z9 => e (h.2.1 k i k0 i0 (hlv k i hk) hl z9))
  · rw [hw] at h3
    exact h.2.1 k i k' i' (hlv _ _ h1) (hlv _ _ h2) h3
  · rw [hw]
    exact h.2.2.1 k i (hlv _ _ h1)
  · rw [hw]
    exact hL i hi
end
section
/-! ===== rows over the world: reads, writes, calls of methods that only read ===== -/
section GRW
variable {p : Program} {l : Launch} {e : Env} {R : Room} {s : State} {m : MethodId} {args : Array Value} {below : List Frame} {meth : Method} {c : Code} {H : Heap} {locs : List Loc} {cells slots : Nat} {Q : State → Prop}
variable {cc : ByteArray} {pc nL : Nat} {ls : Array Slot} {rest stk : List Value} {z : ZE} {Ts : List Cond} {own : String}
theorem g_same {ref owner name desc : String} (hts : ∀ w ∈ Ts, w.before args s = true) (h : owner = ref ∨ Cond.sameField ref owner name desc ∈ Ts) : ∀ x, s.fieldFound? owner name desc = some x → s.fieldFound? ref name desc = some x := by
  intro x hx
  rcases h with h | h
  · rw [← h]; exact hx
  · exact u_same (hts _ h) x hx
theorem g_get (S : CallFix p m c cc nL s args Ts own) (hE : EV z s s.heap) {ci a : Nat} {fs : List Value} (hat : va_at (zD z) vwCl (a, .inr (ci, fs)) H) {C ref : String} {T : u_T} {N index : Nat} (hc : vwCl[ci]? = some (C, T, N)) (hin : ∀ w ∈ u_ws C T N, w ∈ Ts) (k : Nat) (hk : k < N)
    (hlink : Cond.fieldLink own index ref (T k).2.1 (T k).2.2.1 ∈ Ts) (hsame : (T k).1 = ref ∨ Cond.sameField ref (T k).1 (T k).2.1 (T k).2.2.1 ∈ Ts) {v : Value} (hv : fs[k]? = some v) (hdg : decode cc pc = .ok (.getfield index, 3))
    (kk : W p l e R s m args below meth c H locs cells slots Q (F0 m (pc + 3) ls (v :: rest))) : W p l e R s m args below meth c H locs cells slots Q (F0 m pc ls (.ref a :: rest)) := by
  obtain ⟨hx, hb, hml, hown, hts⟩ := S
  exact va_get (D := zD z) (ci := ci) (v := v) hx hb hts hin hown hE.1 (P1 hat) 0 rfl hc k hk (hts _ hlink) (g_same hts hsame) hv hdg kk
theorem g_put (S : CallFix p m c cc nL s args Ts own) (hE : EV z s s.heap) {H0 : Heap} (hS : va_S (zA z) H0 H locs) {ci a : Nat} {fs : List Value} (hat : va_at (zD z) vwCl (a, .inr (ci, fs)) H) (hza : zB z ≤ a) {C ref : String} {T : u_T} {N index : Nat} (hc : vwCl[ci]? = some (C, T, N)) (hin : ∀ w ∈ u_ws C T N, w ∈ Ts)
    (ty0 : Nat → FieldType) (hty : ∀ k, k < N → parseFieldDescriptor (T k).2.2.1 = some (ty0 k)) (hnm : ∀ a, a < N → ∀ b, b < N → a ≠ b → (T a).2.1 ≠ (T b).2.1) (k : Nat) (hk : k < N)
    (hlink : Cond.fieldLink own index ref (T k).2.1 (T k).2.2.1 ∈ Ts) (hsame : (T k).1 = ref ∨ Cond.sameField ref (T k).1 (T k).2.1 (T k).2.2.1 ∈ Ts) (hfin : (T k).2.2.2 = false ∨ ((T k).2.2.2 = true ∧ meth.name = "<init>" ∧ (T k).1 = own)) {v : Value} (hn : narrow (ty0 k) v = v) (hfit : fits (ty0 k) v = true) (hl : k < fs.length) (hdg : decode cc pc = .ok (.putfield index, 3))
    (kk : ∀ (H1 : Heap) (locs1 : List Loc), va_at (zD z) vwCl (a, .inr (ci, fs.set k v)) H1 → (∀ q : Nat, q ≠ a → H1[q]? = H[q]?) → H1.size = H.size → va_S (zA z) H0 H1 locs1 → W p l e R s m args below meth c H1 locs1 cells slots Q (F0 m (pc + 3) ls rest)) : W p l e R s m args below meth c H locs cells slots Q (F0 m pc ls (v :: .ref a :: rest)) := by
  obtain ⟨hx, hb, hml, hown, hts⟩ := S
  have hap := va_apart (own := own) hts hin ty0 hty hnm hE.1 hc
  obtain ⟨r, h1, cell, q1, q2, q3, q4⟩ := hat
  cases Option.some.inj (h1.symm.trans hc)
  obtain ⟨hSl, hfc, kC, hkC, hkind⟩ := hE.1.1 ci _ hc
  obtain ⟨cf, kf, fi, f, hi, hsl⟩ := hSl k hk
  have hlay := hts _ (hin _ (u_in_lay hk))
  unfold u_lay at hlay
  have hst := (u_facts hfc hkC (u_lays hts hin hk) hi).1
  have fin : ∀ (H' : Heap), H'[a]? = some (cell.setSlot f.slot v) → (∀ q : Nat, q ≠ a → H'[q]? = H[q]?) → va_at (zD z) vwCl (a, .inr (ci, fs.set k v)) H' := by
    intro H' e1 e3
    rw [hsl] at e1
    exact ⟨_, hc, t_OB.to (V := updV (vp_V fs) k v) ⟨_, e1, q2, q3, t_set q4 hap hk v⟩ (fun j _ => vp_updV_set hl v j)⟩
  rcases hfin with hf | ⟨hf, hin2, hdecl⟩
  · rw [if_neg (by rw [hf]; decide)] at hlay
    have h6 := u_store hfc hkC hkind hlay hi (hty k hk) hn hfit
    exact W.putK hx hb (f := f) ⟨hown, hts _ hlink, ⟨_, _, _, g_same hts hsame _ hi⟩, hst⟩ (by rw [q2]; exact h6) q1 q3 (by rw [hsl]; exact k2_hasslot (q4 k hk)) rfl rfl hdg fun H' e1 e2 e3 => kk H' _ (fin H' e1 e3) e3 e2 (hS.put e2 e3 hza)
  · rw [if_pos hf] at hlay
    have hcf : m.cls = cf := by
      obtain ⟨_, _, c', _, _, _, -, -, hf', -, -, -, hown2, -⟩ := Cond.laysFinal_spec hlay
      have e1 : c' = cf := by have := hi.symm.trans hf'; simp at this; exact this.1.symm
      rw [hdecl] at hown2
      rw [← e1]; exact Option.some.inj (hown.symm.trans hown2)
    have h6 := u_fits hfc hkC hkind (Or.inr hlay) hi (hty k hk) hn hfit
    exact W.putFinK hx hb hown (hts _ hlink) (g_same hts hsame _ hi) hst hcf hin2 (by rw [q2]; exact h6) q1 q3 (by rw [hsl]; exact k2_hasslot (q4 k hk)) rfl rfl hdg fun H' e1 e2 e3 => kk H' _ (fin H' e1 e3) e3 e2 (hS.put e2 e3 hza)
theorem g_iald (S : CallFix p m c cc nL s args Ts own) (hE : EV z s s.heap) {a n : Nat} {f : Nat → Int32} (hat : va_at (zD z) vwCl (a, cI (zI z) n f) H) {i : Int32} (hin : vp_in i n) (hdg : decode cc pc = .ok (.iaload, 1))
    (kk : W p l e R s m args below meth c H locs cells slots Q (F0 m (pc + 1) ls (.int (f i.toNatClampNeg) :: rest))) : W p l e R s m args below meth c H locs cells slots Q (F0 m pc ls (.int i :: .ref a :: rest)) :=
  va_iald S.1 S.2.1 hE.1 (P1 hat) 0 0 rfl rfl hin hdg kk
theorem g_zald (S : CallFix p m c cc nL s args Ts own) (hE : EV z s s.heap) {a n : Nat} {f : Nat → Int32} (hat : va_at (zD z) vwCl (a, cI (zZ z) n f) H) {i : Int32} (hin : vp_in i n) (hdg : decode cc pc = .ok (.baload, 1))
    (kk : W p l e R s m args below meth c H locs cells slots Q (F0 m (pc + 1) ls (.int (f i.toNatClampNeg) :: rest))) : W p l e R s m args below meth c H locs cells slots Q (F0 m pc ls (.int i :: .ref a :: rest)) :=
  va_zald S.1 S.2.1 hE.1 (P1 hat) 0 1 rfl rfl hin hdg kk
theorem g_iast (S : CallFix p m c cc nL s args Ts own) (hE : EV z s s.heap) {H0 : Heap} (hS : va_S (zA z) H0 H locs) {a n : Nat} {f : Nat → Int32} (hat : va_at (zD z) vwCl (a, cI (zI z) n f) H) (hza : zB z ≤ a) {i x : Int32} (hin : vp_in i n) (hdg : decode cc pc = .ok (.iastore, 1))
    (kk : ∀ (H1 : Heap) (locs1 : List Loc), va_at (zD z) vwCl (a, cI (zI z) n (upd f i.toNatClampNeg x)) H1 → (∀ q : Nat, q ≠ a → H1[q]? = H[q]?) → H1.size = H.size → va_S (zA z) H0 H1 locs1 → W p l e R s m args below meth c H1 locs1 cells slots Q (F0 m (pc + 1) ls rest)) : W p l e R s m args below meth c H locs cells slots Q (F0 m pc ls (.int x :: .int i :: .ref a :: rest)) := by
  refine W.iast S.1 S.2.1 hat ((hE.1.2 0 _ rfl).1 n (fun j => .int (f j))) (fun q => by cases q) (by show ¬ (i < 0 ∨ (arrV _ _ _).slots.size ≤ _); rw [arrV_size]; exact hin) rfl rfl hdg fun H1 e1 z1 oq => kk H1 _ ?_ oq z1 (hS.put z1 oq hza)
  show H1[a]? = some (vp_cell _ _)
  rw [e1, vp_cell_i, vp_cell_i, arrV_store]
  congr 2
  funext q
  by_cases hq : q = i.toNatClampNeg
  · subst hq; simp [updV, upd]
  · simp [updV, upd, hq]
theorem g_zast (S : CallFix p m c cc nL s args Ts own) (hE : EV z s s.heap) {H0 : Heap} (hS : va_S (zA z) H0 H locs) {a n : Nat} {f : Nat → Int32} (hat : va_at (zD z) vwCl (a, cI (zZ z) n f) H) (hza : zB z ≤ a) {i x : Int32} (hin : vp_in i n) (hx1 : narrow .boolean (.int x) = .int x) (hdg : decode cc pc = .ok (.bastore, 1))
    (kk : ∀ (H1 : Heap) (locs1 : List Loc), va_at (zD z) vwCl (a, cI (zZ z) n (upd f i.toNatClampNeg x)) H1 → (∀ q : Nat, q ≠ a → H1[q]? = H[q]?) → H1.size = H.size → va_S (zA z) H0 H1 locs1 → W p l e R s m args below meth c H1 locs1 cells slots Q (F0 m (pc + 1) ls rest)) : W p l e R s m args below meth c H locs cells slots Q (F0 m pc ls (.int x :: .int i :: .ref a :: rest)) := by
  refine W.zast S.1 S.2.1 hat ((hE.1.2 1 _ rfl).1 n (fun j => .int (f j))) (fun q => by cases q) (by show ¬ (i < 0 ∨ (arrV _ _ _).slots.size ≤ _); rw [arrV_size]; exact hin) rfl rfl hdg fun H1 e1 z1 oq => kk H1 _ ?_ oq z1 (hS.put z1 oq hza)
  show H1[a]? = some (vp_cell _ _)
  rw [e1, vp_cell_i, vp_cell_i, arrV_store, hx1]
  congr 2
  funext q
  by_cases hq : q = i.toNatClampNeg
  · subst hq; simp [updV, upd]
  · simp [updV, upd, hq]
/-! ends and calls of methods that only read -/
def zF : Nat → Prop := fun _ => False
def rqi (v : Int32) : Array Value → State → Outcome → State → Prop := fun _ st o t => o = .returned (some (.int v)) ∧ t.heap = st.heap
def rqq (r : Option Nat) : Array Value → State → Outcome → State → Prop := fun _ st o t => o = .returned (some (va_rf r)) ∧ t.heap = st.heap
theorem g_iret {v : Int32} (S : CallFix p m c cc nL s args Ts own) (hr : meth.sig.returnType = some .int) (hlocks : meth.locks = false) {x : Int32} (hv : x = v) (hdg : decode cc pc = .ok (.ireturn, 1)) : W p l e R s m args below meth c s.heap [] 0 0 (MQ below (rqi v) args s 0 0 zF) (F0 m pc ls [.int x]) := by
  subst hv
  exact W.iret (v := x) S.1 S.2.1 hr (fun t ht _ => ⟨rfl, ht⟩) (fun _ h => nomatch h) hdg
theorem g_zret {v : Int32} (S : CallFix p m c cc nL s args Ts own) (hr : meth.sig.returnType = some .boolean) (hlocks : meth.locks = false) {x : Int32} (hv : x = v) (hb2 : ∃ b, v = bI b) (hdg : decode cc pc = .ok (.ireturn, 1)) : W p l e R s m args below meth c s.heap [] 0 0 (MQ below (rqi v) args s 0 0 zF) (F0 m pc ls [.int x]) := by
  subst hv
  exact W.zret (v := x) (ty := .boolean) S.1 S.2.1 hr (by obtain ⟨b, rfl⟩ := hb2; cases b <;> decide) (fun t ht _ => ⟨rfl, ht⟩) (fun _ h => nomatch h) hdg
theorem g_aret {r r' : Option Nat} {C : String} (S : CallFix p m c cc nL s args Ts own) (hr : meth.sig.returnType = some (.object C)) (hlocks : meth.locks = false) (hv : r' = r) (hdg : decode cc pc = .ok (.areturn, 1)) : W p l e R s m args below meth c s.heap [] 0 0 (MQ below (rqq r) args s 0 0 zF) (F0 m pc ls [va_rf r']) := by
  subst hv
  exact W.aret (v := va_rf r') (rt := .object C) S.1 S.2.1 hr (Or.inl ⟨_, rfl⟩) (by cases r' <;> simp [va_rf]) (fun t ht _ => ⟨rfl, ht⟩) (fun _ h => nomatch h) hdg
theorem g_run {v : Value} {Qa : State → Outcome → State → Prop} (hr : va_Run p l e R s m args below meth c H locs cells slots 0 0 (F0 m pc ls stk) rest Qa zF) (hQ : ∀ st o t, Qa st o t → o = .returned (some v) ∧ t.heap = st.heap)
    (kk : W p l e R s m args below meth c H locs cells slots Q (F0 m (pc + 3) ls (v :: rest))) : W p l e R s m args below meth c H locs cells slots Q (F0 m pc ls stk) := by
  intro T hT X
  obtain ⟨v9, st₀, t, T', L, h0, X', hL, e1, e2, hq, st⟩ := hr T hT X
  obtain ⟨h8, h9⟩ := hQ _ _ _ hq
  cases h8
  have hn : L = [] := by
    cases L with
    | nil => rfl
    | cons q L => exact (hL q List.mem_cons_self).elim
  subst hn
  rw [List.append_nil] at X'
  obtain ⟨t2, a1, b1⟩ := kk T' (by rw [e1, h9, h0]) X'
  exact ⟨t2, st t2 a1, b1⟩
variable {y x0 : MethodName} {bytes : ByteArray} {maxL n index : Nat} {ret : Option FieldType} {ws : List Cond} {rm : Room} {P : Heap → Prop} {C owner host : String} {b : Addr} {As : List Value}
theorem g_callV {v : Int32} (S : CallFix p m c cc nL s args Ts own) (hE : EV z s s.heap) (hS : va_S (zA z) s.heap H locs) (hM : Met l y ws rm (PE z (.ref b :: As) P) (rqi v) 0 0 zF) (cw : CallW R s args own C index y bytes maxL ret ws rm 0 0 n)
    (hv : ∃ cell : Cell, H[b]? = some cell ∧ cell.vm.isStatics = false ∧ s.vm.findClass C = some cell.cls) (hP : P H) (hn : As.length = n) (hsize : ls.size = nL) (hstack : stk = As.reverse ++ .ref b :: rest) (hW : (rest.map fun v => v.category).sum ≤ 8) (hdg : decode cc pc = .ok (.invokevirtual index, 3)) (hf : cells ≤ R.cells ∧ slots ≤ R.slots)
    (kk : W p l e R s m args below meth c H locs cells slots Q (F0 m (pc + 3) ls (.int v :: rest))) : W p l e R s m args below meth c H locs cells slots Q (F0 m pc ls stk) :=
  g_run (va_runV S hM cw ⟨PE.blind, hv, fun U hU hW => ⟨rfl, hE.at hS hU hW, by rw [hU]; exact hP⟩⟩ rfl hn hsize hstack (lv_room hW) hdg hf) (fun _ _ _ h => h) kk
theorem g_callVq {r : Option Nat} (S : CallFix p m c cc nL s args Ts own) (hE : EV z s s.heap) (hS : va_S (zA z) s.heap H locs) (hM : Met l y ws rm (PE z (.ref b :: As) P) (rqq r) 0 0 zF) (cw : CallW R s args own C index y bytes maxL ret ws rm 0 0 n)
    (hv : ∃ cell : Cell, H[b]? = some cell ∧ cell.vm.isStatics = false ∧ s.vm.findClass C = some cell.cls) (hP : P H) (hn : As.length = n) (hsize : ls.size = nL) (hstack : stk = As.reverse ++ .ref b :: rest) (hW : (rest.map fun v => v.category).sum ≤ 8) (hdg : decode cc pc = .ok (.invokevirtual index, 3)) (hf : cells ≤ R.cells ∧ slots ≤ R.slots)
    (kk : W p l e R s m args below meth c H locs cells slots Q (F0 m (pc + 3) ls (va_rf r :: rest))) : W p l e R s m args below meth c H locs cells slots Q (F0 m pc ls stk) :=
  g_run (va_runV S hM cw ⟨PE.blind, hv, fun U hU hW => ⟨rfl, hE.at hS hU hW, by rw [hU]; exact hP⟩⟩ rfl hn hsize hstack (lv_room hW) hdg hf) (fun _ _ _ h => h) kk
theorem g_callU {v : Int32} (S : CallFix p m c cc nL s args Ts own) (hE : EV z s s.heap) (hS : va_S (zA z) s.heap H locs) (hM : Met l y ws rm (PE z (.ref b :: As) P) (rqi v) 0 0 zF) (cw : va_CU R s args own C owner index x0 y bytes maxL ret ws rm 0 0 n)
    (hv : ∃ cell : Cell, H[b]? = some cell ∧ cell.vm.isStatics = false ∧ s.vm.findClass C = some cell.cls) (hP : P H) (hn : As.length = n) (hsize : ls.size = nL) (hstack : stk = As.reverse ++ .ref b :: rest) (hW : (rest.map fun v => v.category).sum ≤ 8) (hdg : decode cc pc = .ok (.invokevirtual index, 3)) (hf : cells ≤ R.cells ∧ slots ≤ R.slots)
    (kk : W p l e R s m args below meth c H locs cells slots Q (F0 m (pc + 3) ls (.int v :: rest))) : W p l e R s m args below meth c H locs cells slots Q (F0 m pc ls stk) :=
  g_run (va_runU S hM cw ⟨PE.blind, hv, fun U hU hW => ⟨rfl, hE.at hS hU hW, by rw [hU]; exact hP⟩⟩ rfl hn hsize hstack (lv_room hW) hdg hf) (fun _ _ _ h => h) kk
theorem g_callS {v : Int32} (S : CallFix p m c cc nL s args Ts own) (hE : EV z s s.heap) (hS : va_S (zA z) s.heap H locs) (hM : Met l y ws rm (PE z As P) (rqi v) 0 0 zF) (cw : CallB R s args own index y bytes maxL ret ws rm 0 0 n ∧ (Cond.static y).before args s = true)
    (hP : P H) (hn : As.length = n) (hsize : ls.size = nL) (hstack : stk = As.reverse ++ rest) (hW : (rest.map fun v => v.category).sum ≤ 8) (hdg : decode cc pc = .ok (.invokestatic index, 3)) (hf : cells ≤ R.cells ∧ slots ≤ R.slots)
    (kk : W p l e R s m args below meth c H locs cells slots Q (F0 m (pc + 3) ls (.int v :: rest))) : W p l e R s m args below meth c H locs cells slots Q (F0 m pc ls stk) :=
  g_run (va_runS S hM cw ⟨PE.blind, fun U hU hW => ⟨rfl, hE.at hS hU hW, by rw [hU]; exact hP⟩⟩ rfl hn hsize hstack (lv_room hW) hdg hf) (fun _ _ _ h => h) kk
theorem g_callSN {v : Int32} (S : CallFix p m c cc nL s args Ts own) (hE : EV z s s.heap) (hS : va_S (zA z) s.heap H locs) (hM : Met l y ws rm (PE z As P) (rqi v) 0 0 zF) (cw : va_CN R s args own index y host bytes maxL ret ws rm 0 0 n ∧ (Cond.static y).before args s = true ∧ True)
    (hP : P H) (hn : As.length = n) (hsize : ls.size = nL) (hstack : stk = As.reverse ++ rest) (hW : (rest.map fun v => v.category).sum ≤ 8) (hdg : decode cc pc = .ok (.invokestatic index, 3)) (hf : cells ≤ R.cells ∧ slots ≤ R.slots)
    (kk : W p l e R s m args below meth c H locs cells slots Q (F0 m (pc + 3) ls (.int v :: rest))) : W p l e R s m args below meth c H locs cells slots Q (F0 m pc ls stk) :=
  g_run (va_runSN S hM cw ⟨PE.blind, fun U hU hW => ⟨rfl, hE.at hS hU hW, by rw [hU]; exact hP⟩⟩ rfl hn hsize hstack (lv_room hW) hdg hf) (fun _ _ _ h => h) kk
/-! branches over truth values and small naturals; sums of naturals -/
theorem g_if_eq (S : CallFix p m c cc nL s args Ts own) {b : Bool} {off : Int} {tgt : Nat} (hdg : decode cc pc = .ok (.ifCond .eq off, 3)) (ht : (pc : Int) + off = (tgt : Int))
    (kt : b = false → W p l e R s m args below meth c H locs cells slots Q (F0 m tgt ls rest)) (kf : b = true → W p l e R s m args below meth c H locs cells slots Q (F0 m (pc + 3) ls rest)) : W p l e R s m args below meth c H locs cells slots Q (F0 m pc ls (.int (bI b) :: rest)) :=
  lv_if_eq S.1 S.2.1 hdg ht (fun h => kt (bI_eq h)) (fun h => kf (bI_ne h))
theorem g_if_ne (S : CallFix p m c cc nL s args Ts own) {b : Bool} {off : Int} {tgt : Nat} (hdg : decode cc pc = .ok (.ifCond .ne off, 3)) (ht : (pc : Int) + off = (tgt : Int))
    (kt : b = true → W p l e R s m args below meth c H locs cells slots Q (F0 m tgt ls rest)) (kf : b = false → W p l e R s m args below meth c H locs cells slots Q (F0 m (pc + 3) ls rest)) : W p l e R s m args below meth c H locs cells slots Q (F0 m pc ls (.int (bI b) :: rest)) :=
  lv_if_ne S.1 S.2.1 hdg ht (fun h => kt (bI_ne h)) (fun h => kf (bI_eq h))
theorem g_icmp_ge (S : CallFix p m c cc nL s args Ts own) {a b : Nat} (ha : a < 2 ^ 31) (hb : b < 2 ^ 31) {off : Int} {tgt : Nat} (hdg : decode cc pc = .ok (.if_icmp .ge off, 3)) (ht : (pc : Int) + off = (tgt : Int))
    (kt : b ≤ a → W p l e R s m args below meth c H locs cells slots Q (F0 m tgt ls rest)) (kf : a < b → W p l e R s m args below meth c H locs cells slots Q (F0 m (pc + 3) ls rest)) : W p l e R s m args below meth c H locs cells slots Q (F0 m pc ls (.int (nI b) :: .int (nI a) :: rest)) :=
  lv_icmp_ge S.1 S.2.1 hdg ht (fun h => kt ((nI_leI hb ha).mp h)) (fun h => kf (Nat.not_le.mp fun q => h ((nI_leI hb ha).mpr q)))
theorem g_icmp_gt (S : CallFix p m c cc nL s args Ts own) {a b : Nat} (ha : a < 2 ^ 31) (hb : b < 2 ^ 31) {off : Int} {tgt : Nat} (hdg : decode cc pc = .ok (.if_icmp .gt off, 3)) (ht : (pc : Int) + off = (tgt : Int))
    (kt : b < a → W p l e R s m args below meth c H locs cells slots Q (F0 m tgt ls rest)) (kf : a ≤ b → W p l e R s m args below meth c H locs cells slots Q (F0 m (pc + 3) ls rest)) : W p l e R s m args below meth c H locs cells slots Q (F0 m pc ls (.int (nI b) :: .int (nI a) :: rest)) :=
  lv_icmp_gt S.1 S.2.1 hdg ht (fun h => kt ((nI_ltI hb ha).mp h)) (fun h => kf (Nat.not_lt.mp fun q => h ((nI_ltI hb ha).mpr q)))
theorem g_icmp_lt (S : CallFix p m c cc nL s args Ts own) {a b : Nat} (ha : a < 2 ^ 31) (hb : b < 2 ^ 31) {off : Int} {tgt : Nat} (hdg : decode cc pc = .ok (.if_icmp .lt off, 3)) (ht : (pc : Int) + off = (tgt : Int))
    (kt : a < b → W p l e R s m args below meth c H locs cells slots Q (F0 m tgt ls rest)) (kf : b ≤ a → W p l e R s m args below meth c H locs cells slots Q (F0 m (pc + 3) ls rest)) : W p l e R s m args below meth c H locs cells slots Q (F0 m pc ls (.int (nI b) :: .int (nI a) :: rest)) :=
  lv_icmp_lt S.1 S.2.1 hdg ht (fun h => kt ((nI_ltI ha hb).mp h)) (fun h => kf (Nat.not_lt.mp fun q => h ((nI_ltI ha hb).mpr q)))
theorem g_icmp_le (S : CallFix p m c cc nL s args Ts own) {a b : Nat} (ha : a < 2 ^ 31) (hb : b < 2 ^ 31) {off : Int} {tgt : Nat} (hdg : decode cc pc = .ok (.if_icmp .le off, 3)) (ht : (pc : Int) + off = (tgt : Int))
    (kt : a ≤ b → W p l e R s m args below meth c H locs cells slots Q (F0 m tgt ls rest)) (kf : b < a → W p l e R s m args below meth c H locs cells slots Q (F0 m (pc + 3) ls rest)) : W p l e R s m args below meth c H locs cells slots Q (F0 m pc ls (.int (nI b) :: .int (nI a) :: rest)) :=
  lv_icmp_le S.1 S.2.1 hdg ht (fun h => kt ((nI_leI ha hb).mp h)) (fun h => kf (Nat.not_le.mp fun q => h ((nI_leI ha hb).mpr q)))
theorem g_icmp_eq (S : CallFix p m c cc nL s args Ts own) {a b : Nat} (ha : a < 2 ^ 31) (hb : b < 2 ^ 31) {off : Int} {tgt : Nat} (hdg : decode cc pc = .ok (.if_icmp .eq off, 3)) (ht : (pc : Int) + off = (tgt : Int))
    (kt : a = b → W p l e R s m args below meth c H locs cells slots Q (F0 m tgt ls rest)) (kf : ¬ a = b → W p l e R s m args below meth c H locs cells slots Q (F0 m (pc + 3) ls rest)) : W p l e R s m args below meth c H locs cells slots Q (F0 m pc ls (.int (nI b) :: .int (nI a) :: rest)) :=
  lv_icmp_eq S.1 S.2.1 hdg ht (fun h => kt ((nI_eq ha hb).mp h)) (fun h => kf fun q => h ((nI_eq ha hb).mpr q))
theorem g_icmp_ne (S : CallFix p m c cc nL s args Ts own) {a b : Nat} (ha : a < 2 ^ 31) (hb : b < 2 ^ 31) {off : Int} {tgt : Nat} (hdg : decode cc pc = .ok (.if_icmp .ne off, 3)) (ht : (pc : Int) + off = (tgt : Int))
    (kt : ¬ a = b → W p l e R s m args below meth c H locs cells slots Q (F0 m tgt ls rest)) (kf : a = b → W p l e R s m args below meth c H locs cells slots Q (F0 m (pc + 3) ls rest)) : W p l e R s m args below meth c H locs cells slots Q (F0 m pc ls (.int (nI b) :: .int (nI a) :: rest)) :=
  lv_icmp_ne S.1 S.2.1 hdg ht (fun h => kt fun q => h ((nI_eq ha hb).mpr q)) (fun h => kf ((nI_eq ha hb).mp h))
theorem g_iadd (S : CallFix p m c cc nL s args Ts own) {a b : Nat} (hdg : decode cc pc = .ok (.iadd, 1))
    (kk : W p l e R s m args below meth c H locs cells slots Q (F0 m (pc + 1) ls (.int (nI (a + b)) :: rest))) : W p l e R s m args below meth c H locs cells slots Q (F0 m pc ls (.int (nI b) :: .int (nI a) :: rest)) :=
  lv_iadd S.1 S.2.1 hdg (by rw [nI_add]; exact kk)
end GRW
end
section
/-! ===== the reference's own rows: its fields and arrays, by the state g, what is thrown (t), and the two arrays that it looks ahead with (A, B) ===== -/
def sim (gm g : GS) : Prop := ∀ k, k ≠ 0 → k ≠ 34 → k ≠ 35 → gm k = g k
def MW (z : ZE) (w : WG) (g1 : GS) (o : Nat → Int64) (g : GS) (t : Int32) (A B : Nat → Int32) (H : Heap) : Prop := ∃ gm, WW z w g1 gm o H ∧ sim gm g ∧ gm 0 0 = t ∧ gm 34 = A ∧ gm 35 = B
theorem MW.kept {z : ZE} {w : WG} {g1 g : GS} {o : Nat → Int64} {t : Int32} {A B : Nat → Int32} {H H1 : Heap} (h : MW z w g1 o g t A B H) (hq : ∀ q : Nat, q < H.size → H1[q]? = H[q]?) : MW z w g1 o g t A B H1 := by
  obtain ⟨gm, h1, h2⟩ := h
  exact ⟨gm, h1.kept hq, h2⟩
theorem mf_get (w : WG) (gm : GS) {k : Nat} (hk : k < 36) : ((List.range 36).map (mf w gm))[k]? = some (mf w gm k) := by
  rw [List.getElem?_map, List.getElem?_range hk]; rfl
theorem mf_put (w : WG) (gm : GS) {k : Nat} {v : Int32} (hk : k < 36) (hA : isA k = false) : ((List.range 36).map (mf w gm)).set k (.int v) = (List.range 36).map (mf w (gup gm k 0 v)) := by
  apply List.ext_getElem?
  intro j
  by_cases hj : j = k
  · subst hj
    rw [List.getElem?_set_self (by simpa using hk), mf_get _ _ hk]
    simp [mf, hA, gup]
  · rw [List.getElem?_set_ne (Ne.symm hj)]
    by_cases h6 : j < 36
    · rw [mf_get _ _ h6, mf_get _ _ h6]
      simp [mf, gup, hj]
    · rw [List.getElem?_eq_none (by simpa using h6), List.getElem?_eq_none (by simpa using h6)]
/-- a write of one of the reference's cells leaves the world -/
theorem WW.mput {z : ZE} {w : WG} {g gm : GS} {o : Nat → Int64} {H H1 : Heap} (h : WW z w g gm o H) {k : Nat} {v : Int32} (hk : k < 36) (hA : isA k = false) (he : va_at (zD z) vwCl (wad w 9 0, .inr (6, ((List.range 36).map (mf w gm)).set k (.int v))) H1) (oq : ∀ q : Nat, q ≠ wad w 9 0 → H1[q]? = H[q]?) : WW z w g (gup gm k 0 v) o H1 := by
  refine h.wr 9 0 rfl ?_ oq rfl (fun _ _ h => h) ?_ h.2.2.2
  · rw [mf_put w gm hk hA] at he
    exact he
  · intro k' i hl hne
    match k', hl with
    | 0, _ => rfl
    | 1, _ => rfl
    | 2, _ => rfl
    | 3, _ => rfl
    | 4, _ => rfl
    | 5, _ => rfl
    | 6, _ => rfl
    | 7, _ => rfl
    | 8, _ => rfl
    | 9, hl => exact absurd ⟨rfl, hl⟩ hne
    | 10, hl =>
      have hik : i ≠ k := fun e => by
        have h9 : isA i = true := hl
        rw [e, hA] at h9
        cases h9
      have e : gup gm k 0 v i = gm i := funext fun j => gup_k hik
      simp only [ct, e]
    | n + 11, _ => rfl
theorem WW.mast {z : ZE} {w : WG} {g gm : GS} {o : Nat → Int64} {H H1 : Heap} (h : WW z w g gm o H) {k i : Nat} {x : Int32} (hA : isA k = true) (he : va_at (zD z) vwCl (wad w 10 k, cI (if isZ k then zZ z else zI z) (ln k) (upd (gm k) i x)) H1) (oq : ∀ q : Nat, q ≠ wad w 10 k → H1[q]? = H[q]?) : WW z w g (gup gm k i x) o H1 := by
  have e1 : gup gm k i x k = upd (gm k) i x := funext fun j => by simp [gup, upd]
  refine h.wr 10 k hA ?_ oq rfl (fun _ _ h => h) ?_ h.2.2.2
  · show va_at (zD z) vwCl (wad w 10 k, cI (if isZ k then zZ z else zI z) (ln k) (gup gm k i x k)) H1
    rw [e1]
    exact he
  · intro k' i' hl hne
    match k', hl with
    | 0, _ => rfl
    | 1, _ => rfl
    | 2, _ => rfl
    | 3, _ => rfl
    | 4, _ => rfl
    | 5, _ => rfl
    | 6, _ => rfl
    | 7, _ => rfl
    | 8, _ => rfl
    | 9, _ =>
      have e : mf w (gup gm k i x) = mf w gm := by
        funext j
        unfold mf
        by_cases hj : isA j = true
        · simp [hj]
        · have : j ≠ k := fun q => hj (q ▸ hA)
          simp [hj, gup, this]
      show (Sum.inr (6, (List.range 36).map (mf w (gup gm k i x))) : va_E) = _
      rw [e]
      rfl
    | 10, _ =>
      have hik : i' ≠ k := fun q => hne ⟨rfl, q⟩
      have e : gup gm k i x i' = gm i' := funext fun j => gup_k hik
      simp only [ct, e]
    | n + 11, _ => rfl
theorem sim.up {gm g : GS} (h : sim gm g) (k i : Nat) (v : Int32) : sim (gup gm k i v) (gup g k i v) := fun a h0 h1 h2 => by
  funext b
  unfold gup
  rw [h a h0 h1 h2]
theorem sim.jk {gm g : GS} (h : sim gm g) {k i : Nat} {v : Int32} (hk : k = 0 ∨ k = 34 ∨ k = 35) : sim (gup gm k i v) g := fun a h0 h1 h2 => by
  funext b
  rw [gup_k (by rcases hk with rfl | rfl | rfl <;> assumption), h a h0 h1 h2]
section GMW
variable {p : Program} {l : Launch} {e : Env} {R : Room} {s : State} {m : MethodId} {args : Array Value} {below : List Frame} {meth : Method} {c : Code} {H : Heap} {locs : List Loc} {cells slots : Nat} {Q : State → Prop}
variable {cc : ByteArray} {pc nL : Nat} {ls : Array Slot} {rest stk : List Value} {z : ZE} {own : String} {w : WG} {g1 g : GS} {o : Nat → Int64} {t : Int32} {A B : Nat → Int32}
/-- the classes' layouts are among the words -/
theorem inU0 : ∀ w ∈ u_ws RX0 TX0 11, w ∈ wU := by
  intro w hw
  simp only [u_ws, List.range, List.range.loop, List.map, List.mem_cons, List.not_mem_nil, or_false] at hw
  rcases hw with rfl | rfl | rfl | rfl | rfl | rfl | rfl | rfl | rfl | rfl | rfl
  · exact tw_360
  · exact tw_362
  · exact tw_364
  · exact tw_366
  · exact tw_368
  · exact tw_348
  · exact tw_350
  · exact tw_352
  · exact tw_354
  · exact tw_356
  · exact tw_358
theorem inU1 : ∀ w ∈ u_ws RX1 TX1 9, w ∈ wU := by
  intro w hw
  simp only [u_ws, List.range, List.range.loop, List.map, List.mem_cons, List.not_mem_nil, or_false] at hw
  rcases hw with rfl | rfl | rfl | rfl | rfl | rfl | rfl | rfl | rfl
  · exact tw_606
  · exact tw_608
  · exact tw_610
  · exact tw_612
  · exact tw_614
  · exact tw_616
  · exact tw_618
  · exact tw_620
  · exact tw_622
theorem inU2 : ∀ w ∈ u_ws RX2 TX2 9, w ∈ wU := by
  intro w hw
  simp only [u_ws, List.range, List.range.loop, List.map, List.mem_cons, List.not_mem_nil, or_false] at hw
  rcases hw with rfl | rfl | rfl | rfl | rfl | rfl | rfl | rfl | rfl
  · exact tw_512
  · exact tw_513
  · exact tw_514
  · exact tw_515
  · exact tw_516
  · exact tw_504
  · exact tw_506
  · exact tw_508
  · exact tw_510
theorem inU3 : ∀ w ∈ u_ws RX3 TX3 2, w ∈ wU := by
  intro w hw
  simp only [u_ws, List.range, List.range.loop, List.map, List.mem_cons, List.not_mem_nil, or_false] at hw
  rcases hw with rfl | rfl
  · exact tw_459
  · exact tw_461
theorem inU5 : ∀ w ∈ u_ws RX5 TX5 8, w ∈ wU := by
  intro w hw
  simp only [u_ws, List.range, List.range.loop, List.map, List.mem_cons, List.not_mem_nil, or_false] at hw
  rcases hw with rfl | rfl | rfl | rfl | rfl | rfl | rfl | rfl
  · exact tw_69
  · exact tw_71
  · exact tw_73
  · exact tw_75
  · exact tw_77
  · exact tw_79
  · exact tw_81
  · exact tw_83
theorem inU6 : ∀ w ∈ u_ws RX6 TX6 36, w ∈ wU := by
  intro w hw
  simp only [u_ws, List.range, List.range.loop, List.map, List.mem_cons, List.not_mem_nil, or_false] at hw
  rcases hw with rfl | rfl | rfl | rfl | rfl | rfl | rfl | rfl | rfl | rfl | rfl | rfl | rfl | rfl | rfl | rfl | rfl | rfl | rfl | rfl | rfl | rfl | rfl | rfl | rfl | rfl | rfl | rfl | rfl | rfl | rfl | rfl | rfl | rfl | rfl | rfl
  · exact tw_776
  · exact tw_778
  · exact tw_780
  · exact tw_782
  · exact tw_784
  · exact tw_786
  · exact tw_788
  · exact tw_790
  · exact tw_792
  · exact tw_794
  · exact tw_796
  · exact tw_798
  · exact tw_800
  · exact tw_802
  · exact tw_804
  · exact tw_806
  · exact tw_808
  · exact tw_810
  · exact tw_812
  · exact tw_814
  · exact tw_816
  · exact tw_818
  · exact tw_820
  · exact tw_822
  · exact tw_824
  · exact tw_826
  · exact tw_828
  · exact tw_830
  · exact tw_832
  · exact tw_834
  · exact tw_836
  · exact tw_838
  · exact tw_840
  · exact tw_842
  · exact tw_844
  · exact tw_846
theorem inUL : ∀ w ∈ u_ws RJx4a65c TJx4a65c 3, w ∈ wU := by
  intro w hw
  simp only [u_ws, List.range, List.range.loop, List.map, List.mem_cons, List.not_mem_nil, or_false] at hw
  rcases hw with rfl | rfl | rfl
  · exact tw_55
  · exact tw_51
  · exact tw_53
theorem m_geti (S : CallFix p m c cc nL s args wU own) (hE : EV z s s.heap) (hW : MW z w g1 o g t A B H) (k : Nat) {index : Nat} (hk : k < 36) (hA : isA k = false) (h0 : k ≠ 0) (hlink : Cond.fieldLink own index "DovetailRowModel" (TX6 k).2.1 (TX6 k).2.2.1 ∈ wU) (hsame : (TX6 k).1 = "DovetailRowModel") {v : Int32} (hv : g k 0 = v) (hdg : decode cc pc = .ok (.getfield index, 3))
    (kk : W p l e R s m args below meth c H locs cells slots Q (F0 m (pc + 3) ls (.int v :: rest))) : W p l e R s m args below meth c H locs cells slots Q (F0 m pc ls (.ref (wad w 9 0) :: rest)) := by
  obtain ⟨gm, hW, hG, -⟩ := hW
  refine g_get S hE hW.md (C := RX6) (T := TX6) (N := 36) rfl inU6 k hk hlink (Or.inl hsame) (v := .int v) ?_ hdg kk
  rw [mf_get _ _ hk, mf, hA, hG k h0 (fun e => by rw [e] at hA; cases hA) (fun e => by rw [e] at hA; cases hA), hv]
  rfl
theorem m_gett (S : CallFix p m c cc nL s args wU own) (hE : EV z s s.heap) (hW : MW z w g1 o g t A B H) {index : Nat} (hlink : Cond.fieldLink own index "DovetailRowModel" (TX6 0).2.1 (TX6 0).2.2.1 ∈ wU) (hdg : decode cc pc = .ok (.getfield index, 3))
    (kk : W p l e R s m args below meth c H locs cells slots Q (F0 m (pc + 3) ls (.int t :: rest))) : W p l e R s m args below meth c H locs cells slots Q (F0 m pc ls (.ref (wad w 9 0) :: rest)) := by
  obtain ⟨gm, hW, hG, ht, -⟩ := hW
  refine g_get S hE hW.md (C := RX6) (T := TX6) (N := 36) rfl inU6 0 (by decide) hlink (Or.inl rfl) (v := .int t) ?_ hdg kk
  rw [mf_get _ _ (by decide), ← ht]
  rfl
theorem m_geta (S : CallFix p m c cc nL s args wU own) (hE : EV z s s.heap) (hW : MW z w g1 o g t A B H) (k : Nat) {index : Nat} (hk : k < 36) (hA : isA k = true) (hlink : Cond.fieldLink own index "DovetailRowModel" (TX6 k).2.1 (TX6 k).2.2.1 ∈ wU) (hsame : (TX6 k).1 = "DovetailRowModel") (hdg : decode cc pc = .ok (.getfield index, 3))
    (kk : W p l e R s m args below meth c H locs cells slots Q (F0 m (pc + 3) ls (.ref (wad w 10 k) :: rest))) : W p l e R s m args below meth c H locs cells slots Q (F0 m pc ls (.ref (wad w 9 0) :: rest)) := by
  obtain ⟨gm, hW, hG, -⟩ := hW
  refine g_get S hE hW.md (C := RX6) (T := TX6) (N := 36) rfl inU6 k hk hlink (Or.inl hsame) (v := .ref (wad w 10 k)) ?_ hdg kk
  rw [mf_get _ _ hk, mf, hA]
  rfl
theorem m_ald (S : CallFix p m c cc nL s args wU own) (hE : EV z s s.heap) (hW : MW z w g1 o g t A B H) {k : Nat} (hk : (isA k && !isZ k && k != 34 && k != 35) = true) {i v : Int32} (hin : vp_in i (ln k)) (hv : g k i.toNatClampNeg = v) (hdg : decode cc pc = .ok (.iaload, 1))
    (kk : W p l e R s m args below meth c H locs cells slots Q (F0 m (pc + 1) ls (.int v :: rest))) : W p l e R s m args below meth c H locs cells slots Q (F0 m pc ls (.int i :: .ref (wad w 10 k) :: rest)) := by
  obtain ⟨gm, hW, hG, -⟩ := hW
  simp only [Bool.and_eq_true, Bool.not_eq_true', bne_iff_ne] at hk
  have h0 : k ≠ 0 := fun e => by have := hk.1.1.1; rw [e] at this; cases this
  have hat := hW.ma hk.1.1.1
  rw [hk.1.1.2] at hat
  refine g_iald S hE hat hin hdg ?_
  rw [hG k h0 hk.1.2 hk.2, hv]
  exact kk
theorem m_zald (S : CallFix p m c cc nL s args wU own) (hE : EV z s s.heap) (hW : MW z w g1 o g t A B H) {k : Nat} (hk : (isA k && isZ k) = true) {i v : Int32} (hin : vp_in i (ln k)) (hv : g k i.toNatClampNeg = v) (hdg : decode cc pc = .ok (.baload, 1))
    (kk : W p l e R s m args below meth c H locs cells slots Q (F0 m (pc + 1) ls (.int v :: rest))) : W p l e R s m args below meth c H locs cells slots Q (F0 m pc ls (.int i :: .ref (wad w 10 k) :: rest)) := by
  obtain ⟨gm, hW, hG, -⟩ := hW
  simp only [Bool.and_eq_true] at hk
  have h0 : k ≠ 0 := fun e => by have := hk.1; rw [e] at this; cases this
  have h1 : k ≠ 34 := fun e => by have := hk.2; rw [e] at this; cases this
  have h2 : k ≠ 35 := fun e => by have := hk.2; rw [e] at this; cases this
  have hat := hW.ma hk.1
  rw [hk.2] at hat
  refine g_zald S hE hat hin hdg ?_
  rw [hG k h0 h1 h2, hv]
  exact kk
theorem m_ald34 (S : CallFix p m c cc nL s args wU own) (hE : EV z s s.heap) (hW : MW z w g1 o g t A B H) {i : Int32} (hin : vp_in i (ln 34)) (hdg : decode cc pc = .ok (.iaload, 1))
    (kk : W p l e R s m args below meth c H locs cells slots Q (F0 m (pc + 1) ls (.int (A i.toNatClampNeg) :: rest))) : W p l e R s m args below meth c H locs cells slots Q (F0 m pc ls (.int i :: .ref (wad w 10 34) :: rest)) := by
  obtain ⟨gm, hW, hG, -, hA, -⟩ := hW
  refine g_iald S hE (hW.ma (i := 34) rfl) hin hdg ?_
  rw [hA]
  exact kk
theorem m_ald35 (S : CallFix p m c cc nL s args wU own) (hE : EV z s s.heap) (hW : MW z w g1 o g t A B H) {i : Int32} (hin : vp_in i (ln 35)) (hdg : decode cc pc = .ok (.iaload, 1))
    (kk : W p l e R s m args below meth c H locs cells slots Q (F0 m (pc + 1) ls (.int (B i.toNatClampNeg) :: rest))) : W p l e R s m args below meth c H locs cells slots Q (F0 m pc ls (.int i :: .ref (wad w 10 35) :: rest)) := by
  obtain ⟨gm, hW, hG, -, -, hB⟩ := hW
  refine g_iald S hE (hW.ma (i := 35) rfl) hin hdg ?_
  rw [hB]
  exact kk
theorem m_putt (S : CallFix p m c cc nL s args wU own) (hE : EV z s s.heap) {H0 : Heap} (hS : va_S (zA z) H0 H locs) (hW : MW z w g1 o g t A B H) {index : Nat} (hlink : Cond.fieldLink own index "DovetailRowModel" (TX6 0).2.1 (TX6 0).2.2.1 ∈ wU) {v : Int32} (hdg : decode cc pc = .ok (.putfield index, 3))
    (kk : ∀ (H1 : Heap) (locs1 : List Loc), MW z w g1 o g v A B H1 → va_S (zA z) H0 H1 locs1 → W p l e R s m args below meth c H1 locs1 cells slots Q (F0 m (pc + 3) ls rest)) : W p l e R s m args below meth c H locs cells slots Q (F0 m pc ls (.int v :: .ref (wad w 9 0) :: rest)) := by
  obtain ⟨gm, hW, hG, ht, hA, hB⟩ := hW
  refine g_put S hE hS hW.md (hW.2.2.1 9 0 rfl) (C := RX6) (T := TX6) (N := 36) rfl inU6 tyX6 tyX6_ok nmX6 0 (by decide) hlink (Or.inl rfl) (Or.inl rfl) rfl rfl (by simp) hdg (fun H1 locs1 h1 h2 _ h4 => kk H1 locs1 ⟨_, hW.mput (k := 0) (by decide) rfl h1 h2, hG.jk (Or.inl rfl), gup_s, ?_, ?_⟩ h4)
  · rw [← hA]; funext i; exact gup_k (by decide)
  · rw [← hB]; funext i; exact gup_k (by decide)
theorem m_puti (S : CallFix p m c cc nL s args wU own) (hE : EV z s s.heap) {H0 : Heap} (hS : va_S (zA z) H0 H locs) (hW : MW z w g1 o g t A B H) (k : Nat) {index : Nat} (hk : k < 36) (hA : isA k = false) (h0 : k ≠ 0) (hlink : Cond.fieldLink own index "DovetailRowModel" (TX6 k).2.1 (TX6 k).2.2.1 ∈ wU) (hsame : (TX6 k).1 = "DovetailRowModel" ∧ (TX6 k).2.2.2 = false ∧ tyX6 k = .int) {v : Int32} (hdg : decode cc pc = .ok (.putfield index, 3))
    (kk : ∀ (H1 : Heap) (locs1 : List Loc), MW z w g1 o (gup g k 0 v) t A B H1 → va_S (zA z) H0 H1 locs1 → W p l e R s m args below meth c H1 locs1 cells slots Q (F0 m (pc + 3) ls rest)) : W p l e R s m args below meth c H locs cells slots Q (F0 m pc ls (.int v :: .ref (wad w 9 0) :: rest)) := by
  obtain ⟨gm, hW, hG, ht, hA4, hB⟩ := hW
  refine g_put S hE hS hW.md (hW.2.2.1 9 0 rfl) (C := RX6) (T := TX6) (N := 36) rfl inU6 tyX6 tyX6_ok nmX6 k hk hlink (Or.inl hsame.1) (Or.inl hsame.2.1) (by rw [hsame.2.2]; rfl) (by rw [hsame.2.2]; rfl) (by simpa using hk) hdg (fun H1 locs1 h1 h2 _ h4 => kk H1 locs1 ⟨_, hW.mput hk hA h1 h2, hG.up k 0 v, ?_, ?_, ?_⟩ h4)
  · rw [gup_k (Ne.symm h0)]; exact ht
  · rw [← hA4]; funext i; exact gup_k (fun e => by rw [← e] at hA; cases hA)
  · rw [← hB]; funext i; exact gup_k (fun e => by rw [← e] at hA; cases hA)
theorem m_ast (S : CallFix p m c cc nL s args wU own) (hE : EV z s s.heap) {H0 : Heap} (hS : va_S (zA z) H0 H locs) (hW : MW z w g1 o g t A B H) {k : Nat} (hk : (isA k && !isZ k && k != 34 && k != 35) = true) {i v : Int32} {j : Nat} (hin : vp_in i (ln k)) (hj : i.toNatClampNeg = j) (hdg : decode cc pc = .ok (.iastore, 1))
    (kk : ∀ (H1 : Heap) (locs1 : List Loc), MW z w g1 o (gup g k j v) t A B H1 → va_S (zA z) H0 H1 locs1 → W p l e R s m args below meth c H1 locs1 cells slots Q (F0 m (pc + 1) ls rest)) : W p l e R s m args below meth c H locs cells slots Q (F0 m pc ls (.int v :: .int i :: .ref (wad w 10 k) :: rest)) := by
  obtain ⟨gm, hW, hG, ht, hA4, hB⟩ := hW
  simp only [Bool.and_eq_true, Bool.not_eq_true', bne_iff_ne] at hk
  have h0 : k ≠ 0 := fun e => by have := hk.1.1.1; rw [e] at this; cases this
  have hat := hW.ma hk.1.1.1
  rw [hk.1.1.2] at hat
  subst hj
  refine g_iast S hE hS hat (hW.2.2.1 10 k hk.1.1.1) hin hdg (fun H1 locs1 h1 h2 _ h4 => kk H1 locs1 ⟨_, hW.mast (k := k) (i := i.toNatClampNeg) (x := v) hk.1.1.1 (by rw [hk.1.1.2]; exact h1) h2, hG.up k _ v, ?_, ?_, ?_⟩ h4)
  · rw [gup_k (Ne.symm h0)]; exact ht
  · rw [← hA4]; funext i; exact gup_k (Ne.symm hk.1.2)
  · rw [← hB]; funext i; exact gup_k (Ne.symm hk.2)
theorem m_zast (S : CallFix p m c cc nL s args wU own) (hE : EV z s s.heap) {H0 : Heap} (hS : va_S (zA z) H0 H locs) (hW : MW z w g1 o g t A B H) {k : Nat} (hk : (isA k && isZ k) = true) {i v : Int32} {j : Nat} (hin : vp_in i (ln k)) (hj : i.toNatClampNeg = j) (hx1 : narrow .boolean (.int v) = .int v) (hdg : decode cc pc = .ok (.bastore, 1))
    (kk : ∀ (H1 : Heap) (locs1 : List Loc), MW z w g1 o (gup g k j v) t A B H1 → va_S (zA z) H0 H1 locs1 → W p l e R s m args below meth c H1 locs1 cells slots Q (F0 m (pc + 1) ls rest)) : W p l e R s m args below meth c H locs cells slots Q (F0 m pc ls (.int v :: .int i :: .ref (wad w 10 k) :: rest)) := by
  obtain ⟨gm, hW, hG, ht, hA4, hB⟩ := hW
  simp only [Bool.and_eq_true] at hk
  have h0 : k ≠ 0 := fun e => by have := hk.1; rw [e] at this; cases this
  have h1 : k ≠ 34 := fun e => by have := hk.2; rw [e] at this; cases this
  have h2 : k ≠ 35 := fun e => by have := hk.2; rw [e] at this; cases this
  have hat := hW.ma hk.1
  rw [hk.2] at hat
  subst hj
  refine g_zast S hE hS hat (hW.2.2.1 10 k hk.1) hin hx1 hdg (fun H1 locs1 h1 h2 _ h4 => kk H1 locs1 ⟨_, hW.mast (k := k) (i := i.toNatClampNeg) (x := v) hk.1 (by rw [hk.2]; exact h1) h2, hG.up k _ v, ?_, ?_, ?_⟩ h4)
  · rw [gup_k (Ne.symm h0)]; exact ht
  · rw [← hA4]; funext i; exact gup_k (Ne.symm (by assumption))
  · rw [← hB]; funext i; exact gup_k (Ne.symm (by assumption))
theorem m_ast34 (S : CallFix p m c cc nL s args wU own) (hE : EV z s s.heap) {H0 : Heap} (hS : va_S (zA z) H0 H locs) (hW : MW z w g1 o g t A B H) {i v : Int32} {j : Nat} (hin : vp_in i (ln 34)) (hj : i.toNatClampNeg = j) (hdg : decode cc pc = .ok (.iastore, 1))
    (kk : ∀ (H1 : Heap) (locs1 : List Loc), MW z w g1 o g t (upd A j v) B H1 → va_S (zA z) H0 H1 locs1 → W p l e R s m args below meth c H1 locs1 cells slots Q (F0 m (pc + 1) ls rest)) : W p l e R s m args below meth c H locs cells slots Q (F0 m pc ls (.int v :: .int i :: .ref (wad w 10 34) :: rest)) := by
  obtain ⟨gm, hW, hG, ht, hA4, hB⟩ := hW
  subst hj
  refine g_iast S hE hS (hW.ma (i := 34) rfl) (hW.2.2.1 10 34 rfl) hin hdg (fun H1 locs1 h1 h2 _ h4 => kk H1 locs1 ⟨_, hW.mast (k := 34) (i := i.toNatClampNeg) (x := v) rfl h1 h2, hG.jk (Or.inr (Or.inl rfl)), ?_, ?_, ?_⟩ h4)
  · rw [gup_k (by decide)]; exact ht
  · rw [← hA4]; funext j; simp [gup, upd]
  · rw [← hB]; funext i; exact gup_k (by decide)
theorem m_ast35 (S : CallFix p m c cc nL s args wU own) (hE : EV z s s.heap) {H0 : Heap} (hS : va_S (zA z) H0 H locs) (hW : MW z w g1 o g t A B H) {i v : Int32} {j : Nat} (hin : vp_in i (ln 35)) (hj : i.toNatClampNeg = j) (hdg : decode cc pc = .ok (.iastore, 1))
    (kk : ∀ (H1 : Heap) (locs1 : List Loc), MW z w g1 o g t A (upd B j v) H1 → va_S (zA z) H0 H1 locs1 → W p l e R s m args below meth c H1 locs1 cells slots Q (F0 m (pc + 1) ls rest)) : W p l e R s m args below meth c H locs cells slots Q (F0 m pc ls (.int v :: .int i :: .ref (wad w 10 35) :: rest)) := by
  obtain ⟨gm, hW, hG, ht, hA4, hB⟩ := hW
  subst hj
  refine g_iast S hE hS (hW.ma (i := 35) rfl) (hW.2.2.1 10 35 rfl) hin hdg (fun H1 locs1 h1 h2 _ h4 => kk H1 locs1 ⟨_, hW.mast (k := 35) (i := i.toNatClampNeg) (x := v) rfl h1 h2, hG.jk (Or.inr (Or.inr rfl)), ?_, ?_, ?_⟩ h4)
  · rw [gup_k (by decide)]; exact ht
  · rw [← hA4]; funext i; exact gup_k (by decide)
  · rw [← hB]; funext j; simp [gup, upd]
/-- the reference's answer -/
theorem m_ret {post : Int32 → GS × Int32 × (Nat → Int32) × (Nat → Int32) → Prop} (S : CallFix p m c cc nL s args wU own) (hr : meth.sig.returnType = some .int) (hlocks : meth.locks = false) (hS : va_S (zA z) s.heap H locs) (hW : MW z w g1 o g t A B H) {x : Int32} (hp : post x (g, t, A, B)) (hdg : decode cc pc = .ok (.ireturn, 1)) :
    W p l e R s m args below meth c H locs 0 0 (MQ below (va_Qi post (fun u st => MW z w g1 o u.1 u.2.1 u.2.2.1 u.2.2.2 st.heap) (zA z)) args s 0 0 (zA z)) (F0 m pc ls [.int x]) :=
  W.iret (v := x) S.1 S.2.1 hr (fun t9 ht _ => ⟨⟨x, (g, t, A, B), rfl, hp, by show MW z w g1 o g t A B t9.heap; rw [ht]; exact hW⟩, hS.F ht⟩) hS.2.2 hdg
end GMW
end
section
/-! ===== what the answers are: numbers over the state g ===== -/
def wi (v a b : Int32) : Bool := !decide (v < a) && !decide (b < v)
def mvd (size kind moister : Int32) : Int32 := size * (kind + 2) * moister / 10000
def hd (k : Int32) : Int32 := if k = 0 then 2 else if k = 1 then 4 else if k = 2 then 7 else 9
def wAt (g : GS) (p : Nat) (wd : Int32) : Int32 := g 20 p + mvd (g 20 p) (g 6 (pb g p)) (wd - g 21 p)
def bWd (g : GS) (b : Nat) : Int32 := g 9 b + mvd (g 9 b) (g 6 b) (g 12 b - g 11 b)
def stp (d co : Int32) : Int32 := if d / (4 + co) = 0 then (if d ≤ 0 then (if 0 ≤ d then 0 else -1) else 1) else d / (4 + co)
def beh (air wd co : Int32) : Int32 := wd + stp (air - wd) co
def mo (g : GS) : Nat := (g 1 0).toNatClampNeg
def wea (g : GS) (n : Nat) : Int32 := g 2 (n % 12)
def wbr (g : GS) (j : Nat) (wd : Int32) : Bool :=
  if g 25 j = 1 then decide (5 < mvd (g 28 j) (g 6 (pb g (jp g j))) (wd - g 33 j)) || !decide (-5 ≤ mvd (g 28 j) (g 6 (pb g (jp g j))) (wd - g 33 j))
  else decide (g 25 j = 2) && !decide (g 28 j - 2 * g 29 j ≤ wAt g (jp g j) wd)
def tkn (g : GS) (b : Nat) (f t : Int32) (p : Nat) : Bool := decide (pb g p = b) && (!decide (g 18 p + g 19 p + 30 ≤ f) && !decide (t ≤ g 18 p - 30))
def knt (g : GS) (b : Nat) (f t : Int32) (k : Nat) : Bool := !decide (g 15 (4 * b + k) ≤ f) && !decide (t ≤ g 14 (4 * b + k))
def fit (g : GS) (kd : Int32) (p : Nat) (size tongue : Int32) : Bool :=
  if kd = 0 then !decide (g 19 p < size) else if kd = 1 then !decide (wAt g p (g 22 p) < size) else !decide (size < wAt g p (g 22 p)) && !decide (wAt g p (g 22 p) < size - 2 * tongue)
def sta (g : GS) (j : Nat) : Int32 := if g 31 j = 0 then 0 else if g 32 j = 0 then (if g 25 j = 2 then (if wAt g (jp g j) (g 22 (jp g j)) ≤ g 28 j then 1 else 2) else 1) else 3
/-- what holds of every state -/
def OKg (g : GS) : Prop :=
  ((g 5 0 = nI (nb g) ∧ nb g ≤ 20) ∧ (g 16 0 = nI (np g) ∧ np g ≤ 40) ∧ (g 24 0 = nI (nj g) ∧ nj g ≤ 30) ∧ (g 1 0 = nI (mo g) ∧ mo g ≤ 1200)) ∧
  (∀ i, i < nb g → (∃ s : Nat, s < 4 ∧ g 6 i = nI s) ∧ (g 13 i = nI (kn g i) ∧ kn g i ≤ 4) ∧ (∃ L : Nat, 100 ≤ L ∧ L ≤ 30000 ∧ g 10 i = nI L) ∧ ∀ k, k < kn g i → ∃ f t : Nat, f < t ∧ t ≤ 30000 ∧ g 14 (4 * i + k) = nI f ∧ g 15 (4 * i + k) = nI t) ∧
  (∀ i, i < np g → (g 17 i = nI (pb g i) ∧ pb g i < nb g) ∧ (∃ c : Nat, c ≤ 6 ∧ g 23 i = nI c) ∧ ∃ f L : Nat, f ≤ 30000 ∧ 10 ≤ L ∧ L ≤ 30000 ∧ g 18 i = nI f ∧ g 19 i = nI L) ∧
  (∀ i, i < nj g → (g 26 i = nI (jp g i) ∧ jp g i < np g) ∧ (g 27 i = nI (jo g i) ∧ jo g i < np g) ∧ (∃ k : Nat, k < 3 ∧ g 25 i = nI k) ∧ (g 31 i = 0 ∨ g 31 i = 1) ∧ (g 32 i = 0 ∨ (g 32 i = 1 ∧ g 31 i = 1))) ∧
  ((∀ i, nb g ≤ i → g 13 i = 0) ∧ (∀ i, np g ≤ i → g 23 i = 0) ∧ ∀ i, nj g ≤ i → g 30 i = 0 ∧ g 31 i = 0 ∧ g 32 i = 0 ∧ g 33 i = 0)
theorem OKg.n5 {g : GS} (h : OKg g) : g 5 0 = nI (nb g) := h.1.1.1
theorem OKg.l5 {g : GS} (h : OKg g) : nb g ≤ 20 := h.1.1.2
theorem OKg.n16 {g : GS} (h : OKg g) : g 16 0 = nI (np g) := h.1.2.1.1
theorem OKg.l16 {g : GS} (h : OKg g) : np g ≤ 40 := h.1.2.1.2
theorem OKg.n24 {g : GS} (h : OKg g) : g 24 0 = nI (nj g) := h.1.2.2.1.1
theorem OKg.l24 {g : GS} (h : OKg g) : nj g ≤ 30 := h.1.2.2.1.2
theorem OKg.n1 {g : GS} (h : OKg g) : g 1 0 = nI (mo g) := h.1.2.2.2.1
theorem OKg.l1 {g : GS} (h : OKg g) : mo g ≤ 1200 := h.1.2.2.2.2
theorem OKg.sp {g : GS} (h : OKg g) {i : Nat} (hi : i < nb g) : ∃ s : Nat, s < 4 ∧ g 6 i = nI s := (h.2.1 i hi).1
theorem OKg.n13 {g : GS} (h : OKg g) {i : Nat} (hi : i < nb g) : g 13 i = nI (kn g i) := (h.2.1 i hi).2.1.1
theorem OKg.l13 {g : GS} (h : OKg g) {i : Nat} (hi : i < nb g) : kn g i ≤ 4 := (h.2.1 i hi).2.1.2
theorem OKg.len {g : GS} (h : OKg g) {i : Nat} (hi : i < nb g) : ∃ L : Nat, 100 ≤ L ∧ L ≤ 30000 ∧ g 10 i = nI L := (h.2.1 i hi).2.2.1
theorem OKg.kts {g : GS} (h : OKg g) {i k : Nat} (hi : i < nb g) (hk : k < kn g i) : ∃ f t : Nat, f < t ∧ t ≤ 30000 ∧ g 14 (4 * i + k) = nI f ∧ g 15 (4 * i + k) = nI t := (h.2.1 i hi).2.2.2 k hk
theorem OKg.n17 {g : GS} (h : OKg g) {i : Nat} (hi : i < np g) : g 17 i = nI (pb g i) := (h.2.2.1 i hi).1.1
theorem OKg.l17 {g : GS} (h : OKg g) {i : Nat} (hi : i < np g) : pb g i < nb g := (h.2.2.1 i hi).1.2
theorem OKg.cts {g : GS} (h : OKg g) {i : Nat} (hi : i < np g) : ∃ c : Nat, c ≤ 6 ∧ g 23 i = nI c := (h.2.2.1 i hi).2.1
theorem OKg.pl {g : GS} (h : OKg g) {i : Nat} (hi : i < np g) : ∃ f L : Nat, f ≤ 30000 ∧ 10 ≤ L ∧ L ≤ 30000 ∧ g 18 i = nI f ∧ g 19 i = nI L := (h.2.2.1 i hi).2.2
theorem OKg.n26 {g : GS} (h : OKg g) {i : Nat} (hi : i < nj g) : g 26 i = nI (jp g i) := (h.2.2.2.1 i hi).1.1
theorem OKg.l26 {g : GS} (h : OKg g) {i : Nat} (hi : i < nj g) : jp g i < np g := (h.2.2.2.1 i hi).1.2
theorem OKg.n27 {g : GS} (h : OKg g) {i : Nat} (hi : i < nj g) : g 27 i = nI (jo g i) := (h.2.2.2.1 i hi).2.1.1
theorem OKg.l27 {g : GS} (h : OKg g) {i : Nat} (hi : i < nj g) : jo g i < np g := (h.2.2.2.1 i hi).2.1.2
theorem OKg.kd {g : GS} (h : OKg g) {i : Nat} (hi : i < nj g) : ∃ k : Nat, k < 3 ∧ g 25 i = nI k := (h.2.2.2.1 i hi).2.2.1
theorem OKg.gl {g : GS} (h : OKg g) {i : Nat} (hi : i < nj g) : g 31 i = 0 ∨ g 31 i = 1 := (h.2.2.2.1 i hi).2.2.2.1
theorem OKg.br {g : GS} (h : OKg g) {i : Nat} (hi : i < nj g) : g 32 i = 0 ∨ (g 32 i = 1 ∧ g 31 i = 1) := (h.2.2.2.1 i hi).2.2.2.2
theorem co_ne {c : Nat} (h : c ≤ 6) : ¬ (4 + nI c : Int32) = 0 := by
  rw [show (4 : Int32) = nI 4 from rfl, nI_add]
  exact nI_ne0 (by omega) (by omega)
theorem i_ge {a b : Int32} (h : ¬ a < b) : b ≤ a := Int32.not_lt.mp h
theorem i_gt {a b : Int32} (h : ¬ a ≤ b) : b < a := Int32.not_le.mp h
end
section
set_option maxHeartbeats 4000000 in
set_option maxRecDepth 100000 in
/-- between(v, a, b) -/
theorem c_X6_between (l : Launch) (z : ZE) (w : WG) (g1 g : GS) (o : Nat → Int64) (t : Int32) (A B : Nat → Int32) (v a b : Int32) : Met l yX6_between (.code yX6_between cX6_between 4 (some .boolean) :: wU) ({ frames := 0, cells := 0, slots := 0, locals := 0 }) (PE z [.ref (wad w 9 (0)), .int v, .int a, .int b] (fun H => MW z w g1 o g t A B H)) (rqi (bI (wi v a b))) 0 0 zF := by
  refine Met.ofW (cc := cX6_between) (maxL := 4) (ret := (some .boolean)) (by decide) rfl ?_
  intro p e s m args below meth c s₁ BD hml hv
  obtain ⟨rfl, hE, hW⟩ := hv
  have hts : ∀ w ∈ wU, w.before _ s = true := fun w h => atoms_spec (ws := .code yX6_between cX6_between 4 (some .boolean) :: wU) BD.pre w (List.mem_cons_of_mem _ h)
  have S : CallFix p m c cX6_between 4 s ([.ref (wad w 9 (0)), .int v, .int a, .int b] : List Value).toArray wU RX6 := ⟨BD.exec, BD.bytes, hml, findClass_of_methodNamed BD.named, hts⟩
  have hx := S.1
  have hb := S.2.1
  have hown := S.2.2.2.1
  have hr := BD.returns
  have hlocks := BD.notSynchronized
  have hS : va_S (zA z) s.heap s.heap [] := va_S.rf
  have hl := lv_entry ([.ref (wad w 9 (0)), .int v, .int a, .int b]) (n := 4) (Nat.le_of_ble_eq_true rfl)
  rw [lg_entry_eq]
  generalize (lg_sl ([.ref (wad w 9 (0)), .int v, .int a, .int b]) ++ List.replicate (4 - (lg_sl ([.ref (wad w 9 (0)), .int v, .int a, .int b])).length) Slot.unset).toArray = ls at hl ⊢
  have hl : lv_has ls 4 [(0, .ref (wad w 9 (0))), (1, .int v), (2, .int a), (3, .int b)] := hl
  refine lv_iload_n hx hb dX6_between_0 rfl (lv_at hl 1 rfl) ?_
  refine lv_iload_n hx hb dX6_between_1 rfl (lv_at hl 2 rfl) ?_
  refine lv_icmp_lt (tgt := 14) hx hb dX6_between_2 (by decide) (fun c_2 => ?_) (fun c_2 => ?_)
  · refine lv_iconst (v := 0) hx hb dX6_between_14 (by decide) ?_
    exact g_zret S hr hlocks (by simp [wi, bI, c_2]) ⟨_, rfl⟩ dX6_between_15
  · refine lv_iload_n hx hb dX6_between_5 rfl (lv_at hl 1 rfl) ?_
    refine lv_iload_n hx hb dX6_between_6 rfl (lv_at hl 3 rfl) ?_
    refine lv_icmp_gt (tgt := 14) hx hb dX6_between_7 (by decide) (fun c_7_1 => ?_) (fun c_7_1 => ?_)
    · refine lv_iconst (v := 0) hx hb dX6_between_14 (by decide) ?_
      exact g_zret S hr hlocks (by simp [wi, bI, c_2, c_7_1]) ⟨_, rfl⟩ dX6_between_15
    · refine lv_iconst (v := 1) hx hb dX6_between_10 (by decide) ?_
      refine lv_goto (tgt := 15) hx hb dX6_between_11 (by decide) ?_
      exact g_zret S hr hlocks (by simp [wi, bI, c_2, c_7_1]) ⟨_, rfl⟩ dX6_between_15
set_option maxHeartbeats 4000000 in
set_option maxRecDepth 100000 in
/-- isBoard(v) -/
theorem c_X6_isBoard (l : Launch) (z : ZE) (w : WG) (g1 g : GS) (o : Nat → Int64) (t : Int32) (A B : Nat → Int32) (hO : OKg g) (v : Int32) : Met l yX6_isBoard (.code yX6_isBoard cX6_isBoard 2 (some .boolean) :: wU) ({ frames := 1, cells := 0, slots := 0, locals := 23 }) (PE z [.ref (wad w 9 (0)), .int v] (fun H => MW z w g1 o g t A B H)) (rqi (bI (wi v 0 (nI (nb g) - 1)))) 0 0 zF := by
  refine Met.ofW (cc := cX6_isBoard) (maxL := 2) (ret := (some .boolean)) (by decide) rfl ?_
  intro p e s m args below meth c s₁ BD hml hv
  obtain ⟨rfl, hE, hW⟩ := hv
  have hts : ∀ w ∈ wU, w.before _ s = true := fun w h => atoms_spec (ws := .code yX6_isBoard cX6_isBoard 2 (some .boolean) :: wU) BD.pre w (List.mem_cons_of_mem _ h)
  have S : CallFix p m c cX6_isBoard 2 s ([.ref (wad w 9 (0)), .int v] : List Value).toArray wU RX6 := ⟨BD.exec, BD.bytes, hml, findClass_of_methodNamed BD.named, hts⟩
  have hx := S.1
  have hb := S.2.1
  have hown := S.2.2.2.1
  have hr := BD.returns
  have hlocks := BD.notSynchronized
  have hS : va_S (zA z) s.heap s.heap [] := va_S.rf
  have hl := lv_entry ([.ref (wad w 9 (0)), .int v]) (n := 2) (Nat.le_of_ble_eq_true rfl)
  rw [lg_entry_eq]
  generalize (lg_sl ([.ref (wad w 9 (0)), .int v]) ++ List.replicate (2 - (lg_sl ([.ref (wad w 9 (0)), .int v])).length) Slot.unset).toArray = ls at hl ⊢
  have hl : lv_has ls 2 [(0, .ref (wad w 9 (0))), (1, .int v)] := hl
  have h20 := hO.l5
  have h40 := hO.l16
  have h30 := hO.l24
  refine lv_aload_n hx hb dX6_isBoard_0 rfl (lv_at hl 0 rfl) ?_
  refine lv_iload_n hx hb dX6_isBoard_1 rfl (lv_at hl 1 rfl) ?_
  refine lv_iconst (v := 0) hx hb dX6_isBoard_2 (by decide) ?_
  refine lv_aload_n hx hb dX6_isBoard_3 rfl (lv_at hl 0 rfl) ?_
  refine m_geti S hE hW 5 (v := nI (nb g)) (by decide) rfl (by decide) tw_745 rfl hO.n5 dX6_isBoard_4 ?_
  refine lv_iconst (v := 1) hx hb dX6_isBoard_7 (by decide) ?_
  refine lv_isub hx hb dX6_isBoard_8 ?_
  refine g_callV (As := [.int v, .int 0, .int ((nI (nb g)) - 1)]) (rest := []) S hE hS (c_X6_between l z w g1 g o (t) A B (v) (0) ((nI (nb g)) - 1)) (cwV 3 hts (gU_V tw_858 tw_860 tp_15 tw_6 tw_861) rfl rfl rfl (by decide +kernel) ⟨Nat.le_of_ble_eq_true rfl, Nat.le_of_ble_eq_true rfl⟩) (by obtain ⟨gm9, hW9, -⟩ := hW; exact hE.recv hW9.md (q := (RX6, TX6, 36)) rfl) hW rfl hl.1 rfl (Nat.le_of_ble_eq_true rfl) dX6_isBoard_9 ⟨Nat.zero_le _, Nat.zero_le _⟩ ?_
  exact g_zret S hr hlocks rfl ⟨_, rfl⟩ dX6_isBoard_12
set_option maxHeartbeats 4000000 in
set_option maxRecDepth 100000 in
/-- isPart(v) -/
theorem c_X6_isPart (l : Launch) (z : ZE) (w : WG) (g1 g : GS) (o : Nat → Int64) (t : Int32) (A B : Nat → Int32) (hO : OKg g) (v : Int32) : Met l yX6_isPart (.code yX6_isPart cX6_isPart 2 (some .boolean) :: wU) ({ frames := 1, cells := 0, slots := 0, locals := 23 }) (PE z [.ref (wad w 9 (0)), .int v] (fun H => MW z w g1 o g t A B H)) (rqi (bI (wi v 0 (nI (np g) - 1)))) 0 0 zF := by
  refine Met.ofW (cc := cX6_isPart) (maxL := 2) (ret := (some .boolean)) (by decide) rfl ?_
  intro p e s m args below meth c s₁ BD hml hv
  obtain ⟨rfl, hE, hW⟩ := hv
  have hts : ∀ w ∈ wU, w.before _ s = true := fun w h => atoms_spec (ws := .code yX6_isPart cX6_isPart 2 (some .boolean) :: wU) BD.pre w (List.mem_cons_of_mem _ h)
  have S : CallFix p m c cX6_isPart 2 s ([.ref (wad w 9 (0)), .int v] : List Value).toArray wU RX6 := ⟨BD.exec, BD.bytes, hml, findClass_of_methodNamed BD.named, hts⟩
  have hx := S.1
  have hb := S.2.1
  have hown := S.2.2.2.1
  have hr := BD.returns
  have hlocks := BD.notSynchronized
  have hS : va_S (zA z) s.heap s.heap [] := va_S.rf
  have hl := lv_entry ([.ref (wad w 9 (0)), .int v]) (n := 2) (Nat.le_of_ble_eq_true rfl)
  rw [lg_entry_eq]
  generalize (lg_sl ([.ref (wad w 9 (0)), .int v]) ++ List.replicate (2 - (lg_sl ([.ref (wad w 9 (0)), .int v])).length) Slot.unset).toArray = ls at hl ⊢
  have hl : lv_has ls 2 [(0, .ref (wad w 9 (0))), (1, .int v)] := hl
  have h20 := hO.l5
  have h40 := hO.l16
  have h30 := hO.l24
  refine lv_aload_n hx hb dX6_isPart_0 rfl (lv_at hl 0 rfl) ?_
  refine lv_iload_n hx hb dX6_isPart_1 rfl (lv_at hl 1 rfl) ?_
  refine lv_iconst (v := 0) hx hb dX6_isPart_2 (by decide) ?_
  refine lv_aload_n hx hb dX6_isPart_3 rfl (lv_at hl 0 rfl) ?_
  refine m_geti S hE hW 16 (v := nI (np g)) (by decide) rfl (by decide) tw_756 rfl hO.n16 dX6_isPart_4 ?_
  refine lv_iconst (v := 1) hx hb dX6_isPart_7 (by decide) ?_
  refine lv_isub hx hb dX6_isPart_8 ?_
  refine g_callV (As := [.int v, .int 0, .int ((nI (np g)) - 1)]) (rest := []) S hE hS (c_X6_between l z w g1 g o (t) A B (v) (0) ((nI (np g)) - 1)) (cwV 3 hts (gU_V tw_858 tw_860 tp_15 tw_6 tw_861) rfl rfl rfl (by decide +kernel) ⟨Nat.le_of_ble_eq_true rfl, Nat.le_of_ble_eq_true rfl⟩) (by obtain ⟨gm9, hW9, -⟩ := hW; exact hE.recv hW9.md (q := (RX6, TX6, 36)) rfl) hW rfl hl.1 rfl (Nat.le_of_ble_eq_true rfl) dX6_isPart_9 ⟨Nat.zero_le _, Nat.zero_le _⟩ ?_
  exact g_zret S hr hlocks rfl ⟨_, rfl⟩ dX6_isPart_12
set_option maxHeartbeats 4000000 in
set_option maxRecDepth 100000 in
/-- isJoint(v) -/
theorem c_X6_isJoint (l : Launch) (z : ZE) (w : WG) (g1 g : GS) (o : Nat → Int64) (t : Int32) (A B : Nat → Int32) (hO : OKg g) (v : Int32) : Met l yX6_isJoint (.code yX6_isJoint cX6_isJoint 2 (some .boolean) :: wU) ({ frames := 1, cells := 0, slots := 0, locals := 23 }) (PE z [.ref (wad w 9 (0)), .int v] (fun H => MW z w g1 o g t A B H)) (rqi (bI (wi v 0 (nI (nj g) - 1)))) 0 0 zF := by
  refine Met.ofW (cc := cX6_isJoint) (maxL := 2) (ret := (some .boolean)) (by decide) rfl ?_
  intro p e s m args below meth c s₁ BD hml hv
  obtain ⟨rfl, hE, hW⟩ := hv
  have hts : ∀ w ∈ wU, w.before _ s = true := fun w h => atoms_spec (ws := .code yX6_isJoint cX6_isJoint 2 (some .boolean) :: wU) BD.pre w (List.mem_cons_of_mem _ h)
  have S : CallFix p m c cX6_isJoint 2 s ([.ref (wad w 9 (0)), .int v] : List Value).toArray wU RX6 := ⟨BD.exec, BD.bytes, hml, findClass_of_methodNamed BD.named, hts⟩
  have hx := S.1
  have hb := S.2.1
  have hown := S.2.2.2.1
  have hr := BD.returns
  have hlocks := BD.notSynchronized
  have hS : va_S (zA z) s.heap s.heap [] := va_S.rf
  have hl := lv_entry ([.ref (wad w 9 (0)), .int v]) (n := 2) (Nat.le_of_ble_eq_true rfl)
  rw [lg_entry_eq]
  generalize (lg_sl ([.ref (wad w 9 (0)), .int v]) ++ List.replicate (2 - (lg_sl ([.ref (wad w 9 (0)), .int v])).length) Slot.unset).toArray = ls at hl ⊢
  have hl : lv_has ls 2 [(0, .ref (wad w 9 (0))), (1, .int v)] := hl
  have h20 := hO.l5
  have h40 := hO.l16
  have h30 := hO.l24
  refine lv_aload_n hx hb dX6_isJoint_0 rfl (lv_at hl 0 rfl) ?_
  refine lv_iload_n hx hb dX6_isJoint_1 rfl (lv_at hl 1 rfl) ?_
  refine lv_iconst (v := 0) hx hb dX6_isJoint_2 (by decide) ?_
  refine lv_aload_n hx hb dX6_isJoint_3 rfl (lv_at hl 0 rfl) ?_
  refine m_geti S hE hW 24 (v := nI (nj g)) (by decide) rfl (by decide) tw_764 rfl hO.n24 dX6_isJoint_4 ?_
  refine lv_iconst (v := 1) hx hb dX6_isJoint_7 (by decide) ?_
  refine lv_isub hx hb dX6_isJoint_8 ?_
  refine g_callV (As := [.int v, .int 0, .int ((nI (nj g)) - 1)]) (rest := []) S hE hS (c_X6_between l z w g1 g o (t) A B (v) (0) ((nI (nj g)) - 1)) (cwV 3 hts (gU_V tw_858 tw_860 tp_15 tw_6 tw_861) rfl rfl rfl (by decide +kernel) ⟨Nat.le_of_ble_eq_true rfl, Nat.le_of_ble_eq_true rfl⟩) (by obtain ⟨gm9, hW9, -⟩ := hW; exact hE.recv hW9.md (q := (RX6, TX6, 36)) rfl) hW rfl hl.1 rfl (Nat.le_of_ble_eq_true rfl) dX6_isJoint_9 ⟨Nat.zero_le _, Nat.zero_le _⟩ ?_
  exact g_zret S hr hlocks rfl ⟨_, rfl⟩ dX6_isJoint_12
set_option maxHeartbeats 4000000 in
set_option maxRecDepth 100000 in
/-- isMoisture(v) -/
theorem c_X6_isMoisture (l : Launch) (z : ZE) (w : WG) (g1 g : GS) (o : Nat → Int64) (t : Int32) (A B : Nat → Int32) (v : Int32) : Met l yX6_isMoisture (.code yX6_isMoisture cX6_isMoisture 2 (some .boolean) :: wU) ({ frames := 1, cells := 0, slots := 0, locals := 23 }) (PE z [.ref (wad w 9 (0)), .int v] (fun H => MW z w g1 o g t A B H)) (rqi (bI (wi v 40 300))) 0 0 zF := by
  refine Met.ofW (cc := cX6_isMoisture) (maxL := 2) (ret := (some .boolean)) (by decide) rfl ?_
  intro p e s m args below meth c s₁ BD hml hv
  obtain ⟨rfl, hE, hW⟩ := hv
  have hts : ∀ w ∈ wU, w.before _ s = true := fun w h => atoms_spec (ws := .code yX6_isMoisture cX6_isMoisture 2 (some .boolean) :: wU) BD.pre w (List.mem_cons_of_mem _ h)
  have S : CallFix p m c cX6_isMoisture 2 s ([.ref (wad w 9 (0)), .int v] : List Value).toArray wU RX6 := ⟨BD.exec, BD.bytes, hml, findClass_of_methodNamed BD.named, hts⟩
  have hx := S.1
  have hb := S.2.1
  have hown := S.2.2.2.1
  have hr := BD.returns
  have hlocks := BD.notSynchronized
  have hS : va_S (zA z) s.heap s.heap [] := va_S.rf
  have hl := lv_entry ([.ref (wad w 9 (0)), .int v]) (n := 2) (Nat.le_of_ble_eq_true rfl)
  rw [lg_entry_eq]
  generalize (lg_sl ([.ref (wad w 9 (0)), .int v]) ++ List.replicate (2 - (lg_sl ([.ref (wad w 9 (0)), .int v])).length) Slot.unset).toArray = ls at hl ⊢
  have hl : lv_has ls 2 [(0, .ref (wad w 9 (0))), (1, .int v)] := hl
  refine lv_aload_n hx hb dX6_isMoisture_0 rfl (lv_at hl 0 rfl) ?_
  refine lv_iload_n hx hb dX6_isMoisture_1 rfl (lv_at hl 1 rfl) ?_
  refine lv_bipush (v := 40) hx hb dX6_isMoisture_2 (by decide) ?_
  refine lv_sipush (v := 300) hx hb dX6_isMoisture_4 (by decide) ?_
  refine g_callV (As := [.int v, .int 40, .int 300]) (rest := []) S hE hS (c_X6_between l z w g1 g o (t) A B (v) (40) (300)) (cwV 3 hts (gU_V tw_858 tw_860 tp_15 tw_6 tw_861) rfl rfl rfl (by decide +kernel) ⟨Nat.le_of_ble_eq_true rfl, Nat.le_of_ble_eq_true rfl⟩) (by obtain ⟨gm9, hW9, -⟩ := hW; exact hE.recv hW9.md (q := (RX6, TX6, 36)) rfl) hW rfl hl.1 rfl (Nat.le_of_ble_eq_true rfl) dX6_isMoisture_7 ⟨Nat.zero_le _, Nat.zero_le _⟩ ?_
  exact g_zret S hr hlocks rfl ⟨_, rfl⟩ dX6_isMoisture_10
set_option maxHeartbeats 4000000 in
set_option maxRecDepth 100000 in
/-- moves(kind) -/
theorem c_X6_moves (l : Launch) (z : ZE) (w : WG) (g1 g : GS) (o : Nat → Int64) (t : Int32) (A B : Nat → Int32) (v : Int32) : Met l yX6_moves (.code yX6_moves cX6_moves 2 (some .int) :: wU) ({ frames := 0, cells := 0, slots := 0, locals := 0 }) (PE z [.ref (wad w 9 (0)), .int v] (fun H => MW z w g1 o g t A B H)) (rqi (v + 2)) 0 0 zF := by
  refine Met.ofW (cc := cX6_moves) (maxL := 2) (ret := (some .int)) (by decide) rfl ?_
  intro p e s m args below meth c s₁ BD hml hv
  obtain ⟨rfl, hE, hW⟩ := hv
  have hts : ∀ w ∈ wU, w.before _ s = true := fun w h => atoms_spec (ws := .code yX6_moves cX6_moves 2 (some .int) :: wU) BD.pre w (List.mem_cons_of_mem _ h)
  have S : CallFix p m c cX6_moves 2 s ([.ref (wad w 9 (0)), .int v] : List Value).toArray wU RX6 := ⟨BD.exec, BD.bytes, hml, findClass_of_methodNamed BD.named, hts⟩
  have hx := S.1
  have hb := S.2.1
  have hown := S.2.2.2.1
  have hr := BD.returns
  have hlocks := BD.notSynchronized
  have hS : va_S (zA z) s.heap s.heap [] := va_S.rf
  have hl := lv_entry ([.ref (wad w 9 (0)), .int v]) (n := 2) (Nat.le_of_ble_eq_true rfl)
  rw [lg_entry_eq]
  generalize (lg_sl ([.ref (wad w 9 (0)), .int v]) ++ List.replicate (2 - (lg_sl ([.ref (wad w 9 (0)), .int v])).length) Slot.unset).toArray = ls at hl ⊢
  have hl : lv_has ls 2 [(0, .ref (wad w 9 (0))), (1, .int v)] := hl
  refine lv_iload_n hx hb dX6_moves_0 rfl (lv_at hl 1 rfl) ?_
  refine lv_iconst (v := 2) hx hb dX6_moves_1 (by decide) ?_
  refine lv_iadd hx hb dX6_moves_2 ?_
  exact g_iret S hr hlocks rfl dX6_moves_3
set_option maxHeartbeats 4000000 in
set_option maxRecDepth 100000 in
/-- hardness(kind) -/
theorem c_X6_hardness (l : Launch) (z : ZE) (w : WG) (g1 g : GS) (o : Nat → Int64) (t : Int32) (A B : Nat → Int32) (v : Int32) : Met l yX6_hardness (.code yX6_hardness cX6_hardness 2 (some .int) :: wU) ({ frames := 0, cells := 0, slots := 0, locals := 0 }) (PE z [.ref (wad w 9 (0)), .int v] (fun H => MW z w g1 o g t A B H)) (rqi (hd v)) 0 0 zF := by
  refine Met.ofW (cc := cX6_hardness) (maxL := 2) (ret := (some .int)) (by decide) rfl ?_
  intro p e s m args below meth c s₁ BD hml hv
  obtain ⟨rfl, hE, hW⟩ := hv
  have hts : ∀ w ∈ wU, w.before _ s = true := fun w h => atoms_spec (ws := .code yX6_hardness cX6_hardness 2 (some .int) :: wU) BD.pre w (List.mem_cons_of_mem _ h)
  have S : CallFix p m c cX6_hardness 2 s ([.ref (wad w 9 (0)), .int v] : List Value).toArray wU RX6 := ⟨BD.exec, BD.bytes, hml, findClass_of_methodNamed BD.named, hts⟩
  have hx := S.1
  have hb := S.2.1
  have hown := S.2.2.2.1
  have hr := BD.returns
  have hlocks := BD.notSynchronized
  have hS : va_S (zA z) s.heap s.heap [] := va_S.rf
  have hl := lv_entry ([.ref (wad w 9 (0)), .int v]) (n := 2) (Nat.le_of_ble_eq_true rfl)
  rw [lg_entry_eq]
  generalize (lg_sl ([.ref (wad w 9 (0)), .int v]) ++ List.replicate (2 - (lg_sl ([.ref (wad w 9 (0)), .int v])).length) Slot.unset).toArray = ls at hl ⊢
  have hl : lv_has ls 2 [(0, .ref (wad w 9 (0))), (1, .int v)] := hl
  refine lv_iload_n hx hb dX6_hardness_0 rfl (lv_at hl 1 rfl) ?_
  refine lv_if_ne (tgt := 8) hx hb dX6_hardness_1 (by decide) (fun c_1 => ?_) (fun c_1 => ?_)
  · refine lv_iload_n hx hb dX6_hardness_8 rfl (lv_at hl 1 rfl) ?_
    refine lv_iconst (v := 1) hx hb dX6_hardness_9 (by decide) ?_
    refine lv_icmp_ne (tgt := 17) hx hb dX6_hardness_10 (by decide) (fun c_10_1 => ?_) (fun c_10_1 => ?_)
    · refine lv_iload_n hx hb dX6_hardness_17 rfl (lv_at hl 1 rfl) ?_
      refine lv_iconst (v := 2) hx hb dX6_hardness_18 (by decide) ?_
      refine lv_icmp_ne (tgt := 27) hx hb dX6_hardness_19 (by decide) (fun c_19_2 => ?_) (fun c_19_2 => ?_)
      · refine lv_bipush (v := 9) hx hb dX6_hardness_27 (by decide) ?_
        exact g_iret S hr hlocks (by simp [hd, c_1, c_10_1, c_19_2]) dX6_hardness_29
      · refine lv_bipush (v := 7) hx hb dX6_hardness_22 (by decide) ?_
        refine lv_goto (tgt := 29) hx hb dX6_hardness_24 (by decide) ?_
        exact g_iret S hr hlocks (by simp [hd, c_1, c_10_1, c_19_2]) dX6_hardness_29
    · refine lv_iconst (v := 4) hx hb dX6_hardness_13 (by decide) ?_
      refine lv_goto (tgt := 29) hx hb dX6_hardness_14 (by decide) ?_
      exact g_iret S hr hlocks (by simp [hd, c_1, c_10_1]) dX6_hardness_29
  · refine lv_iconst (v := 2) hx hb dX6_hardness_4 (by decide) ?_
    refine lv_goto (tgt := 29) hx hb dX6_hardness_5 (by decide) ?_
    exact g_iret S hr hlocks (by simp [hd, c_1]) dX6_hardness_29
set_option maxHeartbeats 4000000 in
set_option maxRecDepth 100000 in
/-- moved(size, kind, moister) -/
theorem c_X6_moved (l : Launch) (z : ZE) (w : WG) (g1 g : GS) (o : Nat → Int64) (t : Int32) (A B : Nat → Int32) (size kind moister : Int32) : Met l yX6_moved (.code yX6_moved cX6_moved 4 (some .int) :: wU) ({ frames := 1, cells := 0, slots := 0, locals := 21 }) (PE z [.ref (wad w 9 (0)), .int size, .int kind, .int moister] (fun H => MW z w g1 o g t A B H)) (rqi (mvd size kind moister)) 0 0 zF := by
  refine Met.ofW (cc := cX6_moved) (maxL := 4) (ret := (some .int)) (by decide) rfl ?_
  intro p e s m args below meth c s₁ BD hml hv
  obtain ⟨rfl, hE, hW⟩ := hv
  have hts : ∀ w ∈ wU, w.before _ s = true := fun w h => atoms_spec (ws := .code yX6_moved cX6_moved 4 (some .int) :: wU) BD.pre w (List.mem_cons_of_mem _ h)
  have S : CallFix p m c cX6_moved 4 s ([.ref (wad w 9 (0)), .int size, .int kind, .int moister] : List Value).toArray wU RX6 := ⟨BD.exec, BD.bytes, hml, findClass_of_methodNamed BD.named, hts⟩
  have hx := S.1
  have hb := S.2.1
  have hown := S.2.2.2.1
  have hr := BD.returns
  have hlocks := BD.notSynchronized
  have hS : va_S (zA z) s.heap s.heap [] := va_S.rf
  have hl := lv_entry ([.ref (wad w 9 (0)), .int size, .int kind, .int moister]) (n := 4) (Nat.le_of_ble_eq_true rfl)
  rw [lg_entry_eq]
  generalize (lg_sl ([.ref (wad w 9 (0)), .int size, .int kind, .int moister]) ++ List.replicate (4 - (lg_sl ([.ref (wad w 9 (0)), .int size, .int kind, .int moister])).length) Slot.unset).toArray = ls at hl ⊢
  have hl : lv_has ls 4 [(0, .ref (wad w 9 (0))), (1, .int size), (2, .int kind), (3, .int moister)] := hl
  refine lv_iload_n hx hb dX6_moved_0 rfl (lv_at hl 1 rfl) ?_
  refine lv_aload_n hx hb dX6_moved_1 rfl (lv_at hl 0 rfl) ?_
  refine lv_iload_n hx hb dX6_moved_2 rfl (lv_at hl 2 rfl) ?_
  refine g_callV (As := [.int kind]) (rest := [.int size]) S hE hS (c_X6_moves l z w g1 g o (t) A B (kind)) (cwV 1 hts (gU_V tw_886 tw_888 tp_21 tw_6 tw_889) rfl rfl rfl (by decide +kernel) ⟨Nat.le_of_ble_eq_true rfl, Nat.le_of_ble_eq_true rfl⟩) (by obtain ⟨gm9, hW9, -⟩ := hW; exact hE.recv hW9.md (q := (RX6, TX6, 36)) rfl) hW rfl hl.1 rfl (Nat.le_of_ble_eq_true rfl) dX6_moved_3 ⟨Nat.zero_le _, Nat.zero_le _⟩ ?_
  refine lv_imul hx hb dX6_moved_6 ?_
  refine lv_iload_n hx hb dX6_moved_7 rfl (lv_at hl 3 rfl) ?_
  refine lv_imul hx hb dX6_moved_8 ?_
  refine lv_sipush (v := 10000) hx hb dX6_moved_9 (by decide) ?_
  refine lv_idiv hx hb dX6_moved_12 (by decide) ?_
  exact g_iret S hr hlocks rfl dX6_moved_13
set_option maxHeartbeats 4000000 in
set_option maxRecDepth 100000 in
/-- speciesOf(part) -/
theorem c_X6_speciesOf (l : Launch) (z : ZE) (w : WG) (g1 g : GS) (o : Nat → Int64) (t : Int32) (A B : Nat → Int32) (hO : OKg g) (i : Nat) (hi : i < np g) : Met l yX6_speciesOf (.code yX6_speciesOf cX6_speciesOf 2 (some .int) :: wU) ({ frames := 0, cells := 0, slots := 0, locals := 0 }) (PE z [.ref (wad w 9 (0)), .int (nI i)] (fun H => MW z w g1 o g t A B H)) (rqi (g 6 (pb g i))) 0 0 zF := by
  refine Met.ofW (cc := cX6_speciesOf) (maxL := 2) (ret := (some .int)) (by decide) rfl ?_
  intro p e s m args below meth c s₁ BD hml hv
  obtain ⟨rfl, hE, hW⟩ := hv
  have hts : ∀ w ∈ wU, w.before _ s = true := fun w h => atoms_spec (ws := .code yX6_speciesOf cX6_speciesOf 2 (some .int) :: wU) BD.pre w (List.mem_cons_of_mem _ h)
  have S : CallFix p m c cX6_speciesOf 2 s ([.ref (wad w 9 (0)), .int (nI i)] : List Value).toArray wU RX6 := ⟨BD.exec, BD.bytes, hml, findClass_of_methodNamed BD.named, hts⟩
  have hx := S.1
  have hb := S.2.1
  have hown := S.2.2.2.1
  have hr := BD.returns
  have hlocks := BD.notSynchronized
  have hS : va_S (zA z) s.heap s.heap [] := va_S.rf
  have hl := lv_entry ([.ref (wad w 9 (0)), .int (nI i)]) (n := 2) (Nat.le_of_ble_eq_true rfl)
  rw [lg_entry_eq]
  generalize (lg_sl ([.ref (wad w 9 (0)), .int (nI i)]) ++ List.replicate (2 - (lg_sl ([.ref (wad w 9 (0)), .int (nI i)])).length) Slot.unset).toArray = ls at hl ⊢
  have hl : lv_has ls 2 [(0, .ref (wad w 9 (0))), (1, .int (nI i))] := hl
  have h20 := hO.l5
  have h40 := hO.l16
  have hpb := hO.l17 hi
  refine lv_aload_n hx hb dX6_speciesOf_0 rfl (lv_at hl 0 rfl) ?_
  refine m_geta S hE hW 6 (by decide) rfl tw_746 rfl dX6_speciesOf_1 ?_
  refine lv_aload_n hx hb dX6_speciesOf_4 rfl (lv_at hl 0 rfl) ?_
  refine m_geta S hE hW 17 (by decide) rfl tw_757 rfl dX6_speciesOf_5 ?_
  refine lv_iload_n hx hb dX6_speciesOf_8 rfl (lv_at hl 1 rfl) ?_
  refine m_ald S hE hW (k := 17) (v := nI (pb g (i))) rfl (vp_in_nI (show i < 40 from (by omega)) (by decide)) (by rw [show (nI i : Int32).toNatClampNeg = i from (nI_clamp (by omega))]; exact (hO.n17 (i := i) (by omega))) dX6_speciesOf_9 ?_
  refine m_ald S hE hW (k := 6) (v := g 6 (pb g (i))) rfl (vp_in_nI (show pb g (i) < 20 from (by omega)) (by decide)) (by rw [show (nI (pb g (i)) : Int32).toNatClampNeg = pb g (i) from (nI_clamp (by omega))]) dX6_speciesOf_10 ?_
  exact g_iret S hr hlocks rfl dX6_speciesOf_11
set_option maxHeartbeats 4000000 in
set_option maxRecDepth 100000 in
/-- widthAt(part, wood) -/
theorem c_X6_widthAt (l : Launch) (z : ZE) (w : WG) (g1 g : GS) (o : Nat → Int64) (t : Int32) (A B : Nat → Int32) (hO : OKg g) (i : Nat) (hi : i < np g) (wd : Int32) : Met l yX6_widthAt (.code yX6_widthAt cX6_widthAt 3 (some .int) :: wU) ({ frames := 2, cells := 0, slots := 0, locals := 44 }) (PE z [.ref (wad w 9 (0)), .int (nI i), .int wd] (fun H => MW z w g1 o g t A B H)) (rqi (wAt g i wd)) 0 0 zF := by
  refine Met.ofW (cc := cX6_widthAt) (maxL := 3) (ret := (some .int)) (by decide) rfl ?_
  intro p e s m args below meth c s₁ BD hml hv
  obtain ⟨rfl, hE, hW⟩ := hv
  have hts : ∀ w ∈ wU, w.before _ s = true := fun w h => atoms_spec (ws := .code yX6_widthAt cX6_widthAt 3 (some .int) :: wU) BD.pre w (List.mem_cons_of_mem _ h)
  have S : CallFix p m c cX6_widthAt 3 s ([.ref (wad w 9 (0)), .int (nI i), .int wd] : List Value).toArray wU RX6 := ⟨BD.exec, BD.bytes, hml, findClass_of_methodNamed BD.named, hts⟩
  have hx := S.1
  have hb := S.2.1
  have hown := S.2.2.2.1
  have hr := BD.returns
  have hlocks := BD.notSynchronized
  have hS : va_S (zA z) s.heap s.heap [] := va_S.rf
  have hl := lv_entry ([.ref (wad w 9 (0)), .int (nI i), .int wd]) (n := 3) (Nat.le_of_ble_eq_true rfl)
  rw [lg_entry_eq]
  generalize (lg_sl ([.ref (wad w 9 (0)), .int (nI i), .int wd]) ++ List.replicate (3 - (lg_sl ([.ref (wad w 9 (0)), .int (nI i), .int wd])).length) Slot.unset).toArray = ls at hl ⊢
  have hl : lv_has ls 3 [(0, .ref (wad w 9 (0))), (1, .int (nI i)), (2, .int wd)] := hl
  have h20 := hO.l5
  have h40 := hO.l16
  refine lv_aload_n hx hb dX6_widthAt_0 rfl (lv_at hl 0 rfl) ?_
  refine m_geta S hE hW 20 (by decide) rfl tw_760 rfl dX6_widthAt_1 ?_
  refine lv_iload_n hx hb dX6_widthAt_4 rfl (lv_at hl 1 rfl) ?_
  refine m_ald S hE hW (k := 20) (v := g 20 i) rfl (vp_in_nI (show i < 40 from (by omega)) (by decide)) (by rw [show (nI i : Int32).toNatClampNeg = i from (nI_clamp (by omega))]) dX6_widthAt_5 ?_
  refine lv_aload_n hx hb dX6_widthAt_6 rfl (lv_at hl 0 rfl) ?_
  refine lv_aload_n hx hb dX6_widthAt_7 rfl (lv_at hl 0 rfl) ?_
  refine m_geta S hE hW 20 (by decide) rfl tw_760 rfl dX6_widthAt_8 ?_
  refine lv_iload_n hx hb dX6_widthAt_11 rfl (lv_at hl 1 rfl) ?_
  refine m_ald S hE hW (k := 20) (v := g 20 i) rfl (vp_in_nI (show i < 40 from (by omega)) (by decide)) (by rw [show (nI i : Int32).toNatClampNeg = i from (nI_clamp (by omega))]) dX6_widthAt_12 ?_
  refine lv_aload_n hx hb dX6_widthAt_13 rfl (lv_at hl 0 rfl) ?_
  refine lv_iload_n hx hb dX6_widthAt_14 rfl (lv_at hl 1 rfl) ?_
  refine g_callV (As := [.int (nI i)]) (rest := [.int (g 20 i), .ref (wad w 9 (0)), .int (g 20 i)]) S hE hS (c_X6_speciesOf l z w g1 g o (t) A B hO (i) (by omega)) (cwV 1 hts (gU_V tw_878 tw_880 tp_19 tw_6 tw_881) rfl rfl rfl (by decide +kernel) ⟨Nat.le_of_ble_eq_true rfl, Nat.le_of_ble_eq_true rfl⟩) (by obtain ⟨gm9, hW9, -⟩ := hW; exact hE.recv hW9.md (q := (RX6, TX6, 36)) rfl) hW rfl hl.1 rfl (Nat.le_of_ble_eq_true rfl) dX6_widthAt_15 ⟨Nat.zero_le _, Nat.zero_le _⟩ ?_
  refine lv_iload_n hx hb dX6_widthAt_18 rfl (lv_at hl 2 rfl) ?_
  refine lv_aload_n hx hb dX6_widthAt_19 rfl (lv_at hl 0 rfl) ?_
  refine m_geta S hE hW 21 (by decide) rfl tw_761 rfl dX6_widthAt_20 ?_
  refine lv_iload_n hx hb dX6_widthAt_23 rfl (lv_at hl 1 rfl) ?_
  refine m_ald S hE hW (k := 21) (v := g 21 i) rfl (vp_in_nI (show i < 40 from (by omega)) (by decide)) (by rw [show (nI i : Int32).toNatClampNeg = i from (nI_clamp (by omega))]) dX6_widthAt_24 ?_
  refine lv_isub hx hb dX6_widthAt_25 ?_
  refine g_callV (As := [.int (g 20 i), .int (g 6 (pb g (i))), .int (wd - (g 21 i))]) (rest := [.int (g 20 i)]) S hE hS (c_X6_moved l z w g1 g o (t) A B (g 20 i) (g 6 (pb g (i))) (wd - (g 21 i))) (cwV 3 hts (gU_V tw_882 tw_884 tp_20 tw_6 tw_885) rfl rfl rfl (by decide +kernel) ⟨Nat.le_of_ble_eq_true rfl, Nat.le_of_ble_eq_true rfl⟩) (by obtain ⟨gm9, hW9, -⟩ := hW; exact hE.recv hW9.md (q := (RX6, TX6, 36)) rfl) hW rfl hl.1 rfl (Nat.le_of_ble_eq_true rfl) dX6_widthAt_26 ⟨Nat.zero_le _, Nat.zero_le _⟩ ?_
  refine lv_iadd hx hb dX6_widthAt_29 ?_
  exact g_iret S hr hlocks rfl dX6_widthAt_30
set_option maxHeartbeats 4000000 in
set_option maxRecDepth 100000 in
/-- boardWidth(board) -/
theorem c_X6_boardWidth (l : Launch) (z : ZE) (w : WG) (g1 g : GS) (o : Nat → Int64) (t : Int32) (A B : Nat → Int32) (hO : OKg g) (i : Nat) (hi : i < nb g) : Met l yX6_boardWidth (.code yX6_boardWidth cX6_boardWidth 2 (some .int) :: wU) ({ frames := 2, cells := 0, slots := 0, locals := 44 }) (PE z [.ref (wad w 9 (0)), .int (nI i)] (fun H => MW z w g1 o g t A B H)) (rqi (bWd g i)) 0 0 zF := by
  refine Met.ofW (cc := cX6_boardWidth) (maxL := 2) (ret := (some .int)) (by decide) rfl ?_
  intro p e s m args below meth c s₁ BD hml hv
  obtain ⟨rfl, hE, hW⟩ := hv
  have hts : ∀ w ∈ wU, w.before _ s = true := fun w h => atoms_spec (ws := .code yX6_boardWidth cX6_boardWidth 2 (some .int) :: wU) BD.pre w (List.mem_cons_of_mem _ h)
  have S : CallFix p m c cX6_boardWidth 2 s ([.ref (wad w 9 (0)), .int (nI i)] : List Value).toArray wU RX6 := ⟨BD.exec, BD.bytes, hml, findClass_of_methodNamed BD.named, hts⟩
  have hx := S.1
  have hb := S.2.1
  have hown := S.2.2.2.1
  have hr := BD.returns
  have hlocks := BD.notSynchronized
  have hS : va_S (zA z) s.heap s.heap [] := va_S.rf
  have hl := lv_entry ([.ref (wad w 9 (0)), .int (nI i)]) (n := 2) (Nat.le_of_ble_eq_true rfl)
  rw [lg_entry_eq]
  generalize (lg_sl ([.ref (wad w 9 (0)), .int (nI i)]) ++ List.replicate (2 - (lg_sl ([.ref (wad w 9 (0)), .int (nI i)])).length) Slot.unset).toArray = ls at hl ⊢
  have hl : lv_has ls 2 [(0, .ref (wad w 9 (0))), (1, .int (nI i))] := hl
  have h20 := hO.l5
  have h40 := hO.l16
  refine lv_aload_n hx hb dX6_boardWidth_0 rfl (lv_at hl 0 rfl) ?_
  refine m_geta S hE hW 9 (by decide) rfl tw_749 rfl dX6_boardWidth_1 ?_
  refine lv_iload_n hx hb dX6_boardWidth_4 rfl (lv_at hl 1 rfl) ?_
  refine m_ald S hE hW (k := 9) (v := g 9 i) rfl (vp_in_nI (show i < 20 from (by omega)) (by decide)) (by rw [show (nI i : Int32).toNatClampNeg = i from (nI_clamp (by omega))]) dX6_boardWidth_5 ?_
  refine lv_aload_n hx hb dX6_boardWidth_6 rfl (lv_at hl 0 rfl) ?_
  refine lv_aload_n hx hb dX6_boardWidth_7 rfl (lv_at hl 0 rfl) ?_
  refine m_geta S hE hW 9 (by decide) rfl tw_749 rfl dX6_boardWidth_8 ?_
  refine lv_iload_n hx hb dX6_boardWidth_11 rfl (lv_at hl 1 rfl) ?_
  refine m_ald S hE hW (k := 9) (v := g 9 i) rfl (vp_in_nI (show i < 20 from (by omega)) (by decide)) (by rw [show (nI i : Int32).toNatClampNeg = i from (nI_clamp (by omega))]) dX6_boardWidth_12 ?_
  refine lv_aload_n hx hb dX6_boardWidth_13 rfl (lv_at hl 0 rfl) ?_
  refine m_geta S hE hW 6 (by decide) rfl tw_746 rfl dX6_boardWidth_14 ?_
  refine lv_iload_n hx hb dX6_boardWidth_17 rfl (lv_at hl 1 rfl) ?_
  refine m_ald S hE hW (k := 6) (v := g 6 i) rfl (vp_in_nI (show i < 20 from (by omega)) (by decide)) (by rw [show (nI i : Int32).toNatClampNeg = i from (nI_clamp (by omega))]) dX6_boardWidth_18 ?_
  refine lv_aload_n hx hb dX6_boardWidth_19 rfl (lv_at hl 0 rfl) ?_
  refine m_geta S hE hW 12 (by decide) rfl tw_752 rfl dX6_boardWidth_20 ?_
  refine lv_iload_n hx hb dX6_boardWidth_23 rfl (lv_at hl 1 rfl) ?_
  refine m_ald S hE hW (k := 12) (v := g 12 i) rfl (vp_in_nI (show i < 20 from (by omega)) (by decide)) (by rw [show (nI i : Int32).toNatClampNeg = i from (nI_clamp (by omega))]) dX6_boardWidth_24 ?_
  refine lv_aload_n hx hb dX6_boardWidth_25 rfl (lv_at hl 0 rfl) ?_
  refine m_geta S hE hW 11 (by decide) rfl tw_751 rfl dX6_boardWidth_26 ?_
  refine lv_iload_n hx hb dX6_boardWidth_29 rfl (lv_at hl 1 rfl) ?_
  refine m_ald S hE hW (k := 11) (v := g 11 i) rfl (vp_in_nI (show i < 20 from (by omega)) (by decide)) (by rw [show (nI i : Int32).toNatClampNeg = i from (nI_clamp (by omega))]) dX6_boardWidth_30 ?_
  refine lv_isub hx hb dX6_boardWidth_31 ?_
  refine g_callV (As := [.int (g 9 i), .int (g 6 i), .int ((g 12 i) - (g 11 i))]) (rest := [.int (g 9 i)]) S hE hS (c_X6_moved l z w g1 g o (t) A B (g 9 i) (g 6 i) ((g 12 i) - (g 11 i))) (cwV 3 hts (gU_V tw_882 tw_884 tp_20 tw_6 tw_885) rfl rfl rfl (by decide +kernel) ⟨Nat.le_of_ble_eq_true rfl, Nat.le_of_ble_eq_true rfl⟩) (by obtain ⟨gm9, hW9, -⟩ := hW; exact hE.recv hW9.md (q := (RX6, TX6, 36)) rfl) hW rfl hl.1 rfl (Nat.le_of_ble_eq_true rfl) dX6_boardWidth_32 ⟨Nat.zero_le _, Nat.zero_le _⟩ ?_
  refine lv_iadd hx hb dX6_boardWidth_35 ?_
  exact g_iret S hr hlocks rfl dX6_boardWidth_36
set_option maxHeartbeats 4000000 in
set_option maxRecDepth 100000 in
/-- behind(wood, month, coats) -/
theorem c_X6_behind (l : Launch) (z : ZE) (w : WG) (g1 g : GS) (o : Nat → Int64) (t : Int32) (A B : Nat → Int32) (wd : Int32) (n : Nat) (hn : n < 2000) (co : Int32) (hco : ¬ (4 + co : Int32) = 0) : Met l yX6_behind (.code yX6_behind cX6_behind 6 (some .int) :: wU) ({ frames := 0, cells := 0, slots := 0, locals := 0 }) (PE z [.ref (wad w 9 (0)), .int wd, .int (nI n), .int co] (fun H => MW z w g1 o g t A B H)) (rqi (beh (wea g n) wd co)) 0 0 zF := by
  refine Met.ofW (cc := cX6_behind) (maxL := 6) (ret := (some .int)) (by decide) rfl ?_
  intro p e s m args below meth c s₁ BD hml hv
  obtain ⟨rfl, hE, hW⟩ := hv
  have hts : ∀ w ∈ wU, w.before _ s = true := fun w h => atoms_spec (ws := .code yX6_behind cX6_behind 6 (some .int) :: wU) BD.pre w (List.mem_cons_of_mem _ h)
  have S : CallFix p m c cX6_behind 6 s ([.ref (wad w 9 (0)), .int wd, .int (nI n), .int co] : List Value).toArray wU RX6 := ⟨BD.exec, BD.bytes, hml, findClass_of_methodNamed BD.named, hts⟩
  have hx := S.1
  have hb := S.2.1
  have hown := S.2.2.2.1
  have hr := BD.returns
  have hlocks := BD.notSynchronized
  have hS : va_S (zA z) s.heap s.heap [] := va_S.rf
  have hl := lv_entry ([.ref (wad w 9 (0)), .int wd, .int (nI n), .int co]) (n := 6) (Nat.le_of_ble_eq_true rfl)
  rw [lg_entry_eq]
  generalize (lg_sl ([.ref (wad w 9 (0)), .int wd, .int (nI n), .int co]) ++ List.replicate (6 - (lg_sl ([.ref (wad w 9 (0)), .int wd, .int (nI n), .int co])).length) Slot.unset).toArray = ls at hl ⊢
  have hl : lv_has ls 6 [(0, .ref (wad w 9 (0))), (1, .int wd), (2, .int (nI n)), (3, .int co)] := hl
  refine lv_aload_n hx hb dX6_behind_0 rfl (lv_at hl 0 rfl) ?_
  refine m_geta S hE hW 2 (by decide) rfl tw_742 rfl dX6_behind_1 ?_
  refine lv_iload_n hx hb dX6_behind_4 rfl (lv_at hl 2 rfl) ?_
  refine lv_bipush (v := 12) hx hb dX6_behind_5 (by decide) ?_
  refine lv_irem hx hb dX6_behind_7 (by decide) ?_
  rw [show (nI n : Int32) - nI n / 12 * 12 = nI ((n) % 12) from pk_rem (d := 12) (by omega) (by decide) (by decide)]
  refine m_ald S hE hW (k := 2) (v := g 2 ((n) % 12)) rfl (vp_in_nI (show (n) % 12 < 12 from (by omega)) (by decide)) (by rw [show (nI ((n) % 12) : Int32).toNatClampNeg = (n) % 12 from (nI_clamp (by omega))]) dX6_behind_8 ?_
  refine lv_iload_n hx hb dX6_behind_9 rfl (lv_at hl 1 rfl) ?_
  refine lv_isub hx hb dX6_behind_10 ?_
  refine lv_istore (lv' := [(4, .int ((g 2 ((n) % 12)) - wd)), (0, .ref (wad w 9 (0))), (1, .int wd), (2, .int (nI n)), (3, .int co)]) hx hb dX6_behind_11 hl (by decide) rfl (fun ls hl => ?_)
  refine lv_iload hx hb dX6_behind_13 (lv_at hl 0 rfl) ?_
  refine lv_iconst (v := 4) hx hb dX6_behind_15 (by decide) ?_
  refine lv_iload_n hx hb dX6_behind_16 rfl (lv_at hl 4 rfl) ?_
  refine lv_iadd hx hb dX6_behind_17 ?_
  refine lv_idiv hx hb dX6_behind_18 hco ?_
  refine lv_istore (lv' := [(5, .int (((g 2 ((n) % 12)) - wd) / (4 + co))), (4, .int ((g 2 ((n) % 12)) - wd)), (0, .ref (wad w 9 (0))), (1, .int wd), (2, .int (nI n)), (3, .int co)]) hx hb dX6_behind_19 hl (by decide) rfl (fun ls hl => ?_)
  refine lv_iload hx hb dX6_behind_21 (lv_at hl 0 rfl) ?_
  refine lv_if_ne (tgt := 48) hx hb dX6_behind_23 (by decide) (fun c_23 => ?_) (fun c_23 => ?_)
  · refine lv_iload hx hb dX6_behind_48 (lv_at hl 0 rfl) ?_
    refine lv_istore (lv' := [(5, .int (((g 2 ((n) % 12)) - wd) / (4 + co))), (4, .int ((g 2 ((n) % 12)) - wd)), (0, .ref (wad w 9 (0))), (1, .int wd), (2, .int (nI n)), (3, .int co)]) hx hb dX6_behind_50 hl (by decide) rfl (fun ls hl => ?_)
    refine lv_iload_n hx hb dX6_behind_52 rfl (lv_at hl 3 rfl) ?_
    refine lv_iload hx hb dX6_behind_53 (lv_at hl 0 rfl) ?_
    refine lv_iadd hx hb dX6_behind_55 ?_
    exact g_iret S hr hlocks (by simp [beh, stp, wea, c_23]) dX6_behind_56
  · refine lv_iload hx hb dX6_behind_26 (lv_at hl 1 rfl) ?_
    refine lv_if_le (tgt := 35) hx hb dX6_behind_28 (by decide) (fun c_28_1 => ?_) (fun c_28_1 => ?_)
    · refine lv_iload hx hb dX6_behind_35 (lv_at hl 1 rfl) ?_
      refine lv_if_ge (tgt := 44) hx hb dX6_behind_37 (by decide) (fun c_37_2 => ?_) (fun c_37_2 => ?_)
      · refine lv_iconst (v := 0) hx hb dX6_behind_44 (by decide) ?_
        refine lv_goto (tgt := 50) hx hb dX6_behind_45 (by decide) ?_
        refine lv_istore (lv' := [(5, .int 0), (4, .int ((g 2 ((n) % 12)) - wd)), (0, .ref (wad w 9 (0))), (1, .int wd), (2, .int (nI n)), (3, .int co)]) hx hb dX6_behind_50 hl (by decide) rfl (fun ls hl => ?_)
        refine lv_iload_n hx hb dX6_behind_52 rfl (lv_at hl 3 rfl) ?_
        refine lv_iload hx hb dX6_behind_53 (lv_at hl 0 rfl) ?_
        refine lv_iadd hx hb dX6_behind_55 ?_
        exact g_iret S hr hlocks (by simp [beh, stp, wea, c_23, c_28_1, c_37_2]) dX6_behind_56
      · refine lv_iconst (v := (-1)) hx hb dX6_behind_40 (by decide) ?_
        refine lv_goto (tgt := 50) hx hb dX6_behind_41 (by decide) ?_
        refine lv_istore (lv' := [(5, .int ((-1))), (4, .int ((g 2 ((n) % 12)) - wd)), (0, .ref (wad w 9 (0))), (1, .int wd), (2, .int (nI n)), (3, .int co)]) hx hb dX6_behind_50 hl (by decide) rfl (fun ls hl => ?_)
        refine lv_iload_n hx hb dX6_behind_52 rfl (lv_at hl 3 rfl) ?_
        refine lv_iload hx hb dX6_behind_53 (lv_at hl 0 rfl) ?_
        refine lv_iadd hx hb dX6_behind_55 ?_
        exact g_iret S hr hlocks (by simp [beh, stp, wea, c_23, c_28_1, c_37_2]) dX6_behind_56
    · refine lv_iconst (v := 1) hx hb dX6_behind_31 (by decide) ?_
      refine lv_goto (tgt := 50) hx hb dX6_behind_32 (by decide) ?_
      refine lv_istore (lv' := [(5, .int 1), (4, .int ((g 2 ((n) % 12)) - wd)), (0, .ref (wad w 9 (0))), (1, .int wd), (2, .int (nI n)), (3, .int co)]) hx hb dX6_behind_50 hl (by decide) rfl (fun ls hl => ?_)
      refine lv_iload_n hx hb dX6_behind_52 rfl (lv_at hl 3 rfl) ?_
      refine lv_iload hx hb dX6_behind_53 (lv_at hl 0 rfl) ?_
      refine lv_iadd hx hb dX6_behind_55 ?_
      exact g_iret S hr hlocks (by simp [beh, stp, wea, c_23, c_28_1]) dX6_behind_56
set_option maxHeartbeats 4000000 in
set_option maxRecDepth 100000 in
/-- wouldBreak(joint, wood) -/
theorem c_X6_wouldBreak (l : Launch) (z : ZE) (w : WG) (g1 g : GS) (o : Nat → Int64) (t : Int32) (A B : Nat → Int32) (hO : OKg g) (j : Nat) (hj : j < nj g) (wd : Int32) : Met l yX6_wouldBreak (.code yX6_wouldBreak cX6_wouldBreak 5 (some .boolean) :: wU) ({ frames := 3, cells := 0, slots := 0, locals := 66 }) (PE z [.ref (wad w 9 (0)), .int (nI j), .int wd] (fun H => MW z w g1 o g t A B H)) (rqi (bI (wbr g j wd))) 0 0 zF := by
  refine Met.ofW (cc := cX6_wouldBreak) (maxL := 5) (ret := (some .boolean)) (by decide) rfl ?_
  intro p e s m args below meth c s₁ BD hml hv
  obtain ⟨rfl, hE, hW⟩ := hv
  have hts : ∀ w ∈ wU, w.before _ s = true := fun w h => atoms_spec (ws := .code yX6_wouldBreak cX6_wouldBreak 5 (some .boolean) :: wU) BD.pre w (List.mem_cons_of_mem _ h)
  have S : CallFix p m c cX6_wouldBreak 5 s ([.ref (wad w 9 (0)), .int (nI j), .int wd] : List Value).toArray wU RX6 := ⟨BD.exec, BD.bytes, hml, findClass_of_methodNamed BD.named, hts⟩
  have hx := S.1
  have hb := S.2.1
  have hown := S.2.2.2.1
  have hr := BD.returns
  have hlocks := BD.notSynchronized
  have hS : va_S (zA z) s.heap s.heap [] := va_S.rf
  have hl := lv_entry ([.ref (wad w 9 (0)), .int (nI j), .int wd]) (n := 5) (Nat.le_of_ble_eq_true rfl)
  rw [lg_entry_eq]
  generalize (lg_sl ([.ref (wad w 9 (0)), .int (nI j), .int wd]) ++ List.replicate (5 - (lg_sl ([.ref (wad w 9 (0)), .int (nI j), .int wd])).length) Slot.unset).toArray = ls at hl ⊢
  have hl : lv_has ls 5 [(0, .ref (wad w 9 (0))), (1, .int (nI j)), (2, .int wd)] := hl
  have h20 := hO.l5
  have h40 := hO.l16
  have h30 := hO.l24
  have hjp := hO.l26 hj
  refine lv_aload_n hx hb dX6_wouldBreak_0 rfl (lv_at hl 0 rfl) ?_
  refine m_geta S hE hW 26 (by decide) rfl tw_766 rfl dX6_wouldBreak_1 ?_
  refine lv_iload_n hx hb dX6_wouldBreak_4 rfl (lv_at hl 1 rfl) ?_
  refine m_ald S hE hW (k := 26) (v := nI (jp g (j))) rfl (vp_in_nI (show j < 30 from (by omega)) (by decide)) (by rw [show (nI j : Int32).toNatClampNeg = j from (nI_clamp (by omega))]; exact (hO.n26 (i := j) (by omega))) dX6_wouldBreak_5 ?_
  refine lv_istore_n (lv' := [(3, .int (nI (jp g (j)))), (0, .ref (wad w 9 (0))), (1, .int (nI j)), (2, .int wd)]) hx hb dX6_wouldBreak_6 rfl hl (by decide) rfl (fun ls hl => ?_)
  refine lv_aload_n hx hb dX6_wouldBreak_7 rfl (lv_at hl 1 rfl) ?_
  refine m_geta S hE hW 25 (by decide) rfl tw_765 rfl dX6_wouldBreak_8 ?_
  refine lv_iload_n hx hb dX6_wouldBreak_11 rfl (lv_at hl 2 rfl) ?_
  refine m_ald S hE hW (k := 25) (v := g 25 j) rfl (vp_in_nI (show j < 30 from (by omega)) (by decide)) (by rw [show (nI j : Int32).toNatClampNeg = j from (nI_clamp (by omega))]) dX6_wouldBreak_12 ?_
  refine lv_iconst (v := 1) hx hb dX6_wouldBreak_13 (by decide) ?_
  refine lv_icmp_ne (tgt := 61) hx hb dX6_wouldBreak_14 (by decide) (fun c_14 => ?_) (fun c_14 => ?_)
  · refine lv_aload_n hx hb dX6_wouldBreak_61 rfl (lv_at hl 1 rfl) ?_
    refine m_geta S hE hW 25 (by decide) rfl tw_765 rfl dX6_wouldBreak_62 ?_
    refine lv_iload_n hx hb dX6_wouldBreak_65 rfl (lv_at hl 2 rfl) ?_
    refine m_ald S hE hW (k := 25) (v := g 25 j) rfl (vp_in_nI (show j < 30 from (by omega)) (by decide)) (by rw [show (nI j : Int32).toNatClampNeg = j from (nI_clamp (by omega))]) dX6_wouldBreak_66 ?_
    refine lv_iconst (v := 2) hx hb dX6_wouldBreak_67 (by decide) ?_
    refine lv_icmp_ne (tgt := 99) hx hb dX6_wouldBreak_68 (by decide) (fun c_68_1 => ?_) (fun c_68_1 => ?_)
    · refine lv_iconst (v := 0) hx hb dX6_wouldBreak_99 (by decide) ?_
      exact g_zret S hr hlocks (by simp [wbr, bI, c_14, c_68_1]) ⟨_, rfl⟩ dX6_wouldBreak_100
    · refine lv_aload_n hx hb dX6_wouldBreak_71 rfl (lv_at hl 1 rfl) ?_
      refine lv_iload_n hx hb dX6_wouldBreak_72 rfl (lv_at hl 0 rfl) ?_
      refine lv_iload_n hx hb dX6_wouldBreak_73 rfl (lv_at hl 3 rfl) ?_
      refine g_callV (As := [.int (nI (jp g (j))), .int wd]) (rest := []) S hE hS (c_X6_widthAt l z w g1 g o (t) A B hO (jp g (j)) (by omega) (wd)) (cwV 2 hts (gU_V tw_890 tw_892 tp_22 tw_6 tw_893) rfl rfl rfl (by decide +kernel) ⟨Nat.le_of_ble_eq_true rfl, Nat.le_of_ble_eq_true rfl⟩) (by obtain ⟨gm9, hW9, -⟩ := hW; exact hE.recv hW9.md (q := (RX6, TX6, 36)) rfl) hW rfl hl.1 rfl (Nat.le_of_ble_eq_true rfl) dX6_wouldBreak_74 ⟨Nat.zero_le _, Nat.zero_le _⟩ ?_
      refine lv_aload_n hx hb dX6_wouldBreak_77 rfl (lv_at hl 1 rfl) ?_
      refine m_geta S hE hW 28 (by decide) rfl tw_768 rfl dX6_wouldBreak_78 ?_
      refine lv_iload_n hx hb dX6_wouldBreak_81 rfl (lv_at hl 2 rfl) ?_
      refine m_ald S hE hW (k := 28) (v := g 28 j) rfl (vp_in_nI (show j < 30 from (by omega)) (by decide)) (by rw [show (nI j : Int32).toNatClampNeg = j from (nI_clamp (by omega))]) dX6_wouldBreak_82 ?_
      refine lv_iconst (v := 2) hx hb dX6_wouldBreak_83 (by decide) ?_
      refine lv_aload_n hx hb dX6_wouldBreak_84 rfl (lv_at hl 1 rfl) ?_
      refine m_geta S hE hW 29 (by decide) rfl tw_769 rfl dX6_wouldBreak_85 ?_
      refine lv_iload_n hx hb dX6_wouldBreak_88 rfl (lv_at hl 2 rfl) ?_
      refine m_ald S hE hW (k := 29) (v := g 29 j) rfl (vp_in_nI (show j < 30 from (by omega)) (by decide)) (by rw [show (nI j : Int32).toNatClampNeg = j from (nI_clamp (by omega))]) dX6_wouldBreak_89 ?_
      refine lv_imul hx hb dX6_wouldBreak_90 ?_
      refine lv_isub hx hb dX6_wouldBreak_91 ?_
      refine lv_icmp_ge (tgt := 99) hx hb dX6_wouldBreak_92 (by decide) (fun c_92_2 => ?_) (fun c_92_2 => ?_)
      · refine lv_iconst (v := 0) hx hb dX6_wouldBreak_99 (by decide) ?_
        exact g_zret S hr hlocks (by simp [wbr, bI, c_14, c_68_1, c_92_2]) ⟨_, rfl⟩ dX6_wouldBreak_100
      · refine lv_iconst (v := 1) hx hb dX6_wouldBreak_95 (by decide) ?_
        refine lv_goto (tgt := 100) hx hb dX6_wouldBreak_96 (by decide) ?_
        exact g_zret S hr hlocks (by simp [wbr, bI, c_14, c_68_1, c_92_2]) ⟨_, rfl⟩ dX6_wouldBreak_100
  · refine lv_aload_n hx hb dX6_wouldBreak_17 rfl (lv_at hl 1 rfl) ?_
    refine lv_aload_n hx hb dX6_wouldBreak_18 rfl (lv_at hl 1 rfl) ?_
    refine m_geta S hE hW 28 (by decide) rfl tw_768 rfl dX6_wouldBreak_19 ?_
    refine lv_iload_n hx hb dX6_wouldBreak_22 rfl (lv_at hl 2 rfl) ?_
    refine m_ald S hE hW (k := 28) (v := g 28 j) rfl (vp_in_nI (show j < 30 from (by omega)) (by decide)) (by rw [show (nI j : Int32).toNatClampNeg = j from (nI_clamp (by omega))]) dX6_wouldBreak_23 ?_
    refine lv_aload_n hx hb dX6_wouldBreak_24 rfl (lv_at hl 1 rfl) ?_
    refine lv_iload_n hx hb dX6_wouldBreak_25 rfl (lv_at hl 0 rfl) ?_
    refine g_callV (As := [.int (nI (jp g (j)))]) (rest := [.int (g 28 j), .ref (wad w 9 (0))]) S hE hS (c_X6_speciesOf l z w g1 g o (t) A B hO (jp g (j)) (by omega)) (cwV 1 hts (gU_V tw_878 tw_880 tp_19 tw_6 tw_881) rfl rfl rfl (by decide +kernel) ⟨Nat.le_of_ble_eq_true rfl, Nat.le_of_ble_eq_true rfl⟩) (by obtain ⟨gm9, hW9, -⟩ := hW; exact hE.recv hW9.md (q := (RX6, TX6, 36)) rfl) hW rfl hl.1 rfl (Nat.le_of_ble_eq_true rfl) dX6_wouldBreak_26 ⟨Nat.zero_le _, Nat.zero_le _⟩ ?_
    refine lv_iload_n hx hb dX6_wouldBreak_29 rfl (lv_at hl 3 rfl) ?_
    refine lv_aload_n hx hb dX6_wouldBreak_30 rfl (lv_at hl 1 rfl) ?_
    refine m_geta S hE hW 33 (by decide) rfl tw_773 rfl dX6_wouldBreak_31 ?_
    refine lv_iload_n hx hb dX6_wouldBreak_34 rfl (lv_at hl 2 rfl) ?_
    refine m_ald S hE hW (k := 33) (v := g 33 j) rfl (vp_in_nI (show j < 30 from (by omega)) (by decide)) (by rw [show (nI j : Int32).toNatClampNeg = j from (nI_clamp (by omega))]) dX6_wouldBreak_35 ?_
    refine lv_isub hx hb dX6_wouldBreak_36 ?_
    refine g_callV (As := [.int (g 28 j), .int (g 6 (pb g (jp g (j)))), .int (wd - (g 33 j))]) (rest := []) S hE hS (c_X6_moved l z w g1 g o (t) A B (g 28 j) (g 6 (pb g (jp g (j)))) (wd - (g 33 j))) (cwV 3 hts (gU_V tw_882 tw_884 tp_20 tw_6 tw_885) rfl rfl rfl (by decide +kernel) ⟨Nat.le_of_ble_eq_true rfl, Nat.le_of_ble_eq_true rfl⟩) (by obtain ⟨gm9, hW9, -⟩ := hW; exact hE.recv hW9.md (q := (RX6, TX6, 36)) rfl) hW rfl hl.1 rfl (Nat.le_of_ble_eq_true rfl) dX6_wouldBreak_37 ⟨Nat.zero_le _, Nat.zero_le _⟩ ?_
    refine lv_topi (fun x_4 ex_4 => ?_)
    refine lv_istore (lv' := [(4, .int x_4), (3, .int (nI (jp g (j)))), (0, .ref (wad w 9 (0))), (1, .int (nI j)), (2, .int wd)]) hx hb dX6_wouldBreak_40 hl (by decide) rfl (fun ls hl => ?_)
    refine lv_iload hx hb dX6_wouldBreak_42 (lv_at hl 0 rfl) ?_
    refine lv_iconst (v := 5) hx hb dX6_wouldBreak_44 (by decide) ?_
    refine lv_icmp_gt (tgt := 55) hx hb dX6_wouldBreak_45 (by decide) (fun c_45_4 => ?_) (fun c_45_4 => ?_)
    · refine lv_iconst (v := 1) hx hb dX6_wouldBreak_55 (by decide) ?_
      refine lv_goto (tgt := 60) hx hb dX6_wouldBreak_56 (by decide) ?_
      exact g_zret S hr hlocks (by subst ex_4; simp [wbr, bI, c_14, c_45_4]) ⟨_, rfl⟩ dX6_wouldBreak_60
    · refine lv_iload hx hb dX6_wouldBreak_48 (lv_at hl 0 rfl) ?_
      refine lv_bipush (v := (-5)) hx hb dX6_wouldBreak_50 (by decide) ?_
      refine lv_icmp_ge (tgt := 59) hx hb dX6_wouldBreak_52 (by decide) (fun c_52_5 => ?_) (fun c_52_5 => ?_)
      · refine lv_iconst (v := 0) hx hb dX6_wouldBreak_59 (by decide) ?_
        exact g_zret S hr hlocks (by subst ex_4; simp [wbr, bI, c_14, c_45_4, c_52_5]) ⟨_, rfl⟩ dX6_wouldBreak_60
      · refine lv_iconst (v := 1) hx hb dX6_wouldBreak_55 (by decide) ?_
        refine lv_goto (tgt := 60) hx hb dX6_wouldBreak_56 (by decide) ?_
        exact g_zret S hr hlocks (by subst ex_4; simp [wbr, bI, c_14, c_45_4, c_52_5]) ⟨_, rfl⟩ dX6_wouldBreak_60
set_option maxHeartbeats 4000000 in
set_option maxRecDepth 100000 in
/-- isTaken(board, from, to) -/
theorem c_X6_isTaken (l : Launch) (z : ZE) (w : WG) (g1 g : GS) (o : Nat → Int64) (t : Int32) (A B : Nat → Int32) (hO : OKg g) (b : Nat) (hb9 : b < nb g) (f9 t9 : Int32) : Met l yX6_isTaken (.code yX6_isTaken cX6_isTaken 6 (some .boolean) :: wU) ({ frames := 0, cells := 0, slots := 0, locals := 0 }) (PE z [.ref (wad w 9 (0)), .int (nI b), .int f9, .int t9] (fun H => MW z w g1 o g t A B H)) (rqi (bI (anyN (np g) (tkn g b f9 t9)))) 0 0 zF := by
  refine Met.ofW (cc := cX6_isTaken) (maxL := 6) (ret := (some .boolean)) (by decide) rfl ?_
  intro p e s m args below meth c s₁ BD hml hv
  obtain ⟨rfl, hE, hW⟩ := hv
  have hts : ∀ w ∈ wU, w.before _ s = true := fun w h => atoms_spec (ws := .code yX6_isTaken cX6_isTaken 6 (some .boolean) :: wU) BD.pre w (List.mem_cons_of_mem _ h)
  have S : CallFix p m c cX6_isTaken 6 s ([.ref (wad w 9 (0)), .int (nI b), .int f9, .int t9] : List Value).toArray wU RX6 := ⟨BD.exec, BD.bytes, hml, findClass_of_methodNamed BD.named, hts⟩
  have hx := S.1
  have hb := S.2.1
  have hown := S.2.2.2.1
  have hr := BD.returns
  have hlocks := BD.notSynchronized
  have hS : va_S (zA z) s.heap s.heap [] := va_S.rf
  have hl := lv_entry ([.ref (wad w 9 (0)), .int (nI b), .int f9, .int t9]) (n := 6) (Nat.le_of_ble_eq_true rfl)
  rw [lg_entry_eq]
  generalize (lg_sl ([.ref (wad w 9 (0)), .int (nI b), .int f9, .int t9]) ++ List.replicate (6 - (lg_sl ([.ref (wad w 9 (0)), .int (nI b), .int f9, .int t9])).length) Slot.unset).toArray = ls at hl ⊢
  have hl : lv_has ls 6 [(0, .ref (wad w 9 (0))), (1, .int (nI b)), (2, .int f9), (3, .int t9)] := hl
  have h20 := hO.l5
  have h40 := hO.l16
  refine lv_iconst (v := 0) hx hb dX6_isTaken_0 (by decide) ?_
  refine lv_istore (lv' := [(4, .int 0), (0, .ref (wad w 9 (0))), (1, .int (nI b)), (2, .int f9), (3, .int t9)]) hx hb dX6_isTaken_1 hl (by decide) rfl (fun ls hl => ?_)
  refine lv_iconst (v := nI 0) hx hb dX6_isTaken_3 (by decide) ?_
  refine lv_istore (lv' := [(5, .int (nI 0)), (4, .int 0), (0, .ref (wad w 9 (0))), (1, .int (nI b)), (2, .int f9), (3, .int t9)]) hx hb dX6_isTaken_4 hl (by decide) rfl (fun ls hl => ?_)
  have lp_6 : ∀ (k9 : Nat) (i : Nat) (x : Int32) (hi : i ≤ np g) (he : x = bI (anyN i (tkn g b f9 t9))), np g - i < k9 → ∀ (ls : Array Slot), lv_has ls 6 [(0, .ref (wad w 9 (0))), (1, .int (nI b)), (2, .int f9), (3, .int t9), (4, .int x), (5, .int (nI i))] → W p l e ({ frames := 0, cells := 0, slots := 0, locals := 0 } : Room) s m ([.ref (wad w 9 (0)), .int (nI b), .int f9, .int t9] : List Value).toArray below meth c s.heap [] 0 0 (MQ below (rqi (bI (anyN (np g) (tkn g b f9 t9)))) ([.ref (wad w 9 (0)), .int (nI b), .int f9, .int t9] : List Value).toArray s 0 0 zF) (F0 m 6 ls []) := by
    intro k9
    induction k9 with
    | zero => intro i x hi he h9; exact absurd h9 (Nat.not_lt_zero _)
    | succ k9 ih_6 =>
      intro i x hi he hk9 ls hl
      subst he
      refine lv_iload hx hb dX6_isTaken_6 (lv_at hl 5 rfl) ?_
      refine lv_aload_n hx hb dX6_isTaken_8 rfl (lv_at hl 0 rfl) ?_
      refine m_geti S hE hW 16 (v := nI (np g)) (by decide) rfl (by decide) tw_756 rfl hO.n16 dX6_isTaken_9 ?_
      refine g_icmp_ge S (by omega) (by omega) (tgt := 80) dX6_isTaken_12 (by decide) (fun c_12 => ?_) (fun c_12 => ?_)
      · refine lv_iload hx hb dX6_isTaken_80 (lv_at hl 4 rfl) ?_
        exact g_zret S hr hlocks (by rw [show i = np g by omega]) ⟨_, rfl⟩ dX6_isTaken_82
      · refine lv_iload hx hb dX6_isTaken_15 (lv_at hl 4 rfl) ?_
        refine g_if_ne S (tgt := 67) dX6_isTaken_17 (by decide) (fun c_17_1 => ?_) (fun c_17_1 => ?_)
        · refine lv_iconst (v := 1) hx hb dX6_isTaken_67 (by decide) ?_
          refine lv_goto (tgt := 72) hx hb dX6_isTaken_68 (by decide) ?_
          refine lv_istore (lv' := [(4, .int 1), (0, .ref (wad w 9 (0))), (1, .int (nI b)), (2, .int f9), (3, .int t9), (5, .int (nI i))]) hx hb dX6_isTaken_72 hl (by decide) rfl (fun ls hl => ?_)
          refine lv_iinc (v := nI (i + 1)) (lv' := [(5, .int (nI (i + 1))), (4, .int 1), (0, .ref (wad w 9 (0))), (1, .int (nI b)), (2, .int f9), (3, .int t9)]) hx hb dX6_isTaken_74 hl (k := 5) rfl (nI_1 _) (by decide) rfl (fun ls hl => ?_)
          refine lv_goto (tgt := 6) hx hb dX6_isTaken_77 (by decide) ?_
          exact ih_6 (i + 1) _ (by omega) (by simp [anyN, tkn, bI, c_12, c_17_1]) (by omega) ls (lv_sub hl [2, 3, 4, 5, 1, 0] rfl)
        · refine lv_aload_n hx hb dX6_isTaken_20 rfl (lv_at hl 0 rfl) ?_
          refine m_geta S hE hW 17 (by decide) rfl tw_757 rfl dX6_isTaken_21 ?_
          refine lv_iload hx hb dX6_isTaken_24 (lv_at hl 5 rfl) ?_
          refine m_ald S hE hW (k := 17) (v := nI (pb g (i))) rfl (vp_in_nI (show i < 40 from (by omega)) (by decide)) (by rw [show (nI i : Int32).toNatClampNeg = i from (nI_clamp (by omega))]; exact (hO.n17 (i := i) (by omega))) dX6_isTaken_26 ?_
          refine lv_iload_n hx hb dX6_isTaken_27 rfl (lv_at hl 1 rfl) ?_
          have hpi := hO.l17 (i := i) (by omega)
          refine g_icmp_ne S (by omega) (by omega) (tgt := 71) dX6_isTaken_28 (by decide) (fun c_28_2 => ?_) (fun c_28_2 => ?_)
          · refine lv_iconst (v := 0) hx hb dX6_isTaken_71 (by decide) ?_
            refine lv_istore (lv' := [(4, .int 0), (0, .ref (wad w 9 (0))), (1, .int (nI b)), (2, .int f9), (3, .int t9), (5, .int (nI i))]) hx hb dX6_isTaken_72 hl (by decide) rfl (fun ls hl => ?_)
            refine lv_iinc (v := nI (i + 1)) (lv' := [(5, .int (nI (i + 1))), (4, .int 0), (0, .ref (wad w 9 (0))), (1, .int (nI b)), (2, .int f9), (3, .int t9)]) hx hb dX6_isTaken_74 hl (k := 5) rfl (nI_1 _) (by decide) rfl (fun ls hl => ?_)
            refine lv_goto (tgt := 6) hx hb dX6_isTaken_77 (by decide) ?_
            exact ih_6 (i + 1) _ (by omega) (by simp [anyN, tkn, bI, c_12, c_17_1, c_28_2]) (by omega) ls (lv_sub hl [2, 3, 4, 5, 1, 0] rfl)
          · refine lv_iload_n hx hb dX6_isTaken_31 rfl (lv_at hl 2 rfl) ?_
            refine lv_aload_n hx hb dX6_isTaken_32 rfl (lv_at hl 0 rfl) ?_
            refine m_geta S hE hW 18 (by decide) rfl tw_758 rfl dX6_isTaken_33 ?_
            refine lv_iload hx hb dX6_isTaken_36 (lv_at hl 5 rfl) ?_
            refine m_ald S hE hW (k := 18) (v := g 18 i) rfl (vp_in_nI (show i < 40 from (by omega)) (by decide)) (by rw [show (nI i : Int32).toNatClampNeg = i from (nI_clamp (by omega))]) dX6_isTaken_38 ?_
            refine lv_aload_n hx hb dX6_isTaken_39 rfl (lv_at hl 0 rfl) ?_
            refine m_geta S hE hW 19 (by decide) rfl tw_759 rfl dX6_isTaken_40 ?_
            refine lv_iload hx hb dX6_isTaken_43 (lv_at hl 5 rfl) ?_
            refine m_ald S hE hW (k := 19) (v := g 19 i) rfl (vp_in_nI (show i < 40 from (by omega)) (by decide)) (by rw [show (nI i : Int32).toNatClampNeg = i from (nI_clamp (by omega))]) dX6_isTaken_45 ?_
            refine lv_iadd hx hb dX6_isTaken_46 ?_
            refine lv_bipush (v := 30) hx hb dX6_isTaken_47 (by decide) ?_
            refine lv_iadd hx hb dX6_isTaken_49 ?_
            refine lv_icmp_ge (tgt := 71) hx hb dX6_isTaken_50 (by decide) (fun c_50_3 => ?_) (fun c_50_3 => ?_)
            · refine lv_iconst (v := 0) hx hb dX6_isTaken_71 (by decide) ?_
              refine lv_istore (lv' := [(4, .int 0), (0, .ref (wad w 9 (0))), (1, .int (nI b)), (2, .int f9), (3, .int t9), (5, .int (nI i))]) hx hb dX6_isTaken_72 hl (by decide) rfl (fun ls hl => ?_)
              refine lv_iinc (v := nI (i + 1)) (lv' := [(5, .int (nI (i + 1))), (4, .int 0), (0, .ref (wad w 9 (0))), (1, .int (nI b)), (2, .int f9), (3, .int t9)]) hx hb dX6_isTaken_74 hl (k := 5) rfl (nI_1 _) (by decide) rfl (fun ls hl => ?_)
              refine lv_goto (tgt := 6) hx hb dX6_isTaken_77 (by decide) ?_
              exact ih_6 (i + 1) _ (by omega) (by simp [anyN, tkn, bI, c_12, c_17_1, c_28_2, c_50_3]) (by omega) ls (lv_sub hl [2, 3, 4, 5, 1, 0] rfl)
            · refine lv_iload_n hx hb dX6_isTaken_53 rfl (lv_at hl 3 rfl) ?_
              refine lv_aload_n hx hb dX6_isTaken_54 rfl (lv_at hl 0 rfl) ?_
              refine m_geta S hE hW 18 (by decide) rfl tw_758 rfl dX6_isTaken_55 ?_
              refine lv_iload hx hb dX6_isTaken_58 (lv_at hl 5 rfl) ?_
              refine m_ald S hE hW (k := 18) (v := g 18 i) rfl (vp_in_nI (show i < 40 from (by omega)) (by decide)) (by rw [show (nI i : Int32).toNatClampNeg = i from (nI_clamp (by omega))]) dX6_isTaken_60 ?_
              refine lv_bipush (v := 30) hx hb dX6_isTaken_61 (by decide) ?_
              refine lv_isub hx hb dX6_isTaken_63 ?_
              refine lv_icmp_le (tgt := 71) hx hb dX6_isTaken_64 (by decide) (fun c_64_4 => ?_) (fun c_64_4 => ?_)
              · refine lv_iconst (v := 0) hx hb dX6_isTaken_71 (by decide) ?_
                refine lv_istore (lv' := [(4, .int 0), (0, .ref (wad w 9 (0))), (1, .int (nI b)), (2, .int f9), (3, .int t9), (5, .int (nI i))]) hx hb dX6_isTaken_72 hl (by decide) rfl (fun ls hl => ?_)
                refine lv_iinc (v := nI (i + 1)) (lv' := [(5, .int (nI (i + 1))), (4, .int 0), (0, .ref (wad w 9 (0))), (1, .int (nI b)), (2, .int f9), (3, .int t9)]) hx hb dX6_isTaken_74 hl (k := 5) rfl (nI_1 _) (by decide) rfl (fun ls hl => ?_)
                refine lv_goto (tgt := 6) hx hb dX6_isTaken_77 (by decide) ?_
                exact ih_6 (i + 1) _ (by omega) (by simp [anyN, tkn, bI, c_12, c_17_1, c_28_2, c_50_3, c_64_4]) (by omega) ls (lv_sub hl [2, 3, 4, 5, 1, 0] rfl)
              · refine lv_iconst (v := 1) hx hb dX6_isTaken_67 (by decide) ?_
                refine lv_goto (tgt := 72) hx hb dX6_isTaken_68 (by decide) ?_
                refine lv_istore (lv' := [(4, .int 1), (0, .ref (wad w 9 (0))), (1, .int (nI b)), (2, .int f9), (3, .int t9), (5, .int (nI i))]) hx hb dX6_isTaken_72 hl (by decide) rfl (fun ls hl => ?_)
                refine lv_iinc (v := nI (i + 1)) (lv' := [(5, .int (nI (i + 1))), (4, .int 1), (0, .ref (wad w 9 (0))), (1, .int (nI b)), (2, .int f9), (3, .int t9)]) hx hb dX6_isTaken_74 hl (k := 5) rfl (nI_1 _) (by decide) rfl (fun ls hl => ?_)
                refine lv_goto (tgt := 6) hx hb dX6_isTaken_77 (by decide) ?_
                exact ih_6 (i + 1) _ (by omega) (by simp [anyN, tkn, bI, c_12, c_17_1, c_28_2, c_50_3, c_64_4]) (by omega) ls (lv_sub hl [2, 3, 4, 5, 1, 0] rfl)
  exact lp_6 ((np g - 0) + 1) 0 0 (Nat.zero_le _) rfl (Nat.lt_succ_self _) ls (lv_sub hl [2, 3, 4, 5, 1, 0] rfl)
set_option maxHeartbeats 4000000 in
set_option maxRecDepth 100000 in
/-- hasKnot(board, from, to) -/
theorem c_X6_hasKnot (l : Launch) (z : ZE) (w : WG) (g1 g : GS) (o : Nat → Int64) (t : Int32) (A B : Nat → Int32) (hO : OKg g) (b : Nat) (hb9 : b < nb g) (f9 t9 : Int32) : Met l yX6_hasKnot (.code yX6_hasKnot cX6_hasKnot 6 (some .boolean) :: wU) ({ frames := 0, cells := 0, slots := 0, locals := 0 }) (PE z [.ref (wad w 9 (0)), .int (nI b), .int f9, .int t9] (fun H => MW z w g1 o g t A B H)) (rqi (bI (anyN (kn g b) (knt g b f9 t9)))) 0 0 zF := by
  refine Met.ofW (cc := cX6_hasKnot) (maxL := 6) (ret := (some .boolean)) (by decide) rfl ?_
  intro p e s m args below meth c s₁ BD hml hv
  obtain ⟨rfl, hE, hW⟩ := hv
  have hts : ∀ w ∈ wU, w.before _ s = true := fun w h => atoms_spec (ws := .code yX6_hasKnot cX6_hasKnot 6 (some .boolean) :: wU) BD.pre w (List.mem_cons_of_mem _ h)
  have S : CallFix p m c cX6_hasKnot 6 s ([.ref (wad w 9 (0)), .int (nI b), .int f9, .int t9] : List Value).toArray wU RX6 := ⟨BD.exec, BD.bytes, hml, findClass_of_methodNamed BD.named, hts⟩
  have hx := S.1
  have hb := S.2.1
  have hown := S.2.2.2.1
  have hr := BD.returns
  have hlocks := BD.notSynchronized
  have hS : va_S (zA z) s.heap s.heap [] := va_S.rf
  have hl := lv_entry ([.ref (wad w 9 (0)), .int (nI b), .int f9, .int t9]) (n := 6) (Nat.le_of_ble_eq_true rfl)
  rw [lg_entry_eq]
  generalize (lg_sl ([.ref (wad w 9 (0)), .int (nI b), .int f9, .int t9]) ++ List.replicate (6 - (lg_sl ([.ref (wad w 9 (0)), .int (nI b), .int f9, .int t9])).length) Slot.unset).toArray = ls at hl ⊢
  have hl : lv_has ls 6 [(0, .ref (wad w 9 (0))), (1, .int (nI b)), (2, .int f9), (3, .int t9)] := hl
  have h20 := hO.l5
  have hk4 := hO.l13 hb9
  refine lv_iconst (v := 0) hx hb dX6_hasKnot_0 (by decide) ?_
  refine lv_istore (lv' := [(4, .int 0), (0, .ref (wad w 9 (0))), (1, .int (nI b)), (2, .int f9), (3, .int t9)]) hx hb dX6_hasKnot_1 hl (by decide) rfl (fun ls hl => ?_)
  refine lv_iconst (v := nI 0) hx hb dX6_hasKnot_3 (by decide) ?_
  refine lv_istore (lv' := [(5, .int (nI 0)), (4, .int 0), (0, .ref (wad w 9 (0))), (1, .int (nI b)), (2, .int f9), (3, .int t9)]) hx hb dX6_hasKnot_4 hl (by decide) rfl (fun ls hl => ?_)
  have lp_6 : ∀ (k9 : Nat) (i : Nat) (x : Int32) (hi : i ≤ kn g b) (he : x = bI (anyN i (knt g b f9 t9))), kn g b - i < k9 → ∀ (ls : Array Slot), lv_has ls 6 [(0, .ref (wad w 9 (0))), (1, .int (nI b)), (2, .int f9), (3, .int t9), (4, .int x), (5, .int (nI i))] → W p l e ({ frames := 0, cells := 0, slots := 0, locals := 0 } : Room) s m ([.ref (wad w 9 (0)), .int (nI b), .int f9, .int t9] : List Value).toArray below meth c s.heap [] 0 0 (MQ below (rqi (bI (anyN (kn g b) (knt g b f9 t9)))) ([.ref (wad w 9 (0)), .int (nI b), .int f9, .int t9] : List Value).toArray s 0 0 zF) (F0 m 6 ls []) := by
    intro k9
    induction k9 with
    | zero => intro i x hi he h9; exact absurd h9 (Nat.not_lt_zero _)
    | succ k9 ih_6 =>
      intro i x hi he hk9 ls hl
      subst he
      refine lv_iload hx hb dX6_hasKnot_6 (lv_at hl 5 rfl) ?_
      refine lv_aload_n hx hb dX6_hasKnot_8 rfl (lv_at hl 0 rfl) ?_
      refine m_geta S hE hW 13 (by decide) rfl tw_753 rfl dX6_hasKnot_9 ?_
      refine lv_iload_n hx hb dX6_hasKnot_12 rfl (lv_at hl 1 rfl) ?_
      refine m_ald S hE hW (k := 13) (v := nI (kn g (b))) rfl (vp_in_nI (show b < 20 from (by omega)) (by decide)) (by rw [show (nI b : Int32).toNatClampNeg = b from (nI_clamp (by omega))]; exact (hO.n13 (i := b) (by omega))) dX6_hasKnot_13 ?_
      refine g_icmp_ge S (by omega) (by omega) (tgt := 65) dX6_hasKnot_14 (by decide) (fun c_14 => ?_) (fun c_14 => ?_)
      · refine lv_iload hx hb dX6_hasKnot_65 (lv_at hl 4 rfl) ?_
        exact g_zret S hr hlocks (by rw [show i = kn g b by omega]) ⟨_, rfl⟩ dX6_hasKnot_67
      · refine lv_iload hx hb dX6_hasKnot_17 (lv_at hl 4 rfl) ?_
        refine g_if_ne S (tgt := 52) dX6_hasKnot_19 (by decide) (fun c_19_1 => ?_) (fun c_19_1 => ?_)
        · refine lv_iconst (v := 1) hx hb dX6_hasKnot_52 (by decide) ?_
          refine lv_goto (tgt := 57) hx hb dX6_hasKnot_53 (by decide) ?_
          refine lv_istore (lv' := [(4, .int 1), (0, .ref (wad w 9 (0))), (1, .int (nI b)), (2, .int f9), (3, .int t9), (5, .int (nI i))]) hx hb dX6_hasKnot_57 hl (by decide) rfl (fun ls hl => ?_)
          refine lv_iinc (v := nI (i + 1)) (lv' := [(5, .int (nI (i + 1))), (4, .int 1), (0, .ref (wad w 9 (0))), (1, .int (nI b)), (2, .int f9), (3, .int t9)]) hx hb dX6_hasKnot_59 hl (k := 5) rfl (nI_1 _) (by decide) rfl (fun ls hl => ?_)
          refine lv_goto (tgt := 6) hx hb dX6_hasKnot_62 (by decide) ?_
          exact ih_6 (i + 1) _ (by omega) (by simp [anyN, knt, bI, c_14, c_19_1]) (by omega) ls (lv_sub hl [2, 3, 4, 5, 1, 0] rfl)
        · refine lv_iload_n hx hb dX6_hasKnot_22 rfl (lv_at hl 2 rfl) ?_
          refine lv_aload_n hx hb dX6_hasKnot_23 rfl (lv_at hl 0 rfl) ?_
          refine m_geta S hE hW 15 (by decide) rfl tw_755 rfl dX6_hasKnot_24 ?_
          refine lv_iconst (v := 4) hx hb dX6_hasKnot_27 (by decide) ?_
          refine lv_iload_n hx hb dX6_hasKnot_28 rfl (lv_at hl 1 rfl) ?_
          refine lv_imul hx hb dX6_hasKnot_29 ?_
          rw [show (4 : Int32) * nI b = nI (4 * (b)) from pk_mul 4 _]
          refine lv_iload hx hb dX6_hasKnot_30 (lv_at hl 5 rfl) ?_
          refine g_iadd S dX6_hasKnot_32 ?_
          refine m_ald S hE hW (k := 15) (v := g 15 ((4 * (b)) + i)) rfl (vp_in_nI (show (4 * (b)) + i < 80 from (by omega)) (by decide)) (by rw [show (nI ((4 * (b)) + i) : Int32).toNatClampNeg = (4 * (b)) + i from (nI_clamp (by omega))]) dX6_hasKnot_33 ?_
          refine lv_icmp_ge (tgt := 56) hx hb dX6_hasKnot_34 (by decide) (fun c_34_2 => ?_) (fun c_34_2 => ?_)
          · refine lv_iconst (v := 0) hx hb dX6_hasKnot_56 (by decide) ?_
            refine lv_istore (lv' := [(4, .int 0), (0, .ref (wad w 9 (0))), (1, .int (nI b)), (2, .int f9), (3, .int t9), (5, .int (nI i))]) hx hb dX6_hasKnot_57 hl (by decide) rfl (fun ls hl => ?_)
            refine lv_iinc (v := nI (i + 1)) (lv' := [(5, .int (nI (i + 1))), (4, .int 0), (0, .ref (wad w 9 (0))), (1, .int (nI b)), (2, .int f9), (3, .int t9)]) hx hb dX6_hasKnot_59 hl (k := 5) rfl (nI_1 _) (by decide) rfl (fun ls hl => ?_)
            refine lv_goto (tgt := 6) hx hb dX6_hasKnot_62 (by decide) ?_
            exact ih_6 (i + 1) _ (by omega) (by simp [anyN, knt, bI, c_14, c_19_1, c_34_2]) (by omega) ls (lv_sub hl [2, 3, 4, 5, 1, 0] rfl)
          · refine lv_iload_n hx hb dX6_hasKnot_37 rfl (lv_at hl 3 rfl) ?_
            refine lv_aload_n hx hb dX6_hasKnot_38 rfl (lv_at hl 0 rfl) ?_
            refine m_geta S hE hW 14 (by decide) rfl tw_754 rfl dX6_hasKnot_39 ?_
            refine lv_iconst (v := 4) hx hb dX6_hasKnot_42 (by decide) ?_
            refine lv_iload_n hx hb dX6_hasKnot_43 rfl (lv_at hl 1 rfl) ?_
            refine lv_imul hx hb dX6_hasKnot_44 ?_
            rw [show (4 : Int32) * nI b = nI (4 * (b)) from pk_mul 4 _]
            refine lv_iload hx hb dX6_hasKnot_45 (lv_at hl 5 rfl) ?_
            refine g_iadd S dX6_hasKnot_47 ?_
            refine m_ald S hE hW (k := 14) (v := g 14 ((4 * (b)) + i)) rfl (vp_in_nI (show (4 * (b)) + i < 80 from (by omega)) (by decide)) (by rw [show (nI ((4 * (b)) + i) : Int32).toNatClampNeg = (4 * (b)) + i from (nI_clamp (by omega))]) dX6_hasKnot_48 ?_
            refine lv_icmp_le (tgt := 56) hx hb dX6_hasKnot_49 (by decide) (fun c_49_3 => ?_) (fun c_49_3 => ?_)
            · refine lv_iconst (v := 0) hx hb dX6_hasKnot_56 (by decide) ?_
              refine lv_istore (lv' := [(4, .int 0), (0, .ref (wad w 9 (0))), (1, .int (nI b)), (2, .int f9), (3, .int t9), (5, .int (nI i))]) hx hb dX6_hasKnot_57 hl (by decide) rfl (fun ls hl => ?_)
              refine lv_iinc (v := nI (i + 1)) (lv' := [(5, .int (nI (i + 1))), (4, .int 0), (0, .ref (wad w 9 (0))), (1, .int (nI b)), (2, .int f9), (3, .int t9)]) hx hb dX6_hasKnot_59 hl (k := 5) rfl (nI_1 _) (by decide) rfl (fun ls hl => ?_)
              refine lv_goto (tgt := 6) hx hb dX6_hasKnot_62 (by decide) ?_
              exact ih_6 (i + 1) _ (by omega) (by simp [anyN, knt, bI, c_14, c_19_1, c_34_2, c_49_3]) (by omega) ls (lv_sub hl [2, 3, 4, 5, 1, 0] rfl)
            · refine lv_iconst (v := 1) hx hb dX6_hasKnot_52 (by decide) ?_
              refine lv_goto (tgt := 57) hx hb dX6_hasKnot_53 (by decide) ?_
              refine lv_istore (lv' := [(4, .int 1), (0, .ref (wad w 9 (0))), (1, .int (nI b)), (2, .int f9), (3, .int t9), (5, .int (nI i))]) hx hb dX6_hasKnot_57 hl (by decide) rfl (fun ls hl => ?_)
              refine lv_iinc (v := nI (i + 1)) (lv' := [(5, .int (nI (i + 1))), (4, .int 1), (0, .ref (wad w 9 (0))), (1, .int (nI b)), (2, .int f9), (3, .int t9)]) hx hb dX6_hasKnot_59 hl (k := 5) rfl (nI_1 _) (by decide) rfl (fun ls hl => ?_)
              refine lv_goto (tgt := 6) hx hb dX6_hasKnot_62 (by decide) ?_
              exact ih_6 (i + 1) _ (by omega) (by simp [anyN, knt, bI, c_14, c_19_1, c_34_2, c_49_3]) (by omega) ls (lv_sub hl [2, 3, 4, 5, 1, 0] rfl)
  exact lp_6 ((kn g b - 0) + 1) 0 0 (Nat.zero_le _) rfl (Nat.lt_succ_self _) ls (lv_sub hl [2, 3, 4, 5, 1, 0] rfl)
set_option maxHeartbeats 4000000 in
set_option maxRecDepth 100000 in
/-- fits(kind, part, size, tongue) -/
theorem c_X6_fits (l : Launch) (z : ZE) (w : WG) (g1 g : GS) (o : Nat → Int64) (t : Int32) (A B : Nat → Int32) (hO : OKg g) (kd : Int32) (i : Nat) (hi : i < np g) (sz tg : Int32) : Met l yX6_fits (.code yX6_fits cX6_fits 6 (some .boolean) :: wU) ({ frames := 3, cells := 0, slots := 0, locals := 66 }) (PE z [.ref (wad w 9 (0)), .int kd, .int (nI i), .int sz, .int tg] (fun H => MW z w g1 o g t A B H)) (rqi (bI (fit g kd i sz tg))) 0 0 zF := by
  refine Met.ofW (cc := cX6_fits) (maxL := 6) (ret := (some .boolean)) (by decide) rfl ?_
  intro p e s m args below meth c s₁ BD hml hv
  obtain ⟨rfl, hE, hW⟩ := hv
  have hts : ∀ w ∈ wU, w.before _ s = true := fun w h => atoms_spec (ws := .code yX6_fits cX6_fits 6 (some .boolean) :: wU) BD.pre w (List.mem_cons_of_mem _ h)
  have S : CallFix p m c cX6_fits 6 s ([.ref (wad w 9 (0)), .int kd, .int (nI i), .int sz, .int tg] : List Value).toArray wU RX6 := ⟨BD.exec, BD.bytes, hml, findClass_of_methodNamed BD.named, hts⟩
  have hx := S.1
  have hb := S.2.1
  have hown := S.2.2.2.1
  have hr := BD.returns
  have hlocks := BD.notSynchronized
  have hS : va_S (zA z) s.heap s.heap [] := va_S.rf
  have hl := lv_entry ([.ref (wad w 9 (0)), .int kd, .int (nI i), .int sz, .int tg]) (n := 6) (Nat.le_of_ble_eq_true rfl)
  rw [lg_entry_eq]
  generalize (lg_sl ([.ref (wad w 9 (0)), .int kd, .int (nI i), .int sz, .int tg]) ++ List.replicate (6 - (lg_sl ([.ref (wad w 9 (0)), .int kd, .int (nI i), .int sz, .int tg])).length) Slot.unset).toArray = ls at hl ⊢
  have hl : lv_has ls 6 [(0, .ref (wad w 9 (0))), (1, .int kd), (2, .int (nI i)), (3, .int sz), (4, .int tg)] := hl
  have h40 := hO.l16
  refine lv_aload_n hx hb dX6_fits_0 rfl (lv_at hl 0 rfl) ?_
  refine lv_iload_n hx hb dX6_fits_1 rfl (lv_at hl 2 rfl) ?_
  refine lv_aload_n hx hb dX6_fits_2 rfl (lv_at hl 0 rfl) ?_
  refine m_geta S hE hW 22 (by decide) rfl tw_762 rfl dX6_fits_3 ?_
  refine lv_iload_n hx hb dX6_fits_6 rfl (lv_at hl 2 rfl) ?_
  refine m_ald S hE hW (k := 22) (v := g 22 i) rfl (vp_in_nI (show i < 40 from (by omega)) (by decide)) (by rw [show (nI i : Int32).toNatClampNeg = i from (nI_clamp (by omega))]) dX6_fits_7 ?_
  refine g_callV (As := [.int (nI i), .int (g 22 i)]) (rest := []) S hE hS (c_X6_widthAt l z w g1 g o (t) A B hO (i) (by omega) (g 22 i)) (cwV 2 hts (gU_V tw_890 tw_892 tp_22 tw_6 tw_893) rfl rfl rfl (by decide +kernel) ⟨Nat.le_of_ble_eq_true rfl, Nat.le_of_ble_eq_true rfl⟩) (by obtain ⟨gm9, hW9, -⟩ := hW; exact hE.recv hW9.md (q := (RX6, TX6, 36)) rfl) hW rfl hl.1 rfl (Nat.le_of_ble_eq_true rfl) dX6_fits_8 ⟨Nat.zero_le _, Nat.zero_le _⟩ ?_
  refine lv_istore (lv' := [(5, .int (wAt g (i) (g 22 i))), (0, .ref (wad w 9 (0))), (1, .int kd), (2, .int (nI i)), (3, .int sz), (4, .int tg)]) hx hb dX6_fits_11 hl (by decide) rfl (fun ls hl => ?_)
  refine lv_iload_n hx hb dX6_fits_13 rfl (lv_at hl 2 rfl) ?_
  refine lv_if_ne (tgt := 35) hx hb dX6_fits_14 (by decide) (fun c_14 => ?_) (fun c_14 => ?_)
  · refine lv_iload_n hx hb dX6_fits_35 rfl (lv_at hl 2 rfl) ?_
    refine lv_iconst (v := 1) hx hb dX6_fits_36 (by decide) ?_
    refine lv_icmp_ne (tgt := 54) hx hb dX6_fits_37 (by decide) (fun c_37_1 => ?_) (fun c_37_1 => ?_)
    · refine lv_iload hx hb dX6_fits_54 (lv_at hl 0 rfl) ?_
      refine lv_iload_n hx hb dX6_fits_56 rfl (lv_at hl 4 rfl) ?_
      refine lv_icmp_gt (tgt := 75) hx hb dX6_fits_57 (by decide) (fun c_57_2 => ?_) (fun c_57_2 => ?_)
      · refine lv_iconst (v := 0) hx hb dX6_fits_75 (by decide) ?_
        exact g_zret S hr hlocks (by simp [fit, bI, c_14, c_37_1, c_57_2]) ⟨_, rfl⟩ dX6_fits_76
      · refine lv_iload hx hb dX6_fits_60 (lv_at hl 0 rfl) ?_
        refine lv_iload_n hx hb dX6_fits_62 rfl (lv_at hl 4 rfl) ?_
        refine lv_iconst (v := 2) hx hb dX6_fits_63 (by decide) ?_
        refine lv_iload hx hb dX6_fits_64 (lv_at hl 5 rfl) ?_
        refine lv_imul hx hb dX6_fits_66 ?_
        refine lv_isub hx hb dX6_fits_67 ?_
        refine lv_icmp_lt (tgt := 75) hx hb dX6_fits_68 (by decide) (fun c_68_3 => ?_) (fun c_68_3 => ?_)
        · refine lv_iconst (v := 0) hx hb dX6_fits_75 (by decide) ?_
          exact g_zret S hr hlocks (by simp [fit, bI, c_14, c_37_1, c_57_2, c_68_3]) ⟨_, rfl⟩ dX6_fits_76
        · refine lv_iconst (v := 1) hx hb dX6_fits_71 (by decide) ?_
          refine lv_goto (tgt := 76) hx hb dX6_fits_72 (by decide) ?_
          exact g_zret S hr hlocks (by simp [fit, bI, c_14, c_37_1, c_57_2, c_68_3]) ⟨_, rfl⟩ dX6_fits_76
    · refine lv_iload_n hx hb dX6_fits_40 rfl (lv_at hl 4 rfl) ?_
      refine lv_iload hx hb dX6_fits_41 (lv_at hl 0 rfl) ?_
      refine lv_icmp_gt (tgt := 50) hx hb dX6_fits_43 (by decide) (fun c_43_4 => ?_) (fun c_43_4 => ?_)
      · refine lv_iconst (v := 0) hx hb dX6_fits_50 (by decide) ?_
        refine lv_goto (tgt := 76) hx hb dX6_fits_51 (by decide) ?_
        exact g_zret S hr hlocks (by simp [fit, bI, c_14, c_37_1, c_43_4]) ⟨_, rfl⟩ dX6_fits_76
      · refine lv_iconst (v := 1) hx hb dX6_fits_46 (by decide) ?_
        refine lv_goto (tgt := 76) hx hb dX6_fits_47 (by decide) ?_
        exact g_zret S hr hlocks (by simp [fit, bI, c_14, c_37_1, c_43_4]) ⟨_, rfl⟩ dX6_fits_76
  · refine lv_iload_n hx hb dX6_fits_17 rfl (lv_at hl 4 rfl) ?_
    refine lv_aload_n hx hb dX6_fits_18 rfl (lv_at hl 1 rfl) ?_
    refine m_geta S hE hW 19 (by decide) rfl tw_759 rfl dX6_fits_19 ?_
    refine lv_iload_n hx hb dX6_fits_22 rfl (lv_at hl 3 rfl) ?_
    refine m_ald S hE hW (k := 19) (v := g 19 i) rfl (vp_in_nI (show i < 40 from (by omega)) (by decide)) (by rw [show (nI i : Int32).toNatClampNeg = i from (nI_clamp (by omega))]) dX6_fits_23 ?_
    refine lv_icmp_gt (tgt := 31) hx hb dX6_fits_24 (by decide) (fun c_24_5 => ?_) (fun c_24_5 => ?_)
    · refine lv_iconst (v := 0) hx hb dX6_fits_31 (by decide) ?_
      refine lv_goto (tgt := 76) hx hb dX6_fits_32 (by decide) ?_
      exact g_zret S hr hlocks (by simp [fit, bI, c_14, c_24_5]) ⟨_, rfl⟩ dX6_fits_76
    · refine lv_iconst (v := 1) hx hb dX6_fits_27 (by decide) ?_
      refine lv_goto (tgt := 76) hx hb dX6_fits_28 (by decide) ?_
      exact g_zret S hr hlocks (by simp [fit, bI, c_14, c_24_5]) ⟨_, rfl⟩ dX6_fits_76
set_option maxHeartbeats 4000000 in
set_option maxRecDepth 100000 in
/-- stateOf(joint) -/
theorem c_X6_stateOf (l : Launch) (z : ZE) (w : WG) (g1 g : GS) (o : Nat → Int64) (t : Int32) (A B : Nat → Int32) (hO : OKg g) (j : Nat) (hj : j < nj g) : Met l yX6_stateOf (.code yX6_stateOf cX6_stateOf 3 (some .int) :: wU) ({ frames := 3, cells := 0, slots := 0, locals := 66 }) (PE z [.ref (wad w 9 (0)), .int (nI j)] (fun H => MW z w g1 o g t A B H)) (rqi (sta g j)) 0 0 zF := by
  refine Met.ofW (cc := cX6_stateOf) (maxL := 3) (ret := (some .int)) (by decide) rfl ?_
  intro p e s m args below meth c s₁ BD hml hv
  obtain ⟨rfl, hE, hW⟩ := hv
  have hts : ∀ w ∈ wU, w.before _ s = true := fun w h => atoms_spec (ws := .code yX6_stateOf cX6_stateOf 3 (some .int) :: wU) BD.pre w (List.mem_cons_of_mem _ h)
  have S : CallFix p m c cX6_stateOf 3 s ([.ref (wad w 9 (0)), .int (nI j)] : List Value).toArray wU RX6 := ⟨BD.exec, BD.bytes, hml, findClass_of_methodNamed BD.named, hts⟩
  have hx := S.1
  have hb := S.2.1
  have hown := S.2.2.2.1
  have hr := BD.returns
  have hlocks := BD.notSynchronized
  have hS : va_S (zA z) s.heap s.heap [] := va_S.rf
  have hl := lv_entry ([.ref (wad w 9 (0)), .int (nI j)]) (n := 3) (Nat.le_of_ble_eq_true rfl)
  rw [lg_entry_eq]
  generalize (lg_sl ([.ref (wad w 9 (0)), .int (nI j)]) ++ List.replicate (3 - (lg_sl ([.ref (wad w 9 (0)), .int (nI j)])).length) Slot.unset).toArray = ls at hl ⊢
  have hl : lv_has ls 3 [(0, .ref (wad w 9 (0))), (1, .int (nI j))] := hl
  have h40 := hO.l16
  have h30 := hO.l24
  have hjp := hO.l26 hj
  refine lv_aload_n hx hb dX6_stateOf_0 rfl (lv_at hl 0 rfl) ?_
  refine m_geta S hE hW 31 (by decide) rfl tw_771 rfl dX6_stateOf_1 ?_
  refine lv_iload_n hx hb dX6_stateOf_4 rfl (lv_at hl 1 rfl) ?_
  refine m_zald S hE hW (k := 31) (v := g 31 j) rfl (vp_in_nI (show j < 30 from (by omega)) (by decide)) (by rw [show (nI j : Int32).toNatClampNeg = j from (nI_clamp (by omega))]) dX6_stateOf_5 ?_
  refine lv_if_ne (tgt := 11) hx hb dX6_stateOf_6 (by decide) (fun c_6 => ?_) (fun c_6 => ?_)
  · refine lv_aload_n hx hb dX6_stateOf_11 rfl (lv_at hl 0 rfl) ?_
    refine m_geta S hE hW 25 (by decide) rfl tw_765 rfl dX6_stateOf_12 ?_
    refine lv_iload_n hx hb dX6_stateOf_15 rfl (lv_at hl 1 rfl) ?_
    refine m_ald S hE hW (k := 25) (v := g 25 j) rfl (vp_in_nI (show j < 30 from (by omega)) (by decide)) (by rw [show (nI j : Int32).toNatClampNeg = j from (nI_clamp (by omega))]) dX6_stateOf_16 ?_
    refine lv_iconst (v := 2) hx hb dX6_stateOf_17 (by decide) ?_
    refine lv_icmp_ne (tgt := 55) hx hb dX6_stateOf_18 (by decide) (fun c_18_1 => ?_) (fun c_18_1 => ?_)
    · refine lv_iconst (v := 0) hx hb dX6_stateOf_55 (by decide) ?_
      refine lv_istore_n (lv' := [(2, .int 0), (0, .ref (wad w 9 (0))), (1, .int (nI j))]) hx hb dX6_stateOf_56 rfl hl (by decide) rfl (fun ls hl => ?_)
      refine lv_aload_n hx hb dX6_stateOf_57 rfl (lv_at hl 1 rfl) ?_
      refine m_geta S hE hW 32 (by decide) rfl tw_772 rfl dX6_stateOf_58 ?_
      refine lv_iload_n hx hb dX6_stateOf_61 rfl (lv_at hl 2 rfl) ?_
      refine m_zald S hE hW (k := 32) (v := g 32 j) rfl (vp_in_nI (show j < 30 from (by omega)) (by decide)) (by rw [show (nI j : Int32).toNatClampNeg = j from (nI_clamp (by omega))]) dX6_stateOf_62 ?_
      refine lv_if_eq (tgt := 70) hx hb dX6_stateOf_63 (by decide) (fun c_63_2 => ?_) (fun c_63_2 => ?_)
      · refine lv_iload_n hx hb dX6_stateOf_70 rfl (lv_at hl 0 rfl) ?_
        refine lv_if_eq (tgt := 78) hx hb dX6_stateOf_71 (by decide) (fun _ => ?_) (fun h9 => absurd h9 (by decide))
        refine lv_iconst (v := 1) hx hb dX6_stateOf_78 (by decide) ?_
        exact g_iret S hr hlocks (by simp [sta, c_6, c_18_1, c_63_2]) dX6_stateOf_79
      · refine lv_iconst (v := 3) hx hb dX6_stateOf_66 (by decide) ?_
        refine lv_goto (tgt := 79) hx hb dX6_stateOf_67 (by decide) ?_
        exact g_iret S hr hlocks (by simp [sta, c_6, c_18_1, c_63_2]) dX6_stateOf_79
    · refine lv_aload_n hx hb dX6_stateOf_21 rfl (lv_at hl 0 rfl) ?_
      refine lv_aload_n hx hb dX6_stateOf_22 rfl (lv_at hl 0 rfl) ?_
      refine m_geta S hE hW 26 (by decide) rfl tw_766 rfl dX6_stateOf_23 ?_
      refine lv_iload_n hx hb dX6_stateOf_26 rfl (lv_at hl 1 rfl) ?_
      refine m_ald S hE hW (k := 26) (v := nI (jp g (j))) rfl (vp_in_nI (show j < 30 from (by omega)) (by decide)) (by rw [show (nI j : Int32).toNatClampNeg = j from (nI_clamp (by omega))]; exact (hO.n26 (i := j) (by omega))) dX6_stateOf_27 ?_
      refine lv_aload_n hx hb dX6_stateOf_28 rfl (lv_at hl 0 rfl) ?_
      refine m_geta S hE hW 22 (by decide) rfl tw_762 rfl dX6_stateOf_29 ?_
      refine lv_aload_n hx hb dX6_stateOf_32 rfl (lv_at hl 0 rfl) ?_
      refine m_geta S hE hW 26 (by decide) rfl tw_766 rfl dX6_stateOf_33 ?_
      refine lv_iload_n hx hb dX6_stateOf_36 rfl (lv_at hl 1 rfl) ?_
      refine m_ald S hE hW (k := 26) (v := nI (jp g (j))) rfl (vp_in_nI (show j < 30 from (by omega)) (by decide)) (by rw [show (nI j : Int32).toNatClampNeg = j from (nI_clamp (by omega))]; exact (hO.n26 (i := j) (by omega))) dX6_stateOf_37 ?_
      refine m_ald S hE hW (k := 22) (v := g 22 (jp g (j))) rfl (vp_in_nI (show jp g (j) < 40 from (by omega)) (by decide)) (by rw [show (nI (jp g (j)) : Int32).toNatClampNeg = jp g (j) from (nI_clamp (by omega))]) dX6_stateOf_38 ?_
      refine g_callV (As := [.int (nI (jp g (j))), .int (g 22 (jp g (j)))]) (rest := []) S hE hS (c_X6_widthAt l z w g1 g o (t) A B hO (jp g (j)) (by omega) (g 22 (jp g (j)))) (cwV 2 hts (gU_V tw_890 tw_892 tp_22 tw_6 tw_893) rfl rfl rfl (by decide +kernel) ⟨Nat.le_of_ble_eq_true rfl, Nat.le_of_ble_eq_true rfl⟩) (by obtain ⟨gm9, hW9, -⟩ := hW; exact hE.recv hW9.md (q := (RX6, TX6, 36)) rfl) hW rfl hl.1 rfl (Nat.le_of_ble_eq_true rfl) dX6_stateOf_39 ⟨Nat.zero_le _, Nat.zero_le _⟩ ?_
      refine lv_aload_n hx hb dX6_stateOf_42 rfl (lv_at hl 0 rfl) ?_
      refine m_geta S hE hW 28 (by decide) rfl tw_768 rfl dX6_stateOf_43 ?_
      refine lv_iload_n hx hb dX6_stateOf_46 rfl (lv_at hl 1 rfl) ?_
      refine m_ald S hE hW (k := 28) (v := g 28 j) rfl (vp_in_nI (show j < 30 from (by omega)) (by decide)) (by rw [show (nI j : Int32).toNatClampNeg = j from (nI_clamp (by omega))]) dX6_stateOf_47 ?_
      refine lv_icmp_le (tgt := 55) hx hb dX6_stateOf_48 (by decide) (fun c_48_3 => ?_) (fun c_48_3 => ?_)
      · refine lv_iconst (v := 0) hx hb dX6_stateOf_55 (by decide) ?_
        refine lv_istore_n (lv' := [(2, .int 0), (0, .ref (wad w 9 (0))), (1, .int (nI j))]) hx hb dX6_stateOf_56 rfl hl (by decide) rfl (fun ls hl => ?_)
        refine lv_aload_n hx hb dX6_stateOf_57 rfl (lv_at hl 1 rfl) ?_
        refine m_geta S hE hW 32 (by decide) rfl tw_772 rfl dX6_stateOf_58 ?_
        refine lv_iload_n hx hb dX6_stateOf_61 rfl (lv_at hl 2 rfl) ?_
        refine m_zald S hE hW (k := 32) (v := g 32 j) rfl (vp_in_nI (show j < 30 from (by omega)) (by decide)) (by rw [show (nI j : Int32).toNatClampNeg = j from (nI_clamp (by omega))]) dX6_stateOf_62 ?_
        refine lv_if_eq (tgt := 70) hx hb dX6_stateOf_63 (by decide) (fun c_63_4 => ?_) (fun c_63_4 => ?_)
        · refine lv_iload_n hx hb dX6_stateOf_70 rfl (lv_at hl 0 rfl) ?_
          refine lv_if_eq (tgt := 78) hx hb dX6_stateOf_71 (by decide) (fun _ => ?_) (fun h9 => absurd h9 (by decide))
          refine lv_iconst (v := 1) hx hb dX6_stateOf_78 (by decide) ?_
          exact g_iret S hr hlocks (by simp [sta, c_6, c_18_1, c_48_3, c_63_4]) dX6_stateOf_79
        · refine lv_iconst (v := 3) hx hb dX6_stateOf_66 (by decide) ?_
          refine lv_goto (tgt := 79) hx hb dX6_stateOf_67 (by decide) ?_
          exact g_iret S hr hlocks (by simp [sta, c_6, c_18_1, c_48_3, c_63_4]) dX6_stateOf_79
      · refine lv_iconst (v := 1) hx hb dX6_stateOf_51 (by decide) ?_
        refine lv_goto (tgt := 56) hx hb dX6_stateOf_52 (by decide) ?_
        refine lv_istore_n (lv' := [(2, .int 1), (0, .ref (wad w 9 (0))), (1, .int (nI j))]) hx hb dX6_stateOf_56 rfl hl (by decide) rfl (fun ls hl => ?_)
        refine lv_aload_n hx hb dX6_stateOf_57 rfl (lv_at hl 1 rfl) ?_
        refine m_geta S hE hW 32 (by decide) rfl tw_772 rfl dX6_stateOf_58 ?_
        refine lv_iload_n hx hb dX6_stateOf_61 rfl (lv_at hl 2 rfl) ?_
        refine m_zald S hE hW (k := 32) (v := g 32 j) rfl (vp_in_nI (show j < 30 from (by omega)) (by decide)) (by rw [show (nI j : Int32).toNatClampNeg = j from (nI_clamp (by omega))]) dX6_stateOf_62 ?_
        refine lv_if_eq (tgt := 70) hx hb dX6_stateOf_63 (by decide) (fun c_63_5 => ?_) (fun c_63_5 => ?_)
        · refine lv_iload_n hx hb dX6_stateOf_70 rfl (lv_at hl 0 rfl) ?_
          refine lv_if_eq (tgt := 78) hx hb dX6_stateOf_71 (by decide) (fun h9 => absurd h9 (by decide)) (fun _ => ?_)
          refine lv_iconst (v := 2) hx hb dX6_stateOf_74 (by decide) ?_
          refine lv_goto (tgt := 79) hx hb dX6_stateOf_75 (by decide) ?_
          exact g_iret S hr hlocks (by simp [sta, c_6, c_18_1, c_48_3, c_63_5]) dX6_stateOf_79
        · refine lv_iconst (v := 3) hx hb dX6_stateOf_66 (by decide) ?_
          refine lv_goto (tgt := 79) hx hb dX6_stateOf_67 (by decide) ?_
          exact g_iret S hr hlocks (by simp [sta, c_6, c_18_1, c_48_3, c_63_5]) dX6_stateOf_79
  · refine lv_iconst (v := 0) hx hb dX6_stateOf_9 (by decide) ?_
    exact g_iret S hr hlocks (by simp [sta, c_6]) dX6_stateOf_10
set_option maxHeartbeats 4000000 in
set_option maxRecDepth 100000 in
/-- thrown() -/
theorem c_X6_thrown (l : Launch) (z : ZE) (w : WG) (g1 g : GS) (o : Nat → Int64) (t : Int32) (A B : Nat → Int32) : Met l yX6_thrown (.code yX6_thrown cX6_thrown 1 (some .int) :: wU) ({ frames := 0, cells := 0, slots := 0, locals := 0 }) (PE z [.ref (wad w 9 (0))] (fun H => MW z w g1 o g t A B H)) (rqi (t)) 0 0 zF := by
  refine Met.ofW (cc := cX6_thrown) (maxL := 1) (ret := (some .int)) (by decide) rfl ?_
  intro p e s m args below meth c s₁ BD hml hv
  obtain ⟨rfl, hE, hW⟩ := hv
  have hts : ∀ w ∈ wU, w.before _ s = true := fun w h => atoms_spec (ws := .code yX6_thrown cX6_thrown 1 (some .int) :: wU) BD.pre w (List.mem_cons_of_mem _ h)
  have S : CallFix p m c cX6_thrown 1 s ([.ref (wad w 9 (0))] : List Value).toArray wU RX6 := ⟨BD.exec, BD.bytes, hml, findClass_of_methodNamed BD.named, hts⟩
  have hx := S.1
  have hb := S.2.1
  have hown := S.2.2.2.1
  have hr := BD.returns
  have hlocks := BD.notSynchronized
  have hS : va_S (zA z) s.heap s.heap [] := va_S.rf
  have hl := lv_entry ([.ref (wad w 9 (0))]) (n := 1) (Nat.le_of_ble_eq_true rfl)
  rw [lg_entry_eq]
  generalize (lg_sl ([.ref (wad w 9 (0))]) ++ List.replicate (1 - (lg_sl ([.ref (wad w 9 (0))])).length) Slot.unset).toArray = ls at hl ⊢
  have hl : lv_has ls 1 [(0, .ref (wad w 9 (0)))] := hl
  refine lv_aload_n hx hb dX6_thrown_0 rfl (lv_at hl 0 rfl) ?_
  refine m_gett S hE hW tw_740 dX6_thrown_1 ?_
  exact g_iret S hr hlocks rfl dX6_thrown_4
end
