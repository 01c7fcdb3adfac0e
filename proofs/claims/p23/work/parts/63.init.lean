/-! ===== the world as the law begins ===== -/
theorem lv00 {k i : Nat} (h : lv_e g00 k i) : (k = 0 ∧ i = 0) ∨ (k = 1 ∧ i = 0) ∨ (k = 5 ∧ i = 0) ∨ (k = 5 ∧ i = 1) ∨ (k = 5 ∧ i = 2) ∨ (k = 10 ∧ i < 10) := by
  have n0 : nb g00 = 0 := by decide
  have n1 : np g00 = 0 := by decide
  have n2 : nj g00 = 0 := by decide
  match k, h with
  | 0, h => exact Or.inl ⟨rfl, h⟩
  | 1, h => exact Or.inr (Or.inl ⟨rfl, h⟩)
  | 2, h =>
    have h2 : i < nb g00 := h
    omega
  | 3, h =>
    have h2 : i < np g00 := h
    omega
  | 4, h =>
    have h2 : i < nj g00 := h
    omega
  | 5, h =>
    have h2 : i < 3 + 2 * nb g00 := h
    rcases (show i = 0 ∨ i = 1 ∨ i = 2 by omega) with rfl | rfl | rfl
    · exact Or.inr (Or.inr (Or.inl ⟨rfl, rfl⟩))
    · exact Or.inr (Or.inr (Or.inr (Or.inl ⟨rfl, rfl⟩)))
    · exact Or.inr (Or.inr (Or.inr (Or.inr (Or.inl ⟨rfl, rfl⟩))))
  | 6, h =>
    have h2 : i < 3 + 2 * nb g00 := h.1
    have h3 : 0 < ll g00 i := h.2
    exfalso
    rcases (show i = 0 ∨ i = 1 ∨ i = 2 by omega) with rfl | rfl | rfl
    · rw [show ll g00 0 = nb g00 from rfl] at h3; omega
    · rw [show ll g00 1 = np g00 from rfl] at h3; omega
    · rw [show ll g00 2 = nj g00 from rfl] at h3; omega
  | 7, h =>
    have h2 : i / 4 < nb g00 := h.1
    omega
  | 8, h =>
    have h2 : i < np g00 := h
    omega
  | 9, h => exact h.elim
  | 10, h => exact Or.inr (Or.inr (Or.inr (Or.inr (Or.inr ⟨rfl, of_decide_eq_true h⟩))))
  | 11, h => exact h.elim
  | k + 12, h => exact h.elim
theorem ww_init {z : ZE} {H : Heap} {q l0 l1 l2 ai md : Nat} {qa : Nat → Nat} (hz : zB z ≤ q) (h1 : q < l0) (h2 : l0 < l1) (h3 : l1 < l2) (h4 : l2 < ai) (h5 : ai < md) (hA : ∀ i, qa i = md + i)
    (b0 : va_at (zD z) vwCl (q, .inr (5, [.ref l0, .ref l1, .ref l2, .ref ai, .int 0, .int 100, .int 100, .int 6])) H) (b1 : va_at (zD z) vwCl (l0, .inr (0, [.int 0, .ref (zd z), .int 0])) H) (b2 : va_at (zD z) vwCl (l1, .inr (0, [.int 0, .ref (zd z), .int 0])) H) (b3 : va_at (zD z) vwCl (l2, .inr (0, [.int 0, .ref (zd z), .int 0])) H)
    (b4 : va_at (zD z) vwCl (ai, cI (zI z) 12 (fun j => if j < 12 then 100 else 0)) H) (b6 : ∀ i, i < 10 → va_at (zD z) vwCl (qa i, cI (zI z) (ln i) (fun _ => 0)) H) : LI z q qa g00 (fun _ _ => 0) H := by
  have n0 : nb g00 = 0 := by decide
  have n1 : np g00 = 0 := by decide
  have n2 : nj g00 = 0 := by decide
  obtain ⟨w, a0, a1, a50, a51, a52, a10, am, ac⟩ : ∃ w : WG, wad w 0 0 = q ∧ wad w 1 0 = ai ∧ wad w 5 0 = l0 ∧ wad w 5 1 = l1 ∧ wad w 5 2 = l2 ∧ wad w 10 = qa ∧ (∀ i, wmc w i = 0) ∧ ∀ i, wcp w i = 10 :=
    ⟨(fun k i => if k = 0 then q else if k = 1 then ai else if k = 5 then (if i = 0 then l0 else if i = 1 then l1 else l2) else qa i, fun _ => 0, fun _ => 10, fun _ _ => none), rfl, rfl, rfl, rfl, rfl, rfl, fun _ => rfl, fun _ => rfl⟩
  have hll : ∀ i, i < 3 → ll g00 i = 0 := fun i hi => by
    rcases (show i = 0 ∨ i = 1 ∨ i = 2 by omega) with rfl | rfl | rfl
    · exact n0
    · exact n1
    · exact n2
  have hls : ∀ i, i < 3 → ct z w g00 (fun _ _ => 0) (fun _ => 0) 5 i = .inr (0, [.int 0, .ref (zd z), .int 0]) := fun i hi => by
    show (Sum.inr (0, [.int (wmc w i), .ref (if ll g00 i = 0 then zd z else wad w 6 i), .int (nI (ll g00 i))]) : va_E) = _
    rw [am, if_pos (hll i hi), hll i hi]
    rfl
  refine ⟨w, ⟨a0, a10⟩, fun k i hk => ?_, fun k i k' i' hk hk' he => ?_, fun k i hk => ?_, fun i hi => ?_⟩
  · rcases lv00 hk with ⟨rfl, rfl⟩ | ⟨rfl, rfl⟩ | ⟨rfl, rfl⟩ | ⟨rfl, rfl⟩ | ⟨rfl, rfl⟩ | ⟨rfl, hi⟩
    · rw [a0, show ct z w g00 (fun _ _ => 0) (fun _ => 0) 0 0 = .inr (5, [.ref l0, .ref l1, .ref l2, .ref ai, .int 0, .int 100, .int 100, .int 6]) by
        show (Sum.inr (5, [.ref (wad w 5 0), .ref (wad w 5 1), .ref (wad w 5 2), .ref (wad w 1 0), .int (g00 1 0), .int (g00 3 0), .int (g00 3 1), .int (g00 4 0)]) : va_E) = _
        rw [a50, a51, a52, a1]
        rfl]
      exact b0
    · rw [a1]; exact b4
    · rw [a50, hls 0 (by decide)]; exact b1
    · rw [a51, hls 1 (by decide)]; exact b2
    · rw [a52, hls 2 (by decide)]; exact b3
    · rw [a10]; exact b6 i hi
  · rcases lv00 hk with ⟨rfl, rfl⟩ | ⟨rfl, rfl⟩ | ⟨rfl, rfl⟩ | ⟨rfl, rfl⟩ | ⟨rfl, rfl⟩ | ⟨rfl, hi⟩ <;>
    rcases lv00 hk' with ⟨rfl, rfl⟩ | ⟨rfl, rfl⟩ | ⟨rfl, rfl⟩ | ⟨rfl, rfl⟩ | ⟨rfl, rfl⟩ | ⟨rfl, hi'⟩ <;>
    first
    | exact ⟨rfl, rfl⟩
    | (exfalso; simp only [a0, a1, a50, a51, a52] at he; omega)
    | (exfalso; simp only [a0, a1, a50, a51, a52, a10, hA] at he; omega)
    | (simp only [a10, hA] at he; exact ⟨rfl, by omega⟩)
  · rcases lv00 hk with ⟨rfl, rfl⟩ | ⟨rfl, rfl⟩ | ⟨rfl, rfl⟩ | ⟨rfl, rfl⟩ | ⟨rfl, rfl⟩ | ⟨rfl, hi⟩ <;>
    first
    | (simp only [a0, a1, a50, a51, a52]; omega)
    | (simp only [a10, hA]; omega)
  · rw [n0] at hi
    rw [hll i (by omega), ac]
    exact ⟨by omega, by omega, fun j hj => absurd hj (Nat.not_lt_zero j)⟩
/-! THE CLAIM OUT OF ONE WALK OF THE LAW'S BODY. Your part is whole_start (and what it stands on); all else here is the same for every law, but numbers. -/
def R_law : String := "DovetailRowLaw"
def lw_P (b : Addr) (xs : List Int32) (args : Array Value) (s : State) : Prop := args = #[.ref b] ∧ s.IntsAt b xs ∧ xs.length ≤ 260 ∧ (Jvm.Cond.and given_1 narrow_1).before args s = true
def lw_Q (_ : Array Value) (s : State) (o : Outcome) (t : State) : Prop := o = .returned (some (.int 1)) ∧ Framed s o t [] 665204 7106157
def lw_Z (below : List Frame) (a : Array Value) (s : State) : State → Prop := fun t => ∃ o, t.status = .running ∧ Ended t below o ∧ lw_Q a s o t
/-- the law's own end, with 1 on the stack, nothing written that was there before, its room as the claim has it -/
theorem lw_ret {p : Program} {l : Launch} {e : Env} {s : State} {m : MethodId} {below : List Frame} {meth : Method} {c : Code} {b : Nat} (hx : p.tables.exec = Jvm.exec) (hb : c.code = code) (hr : meth.sig.returnType = ret) (hlocks : meth.locks = false) {pc : Nat} {H : Heap} {ls : Array Slot} (hdg : decode code pc = .ok (.ireturn, 1)) : W p l e room_1 s m #[Value.ref b] below meth c H [] 665204 7106157 (lw_Z below #[Value.ref b] s) (F0 m pc ls [.int 1]) := by
  intro T hT X
  obtain ⟨fs, hret, hrun, hended, hW, hframe⟩ := X.leave (v := some (.int 1)) (hlocks := hlocks) (fun h => by rw [hr] at h; cases h)
  have hmeth' : T.vm.method? m = some meth := X.method'
  refine ⟨T.setFrames fs, ?_, .returned (some (.int 1)), hrun, hended, rfl, ⟨_, rfl⟩, hW, hframe⟩
  jvm_step X.here [X.here.top, hx, hb, hdg, hmeth', hr, ret, narrow_b1]
  (try refine ⟨rfl, ?_⟩); (try refine ⟨rfl, ?_⟩)
  first | (intro acts; rw [hret _ acts rfl rfl rfl]) | rw [hret _ _ rfl rfl rfl]
  exact Steps.refl _
/-- what holds at the law's entry: the machine, the code, the tables' words (any of lw_tbl by 'hts w (by decide +kernel)'), the script of L ints xs at the cell b, what the Statement gives of the start (any of its parts by flat_of_before) -/
def lw_At (p : Program) (s : State) (m : MethodId) (meth : Method) (c : Code) (b L : Nat) (xs : Nat → Int32) : Prop :=
  p.tables.exec = Jvm.exec ∧ c.code = code ∧ meth.sig.returnType = ret ∧ c.maxLocals = 26 ∧ s.vm.findClass R_law = some m.cls ∧ (∀ w ∈ lw_tbl, w.before #[Value.ref b] s = true) ∧ va_X b L xs s s.heap ∧ b < s.heap.size ∧ meth.locks = false ∧ (Jvm.Cond.and given_1 narrow_1).before #[Value.ref b] s = true
