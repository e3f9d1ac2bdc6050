/-! walks over the pure world: PW says of a place in a method that the machine, there, comes to its end; each instruction is a row -/
abbrev pM : Type := MethodName × ByteArray × Nat × Option FieldType
abbrev pC : Type := Nat × List (Nat × Value) × List Value × pW
def wsM (M : pM) : List Cond := .code M.1 M.2.1 M.2.2.1 M.2.2.2 :: gtbl
/-- what the tables say of the body's handlers -/
def TB (y : MethodName) (s : State) (args : Array Value) (c : Code) : Prop :=
  (∀ (b : ByteArray) (ml : Nat) (r : Option FieldType), (Cond.code y b ml r).before args s = true → c.exceptionTable.toList = []) ∧ ∀ (b : ByteArray) (ml : Nat) (r : Option FieldType) (hh : List (Nat × Nat × Nat × Nat)), (Cond.codeWith y b ml r hh).before args s = true → c.exceptionTable.toList = tableOf hh
theorem TB_of {p : Program} {l : Launch} {y : MethodName} {S : Spec} {cc : ByteArray} {maxL : Nat} {ret : Option FieldType} {e : Env} {s s₁ : State} {m : MethodId} {args : Array Value} {below : List Frame} {meth : Method} {c : Code} (B : BodyLoose p l y S cc maxL ret e s m args below meth c s₁) : TB y s args c := by
  refine ⟨fun b ml r h => ?_, fun b ml r hh h => vx_table (x := y) B h⟩
  obtain ⟨meth9, c9, h1, h2, -, -, -, -, h7, -⟩ := Cond.code_spec B.named h
  cases Option.some.inj (h1.symm.trans B.method)
  cases Option.some.inj (h2.symm.trans (Stand.of_body B).code)
  rw [Array.isEmpty_iff.mp h7]
def Ctx (G : pG) (M : pM) (p : Program) (s : State) (m : MethodId) (args : Array Value) (meth : Method) (c : Code) : Prop :=
  p.tables.exec = Jvm.exec ∧ c.code = M.2.1 ∧ c.maxLocals = M.2.2.1 ∧ meth.sig.returnType = M.2.2.2 ∧ meth.locks = false ∧ meth.name = M.1.name ∧ s.vm.findClass M.1.cls = some m.cls ∧ (∀ w ∈ gtbl, w.before args s = true) ∧ KX G s ∧ XX G s s.heap ∧ g_b G ≤ s.heap.size ∧ TB M.1 s args c
def lt (G : pG) (l : List (Nat × Value)) : List (Nat × Value) := l.map (fun q => (q.1, tv (g_f G) q.2))
def PW (G : pG) (M : pM) (R : Room) (QF : List Frame → Array Value → State → State → Prop) (k n : Nat) (g : pC) : Prop :=
  ∀ (p : Program) (e : Env) (s : State) (m : MethodId) (args : Array Value) (below : List Frame) (meth : Method) (c : Code), Ctx G M p s m args meth c → ∀ (H : Heap) (locs : List Loc) (ls : Array Slot),
    lv_has ls M.2.2.1 (lt G g.2.1) → HW G g.2.2.2 H → va_S (g_A G) s.heap H locs → W p (g_l G) e R s m args below meth c H locs k n (QF below args s) (F0 m g.1 ls (g.2.2.1.map (tv (g_f G))))
/-- locals by their numbers -/
def lk (i : Nat) : List (Nat × Value) → Option Value
  | [] => none
  | q :: l => if i = q.1 then some q.2 else lk i l
theorem lk_mem {i : Nat} {v : Value} : ∀ {l : List (Nat × Value)}, lk i l = some v → (i, v) ∈ l
  | [], h => by cases h
  | q :: l, h => by
    unfold lk at h
    split at h
    · rename_i e
      cases h
      rw [e]
      exact List.mem_cons_self
    · exact List.mem_cons_of_mem _ (lk_mem h)
theorem lv_lk {G : pG} {ls : Array Slot} {nL i : Nat} {v : Value} {l : List (Nat × Value)} (h : lv_has ls nL (lt G l)) (hk : lk i l = some v) : ls[i]? = some (.val (tv (g_f G) v)) :=
  h.2.2 (i, tv (g_f G) v) (List.mem_map.mpr ⟨(i, v), lk_mem hk, rfl⟩)
def c1 (i : Nat) (q : Nat × Value) : Bool := !(q.1 == i) && !(q.1 + 1 == i && q.2.category == 2)
def c2 (i : Nat) (q : Nat × Value) : Bool := !(q.1 == i) && (!(q.1 == i + 1) && !(q.1 + 1 == i && q.2.category == 2))
/-- a local is stored, in its place of the list -/
def s1 (i : Nat) (v : Value) : List (Nat × Value) → List (Nat × Value)
  | [] => [(i, v)]
  | q :: l => if q.1 = i then (i, v) :: l.filter (c1 i) else if c1 i q = true then q :: s1 i v l else s1 i v l
def s2 (i : Nat) (v : Value) : List (Nat × Value) → List (Nat × Value)
  | [] => [(i, v)]
  | q :: l => if q.1 = i then (i, v) :: l.filter (c2 i) else if c2 i q = true then q :: s2 i v l else s2 i v l
theorem s1_mem {i : Nat} {v : Value} : ∀ {l : List (Nat × Value)} {x : Nat × Value}, x ∈ s1 i v l → x = (i, v) ∨ x ∈ l.filter (c1 i)
  | [], x, h => Or.inl (List.mem_singleton.mp h)
  | q :: l, x, h => by
    unfold s1 at h
    split at h
    · rename_i e
      rcases List.mem_cons.mp h with h | h
      · exact Or.inl h
      · exact Or.inr (List.mem_filter.mpr ⟨List.mem_cons_of_mem _ (List.mem_filter.mp h).1, (List.mem_filter.mp h).2⟩)
    · split at h
      · rename_i e1 e2
        rcases List.mem_cons.mp h with h | h
        · exact Or.inr (List.mem_filter.mpr ⟨by rw [h]; exact List.mem_cons_self, by rw [h]; exact e2⟩)
        · rcases s1_mem h with h | h
          · exact Or.inl h
          · exact Or.inr (List.mem_filter.mpr ⟨List.mem_cons_of_mem _ (List.mem_filter.mp h).1, (List.mem_filter.mp h).2⟩)
      · rcases s1_mem h with h | h
        · exact Or.inl h
        · exact Or.inr (List.mem_filter.mpr ⟨List.mem_cons_of_mem _ (List.mem_filter.mp h).1, (List.mem_filter.mp h).2⟩)
theorem s2_mem {i : Nat} {v : Value} : ∀ {l : List (Nat × Value)} {x : Nat × Value}, x ∈ s2 i v l → x = (i, v) ∨ x ∈ l.filter (c2 i)
  | [], x, h => Or.inl (List.mem_singleton.mp h)
  | q :: l, x, h => by
    unfold s2 at h
    split at h
    · rename_i e
      rcases List.mem_cons.mp h with h | h
      · exact Or.inl h
      · exact Or.inr (List.mem_filter.mpr ⟨List.mem_cons_of_mem _ (List.mem_filter.mp h).1, (List.mem_filter.mp h).2⟩)
    · split at h
      · rename_i e1 e2
        rcases List.mem_cons.mp h with h | h
        · exact Or.inr (List.mem_filter.mpr ⟨by rw [h]; exact List.mem_cons_self, by rw [h]; exact e2⟩)
        · rcases s2_mem h with h | h
          · exact Or.inl h
          · exact Or.inr (List.mem_filter.mpr ⟨List.mem_cons_of_mem _ (List.mem_filter.mp h).1, (List.mem_filter.mp h).2⟩)
      · rcases s2_mem h with h | h
        · exact Or.inl h
        · exact Or.inr (List.mem_filter.mpr ⟨List.mem_cons_of_mem _ (List.mem_filter.mp h).1, (List.mem_filter.mp h).2⟩)
theorem lt_f1 {G : pG} {i : Nat} {v x : Nat × Value} {l : List (Nat × Value)} (h : x ∈ l.filter (c1 i)) : (x.1, tv (g_f G) x.2) ∈ (lt G l).filter (fun q => !(q.1 == i) && !(q.1 + 1 == i && q.2.category == 2)) := by
  obtain ⟨h1, h2⟩ := List.mem_filter.mp h
  refine List.mem_filter.mpr ⟨List.mem_map.mpr ⟨x, h1, rfl⟩, ?_⟩
  show (!(x.1 == i) && !(x.1 + 1 == i && (tv (g_f G) x.2).category == 2)) = true
  rw [tv_cat]
  exact h2
theorem lt_f2 {G : pG} {i : Nat} {v x : Nat × Value} {l : List (Nat × Value)} (h : x ∈ l.filter (c2 i)) : (x.1, tv (g_f G) x.2) ∈ (lt G l).filter (fun q => !(q.1 == i) && (!(q.1 == i + 1) && !(q.1 + 1 == i && q.2.category == 2))) := by
  obtain ⟨h1, h2⟩ := List.mem_filter.mp h
  refine List.mem_filter.mpr ⟨List.mem_map.mpr ⟨x, h1, rfl⟩, ?_⟩
  show (!(x.1 == i) && (!(x.1 == i + 1) && !(x.1 + 1 == i && (tv (g_f G) x.2).category == 2))) = true
  rw [tv_cat]
  exact h2
theorem lv_s1 {G : pG} {ls : Array Slot} {nL i : Nat} {v : Value} {l : List (Nat × Value)} (h : lv_has ls nL ((i, tv (g_f G) v) :: (lt G l).filter (fun q => !(q.1 == i) && !(q.1 + 1 == i && q.2.category == 2)))) : lv_has ls nL (lt G (s1 i v l)) := by
  refine ⟨h.1, h.2.1, fun q hq => ?_⟩
  obtain ⟨x, hx, rfl⟩ := List.mem_map.mp hq
  rcases s1_mem hx with rfl | hx
  · exact h.2.2 _ List.mem_cons_self
  · exact h.2.2 _ (List.mem_cons_of_mem _ (lt_f1 (v := x) hx))
theorem lv_s2 {G : pG} {ls : Array Slot} {nL i : Nat} {v : Value} {l : List (Nat × Value)} (h : lv_has ls nL ((i, tv (g_f G) v) :: (lt G l).filter (fun q => !(q.1 == i) && (!(q.1 == i + 1) && !(q.1 + 1 == i && q.2.category == 2))))) : lv_has ls nL (lt G (s2 i v l)) := by
  refine ⟨h.1, h.2.1, fun q hq => ?_⟩
  obtain ⟨x, hx, rfl⟩ := List.mem_map.mp hq
  rcases s2_mem hx with rfl | hx
  · exact h.2.2 _ List.mem_cons_self
  · exact h.2.2 _ (List.mem_cons_of_mem _ (lt_f2 (v := x) hx))
section PWR
variable {G : pG} {M : pM} {R : Room} {QF : List Frame → Array Value → State → State → Prop} {k n pc : Nat} {lv : List (Nat × Value)} {st : List Value} {w : pW}
/-- fewer locals -/
theorem PW.drop {lv' : List (Nat × Value)} (h : ∀ q ∈ lv', q ∈ lv) (kk : PW G M R QF k n (pc, lv', st, w)) : PW G M R QF k n (pc, lv, st, w) :=
  fun p e s m args below meth c hc H locs ls hl hH hS => kk p e s m args below meth c hc H locs ls ⟨hl.1, hl.2.1, fun q hq => by
    obtain ⟨x, hx, rfl⟩ := List.mem_map.mp hq
    exact hl.2.2 _ (List.mem_map.mpr ⟨x, h x hx, rfl⟩)⟩ hH hS
theorem PW.wide {k' n' : Nat} (h1 : k ≤ k') (h2 : n ≤ n') (kk : PW G M R QF k' n' (pc, lv, st, w)) : PW G M R QF k n (pc, lv, st, w) :=
  fun p e s m args below meth c hc H locs ls hl hH hS => W.widen h1 h2 (kk p e s m args below meth c hc H locs ls hl hH hS)
theorem P_iconst {z : Int} {v : Int32} (d : decode M.2.1 pc = .ok (.iconst z, 1)) (hv : Int32.ofInt z = v) (kk : PW G M R QF k n (pc + 1, lv, .int v :: st, w)) : PW G M R QF k n (pc, lv, st, w) :=
  fun p e s m args below meth c hc H locs ls hl hH hS => lv_iconst hc.1 hc.2.1 d hv (kk p e s m args below meth c hc H locs ls hl hH hS)
theorem P_bipush {z : Int} {v : Int32} (d : decode M.2.1 pc = .ok (.bipush z, 2)) (hv : (Int8.ofInt z).toInt32 = v) (kk : PW G M R QF k n (pc + 2, lv, .int v :: st, w)) : PW G M R QF k n (pc, lv, st, w) :=
  fun p e s m args below meth c hc H locs ls hl hH hS => lv_bipush hc.1 hc.2.1 d hv (kk p e s m args below meth c hc H locs ls hl hH hS)
theorem P_sipush {z : Int} {v : Int32} (d : decode M.2.1 pc = .ok (.sipush z, 3)) (hv : (Int16.ofInt z).toInt32 = v) (kk : PW G M R QF k n (pc + 3, lv, .int v :: st, w)) : PW G M R QF k n (pc, lv, st, w) :=
  fun p e s m args below meth c hc H locs ls hl hH hS => lv_sipush hc.1 hc.2.1 d hv (kk p e s m args below meth c hc H locs ls hl hH hS)
theorem P_lconst {z : Fin 2} {v : Int64} (d : decode M.2.1 pc = .ok (.lconst z, 1)) (hv : Int64.ofNat (z : Nat) = v) (kk : PW G M R QF k n (pc + 1, lv, .long v :: st, w)) : PW G M R QF k n (pc, lv, st, w) :=
  fun p e s m args below meth c hc H locs ls hl hH hS => lv_lconst hc.1 hc.2.1 d hv (kk p e s m args below meth c hc H locs ls hl hH hS)
theorem P_ldc {i : Nat} {v : Int32} (d : decode M.2.1 pc = .ok (.ldc i, 2)) (hw : Cond.constant M.1.cls i v ∈ gtbl) (kk : PW G M R QF k n (pc + 2, lv, .int v :: st, w)) : PW G M R QF k n (pc, lv, st, w) :=
  fun p e s m args below meth c hc H locs ls hl hH hS => lv_ldc hc.1 hc.2.1 hc.2.2.2.2.2.2.1 (hc.2.2.2.2.2.2.2.1 _ hw) d (kk p e s m args below meth c hc H locs ls hl hH hS)
theorem P_ldcw {i : Nat} {v : Int32} (d : decode M.2.1 pc = .ok (.ldc_w i, 3)) (hw : Cond.constant M.1.cls i v ∈ gtbl) (kk : PW G M R QF k n (pc + 3, lv, .int v :: st, w)) : PW G M R QF k n (pc, lv, st, w) :=
  fun p e s m args below meth c hc H locs ls hl hH hS => lv_ldcw hc.1 hc.2.1 hc.2.2.2.2.2.2.1 (hc.2.2.2.2.2.2.2.1 _ hw) d (kk p e s m args below meth c hc H locs ls hl hH hS)
theorem P_ldc2 {i : Nat} {v : Int64} (d : decode M.2.1 pc = .ok (.ldc2_w i, 3)) (hw : Cond.constantLong M.1.cls i v ∈ gtbl) (kk : PW G M R QF k n (pc + 3, lv, .long v :: st, w)) : PW G M R QF k n (pc, lv, st, w) :=
  fun p e s m args below meth c hc H locs ls hl hH hS => lv_ldc2 hc.1 hc.2.1 hc.2.2.2.2.2.2.1 (hc.2.2.2.2.2.2.2.1 _ hw) d (kk p e s m args below meth c hc H locs ls hl hH hS)
theorem P_iload_n {j : Fin 4} {x : Int32} (d : decode M.2.1 pc = .ok (.iload_n j, 1)) (hv : lk (j : Nat) lv = some (.int x)) (kk : PW G M R QF k n (pc + 1, lv, .int x :: st, w)) : PW G M R QF k n (pc, lv, st, w) :=
  fun p e s m args below meth c hc H locs ls hl hH hS => lv_iload_n hc.1 hc.2.1 d rfl (lv_lk hl hv) (kk p e s m args below meth c hc H locs ls hl hH hS)
theorem P_iload {i : Nat} {x : Int32} (d : decode M.2.1 pc = .ok (.iload i, 2)) (hv : lk i lv = some (.int x)) (kk : PW G M R QF k n (pc + 2, lv, .int x :: st, w)) : PW G M R QF k n (pc, lv, st, w) :=
  fun p e s m args below meth c hc H locs ls hl hH hS => lv_iload hc.1 hc.2.1 d (lv_lk hl hv) (kk p e s m args below meth c hc H locs ls hl hH hS)
theorem P_lload_n {j : Fin 4} {x : Int64} (d : decode M.2.1 pc = .ok (.lload_n j, 1)) (hv : lk (j : Nat) lv = some (.long x)) (kk : PW G M R QF k n (pc + 1, lv, .long x :: st, w)) : PW G M R QF k n (pc, lv, st, w) :=
  fun p e s m args below meth c hc H locs ls hl hH hS => lv_lload_n hc.1 hc.2.1 d rfl (lv_lk hl hv) (kk p e s m args below meth c hc H locs ls hl hH hS)
theorem P_lload {i : Nat} {x : Int64} (d : decode M.2.1 pc = .ok (.lload i, 2)) (hv : lk i lv = some (.long x)) (kk : PW G M R QF k n (pc + 2, lv, .long x :: st, w)) : PW G M R QF k n (pc, lv, st, w) :=
  fun p e s m args below meth c hc H locs ls hl hH hS => lv_lload hc.1 hc.2.1 d (lv_lk hl hv) (kk p e s m args below meth c hc H locs ls hl hH hS)
theorem P_aload_n {j : Fin 4} {x : Nat} (d : decode M.2.1 pc = .ok (.aload_n j, 1)) (hv : lk (j : Nat) lv = some (.ref x)) (kk : PW G M R QF k n (pc + 1, lv, .ref x :: st, w)) : PW G M R QF k n (pc, lv, st, w) :=
  fun p e s m args below meth c hc H locs ls hl hH hS => lv_aload_n hc.1 hc.2.1 d rfl (lv_lk hl hv) (kk p e s m args below meth c hc H locs ls hl hH hS)
theorem P_aload {i : Nat} {x : Nat} (d : decode M.2.1 pc = .ok (.aload i, 2)) (hv : lk i lv = some (.ref x)) (kk : PW G M R QF k n (pc + 2, lv, .ref x :: st, w)) : PW G M R QF k n (pc, lv, st, w) :=
  fun p e s m args below meth c hc H locs ls hl hH hS => lv_aload hc.1 hc.2.1 d (lv_lk hl hv) (kk p e s m args below meth c hc H locs ls hl hH hS)
theorem P_istore_n {j : Fin 4} {x : Int32} {lv' : List (Nat × Value)} (d : decode M.2.1 pc = .ok (.istore_n j, 1)) (hj : (j : Nat) < M.2.2.1) (hv : s1 (j : Nat) (.int x) lv = lv') (kk : PW G M R QF k n (pc + 1, lv', st, w)) : PW G M R QF k n (pc, lv, .int x :: st, w) :=
  fun p e s m args below meth c hc H locs ls hl hH hS => lv_istore_n hc.1 hc.2.1 d rfl hl hj rfl (fun ls' hl' => kk p e s m args below meth c hc H locs ls' (hv ▸ lv_s1 (v := .int x) hl') hH hS)
theorem P_istore {i : Nat} {x : Int32} {lv' : List (Nat × Value)} (d : decode M.2.1 pc = .ok (.istore i, 2)) (hj : i < M.2.2.1) (hv : s1 i (.int x) lv = lv') (kk : PW G M R QF k n (pc + 2, lv', st, w)) : PW G M R QF k n (pc, lv, .int x :: st, w) :=
  fun p e s m args below meth c hc H locs ls hl hH hS => lv_istore hc.1 hc.2.1 d hl hj rfl (fun ls' hl' => kk p e s m args below meth c hc H locs ls' (hv ▸ lv_s1 (v := .int x) hl') hH hS)
theorem P_lstore_n {j : Fin 4} {x : Int64} {lv' : List (Nat × Value)} (d : decode M.2.1 pc = .ok (.lstore_n j, 1)) (hj : (j : Nat) + 1 < M.2.2.1) (hv : s2 (j : Nat) (.long x) lv = lv') (kk : PW G M R QF k n (pc + 1, lv', st, w)) : PW G M R QF k n (pc, lv, .long x :: st, w) :=
  fun p e s m args below meth c hc H locs ls hl hH hS => lv_lstore_n hc.1 hc.2.1 d rfl hl hj rfl (fun ls' hl' => kk p e s m args below meth c hc H locs ls' (hv ▸ lv_s2 (v := .long x) hl') hH hS)
theorem P_lstore {i : Nat} {x : Int64} {lv' : List (Nat × Value)} (d : decode M.2.1 pc = .ok (.lstore i, 2)) (hj : i + 1 < M.2.2.1) (hv : s2 i (.long x) lv = lv') (kk : PW G M R QF k n (pc + 2, lv', st, w)) : PW G M R QF k n (pc, lv, .long x :: st, w) :=
  fun p e s m args below meth c hc H locs ls hl hH hS => lv_lstore hc.1 hc.2.1 d hl hj rfl (fun ls' hl' => kk p e s m args below meth c hc H locs ls' (hv ▸ lv_s2 (v := .long x) hl') hH hS)
theorem P_astore_n {j : Fin 4} {x : Nat} {lv' : List (Nat × Value)} (d : decode M.2.1 pc = .ok (.astore_n j, 1)) (hj : (j : Nat) < M.2.2.1) (hv : s1 (j : Nat) (.ref x) lv = lv') (kk : PW G M R QF k n (pc + 1, lv', st, w)) : PW G M R QF k n (pc, lv, .ref x :: st, w) :=
  fun p e s m args below meth c hc H locs ls hl hH hS => lv_astore_n hc.1 hc.2.1 d rfl hl hj rfl (fun ls' hl' => kk p e s m args below meth c hc H locs ls' (hv ▸ lv_s1 (v := .ref x) hl') hH hS)
theorem P_astore {i : Nat} {x : Nat} {lv' : List (Nat × Value)} (d : decode M.2.1 pc = .ok (.astore i, 2)) (hj : i < M.2.2.1) (hv : s1 i (.ref x) lv = lv') (kk : PW G M R QF k n (pc + 2, lv', st, w)) : PW G M R QF k n (pc, lv, .ref x :: st, w) :=
  fun p e s m args below meth c hc H locs ls hl hH hS => lv_astore hc.1 hc.2.1 d hl hj rfl (fun ls' hl' => kk p e s m args below meth c hc H locs ls' (hv ▸ lv_s1 (v := .ref x) hl') hH hS)
theorem P_iinc {i : Nat} {z : Int} {x v : Int32} {lv' : List (Nat × Value)} (d : decode M.2.1 pc = .ok (.iinc i z, 3)) (hj : i < M.2.2.1) (hx : lk i lv = some (.int x)) (hz : x + Int32.ofInt z = v) (hv : s1 i (.int v) lv = lv') (kk : PW G M R QF k n (pc + 3, lv', st, w)) : PW G M R QF k n (pc, lv, st, w) := by
  intro p e s m args below meth c hc H locs ls hl hH hS
  obtain ⟨q, hq⟩ := List.getElem?_of_mem (List.mem_map.mpr ⟨(i, Value.int x), lk_mem hx, rfl⟩ : (i, tv (g_f G) (.int x)) ∈ lt G lv)
  exact lv_iinc hc.1 hc.2.1 d hl hq hz hj rfl (fun ls' hl' => kk p e s m args below meth c hc H locs ls' (hv ▸ lv_s1 (v := .int v) hl') hH hS)
theorem P_iadd {x y : Int32} (d : decode M.2.1 pc = .ok (.iadd, 1)) (kk : PW G M R QF k n (pc + 1, lv, .int (x + y) :: st, w)) : PW G M R QF k n (pc, lv, .int y :: .int x :: st, w) :=
  fun p e s m args below meth c hc H locs ls hl hH hS => lv_iadd hc.1 hc.2.1 d (kk p e s m args below meth c hc H locs ls hl hH hS)
theorem P_isub {x y : Int32} (d : decode M.2.1 pc = .ok (.isub, 1)) (kk : PW G M R QF k n (pc + 1, lv, .int (x - y) :: st, w)) : PW G M R QF k n (pc, lv, .int y :: .int x :: st, w) :=
  fun p e s m args below meth c hc H locs ls hl hH hS => lv_isub hc.1 hc.2.1 d (kk p e s m args below meth c hc H locs ls hl hH hS)
theorem P_imul {x y : Int32} (d : decode M.2.1 pc = .ok (.imul, 1)) (kk : PW G M R QF k n (pc + 1, lv, .int (x * y) :: st, w)) : PW G M R QF k n (pc, lv, .int y :: .int x :: st, w) :=
  fun p e s m args below meth c hc H locs ls hl hH hS => lv_imul hc.1 hc.2.1 d (kk p e s m args below meth c hc H locs ls hl hH hS)
theorem P_iand {x y : Int32} (d : decode M.2.1 pc = .ok (.iand, 1)) (kk : PW G M R QF k n (pc + 1, lv, .int (x &&& y) :: st, w)) : PW G M R QF k n (pc, lv, .int y :: .int x :: st, w) :=
  fun p e s m args below meth c hc H locs ls hl hH hS => lv_iand hc.1 hc.2.1 d (kk p e s m args below meth c hc H locs ls hl hH hS)
theorem P_ior {x y : Int32} (d : decode M.2.1 pc = .ok (.ior, 1)) (kk : PW G M R QF k n (pc + 1, lv, .int (x ||| y) :: st, w)) : PW G M R QF k n (pc, lv, .int y :: .int x :: st, w) :=
  fun p e s m args below meth c hc H locs ls hl hH hS => lv_ior hc.1 hc.2.1 d (kk p e s m args below meth c hc H locs ls hl hH hS)
theorem P_ixor {x y : Int32} (d : decode M.2.1 pc = .ok (.ixor, 1)) (kk : PW G M R QF k n (pc + 1, lv, .int (x ^^^ y) :: st, w)) : PW G M R QF k n (pc, lv, .int y :: .int x :: st, w) :=
  fun p e s m args below meth c hc H locs ls hl hH hS => lv_ixor hc.1 hc.2.1 d (kk p e s m args below meth c hc H locs ls hl hH hS)
theorem P_ishl {x y : Int32} (d : decode M.2.1 pc = .ok (.ishl, 1)) (kk : PW G M R QF k n (pc + 1, lv, .int (x <<< (y &&& 31)) :: st, w)) : PW G M R QF k n (pc, lv, .int y :: .int x :: st, w) :=
  fun p e s m args below meth c hc H locs ls hl hH hS => lv_ishl hc.1 hc.2.1 d (kk p e s m args below meth c hc H locs ls hl hH hS)
theorem P_ishr {x y : Int32} (d : decode M.2.1 pc = .ok (.ishr, 1)) (kk : PW G M R QF k n (pc + 1, lv, .int (x >>> (y &&& 31)) :: st, w)) : PW G M R QF k n (pc, lv, .int y :: .int x :: st, w) :=
  fun p e s m args below meth c hc H locs ls hl hH hS => lv_ishr hc.1 hc.2.1 d (kk p e s m args below meth c hc H locs ls hl hH hS)
theorem P_ladd {x y : Int64} (d : decode M.2.1 pc = .ok (.ladd, 1)) (kk : PW G M R QF k n (pc + 1, lv, .long (x + y) :: st, w)) : PW G M R QF k n (pc, lv, .long y :: .long x :: st, w) :=
  fun p e s m args below meth c hc H locs ls hl hH hS => lv_ladd hc.1 hc.2.1 d (kk p e s m args below meth c hc H locs ls hl hH hS)
theorem P_lsub {x y : Int64} (d : decode M.2.1 pc = .ok (.lsub, 1)) (kk : PW G M R QF k n (pc + 1, lv, .long (x - y) :: st, w)) : PW G M R QF k n (pc, lv, .long y :: .long x :: st, w) :=
  fun p e s m args below meth c hc H locs ls hl hH hS => lv_lsub hc.1 hc.2.1 d (kk p e s m args below meth c hc H locs ls hl hH hS)
theorem P_lmul {x y : Int64} (d : decode M.2.1 pc = .ok (.lmul, 1)) (kk : PW G M R QF k n (pc + 1, lv, .long (x * y) :: st, w)) : PW G M R QF k n (pc, lv, .long y :: .long x :: st, w) :=
  fun p e s m args below meth c hc H locs ls hl hH hS => lv_lmul hc.1 hc.2.1 d (kk p e s m args below meth c hc H locs ls hl hH hS)
theorem P_idiv {x y : Int32} (d : decode M.2.1 pc = .ok (.idiv, 1)) (hne : ¬ y = 0) (kk : PW G M R QF k n (pc + 1, lv, .int (x / y) :: st, w)) : PW G M R QF k n (pc, lv, .int y :: .int x :: st, w) :=
  fun p e s m args below meth c hc H locs ls hl hH hS => lv_idiv hc.1 hc.2.1 d hne (kk p e s m args below meth c hc H locs ls hl hH hS)
theorem P_irem {x y : Int32} (d : decode M.2.1 pc = .ok (.irem, 1)) (hne : ¬ y = 0) (kk : PW G M R QF k n (pc + 1, lv, .int (x - x / y * y) :: st, w)) : PW G M R QF k n (pc, lv, .int y :: .int x :: st, w) :=
  fun p e s m args below meth c hc H locs ls hl hH hS => lv_irem hc.1 hc.2.1 d hne (kk p e s m args below meth c hc H locs ls hl hH hS)
theorem P_ldiv {x y : Int64} (d : decode M.2.1 pc = .ok (.ldiv, 1)) (hne : ¬ y = 0) (kk : PW G M R QF k n (pc + 1, lv, .long (x / y) :: st, w)) : PW G M R QF k n (pc, lv, .long y :: .long x :: st, w) :=
  fun p e s m args below meth c hc H locs ls hl hH hS => lv_ldiv hc.1 hc.2.1 d hne (kk p e s m args below meth c hc H locs ls hl hH hS)
theorem P_lrem {x y : Int64} (d : decode M.2.1 pc = .ok (.lrem, 1)) (hne : ¬ y = 0) (kk : PW G M R QF k n (pc + 1, lv, .long (x - x / y * y) :: st, w)) : PW G M R QF k n (pc, lv, .long y :: .long x :: st, w) :=
  fun p e s m args below meth c hc H locs ls hl hH hS => lv_lrem hc.1 hc.2.1 d hne (kk p e s m args below meth c hc H locs ls hl hH hS)
theorem P_ineg {x : Int32} (d : decode M.2.1 pc = .ok (.ineg, 1)) (kk : PW G M R QF k n (pc + 1, lv, .int (-x) :: st, w)) : PW G M R QF k n (pc, lv, .int x :: st, w) :=
  fun p e s m args below meth c hc H locs ls hl hH hS => lv_ineg hc.1 hc.2.1 d (kk p e s m args below meth c hc H locs ls hl hH hS)
theorem P_lneg {x : Int64} (d : decode M.2.1 pc = .ok (.lneg, 1)) (kk : PW G M R QF k n (pc + 1, lv, .long (-x) :: st, w)) : PW G M R QF k n (pc, lv, .long x :: st, w) :=
  fun p e s m args below meth c hc H locs ls hl hH hS => lv_lneg hc.1 hc.2.1 d (kk p e s m args below meth c hc H locs ls hl hH hS)
theorem P_i2l {x : Int32} (d : decode M.2.1 pc = .ok (.i2l, 1)) (kk : PW G M R QF k n (pc + 1, lv, .long x.toInt64 :: st, w)) : PW G M R QF k n (pc, lv, .int x :: st, w) :=
  fun p e s m args below meth c hc H locs ls hl hH hS => lv_i2l hc.1 hc.2.1 d rfl (kk p e s m args below meth c hc H locs ls hl hH hS)
theorem P_l2i {x : Int64} (d : decode M.2.1 pc = .ok (.l2i, 1)) (kk : PW G M R QF k n (pc + 1, lv, .int x.toInt32 :: st, w)) : PW G M R QF k n (pc, lv, .long x :: st, w) :=
  fun p e s m args below meth c hc H locs ls hl hH hS => lv_l2i hc.1 hc.2.1 d rfl (kk p e s m args below meth c hc H locs ls hl hH hS)
theorem P_iushr {x y : Int32} (d : decode M.2.1 pc = .ok (.iushr, 1)) (kk : PW G M R QF k n (pc + 1, lv, .int (x.toUInt32 >>> (y.toUInt32 &&& Int32.toUInt32 31)).toInt32 :: st, w)) : PW G M R QF k n (pc, lv, .int y :: .int x :: st, w) :=
  fun p e s m args below meth c hc H locs ls hl hH hS => lv_iushr hc.1 hc.2.1 d rfl (kk p e s m args below meth c hc H locs ls hl hH hS)
theorem P_lcmp {x y : Int64} (d : decode M.2.1 pc = .ok (.lcmp, 1)) (kk : PW G M R QF k n (pc + 1, lv, .int (lg_cmp x y) :: st, w)) : PW G M R QF k n (pc, lv, .long y :: .long x :: st, w) :=
  fun p e s m args below meth c hc H locs ls hl hH hS => W.lcmp hc.1 hc.2.1 d (kk p e s m args below meth c hc H locs ls hl hH hS)
theorem P_goto {off : Int} (tgt : Nat) (d : decode M.2.1 pc = .ok (.goto off, 3)) (ht : (pc : Int) + off = (tgt : Int)) (kk : PW G M R QF k n (tgt, lv, st, w)) : PW G M R QF k n (pc, lv, st, w) :=
  fun p e s m args below meth c hc H locs ls hl hH hS => lv_goto hc.1 hc.2.1 d ht (kk p e s m args below meth c hc H locs ls hl hH hS)
theorem P_dup {v : Value} (d : decode M.2.1 pc = .ok (.dup, 1)) (hv : v.category = 1) (kk : PW G M R QF k n (pc + 1, lv, v :: v :: st, w)) : PW G M R QF k n (pc, lv, v :: st, w) :=
  fun p e s m args below meth c hc H locs ls hl hH hS => lv_dup hc.1 hc.2.1 d ((tv_cat _ v).trans hv) (kk p e s m args below meth c hc H locs ls hl hH hS)
theorem P_dup2 {v u : Value} (d : decode M.2.1 pc = .ok (.dup2, 1)) (hv : v.category = 1) (hu : u.category = 1) (kk : PW G M R QF k n (pc + 1, lv, v :: u :: v :: u :: st, w)) : PW G M R QF k n (pc, lv, v :: u :: st, w) :=
  fun p e s m args below meth c hc H locs ls hl hH hS => lv_dup2_11 hc.1 hc.2.1 d ((tv_cat _ v).trans hv) ((tv_cat _ u).trans hu) (kk p e s m args below meth c hc H locs ls hl hH hS)
theorem P_pop {v : Value} (d : decode M.2.1 pc = .ok (.pop, 1)) (hv : v.category = 1) (kk : PW G M R QF k n (pc + 1, lv, st, w)) : PW G M R QF k n (pc, lv, v :: st, w) :=
  fun p e s m args below meth c hc H locs ls hl hH hS => lv_pop hc.1 hc.2.1 d ((tv_cat _ v).trans hv) (kk p e s m args below meth c hc H locs ls hl hH hS)
theorem P_if_eq {x : Int32} {off : Int} (tgt : Nat) (d : decode M.2.1 pc = .ok (.ifCond .eq off, 3)) (ht : (pc : Int) + off = (tgt : Int)) (kt : x = 0 → PW G M R QF k n (tgt, lv, st, w)) (kf : ¬ x = 0 → PW G M R QF k n (pc + 3, lv, st, w)) : PW G M R QF k n (pc, lv, .int x :: st, w) :=
  fun p e s m args below meth c hc H locs ls hl hH hS => lv_if_eq hc.1 hc.2.1 d ht (fun h => kt h p e s m args below meth c hc H locs ls hl hH hS) (fun h => kf h p e s m args below meth c hc H locs ls hl hH hS)
theorem P_icmp_eq {x y : Int32} {off : Int} (tgt : Nat) (d : decode M.2.1 pc = .ok (.if_icmp .eq off, 3)) (ht : (pc : Int) + off = (tgt : Int)) (kt : x = y → PW G M R QF k n (tgt, lv, st, w)) (kf : ¬ x = y → PW G M R QF k n (pc + 3, lv, st, w)) : PW G M R QF k n (pc, lv, .int y :: .int x :: st, w) :=
  fun p e s m args below meth c hc H locs ls hl hH hS => lv_icmp_eq hc.1 hc.2.1 d ht (fun h => kt h p e s m args below meth c hc H locs ls hl hH hS) (fun h => kf h p e s m args below meth c hc H locs ls hl hH hS)
theorem P_if_ne {x : Int32} {off : Int} (tgt : Nat) (d : decode M.2.1 pc = .ok (.ifCond .ne off, 3)) (ht : (pc : Int) + off = (tgt : Int)) (kt : ¬ x = 0 → PW G M R QF k n (tgt, lv, st, w)) (kf : x = 0 → PW G M R QF k n (pc + 3, lv, st, w)) : PW G M R QF k n (pc, lv, .int x :: st, w) :=
  fun p e s m args below meth c hc H locs ls hl hH hS => lv_if_ne hc.1 hc.2.1 d ht (fun h => kt h p e s m args below meth c hc H locs ls hl hH hS) (fun h => kf h p e s m args below meth c hc H locs ls hl hH hS)
theorem P_icmp_ne {x y : Int32} {off : Int} (tgt : Nat) (d : decode M.2.1 pc = .ok (.if_icmp .ne off, 3)) (ht : (pc : Int) + off = (tgt : Int)) (kt : ¬ x = y → PW G M R QF k n (tgt, lv, st, w)) (kf : x = y → PW G M R QF k n (pc + 3, lv, st, w)) : PW G M R QF k n (pc, lv, .int y :: .int x :: st, w) :=
  fun p e s m args below meth c hc H locs ls hl hH hS => lv_icmp_ne hc.1 hc.2.1 d ht (fun h => kt h p e s m args below meth c hc H locs ls hl hH hS) (fun h => kf h p e s m args below meth c hc H locs ls hl hH hS)
theorem P_if_lt {x : Int32} {off : Int} (tgt : Nat) (d : decode M.2.1 pc = .ok (.ifCond .lt off, 3)) (ht : (pc : Int) + off = (tgt : Int)) (kt : x < 0 → PW G M R QF k n (tgt, lv, st, w)) (kf : ¬ x < 0 → PW G M R QF k n (pc + 3, lv, st, w)) : PW G M R QF k n (pc, lv, .int x :: st, w) :=
  fun p e s m args below meth c hc H locs ls hl hH hS => lv_if_lt hc.1 hc.2.1 d ht (fun h => kt h p e s m args below meth c hc H locs ls hl hH hS) (fun h => kf h p e s m args below meth c hc H locs ls hl hH hS)
theorem P_icmp_lt {x y : Int32} {off : Int} (tgt : Nat) (d : decode M.2.1 pc = .ok (.if_icmp .lt off, 3)) (ht : (pc : Int) + off = (tgt : Int)) (kt : x < y → PW G M R QF k n (tgt, lv, st, w)) (kf : ¬ x < y → PW G M R QF k n (pc + 3, lv, st, w)) : PW G M R QF k n (pc, lv, .int y :: .int x :: st, w) :=
  fun p e s m args below meth c hc H locs ls hl hH hS => lv_icmp_lt hc.1 hc.2.1 d ht (fun h => kt h p e s m args below meth c hc H locs ls hl hH hS) (fun h => kf h p e s m args below meth c hc H locs ls hl hH hS)
theorem P_if_ge {x : Int32} {off : Int} (tgt : Nat) (d : decode M.2.1 pc = .ok (.ifCond .ge off, 3)) (ht : (pc : Int) + off = (tgt : Int)) (kt : 0 ≤ x → PW G M R QF k n (tgt, lv, st, w)) (kf : ¬ 0 ≤ x → PW G M R QF k n (pc + 3, lv, st, w)) : PW G M R QF k n (pc, lv, .int x :: st, w) :=
  fun p e s m args below meth c hc H locs ls hl hH hS => lv_if_ge hc.1 hc.2.1 d ht (fun h => kt h p e s m args below meth c hc H locs ls hl hH hS) (fun h => kf h p e s m args below meth c hc H locs ls hl hH hS)
theorem P_icmp_ge {x y : Int32} {off : Int} (tgt : Nat) (d : decode M.2.1 pc = .ok (.if_icmp .ge off, 3)) (ht : (pc : Int) + off = (tgt : Int)) (kt : y ≤ x → PW G M R QF k n (tgt, lv, st, w)) (kf : ¬ y ≤ x → PW G M R QF k n (pc + 3, lv, st, w)) : PW G M R QF k n (pc, lv, .int y :: .int x :: st, w) :=
  fun p e s m args below meth c hc H locs ls hl hH hS => lv_icmp_ge hc.1 hc.2.1 d ht (fun h => kt h p e s m args below meth c hc H locs ls hl hH hS) (fun h => kf h p e s m args below meth c hc H locs ls hl hH hS)
theorem P_if_gt {x : Int32} {off : Int} (tgt : Nat) (d : decode M.2.1 pc = .ok (.ifCond .gt off, 3)) (ht : (pc : Int) + off = (tgt : Int)) (kt : 0 < x → PW G M R QF k n (tgt, lv, st, w)) (kf : ¬ 0 < x → PW G M R QF k n (pc + 3, lv, st, w)) : PW G M R QF k n (pc, lv, .int x :: st, w) :=
  fun p e s m args below meth c hc H locs ls hl hH hS => lv_if_gt hc.1 hc.2.1 d ht (fun h => kt h p e s m args below meth c hc H locs ls hl hH hS) (fun h => kf h p e s m args below meth c hc H locs ls hl hH hS)
theorem P_icmp_gt {x y : Int32} {off : Int} (tgt : Nat) (d : decode M.2.1 pc = .ok (.if_icmp .gt off, 3)) (ht : (pc : Int) + off = (tgt : Int)) (kt : y < x → PW G M R QF k n (tgt, lv, st, w)) (kf : ¬ y < x → PW G M R QF k n (pc + 3, lv, st, w)) : PW G M R QF k n (pc, lv, .int y :: .int x :: st, w) :=
  fun p e s m args below meth c hc H locs ls hl hH hS => lv_icmp_gt hc.1 hc.2.1 d ht (fun h => kt h p e s m args below meth c hc H locs ls hl hH hS) (fun h => kf h p e s m args below meth c hc H locs ls hl hH hS)
theorem P_if_le {x : Int32} {off : Int} (tgt : Nat) (d : decode M.2.1 pc = .ok (.ifCond .le off, 3)) (ht : (pc : Int) + off = (tgt : Int)) (kt : x ≤ 0 → PW G M R QF k n (tgt, lv, st, w)) (kf : ¬ x ≤ 0 → PW G M R QF k n (pc + 3, lv, st, w)) : PW G M R QF k n (pc, lv, .int x :: st, w) :=
  fun p e s m args below meth c hc H locs ls hl hH hS => lv_if_le hc.1 hc.2.1 d ht (fun h => kt h p e s m args below meth c hc H locs ls hl hH hS) (fun h => kf h p e s m args below meth c hc H locs ls hl hH hS)
theorem P_icmp_le {x y : Int32} {off : Int} (tgt : Nat) (d : decode M.2.1 pc = .ok (.if_icmp .le off, 3)) (ht : (pc : Int) + off = (tgt : Int)) (kt : x ≤ y → PW G M R QF k n (tgt, lv, st, w)) (kf : ¬ x ≤ y → PW G M R QF k n (pc + 3, lv, st, w)) : PW G M R QF k n (pc, lv, .int y :: .int x :: st, w) :=
  fun p e s m args below meth c hc H locs ls hl hH hS => lv_icmp_le hc.1 hc.2.1 d ht (fun h => kt h p e s m args below meth c hc H locs ls hl hH hS) (fun h => kf h p e s m args below meth c hc H locs ls hl hH hS)
end PWR
