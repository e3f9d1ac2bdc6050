/-! rows over numbers; one row written; what booleans tell -/
section
variable {G : pG} {M : pM} {R : Room} {QF : List Frame → Array Value → State → State → Prop} {k n pc : Nat} {lv : List (Nat × Value)} {st : List Value} {w : pW}
theorem P_iaddN {a b : Nat} (d : decode M.2.1 pc = .ok (.iadd, 1)) (kk : PW G M R QF k n (pc + 1, lv, .int (nI (a + b)) :: st, w)) : PW G M R QF k n (pc, lv, .int (nI b) :: .int (nI a) :: st, w) := P_iadd d (by rw [nI_add]; exact kk)
theorem P_isubN {a b : Nat} (d : decode M.2.1 pc = .ok (.isub, 1)) (h : b ≤ a) (kk : PW G M R QF k n (pc + 1, lv, .int (nI (a - b)) :: st, w)) : PW G M R QF k n (pc, lv, .int (nI b) :: .int (nI a) :: st, w) := P_isub d (by rw [pk_sub h]; exact kk)
theorem P_imulN {a b : Nat} (d : decode M.2.1 pc = .ok (.imul, 1)) (kk : PW G M R QF k n (pc + 1, lv, .int (nI (a * b)) :: st, w)) : PW G M R QF k n (pc, lv, .int (nI b) :: .int (nI a) :: st, w) := P_imul d (by rw [pk_mul]; exact kk)
theorem nz_N {b : Nat} (h0 : 0 < b) (hb : b < 2 ^ 31) : ¬ nI b = 0 := nI_ne0 h0 hb
theorem P_idivN {a b : Nat} (d : decode M.2.1 pc = .ok (.idiv, 1)) (ha : a < 2 ^ 31) (h0 : 0 < b) (hb : b < 2 ^ 31) (kk : PW G M R QF k n (pc + 1, lv, .int (nI (a / b)) :: st, w)) : PW G M R QF k n (pc, lv, .int (nI b) :: .int (nI a) :: st, w) := P_idiv d (nz_N h0 hb) (by rw [pk_div ha h0 hb]; exact kk)
theorem P_iremN {a b : Nat} (d : decode M.2.1 pc = .ok (.irem, 1)) (ha : a < 2 ^ 31) (h0 : 0 < b) (hb : b < 2 ^ 31) (kk : PW G M R QF k n (pc + 1, lv, .int (nI (a % b)) :: st, w)) : PW G M R QF k n (pc, lv, .int (nI b) :: .int (nI a) :: st, w) := P_irem d (nz_N h0 hb) (by rw [pk_rem ha h0 hb]; exact kk)
theorem P_iandN {a : Nat} {m : Int32} (j : Nat) (d : decode M.2.1 pc = .ok (.iand, 1)) (ha : a < 2 ^ 31) (hm : m.toBitVec.toNat = 2 ^ j - 1) (kk : PW G M R QF k n (pc + 1, lv, .int (nI (a % 2 ^ j)) :: st, w)) : PW G M R QF k n (pc, lv, .int m :: .int (nI a) :: st, w) := P_iand d (by rw [pk_andN (by omega) j hm]; exact kk)
theorem P_i2lN {n1 : Nat} (d : decode M.2.1 pc = .ok (.i2l, 1)) (h : n1 < 2 ^ 31) (kk : PW G M R QF k n (pc + 1, lv, .long (lN n1) :: st, w)) : PW G M R QF k n (pc, lv, .int (nI n1) :: st, w) := P_i2l d (by rw [nI_l h]; exact kk)
theorem P_l2iN {n1 : Nat} (d : decode M.2.1 pc = .ok (.l2i, 1)) (kk : PW G M R QF k n (pc + 1, lv, .int (nI n1) :: st, w)) : PW G M R QF k n (pc, lv, .long (lN n1) :: st, w) := P_l2i d (by rw [lN_i]; exact kk)
/-- how two numbers compare -/
def cN (a b : Nat) : Int32 := if b < a then 1 else if a = b then 0 else -1
theorem lg_cN {a b : Nat} (ha : a < 2 ^ 31) (hb : b < 2 ^ 31) : lg_cmp (lN a) (lN b) = cN a b := by
  unfold lg_cmp cN
  have h1 : (lN a > lN b) ↔ b < a := lN_lt hb ha
  have h2 : (lN a = lN b) ↔ a = b := lN_eq ha hb
  by_cases q1 : b < a
  · rw [if_pos q1, if_pos (h1.mpr q1)]
  · rw [if_neg q1, if_neg (fun h => q1 (h1.mp h))]
    by_cases q2 : a = b
    · rw [if_pos q2, if_pos (h2.mpr q2)]
    · rw [if_neg q2, if_neg (fun h => q2 (h2.mp h))]
theorem P_lcmpN {a b : Nat} (d : decode M.2.1 pc = .ok (.lcmp, 1)) (ha : a < 2 ^ 31) (hb : b < 2 ^ 31) (kk : PW G M R QF k n (pc + 1, lv, .int (cN a b) :: st, w)) : PW G M R QF k n (pc, lv, .long (lN b) :: .long (lN a) :: st, w) := P_lcmp d (by rw [lg_cN ha hb]; exact kk)
theorem P_lshr {x : Int64} {y : Int32} (d : decode M.2.1 pc = .ok (.lshr, 1)) (kk : PW G M R QF k n (pc + 1, lv, .long (x >>> (y.toInt64 &&& 63)) :: st, w)) : PW G M R QF k n (pc, lv, .int y :: .long x :: st, w) :=
  fun p e s m args below meth c hc H locs ls hl hH hS => lv_lshr hc.1 hc.2.1 d rfl (kk p e s m args below meth c hc H locs ls hl hH hS)
theorem P_lushr {x : Int64} {y : Int32} (d : decode M.2.1 pc = .ok (.lushr, 1)) (kk : PW G M R QF k n (pc + 1, lv, .long ((x.toUInt64 >>> (y.toInt64.toUInt64 &&& Int64.toUInt64 63)).toInt64) :: st, w)) : PW G M R QF k n (pc, lv, .int y :: .long x :: st, w) :=
  fun p e s m args below meth c hc H locs ls hl hH hS => lv_lushr hc.1 hc.2.1 d rfl (kk p e s m args below meth c hc H locs ls hl hH hS)
theorem P_lor {x y : Int64} (d : decode M.2.1 pc = .ok (.lor, 1)) (kk : PW G M R QF k n (pc + 1, lv, .long (x ||| y) :: st, w)) : PW G M R QF k n (pc, lv, .long y :: .long x :: st, w) :=
  fun p e s m args below meth c hc H locs ls hl hH hS => lv_lor hc.1 hc.2.1 d (kk p e s m args below meth c hc H locs ls hl hH hS)
end
theorem cN_cases (a b : Nat) : (b < a ∧ cN a b = 1) ∨ (a = b ∧ cN a b = 0) ∨ (a < b ∧ cN a b = -1) := by
  unfold cN
  by_cases h1 : b < a
  · exact Or.inl ⟨h1, if_pos h1⟩
  · by_cases h2 : a = b
    · exact Or.inr (Or.inl ⟨h2, by rw [if_neg h1, if_pos h2]⟩)
    · exact Or.inr (Or.inr ⟨by omega, by rw [if_neg h1, if_neg h2]⟩)
theorem cN_eqt {a b : Nat} (h : cN a b = 0) : a = b := by rcases cN_cases a b with ⟨h1, h2⟩ | ⟨h1, h2⟩ | ⟨h1, h2⟩ <;> first | exact h1 | (rw [h2] at h; exact absurd h (by decide))
theorem cN_eqf {a b : Nat} (h : ¬ cN a b = 0) : a ≠ b := fun e => h (by rcases cN_cases a b with ⟨h1, h2⟩ | ⟨h1, h2⟩ | ⟨h1, h2⟩ <;> first | exact h2 | omega)
theorem cN_net {a b : Nat} (h : ¬ cN a b = 0) : a ≠ b := cN_eqf h
theorem cN_nef {a b : Nat} (h : cN a b = 0) : a = b := cN_eqt h
theorem cN_gtt {a b : Nat} (h : 0 < cN a b) : b < a := by rcases cN_cases a b with ⟨h1, h2⟩ | ⟨h1, h2⟩ | ⟨h1, h2⟩ <;> first | exact h1 | (rw [h2] at h; exact absurd h (by decide))
theorem cN_gtf {a b : Nat} (h : ¬ 0 < cN a b) : a ≤ b := by rcases cN_cases a b with ⟨h1, h2⟩ | ⟨h1, h2⟩ | ⟨h1, h2⟩ <;> first | omega | (rw [h2] at h; exact absurd (by decide) h)
theorem cN_get {a b : Nat} (h : 0 ≤ cN a b) : b ≤ a := by rcases cN_cases a b with ⟨h1, h2⟩ | ⟨h1, h2⟩ | ⟨h1, h2⟩ <;> first | omega | (rw [h2] at h; exact absurd h (by decide))
theorem cN_gef {a b : Nat} (h : ¬ 0 ≤ cN a b) : a < b := by rcases cN_cases a b with ⟨h1, h2⟩ | ⟨h1, h2⟩ | ⟨h1, h2⟩ <;> first | exact h1 | (rw [h2] at h; exact absurd (by decide) h)
theorem cN_ltt {a b : Nat} (h : cN a b < 0) : a < b := by rcases cN_cases a b with ⟨h1, h2⟩ | ⟨h1, h2⟩ | ⟨h1, h2⟩ <;> first | exact h1 | (rw [h2] at h; exact absurd h (by decide))
theorem cN_ltf {a b : Nat} (h : ¬ cN a b < 0) : b ≤ a := by rcases cN_cases a b with ⟨h1, h2⟩ | ⟨h1, h2⟩ | ⟨h1, h2⟩ <;> first | omega | (rw [h2] at h; exact absurd (by decide) h)
theorem cN_let {a b : Nat} (h : cN a b ≤ 0) : a ≤ b := by rcases cN_cases a b with ⟨h1, h2⟩ | ⟨h1, h2⟩ | ⟨h1, h2⟩ <;> first | omega | (rw [h2] at h; exact absurd h (by decide))
theorem cN_lef {a b : Nat} (h : ¬ cN a b ≤ 0) : b < a := by rcases cN_cases a b with ⟨h1, h2⟩ | ⟨h1, h2⟩ | ⟨h1, h2⟩ <;> first | exact h1 | (rw [h2] at h; exact absurd (by decide) h)
/-! how two ints that are numbers compare -/
theorem nI_ltt {a b : Nat} (ha : a < 2 ^ 31) (hb : b < 2 ^ 31) (h : nI a < nI b) : a < b := (nI_ltI ha hb).mp h
theorem nI_ltf {a b : Nat} (ha : a < 2 ^ 31) (hb : b < 2 ^ 31) (h : ¬ nI a < nI b) : a ≥ b := Nat.not_lt.mp (fun q => h ((nI_ltI ha hb).mpr q))
theorem nI_let {a b : Nat} (ha : a < 2 ^ 31) (hb : b < 2 ^ 31) (h : nI a ≤ nI b) : a ≤ b := (nI_leI ha hb).mp h
theorem nI_lef {a b : Nat} (ha : a < 2 ^ 31) (hb : b < 2 ^ 31) (h : ¬ nI a ≤ nI b) : a > b := Nat.not_le.mp (fun q => h ((nI_leI ha hb).mpr q))
theorem nI_gtt {a b : Nat} (ha : a < 2 ^ 31) (hb : b < 2 ^ 31) (h : nI b < nI a) : a > b := (nI_ltI hb ha).mp h
theorem nI_gtf {a b : Nat} (ha : a < 2 ^ 31) (hb : b < 2 ^ 31) (h : ¬ nI b < nI a) : a ≤ b := Nat.not_lt.mp (fun q => h ((nI_ltI hb ha).mpr q))
theorem nI_get {a b : Nat} (ha : a < 2 ^ 31) (hb : b < 2 ^ 31) (h : nI b ≤ nI a) : a ≥ b := (nI_leI hb ha).mp h
theorem nI_gef {a b : Nat} (ha : a < 2 ^ 31) (hb : b < 2 ^ 31) (h : ¬ nI b ≤ nI a) : a < b := Nat.not_le.mp (fun q => h ((nI_leI hb ha).mpr q))
theorem nI_geF {a b : Nat} (h : a < b) (hb : b < 2 ^ 31) : ¬ nI b ≤ nI a := nI_ge h hb
theorem nI_gtF {a b : Nat} (h : a < b + 1) (hb : b < 2 ^ 31) : ¬ nI b < nI a := nI_nlt (by omega) hb
theorem nI_gtT {a b : Nat} (h : b < a) (hb : a < 2 ^ 31) : nI b < nI a := nI_lt h hb
/-- an int that is an index below n -/
def inN (n : Nat) (a : Int32) : Bool := decide (0 ≤ a) && decide (a < nI n)
theorem inN_t {n : Nat} {a : Int32} (h1 : ¬ a < 0) (h2 : ¬ nI n ≤ a) : inN n a = true := by
  unfold inN
  rw [decide_eq_true (Int32.not_lt.mp h1), decide_eq_true (Int32.not_le.mp h2)]
  rfl
theorem inN_f1 {n : Nat} {a : Int32} (h1 : a < 0) : inN n a = false := by
  unfold inN
  rw [decide_eq_false (Int32.not_le.mpr h1)]
  rfl
theorem inN_f2 {n : Nat} {a : Int32} (h2 : nI n ≤ a) : inN n a = false := by
  unfold inN
  rw [decide_eq_false (Int32.not_lt.mpr h2), Bool.and_false]
theorem inN_of {n : Nat} {a : Int32} (h : inN n a = true) (hn : n < 2 ^ 31) : ∃ j, j < n ∧ a = nI j := by
  unfold inN at h
  rw [Bool.and_eq_true, decide_eq_true_eq, decide_eq_true_eq] at h
  obtain ⟨j, hj, rfl⟩ := nI_of (Int32.not_lt.mpr h.1)
  exact ⟨j, (nI_ltI hj hn).mp h.2, rfl⟩
theorem inN_lt {n j : Nat} (h : inN n (nI j) = true) (hj : j < 2 ^ 31) (hn : n < 2 ^ 31) : j < n := by
  obtain ⟨i, h1, h2⟩ := inN_of h hn
  rw [(nI_eq hj (by omega)).mp h2]
  exact h1
theorem nI_of_gt {n : Nat} {x M : Int32} (h1 : ¬ x < 0) (h2 : ¬ M < x) (hM : M.toInt = (n : Int)) : ∃ j, j ≤ n ∧ x = nI j := nI_of2 hM h1 (Int32.not_lt.mp h2)
theorem nI_of_ge {n : Nat} {x M : Int32} (h1 : ¬ x < 0) (h2 : ¬ M ≤ x) (hM : M.toInt = (n : Int)) : ∃ j, j < n ∧ x = nI j := by
  obtain ⟨j, hj, rfl⟩ := nI_of h1
  have h3 : nI j < M := Int32.not_le.mp h2
  rw [Int32.lt_iff_toInt_lt, hM, nI_toInt hj] at h3
  exact ⟨j, by omega, rfl⟩
theorem nI_of_le {n : Nat} {x M : Int32} (h1 : ¬ x < 0) (h2 : x ≤ M) (hM : M.toInt = (n : Int)) : ∃ j, j ≤ n ∧ x = nI j := nI_of2 hM h1 h2
theorem ord_lt {j : Nat} (h : j < 96) : ∃ k, k < 4 ∧ ordF j = nI k := by
  have h1 : ∀ j, j < 96 → ∃ k, k < 4 ∧ ordF j = nI k := by decide +kernel
  exact h1 j h
/-- one row is written, and nothing else -/
def W1 (o n : Nat) (w u : pW) : Prop := ∃ g : Nat → Int64, u = (w.1, wu w.2 o (.inl (1, n, .inr (.inl g))))
theorem W1.rf {o n : Nat} {w : pW} {f : Nat → Int64} (h : w.2 o = .inl (1, n, .inr (.inl f))) : W1 o n w w := ⟨f, by rw [wu_same h]⟩
theorem W1.st {o n : Nat} {w u v : pW} {g : Nat → Int64} (h : W1 o n w u) (k : v = (u.1, wu u.2 o (.inl (1, n, .inr (.inl g))))) : W1 o n w v := by
  obtain ⟨g0, e0⟩ := h
  refine ⟨g, ?_⟩
  rw [k, e0]
  exact congrArg (Prod.mk w.1) (wu_wu _ _ _ _)
theorem W1.at {o n : Nat} {w u : pW} (h : W1 o n w u) : ∃ g : Nat → Int64, u.2 o = .inl (1, n, .inr (.inl g)) := ⟨h.choose, w_s h.choose_spec⟩
theorem W1.ne {o n : Nat} {w u : pW} (h : W1 o n w u) : ∀ q, q ≠ o → u.2 q = w.2 q := w_n h.choose_spec
theorem W1.z {o n : Nat} {w u : pW} (h : W1 o n w u) : u.1 = w.1 := w_z h.choose_spec
def GO (G : pG) : Prop := ∃ (L : Nat) (xs : Nat → Int32), g_w G = gwF L xs
theorem GO_1 {G : pG} (h : GO G) : g_w G 1 = .inl (0, 96, .inl ordF) := by obtain ⟨L, xs, h⟩ := h; rw [h]; rfl
theorem GO_2 {G : pG} (h : GO G) : g_w G 2 = .inl (0, 12, .inl diaF) := by obtain ⟨L, xs, h⟩ := h; rw [h]; rfl
theorem GO_3 {G : pG} (h : GO G) : g_w G 3 = .inl (1, 9, .inr (.inl nthF)) := by obtain ⟨L, xs, h⟩ := h; rw [h]; rfl
theorem GO_4 {G : pG} (h : GO G) : g_w G 4 = .inl (1, 3, .inr (.inl farF)) := by obtain ⟨L, xs, h⟩ := h; rw [h]; rfl
section
variable {G : pG} {M : pM} {R : Room} {QF : List Frame → Array Value → State → State → Prop} {k n pc : Nat} {lv : List (Nat × Value)} {st : List Value} {w : pW}
theorem P_mminl {index : Nat} {x y : Int64} (d : decode M.2.1 pc = .ok (.invokestatic index, 3)) (hl : Cond.methodLink M.1.cls index Lib.MathLoose.min_long.x ∈ gtbl) (hst : Cond.static Lib.MathLoose.min_long.x ∈ gtbl) (hini : Cond.initialized "java/lang/Math" ∈ gtbl) (hco : Cond.code Lib.MathLoose.min_long.x Lib.MathLoose.min_long.code 4 (some .long) ∈ gtbl) (hR : 1 ≤ R.frames ∧ 23 ≤ R.locals ∧ k ≤ R.cells ∧ n ≤ R.slots) (hcat : (st.map Value.category).sum ≤ 8)
    (kk : PW G M R QF k n (pc + 3, lv, .long (if y < x then y else x) :: st, w)) : PW G M R QF k n (pc, lv, .long y :: .long x :: st, w) := by
  intro p e s m args below meth c hc H locs ls hl0 hH hS
  have hts := hc.2.2.2.2.2.2.2.1
  exact va_mmin_long hc.1 hc.2.1 (hc.2.2.1.trans hl0.1.symm) hc.2.2.2.2.2.2.1 (hts _ hl) (hts _ hst) (hts _ hini) (hts _ hco) hR.1 (sum8 hcat (by omega)) hR.2.2.1 hR.2.2.2 d (kk p e s m args below meth c hc H locs ls hl0 hH hS)
end
theorem nar_bi (b : Bool) : narrow .boolean (.int (bi b)) = .int (bi b) := by cases b <;> rfl
theorem kc_153 : Kc 153 = (8, 0, 0) := by decide +kernel
theorem kc_154 : Kc 154 = (0, 900, 0) := by decide +kernel
theorem kc_155 : Kc 155 = (9, 0, 0) := by decide +kernel
theorem kc_156 : Kc 156 = (1, 9, 0) := by decide +kernel
theorem kc_157 : Kc 157 = (1, 9, 0) := by decide +kernel
theorem kc_158 : Kc 158 = (5, 159, 0) := by decide +kernel
theorem kc_159 : Kc 159 = (3, 159, 4) := by decide +kernel
theorem kc_160 : Kc 160 = (1, 3, 0) := by decide +kernel
theorem kc_161 : Kc 161 = (1, 3, 0) := by decide +kernel
theorem kc_162 : Kc 162 = (1, 3, 0) := by decide +kernel
theorem kc_163 : Kc 163 = (1, 3, 0) := by decide +kernel
theorem kc_164 : Kc 164 = (10, 0, 0) := by decide +kernel
theorem kc_165 : Kc 165 = (0, 8, 0) := by decide +kernel
theorem kc_166 : Kc 166 = (0, 8, 0) := by decide +kernel
theorem kc_167 : Kc 167 = (1, 3, 0) := by decide +kernel
theorem kc_168 : Kc 168 = (1, 9, 0) := by decide +kernel
theorem kc_169 : Kc 169 = (11, 0, 0) := by decide +kernel
theorem kc_170 : Kc 170 = (0, 16, 0) := by decide +kernel
theorem kc_171 : Kc 171 = (0, 16, 0) := by decide +kernel
theorem kc_172 : Kc 172 = (3, 172, 16) := by decide +kernel
theorem kc_189 : Kc 189 = (12, 0, 0) := by decide +kernel
theorem kc_190 : Kc 190 = (3, 190, 256) := by decide +kernel
theorem kc_447 : Kc 447 = (13, 0, 0) := by decide +kernel
theorem kc_448 : Kc 448 = (99, 0, 0) := by decide +kernel
theorem kc_449 : Kc 449 = (1, 9, 0) := by decide +kernel
theorem kc_450 : Kc 450 = (1, 9, 0) := by decide +kernel
theorem kc_451 : Kc 451 = (1, 9, 0) := by decide +kernel
theorem kc_452 : Kc 452 = (1, 3, 0) := by decide +kernel
theorem kc_453 : Kc 453 = (1, 3, 0) := by decide +kernel
theorem kc_454 : Kc 454 = (1, 3, 0) := by decide +kernel
theorem kc_455 : Kc 455 = (1, 3, 0) := by decide +kernel
theorem kc_456 : Kc 456 = (1, 3, 0) := by decide +kernel
theorem kc_457 : Kc 457 = (3, 457, 8) := by decide +kernel
theorem kc_466 : Kc 466 = (0, 3, 0) := by decide +kernel
theorem kc_467 : Kc 467 = (14, 0, 0) := by decide +kernel
theorem kc_468 : Kc 468 = (0, 900, 0) := by decide +kernel
theorem kc_469 : Kc 469 = (0, 64, 0) := by decide +kernel
theorem kc_470 : Kc 470 = (0, 64, 0) := by decide +kernel
theorem kc_471 : Kc 471 = (15, 0, 0) := by decide +kernel
theorem kc_472 : Kc 472 = (1, 170, 0) := by decide +kernel
theorem kc_473 : Kc 473 = (16, 0, 0) := by decide +kernel
theorem kc_474 : Kc 474 = (0, 8, 0) := by decide +kernel
theorem kc_475 : Kc 475 = (0, 8, 0) := by decide +kernel
theorem kc_476 : Kc 476 = (1, 9, 0) := by decide +kernel
theorem kc_477 : Kc 477 = (1, 9, 0) := by decide +kernel
theorem kc_478 : Kc 478 = (1, 9, 0) := by decide +kernel
theorem kc_479 : Kc 479 = (1, 3, 0) := by decide +kernel
theorem kc_480 : Kc 480 = (1, 3, 0) := by decide +kernel
theorem kc_481 : Kc 481 = (0, 16, 0) := by decide +kernel
theorem kc_482 : Kc 482 = (1, 9, 0) := by decide +kernel
theorem kc_483 : Kc 483 = (0, 3, 0) := by decide +kernel
theorem kc_484 : Kc 484 = (1, 2448, 0) := by decide +kernel
theorem kc_485 : Kc 485 = (0, 108, 0) := by decide +kernel
theorem kc_486 : Kc 486 = (1, 1, 0) := by decide +kernel
theorem Kc_pr {i : Nat} (h : i < 256) : Kc (190 + 1 + i) = (1, 9, 0) := by
  have h1 : ∀ i, i < 256 → Kc (190 + 1 + i) = (1, 9, 0) := by decide +kernel
  exact h1 i h
theorem Kc_mv {i : Nat} (h : i < 8) : Kc (457 + 1 + i) = (1, 3, 0) := by
  have h1 : ∀ i, i < 8 → Kc (457 + 1 + i) = (1, 3, 0) := by decide +kernel
  exact h1 i h
theorem Kc_pa {i : Nat} (h : i < 16) : Kc (172 + 1 + i) = (1, 24, 0) := by
  have h1 : ∀ i, i < 16 → Kc (172 + 1 + i) = (1, 24, 0) := by decide +kernel
  exact h1 i h
theorem I.quadO {w : pW} {r c : Nat} (h : I w) (hr : r < 487) (hk : Kc r = (5, c, 0)) : w.2 r = .inr (0, [.ref c]) := by
  have := h.2.2 r hr
  rw [hk] at this
  exact this
theorem I.mk {w : pW} (h : I w) : w.2 155 = .inr (3, [.ref 156, .ref 157, .ref 158]) := by
  have := h.2.2 155 (by decide)
  rw [kc_155] at this
  exact this
/-- a Quad of a plane, or the Maker's square -/
def QX (x : Nat) : Prop := x = 158 ∨ ∃ b q : Nat, (b = 1 ∨ b = 77) ∧ q < 8 ∧ x = b + 1 + 27 + 6 * q
theorem QX_sq : QX 158 := Or.inl rfl
theorem QX_pl {b q : Nat} (hb : b = 1 ∨ b = 77) (hq : q < 8) : QX (b + 1 + 27 + 6 * q) := Or.inr ⟨b, q, hb, hq, rfl⟩
theorem QX_ne {x k o : Nat} (h : QX x) (hk : k < 4) (ho : o = 156 ∨ o = 157 ∨ 449 ≤ o) : x + 1 + 1 + k ≠ o := by
  rcases h with rfl | ⟨b, q, hb, hq, rfl⟩ <;> omega
theorem I.qx {w : pW} {x : Nat} (h : I w) (hx : QX x) : QuadS w x := by
  rcases hx with rfl | ⟨b, q, hb, hq, rfl⟩
  · exact h.square
  · exact h.quadS hb hq
theorem part_0 : inN 2 0 = true := by decide
theorem part_1 : inN 2 1 = true := by decide
theorem part_n {a : Int32} (h0 : ¬ a = 0) (h1 : ¬ a = 1) : inN 2 a = false := by
  unfold inN
  by_cases q : 0 ≤ a
  · rw [decide_eq_true q, Bool.true_and]
    apply decide_eq_false
    intro h2
    obtain ⟨j, hj, rfl⟩ := nI_of (Int32.not_lt.mpr q)
    have h3 : j < 2 := (nI_ltI hj (by decide)).mp (show nI j < nI 2 from h2)
    rcases (show j = 0 ∨ j = 1 by omega) with rfl | rfl
    · exact h0 rfl
    · exact h1 rfl
  · rw [decide_eq_false q]
    rfl
theorem dia_lt {j : Nat} (h : j < 12) : ∃ k, k < 4 ∧ diaF j = nI k := by
  have h1 : ∀ j, j < 12 → ∃ k, k < 4 ∧ diaF j = nI k := by decide +kernel
  exact h1 j h
theorem kind_6 {a : Int32} (h : 5 < a) : nI 6 ≤ a := by
  rw [Int32.le_iff_toInt_le]
  rw [Int32.lt_iff_toInt_lt] at h
  exact h
theorem lt_z {n : Nat} {a M : Int32} (h : ¬ a < M) (hM : M.toInt = (n : Int)) : ¬ a < 0 := by
  intro q
  apply h
  rw [Int32.lt_iff_toInt_lt] at q ⊢
  rw [hM]
  have : (0 : Int32).toInt = 0 := rfl
  omega
/-- a count that runs from -n on -/
theorem wh_0 (n : Nat) : -nI n = nI 0 - nI n := by rw [show nI 0 = (0 : Int32) from rfl, Int32.zero_sub]
theorem wh_s (j n : Nat) : nI j - nI n + Int32.ofInt 1 = nI (j + 1) - nI n := by
  rw [nI_succ, show Int32.ofInt 1 = (1 : Int32) from rfl, Int32.sub_eq_add_neg, Int32.sub_eq_add_neg, Int32.add_assoc, Int32.add_comm (-nI n) 1, ← Int32.add_assoc]
theorem wh_t {j n : Nat} (hj : j < 2 ^ 30) (hn : n < 2 ^ 30) : (nI j - nI n).toInt = (j : Int) - n := by
  rw [Int32.toInt_sub, nI_toInt (by omega), nI_toInt (by omega)]
  exact Int.bmod_eq_of_le (by omega) (by omega)
theorem wh_F {j n : Nat} (hj : j < 2 * n + 1) (hn : n < 2 ^ 20) : ¬ nI n < nI j - nI n := by
  rw [Int32.lt_iff_toInt_lt, wh_t (by omega) (by omega), nI_toInt (by omega)]
  omega
theorem wh_T {n : Nat} (hn : n < 2 ^ 20) : nI n < nI (2 * n + 1) - nI n := by
  rw [Int32.lt_iff_toInt_lt, wh_t (by omega) (by omega), nI_toInt (by omega)]
  omega
section
variable {G : pG} {M : pM} {R : Room} {QF : List Frame → Array Value → State → State → Prop} {k n pc : Nat} {lv : List (Nat × Value)} {st : List Value} {w : pW}
theorem P_mabslZ {index : Nat} {x : Int64} (d : decode M.2.1 pc = .ok (.invokestatic index, 3)) (hl : Cond.methodLink M.1.cls index Lib.MathLoose.abs_long.x ∈ gtbl) (hst : Cond.static Lib.MathLoose.abs_long.x ∈ gtbl) (hini : Cond.initialized "java/lang/Math" ∈ gtbl) (hco : Cond.code Lib.MathLoose.abs_long.x Lib.MathLoose.abs_long.code 2 (some .long) ∈ gtbl) (hR : 1 ≤ R.frames ∧ 23 ≤ R.locals ∧ k ≤ R.cells ∧ n ≤ R.slots) (hcat : (st.map Value.category).sum ≤ 8)
    (kk : ∀ z : Int64, PW G M R QF k n (pc + 3, lv, .long z :: st, w)) : PW G M R QF k n (pc, lv, .long x :: st, w) := P_mabsl d hl hst hini hco hR hcat (kk _)
theorem P_mmaxlZ {index : Nat} {x y : Int64} (d : decode M.2.1 pc = .ok (.invokestatic index, 3)) (hl : Cond.methodLink M.1.cls index Lib.MathLoose.max_long.x ∈ gtbl) (hst : Cond.static Lib.MathLoose.max_long.x ∈ gtbl) (hini : Cond.initialized "java/lang/Math" ∈ gtbl) (hco : Cond.code Lib.MathLoose.max_long.x Lib.MathLoose.max_long.code 4 (some .long) ∈ gtbl) (hR : 1 ≤ R.frames ∧ 23 ≤ R.locals ∧ k ≤ R.cells ∧ n ≤ R.slots) (hcat : (st.map Value.category).sum ≤ 8)
    (kk : ∀ z : Int64, PW G M R QF k n (pc + 3, lv, .long z :: st, w)) : PW G M R QF k n (pc, lv, .long y :: .long x :: st, w) := P_mmaxl d hl hst hini hco hR hcat (kk _)
theorem P_mminlZ {index : Nat} {x y : Int64} (d : decode M.2.1 pc = .ok (.invokestatic index, 3)) (hl : Cond.methodLink M.1.cls index Lib.MathLoose.min_long.x ∈ gtbl) (hst : Cond.static Lib.MathLoose.min_long.x ∈ gtbl) (hini : Cond.initialized "java/lang/Math" ∈ gtbl) (hco : Cond.code Lib.MathLoose.min_long.x Lib.MathLoose.min_long.code 4 (some .long) ∈ gtbl) (hR : 1 ≤ R.frames ∧ 23 ≤ R.locals ∧ k ≤ R.cells ∧ n ≤ R.slots) (hcat : (st.map Value.category).sum ≤ 8)
    (kk : ∀ z : Int64, PW G M R QF k n (pc + 3, lv, .long z :: st, w)) : PW G M R QF k n (pc, lv, .long y :: .long x :: st, w) := P_mminl d hl hst hini hco hR hcat (kk _)
theorem P_mminiZ {index : Nat} {x y : Int32} (d : decode M.2.1 pc = .ok (.invokestatic index, 3)) (hl : Cond.methodLink M.1.cls index Lib.Math.min.name ∈ gtbl) (hst : Cond.static Lib.Math.min.name ∈ gtbl) (hini : Cond.initialized "java/lang/Math" ∈ gtbl) (hco : Cond.code Lib.Math.min.name Lib.Math.min.code 2 (some .int) ∈ gtbl) (hR : 1 ≤ R.frames ∧ 23 ≤ R.locals ∧ k ≤ R.cells ∧ n ≤ R.slots) (hcat : (st.map Value.category).sum ≤ 8)
    (kk : ∀ z : Int32, PW G M R QF k n (pc + 3, lv, .int z :: st, w)) : PW G M R QF k n (pc, lv, .int y :: .int x :: st, w) := P_mmini d hl hst hini hco hR hcat (kk _)
end
theorem pl_rng {b : Nat} (hb : b = 1 ∨ b = 77) : 1 ≤ b ∧ b ≤ 77 := by rcases hb with h | h <;> rw [h] <;> decide
theorem st_minl : Cond.static Lib.MathLoose.min_long.x ∈ gtbl := g_at 865 (by decide +kernel) rfl
theorem cd_minl : Cond.code Lib.MathLoose.min_long.x Lib.MathLoose.min_long.code 4 (some .long) ∈ gtbl := g_at 866 (by decide +kernel) rfl
