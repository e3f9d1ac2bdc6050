/-! the reference's side -/
def SN (i : Nat) : Bool := decide ((476 ≤ i ∧ i < 486) ∨ i = 467)
theorem SN_f {i : Nat} (h : ¬ ((476 ≤ i ∧ i < 486) ∨ i = 467)) : SN i = false := decide_eq_false h
theorem SN_t {i : Nat} (h : (476 ≤ i ∧ i < 486) ∨ i = 467) : SN i = true := decide_eq_true h
/-- what the reference's object keeps -/
def MS (a1 a2 a3 a4 a5 a6 a7 a8 a9 a10 a11 a12 a13 a14 a15 a16 : Int32) (e : pE) : Prop := ∃ b1 b2 b3 b4 : Int32, e = mO a1 a2 a3 a4 a5 a6 a7 a8 a9 a10 a11 a12 a13 a14 a15 a16 b1 b2 b3 b4
theorem MS_one {a1 a2 a3 a4 a5 a6 a7 a8 a9 a10 a11 a12 a13 a14 a15 a16 c1 c2 c3 c4 c5 c6 c7 c8 c9 c10 c11 c12 c13 c14 c15 c16 : Int32} {e f : pE} (h : MS a1 a2 a3 a4 a5 a6 a7 a8 a9 a10 a11 a12 a13 a14 a15 a16 e) (k : MS c1 c2 c3 c4 c5 c6 c7 c8 c9 c10 c11 c12 c13 c14 c15 c16 e) (j : MS a1 a2 a3 a4 a5 a6 a7 a8 a9 a10 a11 a12 a13 a14 a15 a16 f) : MS c1 c2 c3 c4 c5 c6 c7 c8 c9 c10 c11 c12 c13 c14 c15 c16 f := by
  obtain ⟨b1, b2, b3, b4, e1⟩ := h
  obtain ⟨d1, d2, d3, d4, e2⟩ := k
  rw [e1] at e2
  simp only [mO, Sum.inr.injEq, Prod.mk.injEq, true_and, List.cons.injEq, Value.int.injEq, and_true] at e2
  obtain ⟨-, rfl, rfl, rfl, rfl, rfl, rfl, rfl, rfl, rfl, rfl, rfl, rfl, rfl, rfl, rfl, rfl, -⟩ := e2
  exact j
def FrM (w u : pW) : Prop := Fr SN w u ∧ ∀ a1 a2 a3 a4 a5 a6 a7 a8 a9 a10 a11 a12 a13 a14 a15 a16 : Int32, MS a1 a2 a3 a4 a5 a6 a7 a8 a9 a10 a11 a12 a13 a14 a15 a16 (w.2 467) → MS a1 a2 a3 a4 a5 a6 a7 a8 a9 a10 a11 a12 a13 a14 a15 a16 (u.2 467)
theorem FrM.of {w u : pW} {a1 a2 a3 a4 a5 a6 a7 a8 a9 a10 a11 a12 a13 a14 a15 a16 : Int32} (h : Fr SN w u) (k : MS a1 a2 a3 a4 a5 a6 a7 a8 a9 a10 a11 a12 a13 a14 a15 a16 (w.2 467)) (j : MS a1 a2 a3 a4 a5 a6 a7 a8 a9 a10 a11 a12 a13 a14 a15 a16 (u.2 467)) : FrM w u := ⟨h, fun _ _ _ _ _ _ _ _ _ _ _ _ _ _ _ _ q => MS_one k q j⟩
theorem I.md {w : pW} (h : I w) : ∃ (tp qs un : Nat) (nq ln nl sz at_ pl so vl wo fa fp lf lp th rm um sm : Int32), tp ≤ 900 ∧ qs ≤ 8 ∧ un ≤ 16 ∧ w.2 467 = mO (nI tp) (nI qs) nq (nI un) ln nl sz at_ pl so vl wo fa fp lf lp th rm um sm := by
  have := h.2.2 467 (by decide)
  rw [kc_467] at this
  exact this
theorem I.now {w : pW} (h : I w) : ∃ (fn : Nat → Int64) (nm np : Nat), w.2 471 = .inl (1, 170, .inr (.inl fn)) ∧ nm ≤ 16 ∧ fn 168 = lN nm ∧ np ≤ 8 ∧ fn 169 = lN np := by
  have := h.2.2 471 (by decide)
  rw [kc_471] at this
  obtain ⟨f, e, ⟨k, hk, e1⟩, j, hj, e2⟩ := this
  rw [Nat.zero_add] at e1 e2
  exact ⟨f, k, j, e, hk, e1, hj, e2⟩
theorem I.setM {w u : pW} {tp qs un : Nat} {nq ln nl sz at_ pl so vl wo fa fp lf lp th rm um sm : Int32} (h : I w) (k : u = (w.1, wu w.2 467 (mO (nI tp) (nI qs) nq (nI un) ln nl sz at_ pl so vl wo fa fp lf lp th rm um sm))) (h1 : tp ≤ 900) (h2 : qs ≤ 8) (h3 : un ≤ 16) : I u :=
  h.set k (fun _ => by rw [kc_467]; exact ⟨tp, qs, un, nq, ln, nl, sz, at_, pl, so, vl, wo, fa, fp, lf, lp, th, rm, um, sm, h1, h2, h3, rfl⟩)
theorem third_3 {a : Int32} (h : 2 < a) : nI 3 ≤ a := by
  rw [Int32.le_iff_toInt_le]
  rw [Int32.lt_iff_toInt_lt] at h
  exact h
theorem inN_tN {n j : Nat} (h : j < n) (hn : n < 2 ^ 31) : inN n (nI j) = true := inN_t (nI_pos (by omega)) (nI_ge h hn)
theorem inN_fN {n j : Nat} (h : j ≥ n) (hj : j < 2 ^ 31) : inN n (nI j) = false := inN_f2 (nI_le h hj)
theorem cN_self (a : Nat) : (0 : Int32) ≤ cN a a := by rcases cN_cases a a with ⟨h, e⟩ | ⟨h, e⟩ | ⟨h, e⟩ <;> rw [e] <;> first | omega | decide
theorem cN_ltF {a b : Nat} (h : a < b) : ¬ (0 : Int32) ≤ cN a b := by rcases cN_cases a b with ⟨h1, e⟩ | ⟨h1, e⟩ | ⟨h1, e⟩ <;> rw [e] <;> first | omega | decide
