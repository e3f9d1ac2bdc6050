/-! the reference's side -/
def SN (i : Nat) : Bool := decide ((476 ≤ i ∧ i < 486) ∨ i = 467)
theorem SN_f {i : Nat} (h : ¬ ((476 ≤ i ∧ i < 486) ∨ i = 467)) : SN i = false := decide_eq_false h
theorem SN_t {i : Nat} (h : (476 ≤ i ∧ i < 486) ∨ i = 467) : SN i = true := decide_eq_true h
/-- what the reference's object keeps -/
def MS (a1 a2 a3 a4 a5 a6 a7 a8 a9 a10 a11 a12 a13 a14 a15 a16 : Int32) (e : pE) : Prop := ∃ b1 b2 b3 b4 : Int32, e = mO a1 a2 a3 a4 a5 a6 a7 a8 a9 a10 a11 a12 a13 a14 a15 a16 b1 b2 b3 b4
theorem MS_one {a1 a2 a3 a4 a5 a6 a7 a8 a9 a10 a11 a12 a13 a14 a15 a16 c1 c2 c3 c4 c5 c6 c7 c8 c9 c10 c11 c12 c13 c14 c15 c16 : Int32} {e f : pE} (h : MS a1 a2 a3 a4 a5 a6 a7 a8 a9 a10 a11 a12 a13 a14 a15 a16 e) (k : MS c1 c2 c3 c4 c5 c6 c7 c8 c9 c10 c11 c12 c13 c14 c15 c16 e) (j : MS a1 a2 a3 a4 a5 a6 a7 a8 a9 a10 a11 a12 a13 a14 a15 a16 f) : MS c1 c2 c3 c4 c5 c6 c7 c8 c9 c10 c11 c12 c13 c14 c15 c16 f := by
  obtain ⟨b1, b2, b3, b4, e1⟩ := h
  obtain ⟨d1, d2, d3, d4, e2⟩ := k
  rw [e1] at e2
  simp only [mO, Sum.inr.injEq, Prod.mk.injEq, true_and, List.cons.injEq, Value.int.injEq, and_true] at e2
  obtain ⟨-, rfl, rfl, rfl, rfl, rfl, rfl, rfl, rfl, rfl, rfl, rfl, rfl, rfl, rfl, rfl, rfl, -⟩ := e2
  exact j
def FrM (w u : pW) : Prop := Fr SN w u ∧ ∀ a1 a2 a3 a4 a5 a6 a7 a8 a9 a10 a11 a12 a13 a14 a15 a16 : Int32, MS a1 a2 a3 a4 a5 a6 a7 a8 a9 a10 a11 a12 a13 a14 a15 a16 (w.2 467) → MS a1 a2 a3 a4 a5 a6 a7 a8 a9 a10 a11 a12 a13 a14 a15 a16 (u.2 467)
theorem FrM.of {w u : pW} {a1 a2 a3 a4 a5 a6 a7 a8 a9 a10 a11 a12 a13 a14 a15 a16 : Int32} (h : Fr SN w u) (k : MS a1 a2 a3 a4 a5 a6 a7 a8 a9 a10 a11 a12 a13 a14 a15 a16 (w.2 467)) (j : MS a1 a2 a3 a4 a5 a6 a7 a8 a9 a10 a11 a12 a13 a14 a15 a16 (u.2 467)) : FrM w u := ⟨h, fun _ _ _ _ _ _ _ _ _ _ _ _ _ _ _ _ q => MS_one k q j⟩
theorem I.md {w : pW} (h : I w) : ∃ (tp qs un : Nat) (nq ln nl sz at_ pl so vl wo fa fp lf lp th rm um sm : Int32), tp ≤ 900 ∧ qs ≤ 8 ∧ un ≤ 16 ∧ w.2 467 = mO (nI tp) (nI qs) nq (nI un) ln nl sz at_ pl so vl wo fa fp lf lp th rm um sm := by
  have := h.2.2 467 (by decide)
  rw [kc_467] at this
  exact this
theorem I.now {w : pW} (h : I w) : ∃ (fn : Nat → Int64) (nm np : Nat), w.2 471 = .inl (1, 170, .inr (.inl fn)) ∧ nm ≤ 16 ∧ fn 168 = lN nm ∧ np ≤ 8 ∧ fn 169 = lN np := by
  have := h.2.2 471 (by decide)
  rw [kc_471] at this
  obtain ⟨f, e, ⟨k, hk, e1⟩, j, hj, e2⟩ := this
  rw [Nat.zero_add] at e1 e2
  exact ⟨f, k, j, e, hk, e1, hj, e2⟩
theorem I.setM {w u : pW} {tp qs un : Nat} {nq ln nl sz at_ pl so vl wo fa fp lf lp th rm um sm : Int32} (h : I w) (k : u = (w.1, wu w.2 467 (mO (nI tp) (nI qs) nq (nI un) ln nl sz at_ pl so vl wo fa fp lf lp th rm um sm))) (h1 : tp ≤ 900) (h2 : qs ≤ 8) (h3 : un ≤ 16) : I u :=
  h.set k (fun _ => by rw [kc_467]; exact ⟨tp, qs, un, nq, ln, nl, sz, at_, pl, so, vl, wo, fa, fp, lf, lp, th, rm, um, sm, h1, h2, h3, rfl⟩)
theorem third_3 {a : Int32} (h : 2 < a) : nI 3 ≤ a := by
  rw [Int32.le_iff_toInt_le]
  rw [Int32.lt_iff_toInt_lt] at h
  exact h
theorem inN_tN {n j : Nat} (h : j < n) (hn : n < 2 ^ 31) : inN n (nI j) = true := inN_t (nI_pos (by omega)) (nI_ge h hn)
theorem inN_fN {n j : Nat} (h : j ≥ n) (hj : j < 2 ^ 31) : inN n (nI j) = false := inN_f2 (nI_le h hj)
theorem cN_self (a : Nat) : (0 : Int32) ≤ cN a a := by rcases cN_cases a a with ⟨h, e⟩ | ⟨h, e⟩ | ⟨h, e⟩ <;> rw [e] <;> first | omega | decide
theorem cN_ltF {a b : Nat} (h : a < b) : ¬ (0 : Int32) ≤ cN a b := by rcases cN_cases a b with ⟨h1, e⟩ | ⟨h1, e⟩ | ⟨h1, e⟩ <;> rw [e] <;> first | omega | decide
/-! a call with more on the stack below it than eight places -/
section
variable {p : Program} {l : Launch} {e : Env} {R : Room} {s : State} {m : MethodId} {args : Array Value} {below : List Frame} {meth : Method} {c : Code} {H : Heap} {locs : List Loc} {cells slots : Nat}
variable {y : MethodName} {bytes cc : ByteArray} {maxL nL mc ms n index : Nat} {ret : Option FieldType} {ws : List Cond} {rm : Room} {Pc : Array Value → State → Prop} {Qc : Array Value → State → Outcome → State → Prop} {free : Addr → Prop} {Ts : List Cond} {own C : String} {b : Addr} {As rest : List Value} {g : JFrame}
theorem run_Vz (z : Nat) (hz : z + (maxL + 11) + rm.locals ≤ R.locals) (S : CallFix p m c cc nL s args Ts own) (hM : Met l y ws rm Pc Qc mc ms free) (cw : CallW R s args own C index y bytes maxL ret ws rm mc ms n) (hp : PreV s H C b Pc As)
    (hg : g.method = m) (hn : As.length = n) (hsize : g.locals.size = nL) (hstack : g.stack = As.reverse ++ .ref b :: rest) (hW : 2 * g.monitorRoom + (rest.map fun v => v.category).sum ≤ z) (hdg : decode cc g.pc = .ok (.invokevirtual index, 3)) (hf : cells + mc ≤ R.cells ∧ slots + ms ≤ R.slots) :
    va_Run p l e R s m args below meth c H locs cells slots mc ms g rest (Qc (Value.ref b :: As).toArray) (free) := by
  have hK : Back l R p e below s args y 3 z (PreOf R mc ms Pc) (PostOf Qc mc ms free) := by
    obtain ⟨q1, q2, q3, -, q5, q6, -, q8, -⟩ := cw.1
    exact back_of (bytes := bytes) (maxL := maxL) (ret := ret) hM hp.1 q1 q2 q3 hz q5 q6 (fun a' U hW => word_at hW (Or.inl (by first | rfl | simp [Cond.onTables, Cond.keeps, Cond.steady])) q8)
  obtain ⟨⟨-, -, -, -, -, -, hcode, -, hy, hlen, hl⟩, hin, hse⟩ := cw
  obtain ⟨hx, hb, hml, ho, -⟩ := S
  obtain ⟨-, ⟨cellB, hcB, hoB, hclB⟩, hPc⟩ := hp
  intro T hT X
  obtain ⟨v, vm₁, ⟨U', l2, c2, s2⟩, hW₁, X', ⟨g', mk, t, L, e1, e2, hq, h1, hL, h2, h3⟩, st⟩ := callV X hx (C := C) (bytes := bytes) (maxL := maxL) (ret := ret) ho hl hin hse hcode hy hK (by rw [hT]; exact hcB) hoB hclB hg (hsize.trans hml.symm) (argsL := As) (rest := rest) (fun sig h => hn.trans (hlen sig h)) hstack hW (by rw [hb]; exact hdg)
    (fun vm₁ hW₁ => ⟨hf.1, hf.2, hPc (T.setVm vm₁) hT hW₁⟩)
  dsimp only [Pt.U, Pt.locs, Pt.cells, Pt.slots] at X' e1 e2 h1 h2 h3 st
  subst h1; subst h2; subst h3
  exact ⟨v, (T.setVm vm₁).calling g' mk (Value.ref b :: As).toArray, t, U', L, hT, X', hL, e1, e2, hq, st⟩
end
section
variable {G : pG} {M M2 : pM} {R : Room} {QF : List Frame → Array Value → State → State → Prop} {k n pc d2 mc2 ms2 na : Nat} {lv : List (Nat × Value)} {st as : List Value} {w : pW} {Q2 : Option Value → pW → Prop}
theorem P_callVz (z : Nat) (h8 : 8 ≤ z) {ci N index b : Nat} {T : u_T} {ty : Nat → FieldType} {fs : List Value} (d : decode M.2.1 pc = .ok (.invokevirtual index, 3)) (co : CalOK M2 na) (ok : COK ci M2.1.cls T N ty) (hw : w.2 b = .inr (ci, fs)) (hl : Cond.methodLink M.1.cls index M2.1 ∈ gtbl) (hin : Cond.instanceMethod M2.1 ∈ gtbl) (hse : Cond.selects M2.1.cls M2.1 M2.1 ∈ gtbl) (hM : PM G M2 d2 mc2 ms2 (.ref b :: as) w Q2) (hna : as.length = na) (hR : d2 + 1 ≤ R.frames ∧ z + (M2.2.2.1 + 11) + 60 * d2 ≤ R.locals) (hf : k + mc2 ≤ R.cells ∧ n + ms2 ≤ R.slots) (hcat : (st.map Value.category).sum ≤ z)
    (kk : ∀ (r : Option Value) (w' : pW), Q2 r w' → PW G M R QF (k + mc2) (n + ms2) (pc + 3, lv, r.toList ++ st, w')) (st0 : List Value) (h0 : st0 = as.reverse ++ .ref b :: st) : PW G M R QF k n (pc, lv, st0, w) := by
  intro p e s m args below meth c hc H locs ls hl0 hH hS
  have hts := hc.2.2.2.2.2.2.2.1
  obtain ⟨g0, -, cellV, g1, g2, g3, -⟩ := pe_obj hc.2.2.2.2.2.2.2.2.2.1 hH ok.1 hw
  have hcls := (hc.2.2.2.2.2.2.2.2.1.1.1 ci _ ok.1).2
  have hrl : (rmD d2 mc2 ms2).locals = 60 * d2 := rfl
  refine run_fin (rest := st.map (tv (g_f G))) (run_Vz z (by rw [hrl]; exact hR.2) (C := M2.1.cls) (b := g_f G b) (As := as.map (tv (g_f G))) (n := na) ⟨hc.1, hc.2.1, hc.2.2.1, hc.2.2.2.2.2.2.1, hts⟩ hM ⟨callB_of na hts (wsM_in co.1) rfl rfl rfl (hts _ co.2.1) (hts _ hl) co.2.2 ⟨hR.1, by have := hR.2; show 8 + (M2.2.2.1 + 11) + 60 * d2 ≤ R.locals; omega⟩, hts _ hin, hts _ hse⟩ ⟨PC0.blind, ⟨cellV, g1, by rw [g3]; rfl, by rw [g2]; exact hcls.1⟩, pre_c (as := .ref b :: as) hc hH hS⟩ rfl (by simp [hna]) hl0.1 (by subst h0; simp [F0, tv]) (by rw [sum_tv]; show 2 * 0 + _ ≤ z; omega) d hf) hS (fun r w' H1 locs1 hq hH1 hS1 => ?_)
  have := kk r w' hq p e s m args below meth c hc H1 locs1 ls hl0 hH1 hS1
  cases r <;> exact this
end
