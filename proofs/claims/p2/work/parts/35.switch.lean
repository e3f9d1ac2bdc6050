/-! switches; methods that throw; tape, reader, past -/
section
variable {G : pG} {M : pM} {R : Room} {QF : List Frame → Array Value → State → State → Prop} {k n pc : Nat} {lv : List (Nat × Value)} {st : List Value} {w : pW}
theorem P_tswIn {dflt lo hi : Int} {offs : Array Int} {len : Nat} {x : Int32} {off : Int} (tgt : Nat) (d : decode M.2.1 pc = .ok (.tableswitch dflt lo hi offs, len)) (h1 : ¬ x.toInt < lo) (h2 : ¬ hi < x.toInt) (ho : offs[(x.toInt - lo).toNat]? = some off) (ht : (pc : Int) + off = (tgt : Int)) (kk : PW G M R QF k n (tgt, lv, st, w)) : PW G M R QF k n (pc, lv, .int x :: st, w) :=
  fun p e s m args below meth c hc H locs ls hl hH hS => lv_tableIn hc.1 hc.2.1 d h1 h2 ho ht (kk p e s m args below meth c hc H locs ls hl hH hS)
theorem P_tswOut {dflt lo hi : Int} {offs : Array Int} {len : Nat} {x : Int32} (tgt : Nat) (d : decode M.2.1 pc = .ok (.tableswitch dflt lo hi offs, len)) (h : x.toInt < lo ∨ hi < x.toInt) (ht : (pc : Int) + dflt = (tgt : Int)) (kk : PW G M R QF k n (tgt, lv, st, w)) : PW G M R QF k n (pc, lv, .int x :: st, w) :=
  fun p e s m args below meth c hc H locs ls hl hH hS => lv_tableOut hc.1 hc.2.1 d h ht (kk p e s m args below meth c hc H locs ls hl hH hS)
theorem PW.toX {Q : Option Value → pW → Prop} {QX : String → pW → Prop} {mc ms : Nat} {g : pC} (kk : PW G M R (QM G Q mc ms) k n g) : PW G M R (XQ G Q QX mc ms) k n g :=
  fun p e s m args below meth c hc H locs ls hl hH hS => vx_ret (kk p e s m args below meth c hc H locs ls hl hH hS)
end
theorem I.tape {w : pW} (h : I w) : ∃ tl, tl ≤ 900 ∧ w.2 153 = .inr (2, [.ref 154, .int (nI tl)]) := by
  have := h.2.2 153 (by decide)
  rw [kc_153] at this
  exact this
theorem I.past {w : pW} (h : I w) : ∃ el ct : Nat, el ≤ 15 ∧ ct ≤ 16 ∧ w.2 169 = .inr (5, [.ref 170, .ref 171, .ref 172, .int (nI el), .int (nI ct)]) := by
  have := h.2.2 169 (by decide)
  rw [kc_169] at this
  exact this
theorem I.rdr {w : pW} (h : I w) : ∃ (rb : Nat) (y1 y2 y3 y4 y5 y6 y7 : Int32), (rb = 1 ∨ rb = 77) ∧ w.2 164 = .inr (4, [.ref 153, .ref 155, .ref 165, .ref 166, .ref 167, .ref 168, .ref rb, .int y1, .int y2, .int y3, .int y4, .int y5, .int y6, .int y7]) := by
  have := h.2.2 164 (by decide)
  rw [kc_164] at this
  exact this
theorem I.prs {w : pW} (h : I w) : ∃ wd ct : Int32, w.2 189 = .inr (6, [.ref 190, .int wd, .int ct]) := by
  have := h.2.2 189 (by decide)
  rw [kc_189] at this
  exact this
