/-! what holds of the world between calls: the kind of every cell -/
def SC (i : Nat) : Bool := decide ((155 ≤ i ∧ i < 164) ∨ (190 ≤ i ∧ i < 467))
def SM (i : Nat) : Bool := decide (476 ≤ i ∧ i < 486)
theorem SC_f {i : Nat} (h : ¬ ((155 ≤ i ∧ i < 164) ∨ (190 ≤ i ∧ i < 467))) : SC i = false := decide_eq_false h
theorem SC_t {i : Nat} (h : (155 ≤ i ∧ i < 164) ∨ (190 ≤ i ∧ i < 467)) : SC i = true := decide_eq_true h
theorem SM_f {i : Nat} (h : ¬ (476 ≤ i ∧ i < 486)) : SM i = false := decide_eq_false h
theorem SM_t {i : Nat} (h : 476 ≤ i ∧ i < 486) : SM i = true := decide_eq_true h
/-- codes: (0,n) ints, (1,n) longs, (2,n) bytes, (3,c,n) the n rows behind c, (4,b) the quads of a plane, (5,c) a Quad whose corners are c, (6,b) a Plane, 7 CornerMaps, 8 Tape, 9 Maker, 10 Reader, 11 Past, 12 Pairs, 13 StringBuilder, 14 Model, 15 now, 16 past, 99 anything -/
def plR (b : Nat) : List (Nat × Nat × Nat × Nat × Nat) :=
  [(b, b + 1, 6, b, 0), (b + 1, b + 2, 4, b, 0), (b + 2, b + 3, 3, b + 2, 16), (b + 3, b + 19, 1, 9, 0), (b + 19, b + 20, 3, b + 19, 8), (b + 20, b + 28, 1, 3, 0)] ++
  (List.range 8).flatMap (fun q => [(b + 28 + 6 * q, b + 29 + 6 * q, 5, b + 29 + 6 * q, 0), (b + 29 + 6 * q, b + 30 + 6 * q, 3, b + 29 + 6 * q, 4), (b + 30 + 6 * q, b + 34 + 6 * q, 1, 3, 0)])
def Kr : List (Nat × Nat × Nat × Nat × Nat) := [(0, 1, 7, 0, 0)] ++ plR 1 ++ plR 77 ++
  [(153, 154, 8, 0, 0), (154, 155, 0, 900, 0), (155, 156, 9, 0, 0), (156, 158, 1, 9, 0), (158, 159, 5, 159, 0), (159, 160, 3, 159, 4), (160, 164, 1, 3, 0),
   (164, 165, 10, 0, 0), (165, 167, 0, 8, 0), (167, 168, 1, 3, 0), (168, 169, 1, 9, 0), (169, 170, 11, 0, 0), (170, 172, 0, 16, 0), (172, 173, 3, 172, 16), (173, 189, 1, 24, 0),
   (189, 190, 12, 0, 0), (190, 191, 3, 190, 256), (191, 447, 1, 9, 0), (447, 448, 13, 0, 0), (448, 449, 99, 0, 0), (449, 452, 1, 9, 0), (452, 457, 1, 3, 0), (457, 458, 3, 457, 8), (458, 466, 1, 3, 0), (466, 467, 0, 3, 0),
   (467, 468, 14, 0, 0), (468, 469, 0, 900, 0), (469, 471, 0, 64, 0), (471, 472, 15, 0, 0), (472, 473, 1, 170, 0), (473, 474, 16, 0, 0), (474, 476, 0, 8, 0), (476, 479, 1, 9, 0), (479, 481, 1, 3, 0), (481, 482, 0, 16, 0), (482, 483, 1, 9, 0), (483, 484, 0, 3, 0), (484, 485, 1, 2448, 0), (485, 486, 0, 108, 0), (486, 487, 1, 1, 0)]
def Kc (i : Nat) : Nat × Nat × Nat := match Kr.find? (fun q => Nat.ble q.1 i && Nat.blt i q.2.1) with
  | some q => q.2.2
  | none => (99, 0, 0)
/-- the reference's object: what its calls keep, and what they work with -/
def mO (tp qs nq un ln nl sz at_ pl so vl wo fa fp lf lp : Int32) (th rm um sm : Int32) : pE := .inr (9, [.int th, .ref 468, .int tp, .ref 469, .ref 470, .int qs, .int nq, .ref 471, .ref 472, .ref 473, .int un, .int ln, .int nl, .ref 474, .ref 475, .int sz, .int at_, .int pl, .int so, .int vl, .int wo, .int fa, .int fp, .int lf, .int lp, .ref 476, .ref 477, .ref 478, .ref 479, .ref 480, .ref 481, .ref 482, .ref 483, .int rm, .ref 484, .int um, .ref 485, .int sm])
def mapN (f : Nat → Int64) (o : Nat) : Prop := (∃ k, k ≤ 16 ∧ f (o + 168) = lN k) ∧ ∃ k, k ≤ 8 ∧ f (o + 169) = lN k
def kd (c : Nat × Nat × Nat) (e : pE) : Prop := match c with
  | (0, n, _) => ∃ f : Nat → Int32, e = .inl (0, n, .inl f)
  | (1, n, _) => ∃ f : Nat → Int64, e = .inl (1, n, .inr (.inl f))
  | (2, n, _) => ∃ f : Nat → Int32, e = .inl (2, n, .inl f)
  | (3, c, n) => e = .inl (3, n, refs (rows_of c n))
  | (4, b, _) => e = .inl (4, 8, refs (pq (b + 1) 8))
  | (5, c, _) => e = .inr (0, [.ref c])
  | (6, b, _) => ∃ l q m p : Nat, e = .inr (1, [.ref (b + 1), .ref (b + 2), .ref (b + 19), .int (nI l), .int (nI q), .int (nI m), .int (nI p)]) ∧ l ≤ 900 ∧ q ≤ 8 ∧ m ≤ 16 ∧ p ≤ 8
  | (7, _, _) => ∃ b, (b = 1 ∨ b = 77) ∧ e = .inr (8, [.ref b, .ref (78 - b), .ref 153, .ref 164, .ref 169, .ref 155, .ref 189, .ref 447, .ref 449, .ref 450, .ref 451, .ref 452, .ref 453, .ref 454, .ref 455, .ref 456, .ref 457, .ref 466])
  | (8, _, _) => ∃ l, l ≤ 900 ∧ e = .inr (2, [.ref 154, .int (nI l)])
  | (9, _, _) => e = .inr (3, [.ref 156, .ref 157, .ref 158])
  | (10, _, _) => ∃ (b : Nat) (x1 x2 x3 x4 x5 x6 x7 : Int32), (b = 1 ∨ b = 77) ∧ e = .inr (4, [.ref 153, .ref 155, .ref 165, .ref 166, .ref 167, .ref 168, .ref b, .int x1, .int x2, .int x3, .int x4, .int x5, .int x6, .int x7])
  | (11, _, _) => ∃ el ct : Nat, el ≤ 15 ∧ ct ≤ 16 ∧ e = .inr (5, [.ref 170, .ref 171, .ref 172, .int (nI el), .int (nI ct)])
  | (12, _, _) => ∃ wd ct : Int32, e = .inr (6, [.ref 190, .int wd, .int ct])
  | (14, _, _) => ∃ (tp qs un : Nat) (nq ln nl sz at_ pl so vl wo fa fp lf lp th rm um sm : Int32), tp ≤ 900 ∧ qs ≤ 8 ∧ un ≤ 16 ∧ e = mO (nI tp) (nI qs) nq (nI un) ln nl sz at_ pl so vl wo fa fp lf lp th rm um sm
  | (15, _, _) => ∃ f : Nat → Int64, e = .inl (1, 170, .inr (.inl f)) ∧ mapN f 0
  | (16, _, _) => ∃ f : Nat → Int64, e = .inl (1, 2720, .inr (.inl f)) ∧ ∀ u, u < 16 → mapN f (170 * u)
  | _ => True
def I (w : pW) : Prop := 487 ≤ w.1 ∧ w.1 ≤ 20000 ∧ ∀ i, i < 487 → kd (Kc i) (w.2 i)
def Fr (S : Nat → Bool) (w u : pW) : Prop := u.1 = w.1 ∧ ∀ i, S i = false → u.2 i = w.2 i
theorem Fr.rf {S : Nat → Bool} {w : pW} : Fr S w w := ⟨rfl, fun _ _ => rfl⟩
theorem Fr.tr {S : Nat → Bool} {w u v : pW} (h : Fr S w u) (k : Fr S u v) : Fr S w v := ⟨k.1.trans h.1, fun i hi => (k.2 i hi).trans (h.2 i hi)⟩
theorem Fr.set {S : Nat → Bool} {w u v : pW} {r : Nat} {e : pE} (h : Fr S w u) (k : v = (u.1, wu u.2 r e)) (hs : S r = true) : Fr S w v := by
  refine ⟨(w_z k).trans h.1, fun i hi => (w_n k i (fun q => ?_)).trans (h.2 i hi)⟩
  rw [q, hs] at hi
  cases hi
theorem I.set {w u : pW} {r : Nat} {e : pE} (h : I w) (k : u = (w.1, wu w.2 r e)) (hk : r < 487 → kd (Kc r) e) : I u := by
  refine ⟨by rw [w_z k]; exact h.1, by rw [w_z k]; exact h.2.1, fun i hi => ?_⟩
  by_cases q : i = r
  · rw [q, w_s k]
    exact hk (by rw [← q]; exact hi)
  · rw [w_n k i q]
    exact h.2.2 i hi
theorem I.setL {w u : pW} {r n : Nat} {g : Nat → Int64} (h : I w) (k : u = (w.1, wu w.2 r (.inl (1, n, .inr (.inl g))))) (hk : Kc r = (1, n, 0)) : I u := h.set k (fun _ => by rw [hk]; exact ⟨g, rfl⟩)
theorem I.setI {w u : pW} {r n : Nat} {g : Nat → Int32} (h : I w) (k : u = (w.1, wu w.2 r (.inl (0, n, .inl g)))) (hk : Kc r = (0, n, 0)) : I u := h.set k (fun _ => by rw [hk]; exact ⟨g, rfl⟩)
theorem I.row {w : pW} {r n : Nat} (h : I w) (hr : r < 487) (hk : Kc r = (1, n, 0)) : ∃ f : Nat → Int64, w.2 r = .inl (1, n, .inr (.inl f)) := by
  have := h.2.2 r hr
  rw [hk] at this
  exact this
theorem I.ints {w : pW} {r n : Nat} (h : I w) (hr : r < 487) (hk : Kc r = (0, n, 0)) : ∃ f : Nat → Int32, w.2 r = .inl (0, n, .inl f) := by
  have := h.2.2 r hr
  rw [hk] at this
  exact this
theorem I.rows {w : pW} {r c n : Nat} (h : I w) (hr : r < 487) (hk : Kc r = (3, c, n)) : w.2 r = .inl (3, n, refs (rows_of c n)) := by
  have := h.2.2 r hr
  rw [hk] at this
  exact this
theorem Kc_pl : ∀ b, b = 1 ∨ b = 77 → Kc b = (6, b, 0) ∧ Kc (b + 1) = (4, b, 0) ∧ Kc (b + 2) = (3, b + 2, 16) ∧ Kc (b + 19) = (3, b + 19, 8) := by
  rintro b (rfl | rfl) <;> decide +kernel
theorem Kc_m {b m : Nat} (hb : b = 1 ∨ b = 77) (hm : m < 16) : Kc (b + 2 + 1 + m) = (1, 9, 0) := by
  have h : ∀ m, m < 16 → Kc (1 + 2 + 1 + m) = (1, 9, 0) ∧ Kc (77 + 2 + 1 + m) = (1, 9, 0) := by decide +kernel
  rcases hb with rfl | rfl
  · exact (h m hm).1
  · exact (h m hm).2
theorem Kc_p {b p : Nat} (hb : b = 1 ∨ b = 77) (hp : p < 8) : Kc (b + 19 + 1 + p) = (1, 3, 0) := by
  have h : ∀ m, m < 8 → Kc (1 + 19 + 1 + m) = (1, 3, 0) ∧ Kc (77 + 19 + 1 + m) = (1, 3, 0) := by decide +kernel
  rcases hb with rfl | rfl
  · exact (h p hp).1
  · exact (h p hp).2
theorem Kc_q {b q : Nat} (hb : b = 1 ∨ b = 77) (hq : q < 8) : Kc (b + 1 + 27 + 6 * q) = (5, b + 1 + 27 + 6 * q + 1, 0) ∧ Kc (b + 1 + 27 + 6 * q + 1) = (3, b + 1 + 27 + 6 * q + 1, 4) ∧ ∀ k, k < 4 → Kc (b + 1 + 27 + 6 * q + 1 + 1 + k) = (1, 3, 0) := by
  have h : ∀ q, q < 8 → (Kc (1 + 1 + 27 + 6 * q) = (5, 1 + 1 + 27 + 6 * q + 1, 0) ∧ Kc (1 + 1 + 27 + 6 * q + 1) = (3, 1 + 1 + 27 + 6 * q + 1, 4) ∧ ∀ k, k < 4 → Kc (1 + 1 + 27 + 6 * q + 1 + 1 + k) = (1, 3, 0)) ∧ (Kc (77 + 1 + 27 + 6 * q) = (5, 77 + 1 + 27 + 6 * q + 1, 0) ∧ Kc (77 + 1 + 27 + 6 * q + 1) = (3, 77 + 1 + 27 + 6 * q + 1, 4) ∧ ∀ k, k < 4 → Kc (77 + 1 + 27 + 6 * q + 1 + 1 + k) = (1, 3, 0)) := by decide +kernel
  rcases hb with rfl | rfl
  · exact (h q hq).1
  · exact (h q hq).2
theorem I.cm {w : pW} (h : I w) : ∃ b, (b = 1 ∨ b = 77) ∧ w.2 0 = .inr (8, [.ref b, .ref (78 - b), .ref 153, .ref 164, .ref 169, .ref 155, .ref 189, .ref 447, .ref 449, .ref 450, .ref 451, .ref 452, .ref 453, .ref 454, .ref 455, .ref 456, .ref 457, .ref 466]) := by
  have := h.2.2 0 (by decide)
  rw [show Kc 0 = (7, 0, 0) by decide +kernel] at this
  exact this
theorem I.pl {w : pW} {b : Nat} (h : I w) (hb : b = 1 ∨ b = 77) : ∃ l q m p : Nat, w.2 b = .inr (1, [.ref (b + 1), .ref (b + 2), .ref (b + 19), .int (nI l), .int (nI q), .int (nI m), .int (nI p)]) ∧ l ≤ 900 ∧ q ≤ 8 ∧ m ≤ 16 ∧ p ≤ 8 := by
  have := h.2.2 b (by omega)
  rw [(Kc_pl b hb).1] at this
  exact this
theorem I.qs {w : pW} {b : Nat} (h : I w) (hb : b = 1 ∨ b = 77) : w.2 (b + 1) = .inl (4, 8, refs (pq (b + 1) 8)) := by
  have := h.2.2 (b + 1) (by omega)
  rw [(Kc_pl b hb).2.1] at this
  exact this
theorem I.ms {w : pW} {b : Nat} (h : I w) (hb : b = 1 ∨ b = 77) : w.2 (b + 2) = .inl (3, 16, refs (rows_of (b + 2) 16)) := h.rows (by omega) (Kc_pl b hb).2.2.1
theorem I.ps {w : pW} {b : Nat} (h : I w) (hb : b = 1 ∨ b = 77) : w.2 (b + 19) = .inl (3, 8, refs (rows_of (b + 19) 8)) := h.rows (by omega) (Kc_pl b hb).2.2.2
theorem I.quad {w : pW} {b q : Nat} (h : I w) (hb : b = 1 ∨ b = 77) (hq : q < 8) : w.2 (b + 1 + 27 + 6 * q) = .inr (0, [.ref (b + 1 + 27 + 6 * q + 1)]) := by
  have := h.2.2 (b + 1 + 27 + 6 * q) (by omega)
  rw [(Kc_q hb hq).1] at this
  exact this
/-- a Quad with its corners -/
def QuadS (w : pW) (x : Nat) : Prop := w.2 x = .inr (0, [.ref (x + 1)]) ∧ w.2 (x + 1) = .inl (3, 4, refs (rows_of (x + 1) 4)) ∧ ∀ k, k < 4 → ∃ f : Nat → Int64, w.2 (x + 1 + 1 + k) = .inl (1, 3, .inr (.inl f))
theorem I.quadS {w : pW} {b q : Nat} (h : I w) (hb : b = 1 ∨ b = 77) (hq : q < 8) : QuadS w (b + 1 + 27 + 6 * q) :=
  ⟨h.quad hb hq, h.rows (by omega) (Kc_q hb hq).2.1, fun k hk => h.row (by omega) ((Kc_q hb hq).2.2 k hk)⟩
theorem I.square {w : pW} (h : I w) : QuadS w 158 :=
  ⟨by have := h.2.2 158 (by decide)
      rw [show Kc 158 = (5, 159, 0) by decide +kernel] at this
      exact this, h.rows (by decide) (by decide +kernel), fun k hk => h.row (by omega) (by
      have h4 : ∀ k, k < 4 → Kc (158 + 1 + 1 + k) = (1, 3, 0) := by decide +kernel
      exact h4 k hk)⟩
theorem rows_at {c n i : Nat} (h : i < n) : rows_of c n i = some (c + 1 + i) := if_pos h
theorem pq_at {c i : Nat} (h : i < 8) : pq c 8 i = some (c + 27 + 6 * i) := if_pos h
