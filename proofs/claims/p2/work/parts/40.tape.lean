/-! the tape -/
def ST (i : Nat) : Bool := decide (i = 153 ∨ i = 154)
theorem ST_f {i : Nat} (h : ¬ (i = 153 ∨ i = 154)) : ST i = false := decide_eq_false h
theorem ST_t {i : Nat} (h : i = 153 ∨ i = 154) : ST i = true := decide_eq_true h
def SF (i : Nat) : Bool := decide (i = 467 ∨ i = 468)
theorem SF_f {i : Nat} (h : ¬ (i = 467 ∨ i = 468)) : SF i = false := decide_eq_false h
theorem SF_t {i : Nat} (h : i = 467 ∨ i = 468) : SF i = true := decide_eq_true h
abbrev tpE (l : Nat) : pE := .inr (2, [.ref 154, .int (nI l)])
theorem I.setT {w u : pW} {l : Nat} (h : I w) (k : u = (w.1, wu w.2 153 (tpE l))) (h1 : l ≤ 900) : I u :=
  h.set k (fun _ => by rw [kc_153]; exact ⟨l, h1, rfl⟩)
/-- how long the tape is behind feed, and what feed answers -/
def fdL (l : Nat) : Nat := if l + 20 ≤ 900 then l + 20 else l
def fdR (l : Nat) : Int32 := if l + 20 ≤ 900 then nI (l + 20) else -1
theorem fdL_t {l : Nat} (h : l + 20 ≤ 900) : fdL l = l + 20 := if_pos h
theorem fdL_f {l : Nat} (h : ¬ l + 20 ≤ 900) : fdL l = l := if_neg h
theorem fdR_t {l : Nat} (h : l + 20 ≤ 900) : fdR l = nI (l + 20) := if_pos h
theorem fdR_f {l : Nat} (h : ¬ l + 20 ≤ 900) : fdR l = -1 := if_neg h
