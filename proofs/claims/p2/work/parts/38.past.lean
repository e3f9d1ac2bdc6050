/-! what can be undone: no more POINTS told than there are -/
def SA (i : Nat) : Bool := decide (i < 467 ∧ i ≠ 153 ∧ i ≠ 154)
theorem SA_f {i : Nat} (h : ¬ (i < 467 ∧ i ≠ 153 ∧ i ≠ 154)) : SA i = false := decide_eq_false h
theorem SA_t {i : Nat} (h : i < 467 ∧ i ≠ 153 ∧ i ≠ 154) : SA i = true := decide_eq_true h
theorem Fr.up {w u : pW} (h : Fr SC w u) : Fr SA w u := by
  refine ⟨h.1, fun i hi => h.2 i ?_⟩
  apply SC_f
  intro q
  rw [SA_t (by omega)] at hi
  cases hi
def tolds (f : Nat → Int32) (el : Nat) : Nat → Nat
  | 0 => 0
  | n + 1 => tolds f el n + (if f ((el + n) % 16) = 2 then 1 else 0)
theorem tolds_upd {f : Nat → Int32} {el pl : Nat} {d : Int32} : ∀ n, (∀ i, i < n → (el + i) % 16 ≠ pl) → tolds (upd f pl d) el n = tolds f el n
  | 0, _ => rfl
  | n + 1, h => by
    unfold tolds
    rw [tolds_upd n (fun i hi => h i (by omega))]
    have h1 : upd f pl d ((el + n) % 16) = f ((el + n) % 16) := if_neg (h n (by omega))
    rw [h1]
theorem tolds_sh {f : Nat → Int32} {el : Nat} : ∀ n, tolds f el (n + 1) = (if f (el % 16) = 2 then 1 else 0) + tolds f ((el + 1) % 16) n
  | 0 => by
    unfold tolds tolds
    rw [Nat.zero_add, Nat.add_zero]
    rfl
  | n + 1 => by
    rw [show tolds f el (n + 1 + 1) = tolds f el (n + 1) + (if f ((el + (n + 1)) % 16) = 2 then 1 else 0) from rfl, tolds_sh n]
    rw [show tolds f ((el + 1) % 16) (n + 1) = tolds f ((el + 1) % 16) n + (if f (((el + 1) % 16 + n) % 16) = 2 then 1 else 0) from rfl]
    rw [show ((el + 1) % 16 + n) % 16 = (el + (n + 1)) % 16 by omega]
    omega
/-- the latest deed's place, and the ring behind it -/
def pEl (el ct : Nat) : Nat := if ct = 16 then (el + 1) % 16 else el
def pCt (ct : Nat) : Nat := if ct = 16 then 16 else ct + 1
def pPl (el ct : Nat) : Nat := (pEl el ct + pCt ct - 1) % 16
theorem pPl_lt (el ct : Nat) : pPl el ct < 16 := Nat.mod_lt _ (by decide)
theorem pEl_le {el ct : Nat} (h : el ≤ 15) : pEl el ct ≤ 15 := by
  unfold pEl
  split <;> omega
theorem pCt_le {ct : Nat} (h : ct ≤ 16) : pCt ct ≤ 16 := by
  unfold pCt
  split <;> omega
theorem tolds_next {f : Nat → Int32} {el ct : Nat} {d : Int32} (he : el ≤ 15) (hc : ct ≤ 16) : tolds (upd f (pPl el ct) d) (pEl el ct) (pCt ct) ≤ tolds f el ct + (if d = 2 then 1 else 0) := by
  have hu : ∀ p, upd f p d p = d := fun p => if_pos rfl
  by_cases h : ct = 16
  · subst h
    have e1 : pEl el 16 = (el + 1) % 16 := if_pos rfl
    have e2 : pCt 16 = 15 + 1 := rfl
    have e3 : pPl el 16 = el := by unfold pPl; rw [e1, e2]; omega
    rw [e1, e2, e3]
    rw [show tolds (upd f el d) ((el + 1) % 16) (15 + 1) = tolds (upd f el d) ((el + 1) % 16) 15 + (if upd f el d (((el + 1) % 16 + 15) % 16) = 2 then 1 else 0) from rfl]
    rw [show ((el + 1) % 16 + 15) % 16 = el by omega, hu, tolds_upd 15 (fun i hi => by omega), tolds_sh 15]
    omega
  · have e1 : pEl el ct = el := if_neg h
    have e2 : pCt ct = ct + 1 := if_neg h
    have e3 : pPl el ct = (el + ct) % 16 := by unfold pPl; rw [e1, e2]; congr 1
    rw [e1, e2, e3]
    rw [show tolds (upd f ((el + ct) % 16) d) el (ct + 1) = tolds (upd f ((el + ct) % 16) d) el ct + (if upd f ((el + ct) % 16) d ((el + ct) % 16) = 2 then 1 else 0) from rfl, hu, tolds_upd ct (fun i hi => by omega)]
    exact Nat.le_refl _
abbrev cmE (b : Nat) : pE := .inr (8, [.ref b, .ref (78 - b), .ref 153, .ref 164, .ref 169, .ref 155, .ref 189, .ref 447, .ref 449, .ref 450, .ref 451, .ref 452, .ref 453, .ref 454, .ref 455, .ref 456, .ref 457, .ref 466])
abbrev plE (b l q m p : Nat) : pE := .inr (1, [.ref (b + 1), .ref (b + 2), .ref (b + 19), .int (nI l), .int (nI q), .int (nI m), .int (nI p)])
abbrev paE (el ct : Nat) : pE := .inr (5, [.ref 170, .ref 171, .ref 172, .int (nI el), .int (nI ct)])
def J (w : pW) : Prop := ∀ (b l q m p el ct : Nat) (f : Nat → Int32), w.2 0 = cmE b → w.2 b = plE b l q m p → p ≤ 8 → w.2 169 = paE el ct → el ≤ 15 → ct ≤ 16 → w.2 170 = .inl (0, 16, .inl f) → tolds f el ct ≤ p
theorem J.mk {u : pW} {b l q m p el ct : Nat} {f : Nat → Int32} (e0 : u.2 0 = cmE b) (eb : u.2 b = plE b l q m p) (hp : p ≤ 8) (ep : u.2 169 = paE el ct) (he : el ≤ 15) (hc : ct ≤ 16) (ed : u.2 170 = .inl (0, 16, .inl f)) (h : tolds f el ct ≤ p) : J u := by
  intro b1 l1 q1 m1 p1 el1 ct1 f1 k0 kb hp1 kp he1 hc1 kd
  rw [e0] at k0
  simp only [cmE, Sum.inr.injEq, Prod.mk.injEq, true_and, List.cons.injEq, Value.ref.injEq, and_true] at k0
  obtain ⟨rfl, -⟩ := k0
  rw [eb] at kb
  simp only [plE, Sum.inr.injEq, Prod.mk.injEq, true_and, List.cons.injEq, Value.int.injEq, and_true] at kb
  obtain ⟨-, -, -, k4⟩ := kb
  rw [ep] at kp
  simp only [paE, Sum.inr.injEq, Prod.mk.injEq, true_and, List.cons.injEq, Value.int.injEq, and_true] at kp
  obtain ⟨k5, k6⟩ := kp
  rw [ed] at kd
  simp only [Sum.inl.injEq, Prod.mk.injEq, true_and] at kd
  subst kd
  rw [← (nI_eq (by omega) (by omega)).mp k4, ← (nI_eq (by omega) (by omega)).mp k5, ← (nI_eq (by omega) (by omega)).mp k6]
  exact h
theorem J.fr {w u : pW} (h : J w) (hI : I w) (hF : Fr SC w u) : J u := by
  obtain ⟨b, hb, e0⟩ := hI.cm
  obtain ⟨hb1, hb2⟩ := pl_rng hb
  obtain ⟨l, q, m, p, eb, hl, hq, hm, hp⟩ := hI.pl hb
  obtain ⟨el, ct, he, hc, ep⟩ := hI.past
  obtain ⟨f, ed⟩ := hI.ints (r := 170) (by decide) kc_170
  exact J.mk ((hF.2 _ (SC_f (by omega))).trans e0) ((hF.2 _ (SC_f (by omega))).trans eb) hp ((hF.2 _ (SC_f (by omega))).trans ep) he hc ((hF.2 _ (SC_f (by omega))).trans ed) (h b l q m p el ct f e0 eb hp ep he hc ed)
theorem I.setP {w u : pW} {b l q m p : Nat} (h : I w) (hb : b = 1 ∨ b = 77) (k : u = (w.1, wu w.2 b (plE b l q m p))) (h1 : l ≤ 900) (h2 : q ≤ 8) (h3 : m ≤ 16) (h4 : p ≤ 8) : I u :=
  h.set k (fun _ => by rw [(Kc_pl b hb).1]; exact ⟨l, q, m, p, rfl, h1, h2, h3, h4⟩)
theorem I.setPa {w u : pW} {el ct : Nat} (h : I w) (k : u = (w.1, wu w.2 169 (paE el ct))) (h1 : el ≤ 15) (h2 : ct ≤ 16) : I u :=
  h.set k (fun _ => by rw [kc_169]; exact ⟨el, ct, h1, h2, rfl⟩)
def SP (i : Nat) : Bool := decide (169 ≤ i ∧ i < 189)
theorem SP_f {i : Nat} (h : ¬ (169 ≤ i ∧ i < 189)) : SP i = false := decide_eq_false h
theorem SP_t {i : Nat} (h : 169 ≤ i ∧ i < 189) : SP i = true := decide_eq_true h
def SQ (b i : Nat) : Bool := decide (b ≤ i ∧ i < b + 76)
theorem SQ_f {b i : Nat} (h : ¬ (b ≤ i ∧ i < b + 76)) : SQ b i = false := decide_eq_false h
theorem SQ_t {b i : Nat} (h : b ≤ i ∧ i < b + 76) : SQ b i = true := decide_eq_true h
theorem Fr.pa {w u : pW} (h : Fr SP w u) : Fr SA w u := by
  refine ⟨h.1, fun i hi => h.2 i ?_⟩
  apply SP_f
  intro q
  rw [SA_t (by omega)] at hi
  cases hi
theorem Fr.pb {w u : pW} {b : Nat} (hb2 : 1 ≤ b ∧ b ≤ 77) (h : Fr (SQ b) w u) : Fr SA w u := by
  refine ⟨h.1, fun i hi => h.2 i ?_⟩
  apply SQ_f
  intro q
  rw [SA_t (by omega)] at hi
  cases hi
theorem tolds_d {f : Nat → Int32} {el ct p : Nat} {d : Int32} (he : el ≤ 15) (hc : ct ≤ 16) (hd : ¬ d = 2) (h : tolds f el ct ≤ p) : tolds (upd f (pPl el ct) d) (pEl el ct) (pCt ct) ≤ p := by
  have := tolds_next (f := f) (d := d) he hc
  rw [if_neg hd] at this
  omega
theorem tolds_t {f : Nat → Int32} {el ct p : Nat} (he : el ≤ 15) (hc : ct ≤ 16) (h : tolds f el ct ≤ p) : tolds (upd f (pPl el ct) 2) (pEl el ct) (pCt ct) ≤ p + 1 := by
  have := tolds_next (f := f) (d := 2) he hc
  rw [if_pos rfl] at this
  omega
theorem nI_of_lt {n : Nat} {x M : Int32} (h1 : ¬ x < 0) (h2 : x < M) (hM : M.toInt = (n : Int)) : ∃ j, j < n ∧ x = nI j := nI_of_ge h1 (Int32.not_le.mpr h2) hM
theorem tolds_pop {f : Nat → Int32} {el ct p : Nat} (hc : ct ≠ 0) (h : tolds f el ct ≤ p) : tolds f el (ct - 1) + (if f ((el + (ct - 1)) % 16) = 2 then 1 else 0) ≤ p := by
  obtain ⟨n, rfl⟩ : ∃ n, ct = n + 1 := ⟨ct - 1, by omega⟩
  exact h
theorem tolds_pos {f : Nat → Int32} {el ct p : Nat} (hc : ct ≠ 0) (h : tolds f el ct ≤ p) (t : f ((el + (ct - 1)) % 16) = 2) : 1 ≤ p ∧ tolds f el (ct - 1) ≤ p - 1 := by
  have := tolds_pop hc h
  rw [if_pos t] at this
  omega
theorem nI_dn2 {m j : Nat} (h : j < m) : nI (m - j) + -1 = nI (m - (j + 1)) := by
  rw [show m - j = (m - (j + 1)) + 1 by omega]
  exact nI_dn _
