/-! the products, words, generated MAPS -/
abbrev prE (wd ct : Int32) : pE := .inr (6, [.ref 190, .int wd, .int ct])
theorem I.setPr {w u : pW} {wd ct : Int32} (h : I w) (k : u = (w.1, wu w.2 189 (prE wd ct))) : I u :=
  h.set k (fun _ => by rw [kc_189]; exact ⟨wd, ct, rfl⟩)
def SW (i : Nat) : Bool := decide ((155 ≤ i ∧ i < 164) ∨ (189 ≤ i ∧ i < 467))
theorem SW_f {i : Nat} (h : ¬ ((155 ≤ i ∧ i < 164) ∨ (189 ≤ i ∧ i < 467))) : SW i = false := decide_eq_false h
theorem SW_t {i : Nat} (h : (155 ≤ i ∧ i < 164) ∨ (189 ≤ i ∧ i < 467)) : SW i = true := decide_eq_true h
def SPr (i : Nat) : Bool := decide (189 ≤ i ∧ i < 447)
theorem SPr_f {i : Nat} (h : ¬ (189 ≤ i ∧ i < 447)) : SPr i = false := decide_eq_false h
theorem SPr_t {i : Nat} (h : 189 ≤ i ∧ i < 447) : SPr i = true := decide_eq_true h
theorem Fr.cw {w u : pW} (h : Fr SC w u) : Fr SW w u := h.mono (fun i hi => SW_t (by have := of_decide_eq_true hi; omega))
theorem Fr.pw {w u : pW} (h : Fr SPr w u) : Fr SW w u := h.mono (fun i hi => SW_t (by have := of_decide_eq_true hi; omega))
theorem Fr.wa {w u : pW} (h : Fr SW w u) : Fr SA w u := h.mono (fun i hi => SA_t (by have := of_decide_eq_true hi; omega))
theorem sq_at {m a c : Nat} (hm : m ≤ 16) (ha : a < m) (hc : c < m) : m * a + c < 256 := by
  have h1 : m * (a + 1) ≤ m * m := Nat.mul_le_mul_left m ha
  have h2 : m * m ≤ 16 * 16 := Nat.mul_le_mul hm hm
  rw [Nat.mul_add] at h1
  omega
theorem sq_le {m : Nat} (hm : m ≤ 16) : m * m ≤ 256 := Nat.mul_le_mul hm hm
theorem nI_of3 {x : Int32} {n : Nat} (h1 : ¬ x < -1) (h2 : ¬ x = -1) (h3 : x < nI n) (hn : n ≤ 3) : ∃ k, k < n ∧ x = nI k := by
  have h0 : ¬ x < 0 := by
    intro q
    rw [Int32.lt_iff_toInt_lt] at q h1
    apply h2
    rw [← Int32.toInt_inj]
    have e1 : (-1 : Int32).toInt = -1 := by decide
    have e0 : (0 : Int32).toInt = 0 := by decide
    rw [e1] at h1
    rw [e0] at q
    rw [e1]
    omega
  obtain ⟨k, e⟩ := nI_of h0
  rcases e with ⟨_, rfl⟩
  exact ⟨k, nI_ltt (by omega) (by omega) h3, rfl⟩
theorem s_Pairs_of {G : pG} {w : pW} {wd : Nat} {ct : Int32} (ep : w.2 189 = prE (nI wd) ct) (e190 : w.2 190 = .inl (3, 256, refs (rows_of 190 256))) (a : Nat) (ha : a < 16) (c : Nat) (hc : c < 16) (hw : wd ≤ 16) (haw : a < wd) (hcw : c < wd) : PM G M_Pairs_of 0 0 0 [.ref 189, .int (nI a), .int (nI c)] w (fun r w' => r = some (.ref (190 + 1 + (wd * a + c))) ∧ w' = w) := by
  refine PM_of pn_Pairs_of (le_b rfl) ?_
  show PW _ _ _ _ _ _ (0, [(0, .ref 189), (1, .int (nI a)), (2, .int (nI c))], [], w)
  have hsq := sq_at hw haw hcw
  refine P_aload_n d_Pairs_of_0 rfl ?_
  refine P_getf (i := 0) d_Pairs_of_1 ok_Pairs (by decide) L_Pairs_11 ep rfl ?_
  refine P_aload_n d_Pairs_of_4 rfl ?_
  refine P_getf (i := 1) d_Pairs_of_5 ok_Pairs (by decide) L_Pairs_22 ep rfl ?_
  refine P_iload_n d_Pairs_of_8 rfl ?_
  refine P_imulN (a := wd) (b := a) d_Pairs_of_9 ?_
  show PW _ _ _ _ _ _ (10, [(0, .ref 189), (1, .int (nI a)), (2, .int (nI c))], [.int (nI (wd * a)), .ref 190], w)
  refine P_iload_n d_Pairs_of_10 rfl ?_
  refine P_iaddN (a := (wd * a)) (b := c) d_Pairs_of_11 ?_
  show PW _ _ _ _ _ _ (12, [(0, .ref 189), (1, .int (nI a)), (2, .int (nI c))], [.int (nI ((wd * a) + c)), .ref 190], w)
  refine P_aald (j := (wd * a) + c) (q := 190 + 1 + ((wd * a) + c)) d_Pairs_of_12 e190 rfl (ix_nI (by omega)) (by omega) (rows_at (by omega)) ?_
  exact P_aret d_Pairs_of_13 rfl (Or.inr ⟨_, rfl⟩) (le_b rfl) (le_b rfl) ⟨rfl, rfl⟩
theorem s_Pairs_fill {G : pG} {w : pW} (hI : I w) {b : Nat} (hb : b = 1 ∨ b = 77) {lc qc mc pc : Nat} (eb : w.2 b = plE b lc qc mc pc) (hlc : lc ≤ 900) (hqc : qc ≤ 8) (hmc : mc ≤ 16) (hpc : pc ≤ 8) : PM G M_Pairs_fill 4 0 0 [.ref 189, .ref b] w (fun r w' => r = none ∧ I w' ∧ Fr SPr w w' ∧ w'.2 189 = prE (nI mc) (nI (mc * mc))) := by
  refine PM_of pn_Pairs_fill (le_b rfl) ?_
  show PW _ _ _ _ _ _ (0, [(0, .ref 189), (1, .ref b)], [], w)
  obtain ⟨hb1, hb2⟩ := pl_rng hb
  obtain ⟨wd, ct, e9⟩ := hI.prs
  refine P_aload_n d_Pairs_fill_0 rfl ?_
  refine P_aload_n d_Pairs_fill_1 rfl ?_
  refine P_getfN (i := 5) d_Pairs_fill_2 ok_Plane (by decide) L_Pairs_16 eb rfl ?_
  refine P_putG (i := 1) d_Pairs_fill_5 ok_Pairs (by decide) rfl L_Pairs_22 e9 (fun _ => rfl) (fun _ => rfl) (fun w1 e1 s1 n1 z1 => ?_)
  have hI1 : I w1 := hI.setPr (show w1 = (_, wu _ 189 (prE (nI mc) ct)) from e1)
  have hF1 : Fr SPr w w1 := Fr.set Fr.rf e1 (SPr_t (by omega))
  show PW _ _ _ _ _ _ (8, [(0, .ref 189), (1, .ref b)], [], w1)
  refine P_aload_n d_Pairs_fill_8 rfl ?_
  refine P_aload_n d_Pairs_fill_9 rfl ?_
  refine P_getf (i := 1) d_Pairs_fill_10 ok_Pairs (by decide) L_Pairs_22 s1 rfl ?_
  refine P_aload_n d_Pairs_fill_13 rfl ?_
  refine P_getf (i := 1) d_Pairs_fill_14 ok_Pairs (by decide) L_Pairs_22 s1 rfl ?_
  refine P_imulN (a := mc) (b := mc) d_Pairs_fill_17 ?_
  show PW _ _ _ _ _ _ (18, [(0, .ref 189), (1, .ref b)], [.int (nI (mc * mc)), .ref 189], w1)
  refine P_putG (i := 2) d_Pairs_fill_18 ok_Pairs (by decide) rfl L_Pairs_25 s1 (fun _ => rfl) (fun _ => rfl) (fun w2 e2 s2 n2 z2 => ?_)
  have hI2 : I w2 := hI1.setPr (show w2 = (_, wu _ 189 (prE (nI mc) (nI (mc * mc)))) from e2)
  have hF2 : Fr SPr w w2 := Fr.set hF1 e2 (SPr_t (by omega))
  show PW _ _ _ _ _ _ (21, [(0, .ref 189), (1, .ref b)], [], w2)
  refine P_iconst (v := 0) d_Pairs_fill_21 (by decide) ?_
  refine P_istore_n d_Pairs_fill_22 (by decide) rfl ?_
  refine PW_ind (σ := pW) (mc) (fun jj ss => I (ss) ∧ Fr SPr w (ss) ∧ (ss).2 189 = .inr (6, [.ref 190, .int (nI mc), .int (nI (mc * mc))])) (fun jj ss => (23, [(0, .ref 189), (1, .ref b), (2, .int (nI jj))], [], ss)) ?_ ?_ 0 (w2) (by omega) ⟨hI2, hF2, s2⟩
  · rintro uj3 ⟨hIj3, hFj3, kj3_0⟩
    show PW _ _ _ _ _ _ (23, [(0, .ref 189), (1, .ref b), (2, .int (nI mc))], [], uj3)
    refine P_iload_n d_Pairs_fill_23 rfl ?_
    refine P_aload_n d_Pairs_fill_24 rfl ?_
    refine P_getf (i := 1) d_Pairs_fill_25 ok_Pairs (by decide) L_Pairs_22 kj3_0 rfl ?_
    refine P_icmp_ge 81 d_Pairs_fill_28 (by decide) (fun _ => ?_) (fun h => absurd (Int32.le_refl _) h)
    exact P_vret d_Pairs_fill_81 rfl (le_b rfl) (le_b rfl) ⟨rfl, hIj3, hFj3, kj3_0⟩
  · rintro j3 uj3 hj3 ⟨hIj3, hFj3, kj3_0⟩ kkj3
    show PW _ _ _ _ _ _ (23, [(0, .ref 189), (1, .ref b), (2, .int (nI j3))], [], uj3)
    refine P_iload_n d_Pairs_fill_23 rfl ?_
    refine P_aload_n d_Pairs_fill_24 rfl ?_
    refine P_getf (i := 1) d_Pairs_fill_25 ok_Pairs (by decide) L_Pairs_22 kj3_0 rfl ?_
    refine P_icmp_ge 81 d_Pairs_fill_28 (by decide) (fun h => absurd h (nI_geF (a := j3) (b := mc) (by omega) (by omega))) (fun _ => ?_)
    refine P_iconst (v := 0) d_Pairs_fill_31 (by decide) ?_
    refine P_istore_n d_Pairs_fill_32 (by decide) rfl ?_
    refine PW_ind (σ := pW) (mc) (fun jj ss => I (ss) ∧ Fr SPr w (ss) ∧ (ss).2 189 = .inr (6, [.ref 190, .int (nI mc), .int (nI (mc * mc))])) (fun jj ss => (33, [(0, .ref 189), (1, .ref b), (2, .int (nI j3)), (3, .int (nI jj))], [], ss)) ?_ ?_ 0 (uj3) (by omega) ⟨hIj3, hFj3, kj3_0⟩
    · rintro uj4 ⟨hIj4, hFj4, kj4_0⟩
      show PW _ _ _ _ _ _ (33, [(0, .ref 189), (1, .ref b), (2, .int (nI j3)), (3, .int (nI mc))], [], uj4)
      refine P_iload_n d_Pairs_fill_33 rfl ?_
      refine P_aload_n d_Pairs_fill_34 rfl ?_
      refine P_getf (i := 1) d_Pairs_fill_35 ok_Pairs (by decide) L_Pairs_22 kj4_0 rfl ?_
      refine P_icmp_ge 75 d_Pairs_fill_38 (by decide) (fun _ => ?_) (fun h => absurd (Int32.le_refl _) h)
      refine P_iinc (v := nI (j3 + 1)) d_Pairs_fill_75 (by decide) rfl (nI_add j3 1) rfl ?_
      refine P_goto 23 d_Pairs_fill_78 (by decide) ?_
      show PW _ _ _ _ _ _ (23, [(0, .ref 189), (1, .ref b), (2, .int (nI (j3 + 1))), (3, .int (nI mc))], [], uj4)
      refine PW.drop (lv' := [(0, .ref 189), (1, .ref b), (2, .int (nI (j3 + 1)))]) (by simp) ?_
      exact kkj3 (uj4) ⟨hIj4, hFj4, kj4_0⟩
    · rintro j4 uj4 hj4 ⟨hIj4, hFj4, kj4_0⟩ kkj4
      show PW _ _ _ _ _ _ (33, [(0, .ref 189), (1, .ref b), (2, .int (nI j3)), (3, .int (nI j4))], [], uj4)
      refine P_iload_n d_Pairs_fill_33 rfl ?_
      refine P_aload_n d_Pairs_fill_34 rfl ?_
      refine P_getf (i := 1) d_Pairs_fill_35 ok_Pairs (by decide) L_Pairs_22 kj4_0 rfl ?_
      refine P_icmp_ge 75 d_Pairs_fill_38 (by decide) (fun h => absurd h (nI_geF (a := j4) (b := mc) (by omega) (by omega))) (fun _ => ?_)
      refine P_aload_n d_Pairs_fill_41 rfl ?_
      refine P_getfN (i := 1) d_Pairs_fill_42 ok_Plane (by decide) L_Pairs_28 ((hFj4.2 _ (SPr_f (by omega))).trans eb) rfl ?_
      refine P_iload_n d_Pairs_fill_45 rfl ?_
      refine P_aald (j := j3) (q := b + 2 + 1 + j3) d_Pairs_fill_46 (hIj4.ms hb) rfl (ix_nI (by omega)) (by omega) (rows_at (by omega)) ?_
      refine P_aload_n d_Pairs_fill_47 rfl ?_
      refine P_getfN (i := 1) d_Pairs_fill_48 ok_Plane (by decide) L_Pairs_28 ((hFj4.2 _ (SPr_f (by omega))).trans eb) rfl ?_
      refine P_iload_n d_Pairs_fill_51 rfl ?_
      refine P_aald (j := j4) (q := b + 2 + 1 + j4) d_Pairs_fill_52 (hIj4.ms hb) rfl (ix_nI (by omega)) (by omega) (rows_at (by omega)) ?_
      refine P_aload_n d_Pairs_fill_53 rfl ?_
      refine P_getf (i := 0) d_Pairs_fill_54 ok_Pairs (by decide) L_Pairs_11 kj4_0 rfl ?_
      refine P_aload_n d_Pairs_fill_57 rfl ?_
      refine P_getf (i := 1) d_Pairs_fill_58 ok_Pairs (by decide) L_Pairs_22 kj4_0 rfl ?_
      refine P_iload_n d_Pairs_fill_61 rfl ?_
      have hsq5 := sq_at (m := mc) (a := j3) (c := j4) (by omega) (by omega) (by omega)
      refine P_imulN (a := mc) (b := j3) d_Pairs_fill_62 ?_
      show PW _ _ _ _ _ _ (63, [(0, .ref 189), (1, .ref b), (2, .int (nI j3)), (3, .int (nI j4))], [.int (nI (mc * j3)), .ref 190, .ref (b + 2 + 1 + j4), .ref (b + 2 + 1 + j3)], uj4)
      refine P_iload_n d_Pairs_fill_63 rfl ?_
      refine P_iaddN (a := (mc * j3)) (b := j4) d_Pairs_fill_64 ?_
      show PW _ _ _ _ _ _ (65, [(0, .ref 189), (1, .ref b), (2, .int (nI j3)), (3, .int (nI j4))], [.int (nI ((mc * j3) + j4)), .ref 190, .ref (b + 2 + 1 + j4), .ref (b + 2 + 1 + j3)], uj4)
      refine P_aald (j := (mc * j3) + j4) (q := 190 + 1 + ((mc * j3) + j4)) d_Pairs_fill_65 (hIj4.rows (r := 190) (by decide) kc_190) rfl (ix_nI (by omega)) (by omega) (rows_at (by omega)) ?_
      obtain ⟨f6, f6e⟩ := hIj4.row (r := b + 2 + 1 + j3) (by omega) (Kc_m hb (by omega))
      obtain ⟨f7, f7e⟩ := hIj4.row (r := b + 2 + 1 + j4) (by omega) (Kc_m hb (by omega))
      obtain ⟨f8, f8e⟩ := hIj4.row (r := 190 + 1 + ((mc * j3) + j4)) (by omega) (Kc_pr (by omega))
      refine P_callS (M := M_Pairs_fill) (pc := 66) (as := [.ref (b + 2 + 1 + j3), .ref (b + 2 + 1 + j4), .ref (190 + 1 + ((mc * j3) + j4))]) d_Pairs_fill_66 co_Maps_multiply L_Pairs_31 sm_Maps_multiply (s_Maps_multiply f6e f7e f8e (by omega) (by omega) (by omega)) rfl ⟨by decide, by decide⟩ ⟨by decide, by decide⟩ (by exact le_b rfl) ?_ _ rfl
      rintro _ w9 ⟨rfl, g9, e9⟩
      have s9 := w_s e9
      have hI9 : I w9 := hIj4.setL e9 (Kc_pr (by omega))
      have hF9 : Fr SPr w w9 := Fr.set hFj4 e9 (SPr_t (by omega))
      show PW _ _ _ _ _ _ (69, [(0, .ref 189), (1, .ref b), (2, .int (nI j3)), (3, .int (nI j4))], [], w9)
      refine P_iinc (v := nI (j4 + 1)) d_Pairs_fill_69 (by decide) rfl (nI_add j4 1) rfl ?_
      refine P_goto 33 d_Pairs_fill_72 (by decide) ?_
      exact kkj4 (w9) ⟨hI9, hF9, ((w_n e9 _ (by omega)).trans kj4_0)⟩
theorem s_CM_comesTo {G : pG} {w : pW} (hG : GO G) (hI : I w) {b : Nat} (hb : b = 1 ∨ b = 77) (e0 : w.2 0 = cmE b) {lc qc mc pc : Nat} (eb : w.2 b = plE b lc qc mc pc) (hlc : lc ≤ 900) (hqc : qc ≤ 8) (hmc : mc ≤ 16) (hpc : pc ≤ 8) (a : Nat) (ha : a < 16) {u1 : Nat} (hlu1 : u1 < 487) (hku1 : Kc u1 = (1, 9, 0)) {u2 : Nat} (hlu2 : u2 < 487) (hku2 : Kc u2 = (1, 9, 0)) (ha1 : a < mc) (hu : u1 < 449) (hv : u2 < 449) : PM G M_CM_comesTo 3 0 0 [.ref 0, .int (nI a), .ref u1, .ref u2] w (fun r w' => (∃ v, r = some (.int (bi v))) ∧ I w' ∧ Fr SC w w') := by
  refine PM_of pn_CM_comesTo (le_b rfl) ?_
  show PW _ _ _ _ _ _ (0, [(0, .ref 0), (1, .int (nI a)), (2, .ref u1), (3, .ref u2)], [], w)
  obtain ⟨hb1, hb2⟩ := pl_rng hb
  obtain ⟨wd, ct, e9⟩ := hI.prs
  refine P_aload_n d_CM_comesTo_0 rfl ?_
  obtain ⟨f1, f1e⟩ := hI.row (r := u1) (by omega) hku1
  refine P_callS (M := M_CM_comesTo) (pc := 1) (as := [.ref u1]) d_CM_comesTo_1 co_Maps_isLarge L_CM_272 sm_Maps_isLarge (s_Maps_isLarge f1e) rfl ⟨by decide, by decide⟩ ⟨by decide, by decide⟩ (by exact le_b rfl) ?_ _ rfl
  rintro _ u ⟨⟨v2, rfl⟩, eu⟩
  subst u
  show PW _ _ _ _ _ _ (4, [(0, .ref 0), (1, .int (nI a)), (2, .ref u1), (3, .ref u2)], [.int (bi v2)], w)
  refine P_if_eq 9 d_CM_comesTo_4 (by decide) (fun c3 => ?_) (fun c3 => ?_)
  · refine P_aload_n d_CM_comesTo_9 rfl ?_
    refine P_getf (i := 0) d_CM_comesTo_10 ok_CM (by decide) L_CM_12 e0 rfl ?_
    refine P_getfN (i := 1) d_CM_comesTo_13 ok_Plane (by decide) L_CM_157 eb rfl ?_
    refine P_iload_n d_CM_comesTo_16 rfl ?_
    refine P_aald (j := a) (q := b + 2 + 1 + a) d_CM_comesTo_17 (hI.ms hb) rfl (ix_nI (by omega)) (by omega) (rows_at (by omega)) ?_
    refine P_aload_n d_CM_comesTo_18 rfl ?_
    refine P_aload_n d_CM_comesTo_19 rfl ?_
    refine P_getf (i := 8) d_CM_comesTo_20 ok_CM (by decide) L_CM_65 e0 rfl ?_
    obtain ⟨f4, f4e⟩ := hI.row (r := b + 2 + 1 + a) (by omega) (Kc_m hb (by omega))
    obtain ⟨f5, f5e⟩ := hI.row (r := 449) (by decide) kc_449
    refine P_callS (M := M_CM_comesTo) (pc := 23) (as := [.ref (b + 2 + 1 + a), .ref u1, .ref 449]) d_CM_comesTo_23 co_Maps_multiplyRaw L_CM_475 sm_Maps_multiplyRaw (s_Maps_multiplyRaw f4e f1e f5e (by decide) (by omega) (by omega)) rfl ⟨by decide, by decide⟩ ⟨by decide, by decide⟩ (by exact le_b rfl) ?_ _ rfl
    rintro _ w6 ⟨rfl, g6, e6⟩
    have s6 := w_s e6
    have hI6 : I w6 := hI.setL e6 kc_449
    have hF6 : Fr SC w w6 := Fr.set Fr.rf e6 (SC_t (by omega))
    show PW _ _ _ _ _ _ (26, [(0, .ref 0), (1, .int (nI a)), (2, .ref u1), (3, .ref u2)], [], w6)
    refine P_aload_n d_CM_comesTo_26 rfl ?_
    refine P_getf (i := 8) d_CM_comesTo_27 ok_CM (by decide) L_CM_65 ((hF6.2 _ (SC_f (by omega))).trans e0) rfl ?_
    refine P_aload_n d_CM_comesTo_30 rfl ?_
    obtain ⟨f7, f7e⟩ := hI6.row (r := u2) (by omega) hku2
    refine P_callS (M := M_CM_comesTo) (pc := 31) (as := [.ref 449, .ref u2]) d_CM_comesTo_31 co_Rows_isMultiple L_CM_478 sm_Rows_isMultiple (s_Rows_isMultiple (by decide) (by decide) s6 f7e) rfl ⟨by decide, by decide⟩ ⟨by decide, by decide⟩ (by exact le_b rfl) ?_ _ rfl
    rintro _ u ⟨⟨v8, rfl⟩, eu⟩
    subst u
    show PW _ _ _ _ _ _ (34, [(0, .ref 0), (1, .int (nI a)), (2, .ref u1), (3, .ref u2)], [.int (bi v8)], w6)
    exact P_zret d_CM_comesTo_34 rfl (nar_bi _) (le_b rfl) (le_b rfl) ⟨⟨_, rfl⟩, hI6, hF6⟩
  · refine P_iconst (v := 0) d_CM_comesTo_7 (by decide) ?_
    exact P_zret d_CM_comesTo_8 rfl rfl (le_b rfl) (le_b rfl) ⟨⟨false, rfl⟩, hI, Fr.rf⟩
theorem s_CM_findOne {G : pG} {w : pW} (hG : GO G) (hI : I w) {b : Nat} (hb : b = 1 ∨ b = 77) (e0 : w.2 0 = cmE b) {lc qc mc pc : Nat} (eb : w.2 b = plE b lc qc mc pc) (hlc : lc ≤ 900) (hqc : qc ≤ 8) (hmc : mc ≤ 16) (hpc : pc ≤ 8) (m : Nat) (hm : m < 16) (hm1 : m < mc) : PM G M_CM_findOne 1 0 0 [.ref 0, .int (nI m)] w (fun r w' => (∃ v, r = some (.int (bi v))) ∧ I w' ∧ Fr SC w w') := by
  refine PM_of pn_CM_findOne (le_b rfl) ?_
  show PW _ _ _ _ _ _ (0, [(0, .ref 0), (1, .int (nI m))], [], w)
  obtain ⟨hb1, hb2⟩ := pl_rng hb
  obtain ⟨wd, ct, e9⟩ := hI.prs
  refine P_iconst (v := 0) d_CM_findOne_0 (by decide) ?_
  refine P_istore_n d_CM_findOne_1 (by decide) rfl ?_
  refine PW_ind (σ := pW) (mc) (fun jj ss => I (ss) ∧ Fr SC w (ss)) (fun jj ss => (2, [(0, .ref 0), (1, .int (nI m)), (2, .int (nI jj))], [], ss)) ?_ ?_ 0 (w) (by omega) ⟨hI, Fr.rf⟩
  · rintro uj1 ⟨hIj1, hFj1⟩
    show PW _ _ _ _ _ _ (2, [(0, .ref 0), (1, .int (nI m)), (2, .int (nI mc))], [], uj1)
    refine P_iload_n d_CM_findOne_2 rfl ?_
    refine P_aload_n d_CM_findOne_3 rfl ?_
    refine P_getf (i := 0) d_CM_findOne_4 ok_CM (by decide) L_CM_12 ((hFj1.2 _ (SC_f (by omega))).trans e0) rfl ?_
    refine P_getfN (i := 5) d_CM_findOne_7 ok_Plane (by decide) L_CM_225 ((hFj1.2 _ (SC_f (by omega))).trans eb) rfl ?_
    refine P_icmp_ge 57 d_CM_findOne_10 (by decide) (fun _ => ?_) (fun h => absurd (Int32.le_refl _) h)
    refine P_iconst (v := 0) d_CM_findOne_57 (by decide) ?_
    exact P_zret d_CM_findOne_58 rfl rfl (le_b rfl) (le_b rfl) ⟨⟨false, rfl⟩, hIj1, hFj1⟩
  · rintro j1 uj1 hj1 ⟨hIj1, hFj1⟩ kkj1
    show PW _ _ _ _ _ _ (2, [(0, .ref 0), (1, .int (nI m)), (2, .int (nI j1))], [], uj1)
    refine P_iload_n d_CM_findOne_2 rfl ?_
    refine P_aload_n d_CM_findOne_3 rfl ?_
    refine P_getf (i := 0) d_CM_findOne_4 ok_CM (by decide) L_CM_12 ((hFj1.2 _ (SC_f (by omega))).trans e0) rfl ?_
    refine P_getfN (i := 5) d_CM_findOne_7 ok_Plane (by decide) L_CM_225 ((hFj1.2 _ (SC_f (by omega))).trans eb) rfl ?_
    refine P_icmp_ge 57 d_CM_findOne_10 (by decide) (fun h => absurd h (nI_geF (a := j1) (b := mc) (by omega) (by omega))) (fun _ => ?_)
    refine P_iload_n d_CM_findOne_13 rfl ?_
    refine P_iload_n d_CM_findOne_14 rfl ?_
    refine P_icmp_eq 51 d_CM_findOne_15 (by decide) (fun c2 => ?_) (fun c2 => ?_)
    · have ic2 : j1 = m := (nI_eq (by omega) (by omega)).mp c2
      refine P_iinc (v := nI (j1 + 1)) d_CM_findOne_51 (by decide) rfl (nI_add j1 1) rfl ?_
      refine P_goto 2 d_CM_findOne_54 (by decide) ?_
      exact kkj1 (uj1) ⟨hIj1, hFj1⟩
    · have ic2 : j1 ≠ m := fun q => c2 (by rw [q]; try rfl)
      refine P_aload_n d_CM_findOne_18 rfl ?_
      refine P_getf (i := 0) d_CM_findOne_19 ok_CM (by decide) L_CM_12 ((hFj1.2 _ (SC_f (by omega))).trans e0) rfl ?_
      refine P_getfN (i := 1) d_CM_findOne_22 ok_Plane (by decide) L_CM_157 ((hFj1.2 _ (SC_f (by omega))).trans eb) rfl ?_
      refine P_iload_n d_CM_findOne_25 rfl ?_
      refine P_aald (j := j1) (q := b + 2 + 1 + j1) d_CM_findOne_26 (hIj1.ms hb) rfl (ix_nI (by omega)) (by omega) (rows_at (by omega)) ?_
      refine P_aload_n d_CM_findOne_27 rfl ?_
      refine P_getf (i := 0) d_CM_findOne_28 ok_CM (by decide) L_CM_12 ((hFj1.2 _ (SC_f (by omega))).trans e0) rfl ?_
      refine P_getfN (i := 1) d_CM_findOne_31 ok_Plane (by decide) L_CM_157 ((hFj1.2 _ (SC_f (by omega))).trans eb) rfl ?_
      refine P_iload_n d_CM_findOne_34 rfl ?_
      refine P_aald (j := m) (q := b + 2 + 1 + m) d_CM_findOne_35 (hIj1.ms hb) rfl (ix_nI (by omega)) (by omega) (rows_at (by omega)) ?_
      obtain ⟨f3, f3e⟩ := hIj1.row (r := b + 2 + 1 + j1) (by omega) (Kc_m hb (by omega))
      obtain ⟨f4, f4e⟩ := hIj1.row (r := b + 2 + 1 + m) (by omega) (Kc_m hb (by omega))
      refine P_callS (M := M_CM_findOne) (pc := 36) (as := [.ref (b + 2 + 1 + j1), .ref (b + 2 + 1 + m)]) d_CM_findOne_36 co_Rows_alike L_CM_306 sm_Rows_alike (s_Rows_alike (by decide) (by decide) f3e f4e) rfl ⟨by decide, by decide⟩ ⟨by decide, by decide⟩ (by exact le_b rfl) ?_ _ rfl
      rintro _ u ⟨⟨v5, rfl⟩, eu⟩
      subst u
      show PW _ _ _ _ _ _ (39, [(0, .ref 0), (1, .int (nI m)), (2, .int (nI j1))], [.int (bi v5)], uj1)
      refine P_if_eq 51 d_CM_findOne_39 (by decide) (fun c6 => ?_) (fun c6 => ?_)
      · refine P_iinc (v := nI (j1 + 1)) d_CM_findOne_51 (by decide) rfl (nI_add j1 1) rfl ?_
        refine P_goto 2 d_CM_findOne_54 (by decide) ?_
        exact kkj1 (uj1) ⟨hIj1, hFj1⟩
      · refine P_aload_n d_CM_findOne_42 rfl ?_
        refine P_getf (i := 17) d_CM_findOne_43 ok_CM (by decide) L_CM_95 ((hFj1.2 _ (SC_f (by omega))).trans e0) rfl ?_
        refine P_iconst (v := 0) d_CM_findOne_46 (by decide) ?_
        refine P_iload_n d_CM_findOne_47 rfl ?_
        obtain ⟨f7, f7e⟩ := hIj1.ints (r := 466) (by decide) kc_466
        refine P_iastG (j := 0) d_CM_findOne_48 f7e (by decide) ⟨by decide, by decide⟩ (by decide) (fun w8 e8 s8 n8 z8 => ?_)
        generalize upd _ _ _ = g9 at e8 s8
        have hI8 : I w8 := hIj1.setI e8 kc_466
        have hF8 : Fr SC w w8 := Fr.set hFj1 e8 (SC_t (by omega))
        show PW _ _ _ _ _ _ (49, [(0, .ref 0), (1, .int (nI m)), (2, .int (nI j1))], [], w8)
        refine P_iconst (v := 1) d_CM_findOne_49 (by decide) ?_
        exact P_zret d_CM_findOne_50 rfl rfl (le_b rfl) (le_b rfl) ⟨⟨true, rfl⟩, hI8, hF8⟩
theorem s_CM_findTwo {G : pG} {w : pW} (hG : GO G) (hI : I w) {b : Nat} (hb : b = 1 ∨ b = 77) (e0 : w.2 0 = cmE b) {lc qc mc pc : Nat} (eb : w.2 b = plE b lc qc mc pc) (hlc : lc ≤ 900) (hqc : qc ≤ 8) (hmc : mc ≤ 16) (hpc : pc ≤ 8) {ct : Int32} (e9 : w.2 189 = prE (nI mc) ct) (m : Nat) (hm : m < 16) (hm1 : m < mc) : PM G M_CM_findTwo 1 0 0 [.ref 0, .int (nI m)] w (fun r w' => (∃ v, r = some (.int (bi v))) ∧ I w' ∧ Fr SC w w') := by
  refine PM_of pn_CM_findTwo (le_b rfl) ?_
  show PW _ _ _ _ _ _ (0, [(0, .ref 0), (1, .int (nI m))], [], w)
  obtain ⟨hb1, hb2⟩ := pl_rng hb
  refine P_iconst (v := 0) d_CM_findTwo_0 (by decide) ?_
  refine P_istore_n d_CM_findTwo_1 (by decide) rfl ?_
  refine PW_ind (σ := pW) (mc) (fun jj ss => I (ss) ∧ Fr SC w (ss)) (fun jj ss => (2, [(0, .ref 0), (1, .int (nI m)), (2, .int (nI jj))], [], ss)) ?_ ?_ 0 (w) (by omega) ⟨hI, Fr.rf⟩
  · rintro uj1 ⟨hIj1, hFj1⟩
    show PW _ _ _ _ _ _ (2, [(0, .ref 0), (1, .int (nI m)), (2, .int (nI mc))], [], uj1)
    refine P_iload_n d_CM_findTwo_2 rfl ?_
    refine P_aload_n d_CM_findTwo_3 rfl ?_
    refine P_getf (i := 0) d_CM_findTwo_4 ok_CM (by decide) L_CM_12 ((hFj1.2 _ (SC_f (by omega))).trans e0) rfl ?_
    refine P_getfN (i := 5) d_CM_findTwo_7 ok_Plane (by decide) L_CM_225 ((hFj1.2 _ (SC_f (by omega))).trans eb) rfl ?_
    refine P_icmp_ge 88 d_CM_findTwo_10 (by decide) (fun _ => ?_) (fun h => absurd (Int32.le_refl _) h)
    refine P_iconst (v := 0) d_CM_findTwo_88 (by decide) ?_
    exact P_zret d_CM_findTwo_89 rfl rfl (le_b rfl) (le_b rfl) ⟨⟨false, rfl⟩, hIj1, hFj1⟩
  · rintro j1 uj1 hj1 ⟨hIj1, hFj1⟩ kkj1
    show PW _ _ _ _ _ _ (2, [(0, .ref 0), (1, .int (nI m)), (2, .int (nI j1))], [], uj1)
    refine P_iload_n d_CM_findTwo_2 rfl ?_
    refine P_aload_n d_CM_findTwo_3 rfl ?_
    refine P_getf (i := 0) d_CM_findTwo_4 ok_CM (by decide) L_CM_12 ((hFj1.2 _ (SC_f (by omega))).trans e0) rfl ?_
    refine P_getfN (i := 5) d_CM_findTwo_7 ok_Plane (by decide) L_CM_225 ((hFj1.2 _ (SC_f (by omega))).trans eb) rfl ?_
    refine P_icmp_ge 88 d_CM_findTwo_10 (by decide) (fun h => absurd h (nI_geF (a := j1) (b := mc) (by omega) (by omega))) (fun _ => ?_)
    refine P_iconst (v := 0) d_CM_findTwo_13 (by decide) ?_
    refine P_istore_n d_CM_findTwo_14 (by decide) rfl ?_
    refine PW_ind (σ := pW) (mc) (fun jj ss => I (ss) ∧ Fr SC w (ss)) (fun jj ss => (15, [(0, .ref 0), (1, .int (nI m)), (2, .int (nI j1)), (3, .int (nI jj))], [], ss)) ?_ ?_ 0 (uj1) (by omega) ⟨hIj1, hFj1⟩
    · rintro uj2 ⟨hIj2, hFj2⟩
      show PW _ _ _ _ _ _ (15, [(0, .ref 0), (1, .int (nI m)), (2, .int (nI j1)), (3, .int (nI mc))], [], uj2)
      refine P_iload_n d_CM_findTwo_15 rfl ?_
      refine P_aload_n d_CM_findTwo_16 rfl ?_
      refine P_getf (i := 0) d_CM_findTwo_17 ok_CM (by decide) L_CM_12 ((hFj2.2 _ (SC_f (by omega))).trans e0) rfl ?_
      refine P_getfN (i := 5) d_CM_findTwo_20 ok_Plane (by decide) L_CM_225 ((hFj2.2 _ (SC_f (by omega))).trans eb) rfl ?_
      refine P_icmp_ge 82 d_CM_findTwo_23 (by decide) (fun _ => ?_) (fun h => absurd (Int32.le_refl _) h)
      refine P_iinc (v := nI (j1 + 1)) d_CM_findTwo_82 (by decide) rfl (nI_add j1 1) rfl ?_
      refine P_goto 2 d_CM_findTwo_85 (by decide) ?_
      show PW _ _ _ _ _ _ (2, [(0, .ref 0), (1, .int (nI m)), (2, .int (nI (j1 + 1))), (3, .int (nI mc))], [], uj2)
      refine PW.drop (lv' := [(0, .ref 0), (1, .int (nI m)), (2, .int (nI (j1 + 1)))]) (by simp) ?_
      exact kkj1 (uj2) ⟨hIj2, hFj2⟩
    · rintro j2 uj2 hj2 ⟨hIj2, hFj2⟩ kkj2
      show PW _ _ _ _ _ _ (15, [(0, .ref 0), (1, .int (nI m)), (2, .int (nI j1)), (3, .int (nI j2))], [], uj2)
      refine P_iload_n d_CM_findTwo_15 rfl ?_
      refine P_aload_n d_CM_findTwo_16 rfl ?_
      refine P_getf (i := 0) d_CM_findTwo_17 ok_CM (by decide) L_CM_12 ((hFj2.2 _ (SC_f (by omega))).trans e0) rfl ?_
      refine P_getfN (i := 5) d_CM_findTwo_20 ok_Plane (by decide) L_CM_225 ((hFj2.2 _ (SC_f (by omega))).trans eb) rfl ?_
      refine P_icmp_ge 82 d_CM_findTwo_23 (by decide) (fun h => absurd h (nI_geF (a := j2) (b := mc) (by omega) (by omega))) (fun _ => ?_)
      refine P_iload_n d_CM_findTwo_26 rfl ?_
      refine P_iload_n d_CM_findTwo_27 rfl ?_
      refine P_icmp_eq 76 d_CM_findTwo_28 (by decide) (fun c3 => ?_) (fun c3 => ?_)
      · have ic3 : j1 = m := (nI_eq (by omega) (by omega)).mp c3
        refine P_iinc (v := nI (j2 + 1)) d_CM_findTwo_76 (by decide) rfl (nI_add j2 1) rfl ?_
        refine P_goto 15 d_CM_findTwo_79 (by decide) ?_
        exact kkj2 (uj2) ⟨hIj2, hFj2⟩
      · have ic3 : j1 ≠ m := fun q => c3 (by rw [q]; try rfl)
        refine P_iload_n d_CM_findTwo_31 rfl ?_
        refine P_iload_n d_CM_findTwo_32 rfl ?_
        refine P_icmp_eq 76 d_CM_findTwo_33 (by decide) (fun c4 => ?_) (fun c4 => ?_)
        · have ic4 : j2 = m := (nI_eq (by omega) (by omega)).mp c4
          refine P_iinc (v := nI (j2 + 1)) d_CM_findTwo_76 (by decide) rfl (nI_add j2 1) rfl ?_
          refine P_goto 15 d_CM_findTwo_79 (by decide) ?_
          exact kkj2 (uj2) ⟨hIj2, hFj2⟩
        · have ic4 : j2 ≠ m := fun q => c4 (by rw [q]; try rfl)
          refine P_aload_n d_CM_findTwo_36 rfl ?_
          refine P_getf (i := 6) d_CM_findTwo_37 ok_CM (by decide) L_CM_54 ((hFj2.2 _ (SC_f (by omega))).trans e0) rfl ?_
          refine P_iload_n d_CM_findTwo_40 rfl ?_
          refine P_iload_n d_CM_findTwo_41 rfl ?_
          refine P_callV (M := M_CM_findTwo) (pc := 42) (as := [.int (nI j1), .int (nI j2)]) (b := 189) d_CM_findTwo_42 co_Pairs_of ok_Pairs ((hFj2.2 _ (SC_f (by omega))).trans e9) L_CM_467 im_Pairs_of se_Pairs_of (s_Pairs_of ((hFj2.2 _ (SC_f (by omega))).trans e9) (hIj2.rows (r := 190) (by decide) kc_190) j1 (by omega) j2 (by omega) (by omega) (by omega) (by omega)) rfl ⟨by decide, by decide⟩ ⟨by decide, by decide⟩ (by exact le_b rfl) ?_ _ rfl
          rintro _ u ⟨rfl, eu⟩
          subst u
          have hsq5 := sq_at (m := mc) (a := j1) (c := j2) (by omega) (by omega) (by omega)
          show PW _ _ _ _ _ _ (45, [(0, .ref 0), (1, .int (nI m)), (2, .int (nI j1)), (3, .int (nI j2))], [.ref (190 + 1 + (mc * j1 + j2))], uj2)
          refine P_aload_n d_CM_findTwo_45 rfl ?_
          refine P_getf (i := 0) d_CM_findTwo_46 ok_CM (by decide) L_CM_12 ((hFj2.2 _ (SC_f (by omega))).trans e0) rfl ?_
          refine P_getfN (i := 1) d_CM_findTwo_49 ok_Plane (by decide) L_CM_157 ((hFj2.2 _ (SC_f (by omega))).trans eb) rfl ?_
          refine P_iload_n d_CM_findTwo_52 rfl ?_
          refine P_aald (j := m) (q := b + 2 + 1 + m) d_CM_findTwo_53 (hIj2.ms hb) rfl (ix_nI (by omega)) (by omega) (rows_at (by omega)) ?_
          obtain ⟨f6, f6e⟩ := hIj2.row (r := 190 + 1 + (mc * j1 + j2)) (by omega) (Kc_pr (by omega))
          obtain ⟨f7, f7e⟩ := hIj2.row (r := b + 2 + 1 + m) (by omega) (Kc_m hb (by omega))
          refine P_callS (M := M_CM_findTwo) (pc := 54) (as := [.ref (190 + 1 + (mc * j1 + j2)), .ref (b + 2 + 1 + m)]) d_CM_findTwo_54 co_Rows_alike L_CM_306 sm_Rows_alike (s_Rows_alike (by decide) (by decide) f6e f7e) rfl ⟨by decide, by decide⟩ ⟨by decide, by decide⟩ (by exact le_b rfl) ?_ _ rfl
          rintro _ u ⟨⟨v8, rfl⟩, eu⟩
          subst u
          show PW _ _ _ _ _ _ (57, [(0, .ref 0), (1, .int (nI m)), (2, .int (nI j1)), (3, .int (nI j2))], [.int (bi v8)], uj2)
          refine P_if_eq 76 d_CM_findTwo_57 (by decide) (fun c9 => ?_) (fun c9 => ?_)
          · refine P_iinc (v := nI (j2 + 1)) d_CM_findTwo_76 (by decide) rfl (nI_add j2 1) rfl ?_
            refine P_goto 15 d_CM_findTwo_79 (by decide) ?_
            exact kkj2 (uj2) ⟨hIj2, hFj2⟩
          · refine P_aload_n d_CM_findTwo_60 rfl ?_
            refine P_getf (i := 17) d_CM_findTwo_61 ok_CM (by decide) L_CM_95 ((hFj2.2 _ (SC_f (by omega))).trans e0) rfl ?_
            refine P_iconst (v := 0) d_CM_findTwo_64 (by decide) ?_
            refine P_iload_n d_CM_findTwo_65 rfl ?_
            obtain ⟨f10, f10e⟩ := hIj2.ints (r := 466) (by decide) kc_466
            refine P_iastG (j := 0) d_CM_findTwo_66 f10e (by decide) ⟨by decide, by decide⟩ (by decide) (fun w11 e11 s11 n11 z11 => ?_)
            generalize upd _ _ _ = g12 at e11 s11
            have hI11 : I w11 := hIj2.setI e11 kc_466
            have hF11 : Fr SC w w11 := Fr.set hFj2 e11 (SC_t (by omega))
            show PW _ _ _ _ _ _ (67, [(0, .ref 0), (1, .int (nI m)), (2, .int (nI j1)), (3, .int (nI j2))], [], w11)
            refine P_aload_n d_CM_findTwo_67 rfl ?_
            refine P_getf (i := 17) d_CM_findTwo_68 ok_CM (by decide) L_CM_95 ((hF11.2 _ (SC_f (by omega))).trans e0) rfl ?_
            refine P_iconst (v := 1) d_CM_findTwo_71 (by decide) ?_
            refine P_iload_n d_CM_findTwo_72 rfl ?_
            refine P_iastG (j := 1) d_CM_findTwo_73 s11 (by decide) ⟨by decide, by decide⟩ (by decide) (fun w13 e13 s13 n13 z13 => ?_)
            generalize upd _ _ _ = g14 at e13 s13
            have hI13 : I w13 := hI11.setI e13 kc_466
            have hF13 : Fr SC w w13 := Fr.set hF11 e13 (SC_t (by omega))
            show PW _ _ _ _ _ _ (74, [(0, .ref 0), (1, .int (nI m)), (2, .int (nI j1)), (3, .int (nI j2))], [], w13)
            refine P_iconst (v := 1) d_CM_findTwo_74 (by decide) ?_
            exact P_zret d_CM_findTwo_75 rfl rfl (le_b rfl) (le_b rfl) ⟨⟨true, rfl⟩, hI13, hF13⟩
theorem s_CM_findThree {G : pG} {w : pW} (hG : GO G) (hI : I w) {b : Nat} (hb : b = 1 ∨ b = 77) (e0 : w.2 0 = cmE b) {lc qc mc pc : Nat} (eb : w.2 b = plE b lc qc mc pc) (hlc : lc ≤ 900) (hqc : qc ≤ 8) (hmc : mc ≤ 16) (hpc : pc ≤ 8) {ct : Int32} (e9 : w.2 189 = prE (nI mc) ct) (m : Nat) (hm : m < 16) (hm1 : m < mc) : PM G M_CM_findThree 4 0 0 [.ref 0, .int (nI m)] w (fun r w' => (∃ v, r = some (.int (bi v))) ∧ I w' ∧ Fr SC w w') := by
  refine PM_of pn_CM_findThree (le_b rfl) ?_
  show PW _ _ _ _ _ _ (0, [(0, .ref 0), (1, .int (nI m))], [], w)
  obtain ⟨hb1, hb2⟩ := pl_rng hb
  refine P_iconst (v := 0) d_CM_findThree_0 (by decide) ?_
  refine P_istore_n d_CM_findThree_1 (by decide) rfl ?_
  refine PW_ind (σ := pW) (mc) (fun jj ss => I (ss) ∧ Fr SC w (ss)) (fun jj ss => (2, [(0, .ref 0), (1, .int (nI m)), (2, .int (nI jj))], [], ss)) ?_ ?_ 0 (w) (by omega) ⟨hI, Fr.rf⟩
  · rintro uj1 ⟨hIj1, hFj1⟩
    show PW _ _ _ _ _ _ (2, [(0, .ref 0), (1, .int (nI m)), (2, .int (nI mc))], [], uj1)
    refine P_iload_n d_CM_findThree_2 rfl ?_
    refine P_aload_n d_CM_findThree_3 rfl ?_
    refine P_getf (i := 0) d_CM_findThree_4 ok_CM (by decide) L_CM_12 ((hFj1.2 _ (SC_f (by omega))).trans e0) rfl ?_
    refine P_getfN (i := 5) d_CM_findThree_7 ok_Plane (by decide) L_CM_225 ((hFj1.2 _ (SC_f (by omega))).trans eb) rfl ?_
    refine P_icmp_ge 126 d_CM_findThree_10 (by decide) (fun _ => ?_) (fun h => absurd (Int32.le_refl _) h)
    refine P_iconst (v := 0) d_CM_findThree_126 (by decide) ?_
    exact P_zret d_CM_findThree_127 rfl rfl (le_b rfl) (le_b rfl) ⟨⟨false, rfl⟩, hIj1, hFj1⟩
  · rintro j1 uj1 hj1 ⟨hIj1, hFj1⟩ kkj1
    show PW _ _ _ _ _ _ (2, [(0, .ref 0), (1, .int (nI m)), (2, .int (nI j1))], [], uj1)
    refine P_iload_n d_CM_findThree_2 rfl ?_
    refine P_aload_n d_CM_findThree_3 rfl ?_
    refine P_getf (i := 0) d_CM_findThree_4 ok_CM (by decide) L_CM_12 ((hFj1.2 _ (SC_f (by omega))).trans e0) rfl ?_
    refine P_getfN (i := 5) d_CM_findThree_7 ok_Plane (by decide) L_CM_225 ((hFj1.2 _ (SC_f (by omega))).trans eb) rfl ?_
    refine P_icmp_ge 126 d_CM_findThree_10 (by decide) (fun h => absurd h (nI_geF (a := j1) (b := mc) (by omega) (by omega))) (fun _ => ?_)
    refine P_iconst (v := 0) d_CM_findThree_13 (by decide) ?_
    refine P_istore_n d_CM_findThree_14 (by decide) rfl ?_
    refine PW_ind (σ := pW) (mc) (fun jj ss => I (ss) ∧ Fr SC w (ss)) (fun jj ss => (15, [(0, .ref 0), (1, .int (nI m)), (2, .int (nI j1)), (3, .int (nI jj))], [], ss)) ?_ ?_ 0 (uj1) (by omega) ⟨hIj1, hFj1⟩
    · rintro uj2 ⟨hIj2, hFj2⟩
      show PW _ _ _ _ _ _ (15, [(0, .ref 0), (1, .int (nI m)), (2, .int (nI j1)), (3, .int (nI mc))], [], uj2)
      refine P_iload_n d_CM_findThree_15 rfl ?_
      refine P_aload_n d_CM_findThree_16 rfl ?_
      refine P_getf (i := 0) d_CM_findThree_17 ok_CM (by decide) L_CM_12 ((hFj2.2 _ (SC_f (by omega))).trans e0) rfl ?_
      refine P_getfN (i := 5) d_CM_findThree_20 ok_Plane (by decide) L_CM_225 ((hFj2.2 _ (SC_f (by omega))).trans eb) rfl ?_
      refine P_icmp_ge 120 d_CM_findThree_23 (by decide) (fun _ => ?_) (fun h => absurd (Int32.le_refl _) h)
      refine P_iinc (v := nI (j1 + 1)) d_CM_findThree_120 (by decide) rfl (nI_add j1 1) rfl ?_
      refine P_goto 2 d_CM_findThree_123 (by decide) ?_
      show PW _ _ _ _ _ _ (2, [(0, .ref 0), (1, .int (nI m)), (2, .int (nI (j1 + 1))), (3, .int (nI mc))], [], uj2)
      refine PW.drop (lv' := [(0, .ref 0), (1, .int (nI m)), (2, .int (nI (j1 + 1)))]) (by simp) ?_
      exact kkj1 (uj2) ⟨hIj2, hFj2⟩
    · rintro j2 uj2 hj2 ⟨hIj2, hFj2⟩ kkj2
      show PW _ _ _ _ _ _ (15, [(0, .ref 0), (1, .int (nI m)), (2, .int (nI j1)), (3, .int (nI j2))], [], uj2)
      refine P_iload_n d_CM_findThree_15 rfl ?_
      refine P_aload_n d_CM_findThree_16 rfl ?_
      refine P_getf (i := 0) d_CM_findThree_17 ok_CM (by decide) L_CM_12 ((hFj2.2 _ (SC_f (by omega))).trans e0) rfl ?_
      refine P_getfN (i := 5) d_CM_findThree_20 ok_Plane (by decide) L_CM_225 ((hFj2.2 _ (SC_f (by omega))).trans eb) rfl ?_
      refine P_icmp_ge 120 d_CM_findThree_23 (by decide) (fun h => absurd h (nI_geF (a := j2) (b := mc) (by omega) (by omega))) (fun _ => ?_)
      refine P_iconst (v := 0) d_CM_findThree_26 (by decide) ?_
      refine P_istore d_CM_findThree_27 (by decide) rfl ?_
      refine PW_ind (σ := pW) (mc) (fun jj ss => I (ss) ∧ Fr SC w (ss)) (fun jj ss => (29, [(0, .ref 0), (1, .int (nI m)), (2, .int (nI j1)), (3, .int (nI j2)), (4, .int (nI jj))], [], ss)) ?_ ?_ 0 (uj2) (by omega) ⟨hIj2, hFj2⟩
      · rintro uj3 ⟨hIj3, hFj3⟩
        show PW _ _ _ _ _ _ (29, [(0, .ref 0), (1, .int (nI m)), (2, .int (nI j1)), (3, .int (nI j2)), (4, .int (nI mc))], [], uj3)
        refine P_iload d_CM_findThree_29 rfl ?_
        refine P_aload_n d_CM_findThree_31 rfl ?_
        refine P_getf (i := 0) d_CM_findThree_32 ok_CM (by decide) L_CM_12 ((hFj3.2 _ (SC_f (by omega))).trans e0) rfl ?_
        refine P_getfN (i := 5) d_CM_findThree_35 ok_Plane (by decide) L_CM_225 ((hFj3.2 _ (SC_f (by omega))).trans eb) rfl ?_
        refine P_icmp_ge 114 d_CM_findThree_38 (by decide) (fun _ => ?_) (fun h => absurd (Int32.le_refl _) h)
        refine P_iinc (v := nI (j2 + 1)) d_CM_findThree_114 (by decide) rfl (nI_add j2 1) rfl ?_
        refine P_goto 15 d_CM_findThree_117 (by decide) ?_
        show PW _ _ _ _ _ _ (15, [(0, .ref 0), (1, .int (nI m)), (2, .int (nI j1)), (3, .int (nI (j2 + 1))), (4, .int (nI mc))], [], uj3)
        refine PW.drop (lv' := [(0, .ref 0), (1, .int (nI m)), (2, .int (nI j1)), (3, .int (nI (j2 + 1)))]) (by simp) ?_
        exact kkj2 (uj3) ⟨hIj3, hFj3⟩
      · rintro j3 uj3 hj3 ⟨hIj3, hFj3⟩ kkj3
        show PW _ _ _ _ _ _ (29, [(0, .ref 0), (1, .int (nI m)), (2, .int (nI j1)), (3, .int (nI j2)), (4, .int (nI j3))], [], uj3)
        refine P_iload d_CM_findThree_29 rfl ?_
        refine P_aload_n d_CM_findThree_31 rfl ?_
        refine P_getf (i := 0) d_CM_findThree_32 ok_CM (by decide) L_CM_12 ((hFj3.2 _ (SC_f (by omega))).trans e0) rfl ?_
        refine P_getfN (i := 5) d_CM_findThree_35 ok_Plane (by decide) L_CM_225 ((hFj3.2 _ (SC_f (by omega))).trans eb) rfl ?_
        refine P_icmp_ge 114 d_CM_findThree_38 (by decide) (fun h => absurd h (nI_geF (a := j3) (b := mc) (by omega) (by omega))) (fun _ => ?_)
        refine P_iload_n d_CM_findThree_41 rfl ?_
        refine P_iload_n d_CM_findThree_42 rfl ?_
        refine P_icmp_eq 108 d_CM_findThree_43 (by decide) (fun c4 => ?_) (fun c4 => ?_)
        · have ic4 : j1 = m := (nI_eq (by omega) (by omega)).mp c4
          refine P_iinc (v := nI (j3 + 1)) d_CM_findThree_108 (by decide) rfl (nI_add j3 1) rfl ?_
          refine P_goto 29 d_CM_findThree_111 (by decide) ?_
          exact kkj3 (uj3) ⟨hIj3, hFj3⟩
        · have ic4 : j1 ≠ m := fun q => c4 (by rw [q]; try rfl)
          refine P_iload_n d_CM_findThree_46 rfl ?_
          refine P_iload_n d_CM_findThree_47 rfl ?_
          refine P_icmp_eq 108 d_CM_findThree_48 (by decide) (fun c5 => ?_) (fun c5 => ?_)
          · have ic5 : j2 = m := (nI_eq (by omega) (by omega)).mp c5
            refine P_iinc (v := nI (j3 + 1)) d_CM_findThree_108 (by decide) rfl (nI_add j3 1) rfl ?_
            refine P_goto 29 d_CM_findThree_111 (by decide) ?_
            exact kkj3 (uj3) ⟨hIj3, hFj3⟩
          · have ic5 : j2 ≠ m := fun q => c5 (by rw [q]; try rfl)
            refine P_iload d_CM_findThree_51 rfl ?_
            refine P_iload_n d_CM_findThree_53 rfl ?_
            refine P_icmp_eq 108 d_CM_findThree_54 (by decide) (fun c6 => ?_) (fun c6 => ?_)
            · have ic6 : j3 = m := (nI_eq (by omega) (by omega)).mp c6
              refine P_iinc (v := nI (j3 + 1)) d_CM_findThree_108 (by decide) rfl (nI_add j3 1) rfl ?_
              refine P_goto 29 d_CM_findThree_111 (by decide) ?_
              exact kkj3 (uj3) ⟨hIj3, hFj3⟩
            · have ic6 : j3 ≠ m := fun q => c6 (by rw [q]; try rfl)
              refine P_aload_n d_CM_findThree_57 rfl ?_
              refine P_iload_n d_CM_findThree_58 rfl ?_
              refine P_aload_n d_CM_findThree_59 rfl ?_
              refine P_getf (i := 6) d_CM_findThree_60 ok_CM (by decide) L_CM_54 ((hFj3.2 _ (SC_f (by omega))).trans e0) rfl ?_
              refine P_iload_n d_CM_findThree_63 rfl ?_
              refine P_iload d_CM_findThree_64 rfl ?_
              refine P_callV (M := M_CM_findThree) (pc := 66) (as := [.int (nI j2), .int (nI j3)]) (b := 189) d_CM_findThree_66 co_Pairs_of ok_Pairs ((hFj3.2 _ (SC_f (by omega))).trans e9) L_CM_467 im_Pairs_of se_Pairs_of (s_Pairs_of ((hFj3.2 _ (SC_f (by omega))).trans e9) (hIj3.rows (r := 190) (by decide) kc_190) j2 (by omega) j3 (by omega) (by omega) (by omega) (by omega)) rfl ⟨by decide, by decide⟩ ⟨by decide, by decide⟩ (by exact le_b rfl) ?_ _ rfl
              rintro _ u ⟨rfl, eu⟩
              subst u
              have hsq7 := sq_at (m := mc) (a := j2) (c := j3) (by omega) (by omega) (by omega)
              show PW _ _ _ _ _ _ (69, [(0, .ref 0), (1, .int (nI m)), (2, .int (nI j1)), (3, .int (nI j2)), (4, .int (nI j3))], [.ref (190 + 1 + (mc * j2 + j3)), .int (nI j1), .ref 0], uj3)
              refine P_aload_n d_CM_findThree_69 rfl ?_
              refine P_getf (i := 0) d_CM_findThree_70 ok_CM (by decide) L_CM_12 ((hFj3.2 _ (SC_f (by omega))).trans e0) rfl ?_
              refine P_getfN (i := 1) d_CM_findThree_73 ok_Plane (by decide) L_CM_157 ((hFj3.2 _ (SC_f (by omega))).trans eb) rfl ?_
              refine P_iload_n d_CM_findThree_76 rfl ?_
              refine P_aald (j := m) (q := b + 2 + 1 + m) d_CM_findThree_77 (hIj3.ms hb) rfl (ix_nI (by omega)) (by omega) (rows_at (by omega)) ?_
              refine P_callV (M := M_CM_findThree) (pc := 78) (as := [.int (nI j1), .ref (190 + 1 + (mc * j2 + j3)), .ref (b + 2 + 1 + m)]) (b := 0) d_CM_findThree_78 co_CM_comesTo ok_CM ((hFj3.2 _ (SC_f (by omega))).trans e0) L_CM_471 im_CM_comesTo se_CM_comesTo (s_CM_comesTo hG hIj3 hb ((hFj3.2 _ (SC_f (by omega))).trans e0) ((hFj3.2 _ (SC_f (by omega))).trans eb) (by omega) (by omega) (by omega) (by omega) j1 (by omega) (by omega) (Kc_pr (by omega)) (by omega) (Kc_m hb (by omega)) (by omega) (by omega) (by omega)) rfl ⟨by decide, by decide⟩ ⟨by decide, by decide⟩ (by exact le_b rfl) ?_ _ rfl
              rintro _ w8 ⟨⟨v8, rfl⟩, hI8, hG8⟩
              have hF8 : Fr SC w w8 := Fr.tr hFj3 hG8
              show PW _ _ _ _ _ _ (81, [(0, .ref 0), (1, .int (nI m)), (2, .int (nI j1)), (3, .int (nI j2)), (4, .int (nI j3))], [.int (bi v8)], w8)
              refine P_if_eq 108 d_CM_findThree_81 (by decide) (fun c9 => ?_) (fun c9 => ?_)
              · refine P_iinc (v := nI (j3 + 1)) d_CM_findThree_108 (by decide) rfl (nI_add j3 1) rfl ?_
                refine P_goto 29 d_CM_findThree_111 (by decide) ?_
                exact kkj3 (w8) ⟨hI8, hF8⟩
              · refine P_aload_n d_CM_findThree_84 rfl ?_
                refine P_getf (i := 17) d_CM_findThree_85 ok_CM (by decide) L_CM_95 ((hF8.2 _ (SC_f (by omega))).trans e0) rfl ?_
                refine P_iconst (v := 0) d_CM_findThree_88 (by decide) ?_
                refine P_iload_n d_CM_findThree_89 rfl ?_
                obtain ⟨f10, f10e⟩ := hI8.ints (r := 466) (by decide) kc_466
                refine P_iastG (j := 0) d_CM_findThree_90 f10e (by decide) ⟨by decide, by decide⟩ (by decide) (fun w11 e11 s11 n11 z11 => ?_)
                generalize upd _ _ _ = g12 at e11 s11
                have hI11 : I w11 := hI8.setI e11 kc_466
                have hF11 : Fr SC w w11 := Fr.set hF8 e11 (SC_t (by omega))
                show PW _ _ _ _ _ _ (91, [(0, .ref 0), (1, .int (nI m)), (2, .int (nI j1)), (3, .int (nI j2)), (4, .int (nI j3))], [], w11)
                refine P_aload_n d_CM_findThree_91 rfl ?_
                refine P_getf (i := 17) d_CM_findThree_92 ok_CM (by decide) L_CM_95 ((hF11.2 _ (SC_f (by omega))).trans e0) rfl ?_
                refine P_iconst (v := 1) d_CM_findThree_95 (by decide) ?_
                refine P_iload_n d_CM_findThree_96 rfl ?_
                refine P_iastG (j := 1) d_CM_findThree_97 s11 (by decide) ⟨by decide, by decide⟩ (by decide) (fun w13 e13 s13 n13 z13 => ?_)
                generalize upd _ _ _ = g14 at e13 s13
                have hI13 : I w13 := hI11.setI e13 kc_466
                have hF13 : Fr SC w w13 := Fr.set hF11 e13 (SC_t (by omega))
                show PW _ _ _ _ _ _ (98, [(0, .ref 0), (1, .int (nI m)), (2, .int (nI j1)), (3, .int (nI j2)), (4, .int (nI j3))], [], w13)
                refine P_aload_n d_CM_findThree_98 rfl ?_
                refine P_getf (i := 17) d_CM_findThree_99 ok_CM (by decide) L_CM_95 ((hF13.2 _ (SC_f (by omega))).trans e0) rfl ?_
                refine P_iconst (v := 2) d_CM_findThree_102 (by decide) ?_
                refine P_iload d_CM_findThree_103 rfl ?_
                refine P_iastG (j := 2) d_CM_findThree_105 s13 (by decide) ⟨by decide, by decide⟩ (by decide) (fun w15 e15 s15 n15 z15 => ?_)
                generalize upd _ _ _ = g16 at e15 s15
                have hI15 : I w15 := hI13.setI e15 kc_466
                have hF15 : Fr SC w w15 := Fr.set hF13 e15 (SC_t (by omega))
                show PW _ _ _ _ _ _ (106, [(0, .ref 0), (1, .int (nI m)), (2, .int (nI j1)), (3, .int (nI j2)), (4, .int (nI j3))], [], w15)
                refine P_iconst (v := 1) d_CM_findThree_106 (by decide) ?_
                exact P_zret d_CM_findThree_107 rfl rfl (le_b rfl) (le_b rfl) ⟨⟨true, rfl⟩, hI15, hF15⟩
theorem s_CM_findWord {G : pG} {w : pW} (hG : GO G) (hI : I w) {b : Nat} (hb : b = 1 ∨ b = 77) (e0 : w.2 0 = cmE b) {lc qc mc pc : Nat} (eb : w.2 b = plE b lc qc mc pc) (hlc : lc ≤ 900) (hqc : qc ≤ 8) (hmc : mc ≤ 16) (hpc : pc ≤ 8) (m : Nat) (hm : m < 16) (hm1 : m < mc) : PM G M_CM_findWord 5 0 0 [.ref 0, .int (nI m)] w (fun r w' => (∃ v, v < 4 ∧ r = some (.int (nI v))) ∧ I w' ∧ Fr SW w w') := by
  refine PM_of pn_CM_findWord (le_b rfl) ?_
  show PW _ _ _ _ _ _ (0, [(0, .ref 0), (1, .int (nI m))], [], w)
  obtain ⟨hb1, hb2⟩ := pl_rng hb
  obtain ⟨wd, ct, e9⟩ := hI.prs
  refine P_aload_n d_CM_findWord_0 rfl ?_
  refine P_iload_n d_CM_findWord_1 rfl ?_
  refine P_callV (M := M_CM_findWord) (pc := 2) (as := [.int (nI m)]) (b := 0) d_CM_findWord_2 co_CM_findOne ok_CM e0 L_CM_458 im_CM_findOne se_CM_findOne (s_CM_findOne hG hI hb e0 eb (by omega) (by omega) (by omega) (by omega) m (by omega) (by omega)) rfl ⟨by decide, by decide⟩ ⟨by decide, by decide⟩ (by exact le_b rfl) ?_ _ rfl
  rintro _ w1 ⟨⟨v1, rfl⟩, hI1, hG1⟩
  have hF1 : Fr SW w w1 := Fr.tr Fr.rf (Fr.cw hG1)
  show PW _ _ _ _ _ _ (5, [(0, .ref 0), (1, .int (nI m))], [.int (bi v1)], w1)
  refine P_if_eq 10 d_CM_findWord_5 (by decide) (fun c2 => ?_) (fun c2 => ?_)
  · refine P_aload_n d_CM_findWord_10 rfl ?_
    refine P_getf (i := 6) d_CM_findWord_11 ok_CM (by decide) L_CM_54 ((hF1.2 _ (SW_f (by omega))).trans e0) rfl ?_
    refine P_aload_n d_CM_findWord_14 rfl ?_
    refine P_getf (i := 0) d_CM_findWord_15 ok_CM (by decide) L_CM_12 ((hF1.2 _ (SW_f (by omega))).trans e0) rfl ?_
    refine P_callV (M := M_CM_findWord) (pc := 18) (as := [.ref b]) (b := 189) d_CM_findWord_18 co_Pairs_fill ok_Pairs ((hG1.2 _ (SC_f (by omega))).trans e9) L_CM_391 im_Pairs_fill se_Pairs_fill (s_Pairs_fill hI1 hb ((hF1.2 _ (SW_f (by omega))).trans eb) (by omega) (by omega) (by omega) (by omega)) rfl ⟨by decide, by decide⟩ ⟨by decide, by decide⟩ (by exact le_b rfl) ?_ _ rfl
    rintro _ w3 ⟨rfl, hI3, hG3, k3⟩
    have hF3 : Fr SW w w3 := Fr.tr hF1 (Fr.pw hG3)
    have hsl3 := sq_le hmc
    show PW _ _ _ _ _ _ (21, [(0, .ref 0), (1, .int (nI m))], [], w3)
    refine P_aload_n d_CM_findWord_21 rfl ?_
    refine P_iload_n d_CM_findWord_22 rfl ?_
    refine P_callV (M := M_CM_findWord) (pc := 23) (as := [.int (nI m)]) (b := 0) d_CM_findWord_23 co_CM_findTwo ok_CM ((hF3.2 _ (SW_f (by omega))).trans e0) L_CM_461 im_CM_findTwo se_CM_findTwo (s_CM_findTwo hG hI3 hb ((hF3.2 _ (SW_f (by omega))).trans e0) ((hF3.2 _ (SW_f (by omega))).trans eb) (by omega) (by omega) (by omega) (by omega) k3 m (by omega) (by omega)) rfl ⟨by decide, by decide⟩ ⟨by decide, by decide⟩ (by exact le_b rfl) ?_ _ rfl
    rintro _ w4 ⟨⟨v4, rfl⟩, hI4, hG4⟩
    have hF4 : Fr SW w w4 := Fr.tr hF3 (Fr.cw hG4)
    show PW _ _ _ _ _ _ (26, [(0, .ref 0), (1, .int (nI m))], [.int (bi v4)], w4)
    refine P_if_eq 31 d_CM_findWord_26 (by decide) (fun c5 => ?_) (fun c5 => ?_)
    · refine P_aload_n d_CM_findWord_31 rfl ?_
      refine P_iload_n d_CM_findWord_32 rfl ?_
      refine P_callV (M := M_CM_findWord) (pc := 33) (as := [.int (nI m)]) (b := 0) d_CM_findWord_33 co_CM_findThree ok_CM ((hF4.2 _ (SW_f (by omega))).trans e0) L_CM_464 im_CM_findThree se_CM_findThree (s_CM_findThree hG hI4 hb ((hF4.2 _ (SW_f (by omega))).trans e0) ((hF4.2 _ (SW_f (by omega))).trans eb) (by omega) (by omega) (by omega) (by omega) ((hG4.2 _ (SC_f (by omega))).trans k3) m (by omega) (by omega)) rfl ⟨by decide, by decide⟩ ⟨by decide, by decide⟩ (by exact le_b rfl) ?_ _ rfl
      rintro _ w6 ⟨⟨v6, rfl⟩, hI6, hG6⟩
      have hF6 : Fr SW w w6 := Fr.tr hF4 (Fr.cw hG6)
      show PW _ _ _ _ _ _ (36, [(0, .ref 0), (1, .int (nI m))], [.int (bi v6)], w6)
      refine P_if_eq 43 d_CM_findWord_36 (by decide) (fun c7 => ?_) (fun c7 => ?_)
      · refine P_iconst (v := 0) d_CM_findWord_43 (by decide) ?_
        exact P_iret d_CM_findWord_44 rfl (le_b rfl) (le_b rfl) ⟨⟨0, by omega, rfl⟩, hI6, hF6⟩
      · refine P_iconst (v := 3) d_CM_findWord_39 (by decide) ?_
        refine P_goto 44 d_CM_findWord_40 (by decide) ?_
        exact P_iret d_CM_findWord_44 rfl (le_b rfl) (le_b rfl) ⟨⟨3, by omega, rfl⟩, hI6, hF6⟩
    · refine P_iconst (v := 2) d_CM_findWord_29 (by decide) ?_
      exact P_iret d_CM_findWord_30 rfl (le_b rfl) (le_b rfl) ⟨⟨2, by omega, rfl⟩, hI4, hF4⟩
  · refine P_iconst (v := 1) d_CM_findWord_8 (by decide) ?_
    exact P_iret d_CM_findWord_9 rfl (le_b rfl) (le_b rfl) ⟨⟨1, by omega, rfl⟩, hI1, hF1⟩
theorem s_CM_word {G : pG} {w : pW} (hG : GO G) (hI : I w) (a1 : Int32) (a2 : Int32) : PM G M_CM_word 6 0 0 [.ref 0, .int a1, .int a2] w (fun r w' => (∃ v, r = some (.int v)) ∧ I w' ∧ Fr SW w w') := by
  refine PM_of pn_CM_word (le_b rfl) ?_
  show PW _ _ _ _ _ _ (0, [(0, .ref 0), (1, .int a1), (2, .int a2)], [], w)
  obtain ⟨b, hb, e0⟩ := hI.cm
  obtain ⟨hb1, hb2⟩ := pl_rng hb
  obtain ⟨lc, qc, mc, pc, eb, hlc, hqc, hmc, hpc⟩ := hI.pl hb
  obtain ⟨wd, ct, e9⟩ := hI.prs
  refine P_aload_n d_CM_word_0 rfl ?_
  refine P_getf (i := 0) d_CM_word_1 ok_CM (by decide) L_CM_12 e0 rfl ?_
  refine P_iload_n d_CM_word_4 rfl ?_
  refine P_callV (M := M_CM_word) (pc := 5) (as := [.int a1]) (b := b) d_CM_word_5 co_Plane_hasMap ok_Plane eb L_CM_151 im_Plane_hasMap se_Plane_hasMap (s_Plane_hasMap eb hlc hqc hmc hpc a1) rfl ⟨by decide, by decide⟩ ⟨by decide, by decide⟩ (by exact le_b rfl) ?_ _ rfl
  rintro _ u ⟨rfl, eu⟩
  subst u
  show PW _ _ _ _ _ _ (8, [(0, .ref 0), (1, .int a1), (2, .int a2)], [.int (bi (inN mc a1))], w)
  refine P_if_eq 16 d_CM_word_8 (by decide) (fun c2 => ?_) (fun c2 => ?_)
  · refine P_iconst (v := (-1)) d_CM_word_16 (by decide) ?_
    exact P_iret d_CM_word_17 rfl (le_b rfl) (le_b rfl) ⟨⟨_, rfl⟩, hI, Fr.rf⟩
  · obtain ⟨a1N, ha1N, rfl⟩ := inN_of (bi_1 c2) (by omega)
    refine P_iload_n d_CM_word_11 rfl ?_
    refine P_iconst (v := (-1)) d_CM_word_12 (by decide) ?_
    refine P_icmp_ge 18 d_CM_word_13 (by decide) (fun c3 => ?_) (fun c3 => ?_)
    · refine P_aload_n d_CM_word_18 rfl ?_
      refine P_iload_n d_CM_word_19 rfl ?_
      refine P_callV (M := M_CM_word) (pc := 20) (as := [.int (nI a1N)]) (b := 0) d_CM_word_20 co_CM_findWord ok_CM e0 L_CM_388 im_CM_findWord se_CM_findWord (s_CM_findWord hG hI hb e0 eb (by omega) (by omega) (by omega) (by omega) a1N (by omega) (by omega)) rfl ⟨by decide, by decide⟩ ⟨by decide, by decide⟩ (by exact le_b rfl) ?_ _ rfl
      rintro _ w4 ⟨⟨v4, hv4, rfl⟩, hI4, hG4⟩
      have hF4 : Fr SW w w4 := Fr.tr Fr.rf hG4
      obtain ⟨wd4, ct4, k4⟩ := hI4.prs
      show PW _ _ _ _ _ _ (23, [(0, .ref 0), (1, .int (nI a1N)), (2, .int a2)], [.int (nI v4)], w4)
      refine P_istore_n d_CM_word_23 (by decide) rfl ?_
      refine P_iload_n d_CM_word_24 rfl ?_
      refine P_if_eq 33 d_CM_word_25 (by decide) (fun c5 => ?_) (fun c5 => ?_)
      · have ic5 : v4 = 0 := (nI_eq (by omega) (by omega)).mp c5
        refine P_bipush (v := (-2)) d_CM_word_33 (by decide) ?_
        exact P_iret d_CM_word_35 rfl (le_b rfl) (le_b rfl) ⟨⟨_, rfl⟩, hI4, hF4⟩
      · have ic5 : v4 ≠ 0 := fun q => c5 (congrArg nI q)
        refine P_iload_n d_CM_word_28 rfl ?_
        refine P_iload_n d_CM_word_29 rfl ?_
        refine P_icmp_lt 36 d_CM_word_30 (by decide) (fun c6 => ?_) (fun c6 => ?_)
        · refine P_iload_n d_CM_word_36 rfl ?_
          refine P_iconst (v := (-1)) d_CM_word_37 (by decide) ?_
          refine P_icmp_ne 45 d_CM_word_38 (by decide) (fun c7 => ?_) (fun c7 => ?_)
          · obtain ⟨kN, hkN, hkE⟩ := nI_of3 (fun q => absurd c3 (Int32.not_le.mpr q)) c7 c6 (by omega)
            refine P_aload_n d_CM_word_45 rfl ?_
            refine P_getf (i := 17) d_CM_word_46 ok_CM (by decide) L_CM_95 ((hF4.2 _ (SW_f (by omega))).trans e0) rfl ?_
            refine P_iload_n d_CM_word_49 rfl ?_
            obtain ⟨f9, f9e⟩ := hI4.ints (r := 466) (by decide) kc_466
            refine P_iald (j := kN) d_CM_word_50 f9e (by rw [hkE]; exact ix_nI (by omega)) (by omega) ?_
            exact P_iret d_CM_word_51 rfl (le_b rfl) (le_b rfl) ⟨⟨_, rfl⟩, hI4, hF4⟩
          · refine P_iload_n d_CM_word_41 rfl ?_
            refine P_goto 51 d_CM_word_42 (by decide) ?_
            exact P_iret d_CM_word_51 rfl (le_b rfl) (le_b rfl) ⟨⟨_, rfl⟩, hI4, hF4⟩
        · refine P_bipush (v := (-2)) d_CM_word_33 (by decide) ?_
          exact P_iret d_CM_word_35 rfl (le_b rfl) (le_b rfl) ⟨⟨_, rfl⟩, hI4, hF4⟩
    · refine P_iconst (v := (-1)) d_CM_word_16 (by decide) ?_
      exact P_iret d_CM_word_17 rfl (le_b rfl) (le_b rfl) ⟨⟨_, rfl⟩, hI, Fr.rf⟩
theorem s_CM_generatedMap {G : pG} {w : pW} (hG : GO G) (hI : I w) {b : Nat} (hb : b = 1 ∨ b = 77) (e0 : w.2 0 = cmE b) {lc qc mc pc : Nat} (eb : w.2 b = plE b lc qc mc pc) (hlc : lc ≤ 900) (hqc : qc ≤ 8) (hmc : mc ≤ 16) (hpc : pc ≤ 8) (i : Nat) (hi : i < 272) (hi1 : i < mc + 256) : PM G M_CM_generatedMap 0 0 0 [.ref 0, .int (nI i)] w (fun r w' => (∃ q, r = some (.ref q) ∧ q < 487 ∧ Kc q = (1, 9, 0)) ∧ w' = w) := by
  refine PM_of pn_CM_generatedMap (le_b rfl) ?_
  show PW _ _ _ _ _ _ (0, [(0, .ref 0), (1, .int (nI i))], [], w)
  obtain ⟨hb1, hb2⟩ := pl_rng hb
  obtain ⟨wd, ct, e9⟩ := hI.prs
  refine P_iload_n d_CM_generatedMap_0 rfl ?_
  refine P_aload_n d_CM_generatedMap_1 rfl ?_
  refine P_getf (i := 0) d_CM_generatedMap_2 ok_CM (by decide) L_CM_12 e0 rfl ?_
  refine P_getfN (i := 5) d_CM_generatedMap_5 ok_Plane (by decide) L_CM_225 eb rfl ?_
  refine P_icmp_ge 23 d_CM_generatedMap_8 (by decide) (fun c1 => ?_) (fun c1 => ?_)
  · have ic1 : i ≥ mc := nI_get (by omega) (by omega) c1
    refine P_aload_n d_CM_generatedMap_23 rfl ?_
    refine P_getf (i := 6) d_CM_generatedMap_24 ok_CM (by decide) L_CM_54 e0 rfl ?_
    refine P_getfN (i := 0) d_CM_generatedMap_27 ok_Pairs (by decide) L_CM_481 e9 rfl ?_
    refine P_iload_n d_CM_generatedMap_30 rfl ?_
    refine P_aload_n d_CM_generatedMap_31 rfl ?_
    refine P_getf (i := 0) d_CM_generatedMap_32 ok_CM (by decide) L_CM_12 e0 rfl ?_
    refine P_getfN (i := 5) d_CM_generatedMap_35 ok_Plane (by decide) L_CM_225 eb rfl ?_
    refine P_isubN (a := i) (b := mc) d_CM_generatedMap_38 (by omega) ?_
    show PW _ _ _ _ _ _ (39, [(0, .ref 0), (1, .int (nI i))], [.int (nI (i - mc)), .ref 190], w)
    refine P_aald (j := i - mc) (q := 190 + 1 + (i - mc)) d_CM_generatedMap_39 (hI.rows (r := 190) (by decide) kc_190) rfl (ix_nI (by omega)) (by omega) (rows_at (by omega)) ?_
    exact P_aret d_CM_generatedMap_40 rfl (Or.inr ⟨_, rfl⟩) (le_b rfl) (le_b rfl) ⟨⟨(190 + 1 + (i - mc) : Nat), rfl, (show (190 + 1 + (i - mc) : Nat) < 487 by omega), (Kc_pr (by omega))⟩, rfl⟩
  · have ic1 : i < mc := nI_gef (by omega) (by omega) c1
    refine P_aload_n d_CM_generatedMap_11 rfl ?_
    refine P_getf (i := 0) d_CM_generatedMap_12 ok_CM (by decide) L_CM_12 e0 rfl ?_
    refine P_getfN (i := 1) d_CM_generatedMap_15 ok_Plane (by decide) L_CM_157 eb rfl ?_
    refine P_iload_n d_CM_generatedMap_18 rfl ?_
    refine P_aald (j := i) (q := b + 2 + 1 + i) d_CM_generatedMap_19 (hI.ms hb) rfl (ix_nI (by omega)) (by omega) (rows_at (by omega)) ?_
    refine P_goto 40 d_CM_generatedMap_20 (by decide) ?_
    exact P_aret d_CM_generatedMap_40 rfl (Or.inr ⟨_, rfl⟩) (le_b rfl) (le_b rfl) ⟨⟨(b + 2 + 1 + i : Nat), rfl, (show (b + 2 + 1 + i : Nat) < 487 by omega), (Kc_m hb (by omega))⟩, rfl⟩
theorem s_CM_stoodBefore {G : pG} {w : pW} (hG : GO G) (hI : I w) {b : Nat} (hb : b = 1 ∨ b = 77) (e0 : w.2 0 = cmE b) {lc qc mc pc : Nat} (eb : w.2 b = plE b lc qc mc pc) (hlc : lc ≤ 900) (hqc : qc ≤ 8) (hmc : mc ≤ 16) (hpc : pc ≤ 8) (i : Nat) (hi : i < 272) (hi1 : i < mc + 256) : PM G M_CM_stoodBefore 1 0 0 [.ref 0, .int (nI i)] w (fun r w' => (∃ v, r = some (.int (bi v))) ∧ I w' ∧ Fr SC w w') := by
  refine PM_of pn_CM_stoodBefore (le_b rfl) ?_
  show PW _ _ _ _ _ _ (0, [(0, .ref 0), (1, .int (nI i))], [], w)
  obtain ⟨hb1, hb2⟩ := pl_rng hb
  obtain ⟨wd, ct, e9⟩ := hI.prs
  refine P_iconst (v := 0) d_CM_stoodBefore_0 (by decide) ?_
  refine P_istore_n d_CM_stoodBefore_1 (by decide) rfl ?_
  refine PW_ind (σ := pW) (i) (fun jj ss => I (ss) ∧ Fr SC w (ss)) (fun jj ss => (2, [(0, .ref 0), (1, .int (nI i)), (2, .int (nI jj))], [], ss)) ?_ ?_ 0 (w) (by omega) ⟨hI, Fr.rf⟩
  · rintro uj1 ⟨hIj1, hFj1⟩
    show PW _ _ _ _ _ _ (2, [(0, .ref 0), (1, .int (nI i)), (2, .int (nI i))], [], uj1)
    refine P_iload_n d_CM_stoodBefore_2 rfl ?_
    refine P_iload_n d_CM_stoodBefore_3 rfl ?_
    refine P_icmp_ge 31 d_CM_stoodBefore_4 (by decide) (fun _ => ?_) (fun h => absurd (Int32.le_refl _) h)
    refine P_iconst (v := 0) d_CM_stoodBefore_31 (by decide) ?_
    exact P_zret d_CM_stoodBefore_32 rfl rfl (le_b rfl) (le_b rfl) ⟨⟨false, rfl⟩, hIj1, hFj1⟩
  · rintro j1 uj1 hj1 ⟨hIj1, hFj1⟩ kkj1
    show PW _ _ _ _ _ _ (2, [(0, .ref 0), (1, .int (nI i)), (2, .int (nI j1))], [], uj1)
    refine P_iload_n d_CM_stoodBefore_2 rfl ?_
    refine P_iload_n d_CM_stoodBefore_3 rfl ?_
    refine P_icmp_ge 31 d_CM_stoodBefore_4 (by decide) (fun h => absurd h (nI_geF (a := j1) (b := i) (by omega) (by omega))) (fun _ => ?_)
    refine P_aload_n d_CM_stoodBefore_7 rfl ?_
    refine P_iload_n d_CM_stoodBefore_8 rfl ?_
    refine P_callV (M := M_CM_stoodBefore) (pc := 9) (as := [.int (nI j1)]) (b := 0) d_CM_stoodBefore_9 co_CM_generatedMap ok_CM ((hFj1.2 _ (SC_f (by omega))).trans e0) L_CM_484 im_CM_generatedMap se_CM_generatedMap (s_CM_generatedMap hG hIj1 hb ((hFj1.2 _ (SC_f (by omega))).trans e0) ((hFj1.2 _ (SC_f (by omega))).trans eb) (by omega) (by omega) (by omega) (by omega) j1 (by omega) (by omega)) rfl ⟨by decide, by decide⟩ ⟨by decide, by decide⟩ (by exact le_b rfl) ?_ _ rfl
    rintro _ u ⟨⟨q2, rfl, hlq2, hkq2⟩, eu⟩
    subst u
    show PW _ _ _ _ _ _ (12, [(0, .ref 0), (1, .int (nI i)), (2, .int (nI j1))], [.ref q2], uj1)
    refine P_aload_n d_CM_stoodBefore_12 rfl ?_
    refine P_iload_n d_CM_stoodBefore_13 rfl ?_
    refine P_callV (M := M_CM_stoodBefore) (pc := 14) (as := [.int (nI i)]) (b := 0) d_CM_stoodBefore_14 co_CM_generatedMap ok_CM ((hFj1.2 _ (SC_f (by omega))).trans e0) L_CM_484 im_CM_generatedMap se_CM_generatedMap (s_CM_generatedMap hG hIj1 hb ((hFj1.2 _ (SC_f (by omega))).trans e0) ((hFj1.2 _ (SC_f (by omega))).trans eb) (by omega) (by omega) (by omega) (by omega) i (by omega) (by omega)) rfl ⟨by decide, by decide⟩ ⟨by decide, by decide⟩ (by exact le_b rfl) ?_ _ rfl
    rintro _ u ⟨⟨q3, rfl, hlq3, hkq3⟩, eu⟩
    subst u
    show PW _ _ _ _ _ _ (17, [(0, .ref 0), (1, .int (nI i)), (2, .int (nI j1))], [.ref q3, .ref q2], uj1)
    obtain ⟨f4, f4e⟩ := hIj1.row (r := q2) (by omega) hkq2
    obtain ⟨f5, f5e⟩ := hIj1.row (r := q3) (by omega) hkq3
    refine P_callS (M := M_CM_stoodBefore) (pc := 17) (as := [.ref q2, .ref q3]) d_CM_stoodBefore_17 co_Rows_alike L_CM_306 sm_Rows_alike (s_Rows_alike (by decide) (by decide) f4e f5e) rfl ⟨by decide, by decide⟩ ⟨by decide, by decide⟩ (by exact le_b rfl) ?_ _ rfl
    rintro _ u ⟨⟨v6, rfl⟩, eu⟩
    subst u
    show PW _ _ _ _ _ _ (20, [(0, .ref 0), (1, .int (nI i)), (2, .int (nI j1))], [.int (bi v6)], uj1)
    refine P_if_eq 25 d_CM_stoodBefore_20 (by decide) (fun c7 => ?_) (fun c7 => ?_)
    · refine P_iinc (v := nI (j1 + 1)) d_CM_stoodBefore_25 (by decide) rfl (nI_add j1 1) rfl ?_
      refine P_goto 2 d_CM_stoodBefore_28 (by decide) ?_
      exact kkj1 (uj1) ⟨hIj1, hFj1⟩
    · refine P_iconst (v := 1) d_CM_stoodBefore_23 (by decide) ?_
      exact P_zret d_CM_stoodBefore_24 rfl rfl (le_b rfl) (le_b rfl) ⟨⟨true, rfl⟩, hIj1, hFj1⟩
theorem s_CM_generated {G : pG} {w : pW} (hG : GO G) (hI : I w) (a1 : Int32) : PM G M_CM_generated 5 0 0 [.ref 0, .int a1] w (fun r w' => (∃ v, r = some (.int v)) ∧ I w' ∧ Fr SW w w') := by
  refine PM_of pn_CM_generated (le_b rfl) ?_
  show PW _ _ _ _ _ _ (0, [(0, .ref 0), (1, .int a1)], [], w)
  obtain ⟨b, hb, e0⟩ := hI.cm
  obtain ⟨hb1, hb2⟩ := pl_rng hb
  obtain ⟨lc, qc, mc, pc, eb, hlc, hqc, hmc, hpc⟩ := hI.pl hb
  obtain ⟨wd, ct, e9⟩ := hI.prs
  have hsq0 := sq_le hmc
  refine P_iload_n d_CM_generated_0 rfl ?_
  refine P_iconst (v := 1) d_CM_generated_1 (by decide) ?_
  refine P_icmp_eq 12 d_CM_generated_2 (by decide) (fun c1 => ?_) (fun c1 => ?_)
  · refine P_iload_n d_CM_generated_12 rfl ?_
    refine P_iconst (v := 2) d_CM_generated_13 (by decide) ?_
    refine P_icmp_ne 28 d_CM_generated_14 (by decide) (fun c2 => ?_) (fun c2 => ?_)
    · refine P_aload_n d_CM_generated_28 rfl ?_
      refine P_getf (i := 0) d_CM_generated_29 ok_CM (by decide) L_CM_12 e0 rfl ?_
      refine P_getfN (i := 5) d_CM_generated_32 ok_Plane (by decide) L_CM_225 eb rfl ?_
      refine P_iload_n d_CM_generated_35 rfl ?_
      refine P_iconst (v := 2) d_CM_generated_36 (by decide) ?_
      refine P_icmp_ne 50 d_CM_generated_37 (by decide) (fun _ => ?_) (fun h => absurd h c2)
      refine P_iconst (v := 0) d_CM_generated_50 (by decide) ?_
      refine P_iaddN (a := mc) (b := 0) d_CM_generated_51 ?_
      show PW _ _ _ _ _ _ (52, [(0, .ref 0), (1, .int a1)], [.int (nI (mc + 0))], w)
      refine P_istore_n d_CM_generated_52 (by decide) rfl ?_
      refine P_iconst (v := 0) d_CM_generated_53 (by decide) ?_
      refine P_istore_n d_CM_generated_54 (by decide) rfl ?_
      refine P_iconst (v := 0) d_CM_generated_55 (by decide) ?_
      refine P_istore d_CM_generated_56 (by decide) rfl ?_
      refine PW_ind (σ := Int32 × pW) ((mc + 0)) (fun jj ss => I (ss.2) ∧ Fr SW w (ss.2) ∧ (ss.2).2 189 = .inr (6, [.ref 190, .int wd, .int ct])) (fun jj ss => (58, [(0, .ref 0), (1, .int a1), (2, .int (nI (mc + 0))), (3, .int ss.1), (4, .int (nI jj))], [], ss.2)) ?_ ?_ 0 (0, w) (by omega) ⟨hI, Fr.rf, e9⟩
      · rintro ⟨j3_3, uj3⟩ ⟨hIj3, hFj3, kj3_0⟩
        show PW _ _ _ _ _ _ (58, [(0, .ref 0), (1, .int a1), (2, .int (nI (mc + 0))), (3, .int j3_3), (4, .int (nI (mc + 0)))], [], uj3)
        refine P_iload d_CM_generated_58 rfl ?_
        refine P_iload_n d_CM_generated_60 rfl ?_
        refine P_icmp_ge 82 d_CM_generated_61 (by decide) (fun _ => ?_) (fun h => absurd (Int32.le_refl _) h)
        refine P_iload_n d_CM_generated_82 rfl ?_
        exact P_iret d_CM_generated_83 rfl (le_b rfl) (le_b rfl) ⟨⟨_, rfl⟩, hIj3, hFj3⟩
      · rintro j3 ⟨j3_3, uj3⟩ hj3 ⟨hIj3, hFj3, kj3_0⟩ kkj3
        show PW _ _ _ _ _ _ (58, [(0, .ref 0), (1, .int a1), (2, .int (nI (mc + 0))), (3, .int j3_3), (4, .int (nI j3))], [], uj3)
        refine P_iload d_CM_generated_58 rfl ?_
        refine P_iload_n d_CM_generated_60 rfl ?_
        refine P_icmp_ge 82 d_CM_generated_61 (by decide) (fun h => absurd h (nI_geF (a := j3) (b := (mc + 0)) (by omega) (by omega))) (fun _ => ?_)
        refine P_aload_n d_CM_generated_64 rfl ?_
        refine P_iload d_CM_generated_65 rfl ?_
        refine P_callV (M := M_CM_generated) (pc := 67) (as := [.int (nI j3)]) (b := 0) d_CM_generated_67 co_CM_stoodBefore ok_CM ((hFj3.2 _ (SW_f (by omega))).trans e0) L_CM_395 im_CM_stoodBefore se_CM_stoodBefore (s_CM_stoodBefore hG hIj3 hb ((hFj3.2 _ (SW_f (by omega))).trans e0) ((hFj3.2 _ (SW_f (by omega))).trans eb) (by omega) (by omega) (by omega) (by omega) j3 (by omega) (by omega)) rfl ⟨by decide, by decide⟩ ⟨by decide, by decide⟩ (by exact le_b rfl) ?_ _ rfl
        rintro _ w4 ⟨⟨v4, rfl⟩, hI4, hG4⟩
        have hF4 : Fr SW w w4 := Fr.tr hFj3 (Fr.cw hG4)
        show PW _ _ _ _ _ _ (70, [(0, .ref 0), (1, .int a1), (2, .int (nI (mc + 0))), (3, .int j3_3), (4, .int (nI j3))], [.int (bi v4)], w4)
        refine P_if_ne 76 d_CM_generated_70 (by decide) (fun c5 => ?_) (fun c5 => ?_)
        · refine P_iinc (v := nI (j3 + 1)) d_CM_generated_76 (by decide) rfl (nI_add j3 1) rfl ?_
          refine P_goto 58 d_CM_generated_79 (by decide) ?_
          exact kkj3 (j3_3, w4) ⟨hI4, hF4, ((hG4.2 _ (SC_f (by omega))).trans kj3_0)⟩
        · refine P_iinc (v := j3_3 + Int32.ofInt 1) d_CM_generated_73 (by decide) rfl rfl rfl ?_
          show PW _ _ _ _ _ _ (76, [(0, .ref 0), (1, .int a1), (2, .int (nI (mc + 0))), (3, .int (j3_3 + Int32.ofInt 1)), (4, .int (nI j3))], [], w4)
          refine P_iinc (v := nI (j3 + 1)) d_CM_generated_76 (by decide) rfl (nI_add j3 1) rfl ?_
          refine P_goto 58 d_CM_generated_79 (by decide) ?_
          exact kkj3 (j3_3 + Int32.ofInt 1, w4) ⟨hI4, hF4, ((hG4.2 _ (SC_f (by omega))).trans kj3_0)⟩
    · refine P_aload_n d_CM_generated_17 rfl ?_
      refine P_getf (i := 6) d_CM_generated_18 ok_CM (by decide) L_CM_54 e0 rfl ?_
      refine P_aload_n d_CM_generated_21 rfl ?_
      refine P_getf (i := 0) d_CM_generated_22 ok_CM (by decide) L_CM_12 e0 rfl ?_
      refine P_callV (M := M_CM_generated) (pc := 25) (as := [.ref b]) (b := 189) d_CM_generated_25 co_Pairs_fill ok_Pairs e9 L_CM_391 im_Pairs_fill se_Pairs_fill (s_Pairs_fill hI hb eb (by omega) (by omega) (by omega) (by omega)) rfl ⟨by decide, by decide⟩ ⟨by decide, by decide⟩ (by exact le_b rfl) ?_ _ rfl
      rintro _ w6 ⟨rfl, hI6, hG6, k6⟩
      have hF6 : Fr SW w w6 := Fr.tr Fr.rf (Fr.pw hG6)
      have hsl6 := sq_le hmc
      show PW _ _ _ _ _ _ (28, [(0, .ref 0), (1, .int a1)], [], w6)
      refine P_aload_n d_CM_generated_28 rfl ?_
      refine P_getf (i := 0) d_CM_generated_29 ok_CM (by decide) L_CM_12 ((hF6.2 _ (SW_f (by omega))).trans e0) rfl ?_
      refine P_getfN (i := 5) d_CM_generated_32 ok_Plane (by decide) L_CM_225 ((hF6.2 _ (SW_f (by omega))).trans eb) rfl ?_
      refine P_iload_n d_CM_generated_35 rfl ?_
      refine P_iconst (v := 2) d_CM_generated_36 (by decide) ?_
      refine P_icmp_ne 50 d_CM_generated_37 (by decide) (fun h => absurd c2 h) (fun _ => ?_)
      refine P_aload_n d_CM_generated_40 rfl ?_
      refine P_getf (i := 6) d_CM_generated_41 ok_CM (by decide) L_CM_54 ((hF6.2 _ (SW_f (by omega))).trans e0) rfl ?_
      refine P_getfN (i := 2) d_CM_generated_44 ok_Pairs (by decide) L_CM_394 k6 rfl ?_
      refine P_goto 51 d_CM_generated_47 (by decide) ?_
      refine P_iaddN (a := mc) (b := (mc * mc)) d_CM_generated_51 ?_
      show PW _ _ _ _ _ _ (52, [(0, .ref 0), (1, .int a1)], [.int (nI (mc + (mc * mc)))], w6)
      refine P_istore_n d_CM_generated_52 (by decide) rfl ?_
      refine P_iconst (v := 0) d_CM_generated_53 (by decide) ?_
      refine P_istore_n d_CM_generated_54 (by decide) rfl ?_
      refine P_iconst (v := 0) d_CM_generated_55 (by decide) ?_
      refine P_istore d_CM_generated_56 (by decide) rfl ?_
      refine PW_ind (σ := Int32 × pW) ((mc + (mc * mc))) (fun jj ss => I (ss.2) ∧ Fr SW w (ss.2) ∧ (ss.2).2 189 = .inr (6, [.ref 190, .int (nI mc), .int (nI (mc * mc))])) (fun jj ss => (58, [(0, .ref 0), (1, .int a1), (2, .int (nI (mc + (mc * mc)))), (3, .int ss.1), (4, .int (nI jj))], [], ss.2)) ?_ ?_ 0 (0, w6) (by omega) ⟨hI6, hF6, k6⟩
      · rintro ⟨j7_3, uj7⟩ ⟨hIj7, hFj7, kj7_0⟩
        show PW _ _ _ _ _ _ (58, [(0, .ref 0), (1, .int a1), (2, .int (nI (mc + (mc * mc)))), (3, .int j7_3), (4, .int (nI (mc + (mc * mc))))], [], uj7)
        refine P_iload d_CM_generated_58 rfl ?_
        refine P_iload_n d_CM_generated_60 rfl ?_
        refine P_icmp_ge 82 d_CM_generated_61 (by decide) (fun _ => ?_) (fun h => absurd (Int32.le_refl _) h)
        refine P_iload_n d_CM_generated_82 rfl ?_
        exact P_iret d_CM_generated_83 rfl (le_b rfl) (le_b rfl) ⟨⟨_, rfl⟩, hIj7, hFj7⟩
      · rintro j7 ⟨j7_3, uj7⟩ hj7 ⟨hIj7, hFj7, kj7_0⟩ kkj7
        show PW _ _ _ _ _ _ (58, [(0, .ref 0), (1, .int a1), (2, .int (nI (mc + (mc * mc)))), (3, .int j7_3), (4, .int (nI j7))], [], uj7)
        refine P_iload d_CM_generated_58 rfl ?_
        refine P_iload_n d_CM_generated_60 rfl ?_
        refine P_icmp_ge 82 d_CM_generated_61 (by decide) (fun h => absurd h (nI_geF (a := j7) (b := (mc + (mc * mc))) (by omega) (by omega))) (fun _ => ?_)
        refine P_aload_n d_CM_generated_64 rfl ?_
        refine P_iload d_CM_generated_65 rfl ?_
        refine P_callV (M := M_CM_generated) (pc := 67) (as := [.int (nI j7)]) (b := 0) d_CM_generated_67 co_CM_stoodBefore ok_CM ((hFj7.2 _ (SW_f (by omega))).trans e0) L_CM_395 im_CM_stoodBefore se_CM_stoodBefore (s_CM_stoodBefore hG hIj7 hb ((hFj7.2 _ (SW_f (by omega))).trans e0) ((hFj7.2 _ (SW_f (by omega))).trans eb) (by omega) (by omega) (by omega) (by omega) j7 (by omega) (by omega)) rfl ⟨by decide, by decide⟩ ⟨by decide, by decide⟩ (by exact le_b rfl) ?_ _ rfl
        rintro _ w8 ⟨⟨v8, rfl⟩, hI8, hG8⟩
        have hF8 : Fr SW w w8 := Fr.tr hFj7 (Fr.cw hG8)
        show PW _ _ _ _ _ _ (70, [(0, .ref 0), (1, .int a1), (2, .int (nI (mc + (mc * mc)))), (3, .int j7_3), (4, .int (nI j7))], [.int (bi v8)], w8)
        refine P_if_ne 76 d_CM_generated_70 (by decide) (fun c9 => ?_) (fun c9 => ?_)
        · refine P_iinc (v := nI (j7 + 1)) d_CM_generated_76 (by decide) rfl (nI_add j7 1) rfl ?_
          refine P_goto 58 d_CM_generated_79 (by decide) ?_
          exact kkj7 (j7_3, w8) ⟨hI8, hF8, ((hG8.2 _ (SC_f (by omega))).trans kj7_0)⟩
        · refine P_iinc (v := j7_3 + Int32.ofInt 1) d_CM_generated_73 (by decide) rfl rfl rfl ?_
          show PW _ _ _ _ _ _ (76, [(0, .ref 0), (1, .int a1), (2, .int (nI (mc + (mc * mc)))), (3, .int (j7_3 + Int32.ofInt 1)), (4, .int (nI j7))], [], w8)
          refine P_iinc (v := nI (j7 + 1)) d_CM_generated_76 (by decide) rfl (nI_add j7 1) rfl ?_
          refine P_goto 58 d_CM_generated_79 (by decide) ?_
          exact kkj7 (j7_3 + Int32.ofInt 1, w8) ⟨hI8, hF8, ((hG8.2 _ (SC_f (by omega))).trans kj7_0)⟩
  · refine P_iload_n d_CM_generated_5 rfl ?_
    refine P_iconst (v := 2) d_CM_generated_6 (by decide) ?_
    refine P_icmp_eq 12 d_CM_generated_7 (by decide) (fun c10 => ?_) (fun c10 => ?_)
    · refine P_iload_n d_CM_generated_12 rfl ?_
      refine P_iconst (v := 2) d_CM_generated_13 (by decide) ?_
      refine P_icmp_ne 28 d_CM_generated_14 (by decide) (fun h => absurd c10 h) (fun _ => ?_)
      refine P_aload_n d_CM_generated_17 rfl ?_
      refine P_getf (i := 6) d_CM_generated_18 ok_CM (by decide) L_CM_54 e0 rfl ?_
      refine P_aload_n d_CM_generated_21 rfl ?_
      refine P_getf (i := 0) d_CM_generated_22 ok_CM (by decide) L_CM_12 e0 rfl ?_
      refine P_callV (M := M_CM_generated) (pc := 25) (as := [.ref b]) (b := 189) d_CM_generated_25 co_Pairs_fill ok_Pairs e9 L_CM_391 im_Pairs_fill se_Pairs_fill (s_Pairs_fill hI hb eb (by omega) (by omega) (by omega) (by omega)) rfl ⟨by decide, by decide⟩ ⟨by decide, by decide⟩ (by exact le_b rfl) ?_ _ rfl
      rintro _ w11 ⟨rfl, hI11, hG11, k11⟩
      have hF11 : Fr SW w w11 := Fr.tr Fr.rf (Fr.pw hG11)
      have hsl11 := sq_le hmc
      show PW _ _ _ _ _ _ (28, [(0, .ref 0), (1, .int a1)], [], w11)
      refine P_aload_n d_CM_generated_28 rfl ?_
      refine P_getf (i := 0) d_CM_generated_29 ok_CM (by decide) L_CM_12 ((hF11.2 _ (SW_f (by omega))).trans e0) rfl ?_
      refine P_getfN (i := 5) d_CM_generated_32 ok_Plane (by decide) L_CM_225 ((hF11.2 _ (SW_f (by omega))).trans eb) rfl ?_
      refine P_iload_n d_CM_generated_35 rfl ?_
      refine P_iconst (v := 2) d_CM_generated_36 (by decide) ?_
      refine P_icmp_ne 50 d_CM_generated_37 (by decide) (fun h => absurd c10 h) (fun _ => ?_)
      refine P_aload_n d_CM_generated_40 rfl ?_
      refine P_getf (i := 6) d_CM_generated_41 ok_CM (by decide) L_CM_54 ((hF11.2 _ (SW_f (by omega))).trans e0) rfl ?_
      refine P_getfN (i := 2) d_CM_generated_44 ok_Pairs (by decide) L_CM_394 k11 rfl ?_
      refine P_goto 51 d_CM_generated_47 (by decide) ?_
      refine P_iaddN (a := mc) (b := (mc * mc)) d_CM_generated_51 ?_
      show PW _ _ _ _ _ _ (52, [(0, .ref 0), (1, .int a1)], [.int (nI (mc + (mc * mc)))], w11)
      refine P_istore_n d_CM_generated_52 (by decide) rfl ?_
      refine P_iconst (v := 0) d_CM_generated_53 (by decide) ?_
      refine P_istore_n d_CM_generated_54 (by decide) rfl ?_
      refine P_iconst (v := 0) d_CM_generated_55 (by decide) ?_
      refine P_istore d_CM_generated_56 (by decide) rfl ?_
      refine PW_ind (σ := Int32 × pW) ((mc + (mc * mc))) (fun jj ss => I (ss.2) ∧ Fr SW w (ss.2) ∧ (ss.2).2 189 = .inr (6, [.ref 190, .int (nI mc), .int (nI (mc * mc))])) (fun jj ss => (58, [(0, .ref 0), (1, .int a1), (2, .int (nI (mc + (mc * mc)))), (3, .int ss.1), (4, .int (nI jj))], [], ss.2)) ?_ ?_ 0 (0, w11) (by omega) ⟨hI11, hF11, k11⟩
      · rintro ⟨j12_3, uj12⟩ ⟨hIj12, hFj12, kj12_0⟩
        show PW _ _ _ _ _ _ (58, [(0, .ref 0), (1, .int a1), (2, .int (nI (mc + (mc * mc)))), (3, .int j12_3), (4, .int (nI (mc + (mc * mc))))], [], uj12)
        refine P_iload d_CM_generated_58 rfl ?_
        refine P_iload_n d_CM_generated_60 rfl ?_
        refine P_icmp_ge 82 d_CM_generated_61 (by decide) (fun _ => ?_) (fun h => absurd (Int32.le_refl _) h)
        refine P_iload_n d_CM_generated_82 rfl ?_
        exact P_iret d_CM_generated_83 rfl (le_b rfl) (le_b rfl) ⟨⟨_, rfl⟩, hIj12, hFj12⟩
      · rintro j12 ⟨j12_3, uj12⟩ hj12 ⟨hIj12, hFj12, kj12_0⟩ kkj12
        show PW _ _ _ _ _ _ (58, [(0, .ref 0), (1, .int a1), (2, .int (nI (mc + (mc * mc)))), (3, .int j12_3), (4, .int (nI j12))], [], uj12)
        refine P_iload d_CM_generated_58 rfl ?_
        refine P_iload_n d_CM_generated_60 rfl ?_
        refine P_icmp_ge 82 d_CM_generated_61 (by decide) (fun h => absurd h (nI_geF (a := j12) (b := (mc + (mc * mc))) (by omega) (by omega))) (fun _ => ?_)
        refine P_aload_n d_CM_generated_64 rfl ?_
        refine P_iload d_CM_generated_65 rfl ?_
        refine P_callV (M := M_CM_generated) (pc := 67) (as := [.int (nI j12)]) (b := 0) d_CM_generated_67 co_CM_stoodBefore ok_CM ((hFj12.2 _ (SW_f (by omega))).trans e0) L_CM_395 im_CM_stoodBefore se_CM_stoodBefore (s_CM_stoodBefore hG hIj12 hb ((hFj12.2 _ (SW_f (by omega))).trans e0) ((hFj12.2 _ (SW_f (by omega))).trans eb) (by omega) (by omega) (by omega) (by omega) j12 (by omega) (by omega)) rfl ⟨by decide, by decide⟩ ⟨by decide, by decide⟩ (by exact le_b rfl) ?_ _ rfl
        rintro _ w13 ⟨⟨v13, rfl⟩, hI13, hG13⟩
        have hF13 : Fr SW w w13 := Fr.tr hFj12 (Fr.cw hG13)
        show PW _ _ _ _ _ _ (70, [(0, .ref 0), (1, .int a1), (2, .int (nI (mc + (mc * mc)))), (3, .int j12_3), (4, .int (nI j12))], [.int (bi v13)], w13)
        refine P_if_ne 76 d_CM_generated_70 (by decide) (fun c14 => ?_) (fun c14 => ?_)
        · refine P_iinc (v := nI (j12 + 1)) d_CM_generated_76 (by decide) rfl (nI_add j12 1) rfl ?_
          refine P_goto 58 d_CM_generated_79 (by decide) ?_
          exact kkj12 (j12_3, w13) ⟨hI13, hF13, ((hG13.2 _ (SC_f (by omega))).trans kj12_0)⟩
        · refine P_iinc (v := j12_3 + Int32.ofInt 1) d_CM_generated_73 (by decide) rfl rfl rfl ?_
          show PW _ _ _ _ _ _ (76, [(0, .ref 0), (1, .int a1), (2, .int (nI (mc + (mc * mc)))), (3, .int (j12_3 + Int32.ofInt 1)), (4, .int (nI j12))], [], w13)
          refine P_iinc (v := nI (j12 + 1)) d_CM_generated_76 (by decide) rfl (nI_add j12 1) rfl ?_
          refine P_goto 58 d_CM_generated_79 (by decide) ?_
          exact kkj12 (j12_3 + Int32.ofInt 1, w13) ⟨hI13, hF13, ((hG13.2 _ (SC_f (by omega))).trans kj12_0)⟩
    · refine P_iconst (v := (-1)) d_CM_generated_10 (by decide) ?_
      exact P_iret d_CM_generated_11 rfl (le_b rfl) (le_b rfl) ⟨⟨_, rfl⟩, hI, Fr.rf⟩
