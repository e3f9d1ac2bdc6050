/-! the reader -/
def SR1 (i : Nat) : Bool := decide (164 ≤ i ∧ i < 169)
theorem SR1_f {i : Nat} (h : ¬ (164 ≤ i ∧ i < 169)) : SR1 i = false := decide_eq_false h
theorem SR1_t {i : Nat} (h : 164 ≤ i ∧ i < 169) : SR1 i = true := decide_eq_true h
def SR2 (b i : Nat) : Bool := decide ((b ≤ i ∧ i < b + 76) ∨ (155 ≤ i ∧ i < 169))
theorem SR2_f {b i : Nat} (h : ¬ ((b ≤ i ∧ i < b + 76) ∨ (155 ≤ i ∧ i < 169))) : SR2 b i = false := decide_eq_false h
theorem SR2_t {b i : Nat} (h : (b ≤ i ∧ i < b + 76) ∨ (155 ≤ i ∧ i < 169)) : SR2 b i = true := decide_eq_true h
def SMk (i : Nat) : Bool := decide ((155 ≤ i ∧ i < 158) ∨ i = 168)
theorem SMk_f {i : Nat} (h : ¬ ((155 ≤ i ∧ i < 158) ∨ i = 168)) : SMk i = false := decide_eq_false h
theorem SMk_t {i : Nat} (h : (155 ≤ i ∧ i < 158) ∨ i = 168) : SMk i = true := decide_eq_true h
theorem Fr.mono {S T : Nat → Bool} {w u : pW} (h : Fr S w u) (k : ∀ i, S i = true → T i = true) : Fr T w u := by
  refine ⟨h.1, fun i hi => h.2 i ?_⟩
  cases hs : S i with
  | false => rfl
  | true =>
    rw [k i hs] at hi
    cases hi
theorem Fr.r12 {b : Nat} {w u : pW} (h : Fr SR1 w u) : Fr (SR2 b) w u := h.mono (fun i hi => SR2_t (by have := of_decide_eq_true hi; omega))
theorem Fr.mk2 {b : Nat} {w u : pW} (h : Fr SMk w u) : Fr (SR2 b) w u := h.mono (fun i hi => SR2_t (by have := of_decide_eq_true hi; omega))
abbrev rdI (b : Nat) (x1 x2 x3 x4 x5 x6 x7 : Int32) : pE := .inr (4, [.ref 153, .ref 155, .ref 165, .ref 166, .ref 167, .ref 168, .ref b, .int x1, .int x2, .int x3, .int x4, .int x5, .int x6, .int x7])
theorem I.setR {w u : pW} {b : Nat} {x1 x2 x3 x4 x5 x6 x7 : Int32} (h : I w) (hb : b = 1 ∨ b = 77) (k : u = (w.1, wu w.2 164 (rdI b x1 x2 x3 x4 x5 x6 x7))) : I u :=
  h.set k (fun _ => by rw [kc_164]; exact ⟨b, x1, x2, x3, x4, x5, x6, x7, hb, rfl⟩)
def RS (b en : Nat) (e : pE) : Prop := ∃ (a : Nat) (tk tp vl fa fp : Int32), a ≤ en ∧ e = rdI b (nI en) (nI a) tk tp vl fa fp
def PS (b l : Nat) (e : pE) : Prop := ∃ q m p : Nat, q ≤ 8 ∧ m ≤ 8 ∧ p ≤ 8 ∧ e = plE b l q m p
theorem Fr.q2 {b : Nat} {w u : pW} (h : Fr (SQ b) w u) : Fr (SR2 b) w u := h.mono (fun i hi => SR2_t (by have := of_decide_eq_true hi; omega))
theorem s_Reader_isBlank {G : pG} {w : pW} (a : Int32) : PM G M_Reader_isBlank 0 0 0 [.int a] w (fun r w' => (∃ v, r = some (.int (bi v))) ∧ w' = w) := by
  refine PM_of pn_Reader_isBlank (le_b rfl) ?_
  show PW _ _ _ _ _ _ (0, [(0, .int a)], [], w)
  refine P_iload_n d_Reader_isBlank_0 rfl ?_
  refine P_bipush (v := 10) d_Reader_isBlank_1 (by decide) ?_
  refine P_icmp_eq 12 d_Reader_isBlank_3 (by decide) (fun c1 => ?_) (fun c1 => ?_)
  · refine P_iconst (v := 1) d_Reader_isBlank_12 (by decide) ?_
    refine P_goto 17 d_Reader_isBlank_13 (by decide) ?_
    exact P_zret d_Reader_isBlank_17 rfl rfl (le_b rfl) (le_b rfl) ⟨⟨true, rfl⟩, rfl⟩
  · refine P_iload_n d_Reader_isBlank_6 rfl ?_
    refine P_bipush (v := 32) d_Reader_isBlank_7 (by decide) ?_
    refine P_icmp_ne 16 d_Reader_isBlank_9 (by decide) (fun c2 => ?_) (fun c2 => ?_)
    · refine P_iconst (v := 0) d_Reader_isBlank_16 (by decide) ?_
      exact P_zret d_Reader_isBlank_17 rfl rfl (le_b rfl) (le_b rfl) ⟨⟨false, rfl⟩, rfl⟩
    · refine P_iconst (v := 1) d_Reader_isBlank_12 (by decide) ?_
      refine P_goto 17 d_Reader_isBlank_13 (by decide) ?_
      exact P_zret d_Reader_isBlank_17 rfl rfl (le_b rfl) (le_b rfl) ⟨⟨true, rfl⟩, rfl⟩
theorem s_Reader_isLetter {G : pG} {w : pW} (a : Int32) : PM G M_Reader_isLetter 0 0 0 [.int a] w (fun r w' => (∃ v, r = some (.int (bi v))) ∧ w' = w) := by
  refine PM_of pn_Reader_isLetter (le_b rfl) ?_
  show PW _ _ _ _ _ _ (0, [(0, .int a)], [], w)
  refine P_iload_n d_Reader_isLetter_0 rfl ?_
  refine P_bipush (v := 97) d_Reader_isLetter_1 (by decide) ?_
  refine P_icmp_lt 16 d_Reader_isLetter_3 (by decide) (fun c1 => ?_) (fun c1 => ?_)
  · refine P_iconst (v := 0) d_Reader_isLetter_16 (by decide) ?_
    exact P_zret d_Reader_isLetter_17 rfl rfl (le_b rfl) (le_b rfl) ⟨⟨false, rfl⟩, rfl⟩
  · refine P_iload_n d_Reader_isLetter_6 rfl ?_
    refine P_bipush (v := 122) d_Reader_isLetter_7 (by decide) ?_
    refine P_icmp_gt 16 d_Reader_isLetter_9 (by decide) (fun c2 => ?_) (fun c2 => ?_)
    · refine P_iconst (v := 0) d_Reader_isLetter_16 (by decide) ?_
      exact P_zret d_Reader_isLetter_17 rfl rfl (le_b rfl) (le_b rfl) ⟨⟨false, rfl⟩, rfl⟩
    · obtain ⟨aN, haN, rfl⟩ := nI_of_gt (n := 122) (lt_z (n := 97) c1 rfl) c2 rfl
      refine P_iconst (v := 1) d_Reader_isLetter_12 (by decide) ?_
      refine P_goto 17 d_Reader_isLetter_13 (by decide) ?_
      exact P_zret d_Reader_isLetter_17 rfl rfl (le_b rfl) (le_b rfl) ⟨⟨true, rfl⟩, rfl⟩
theorem s_Reader_isDigit {G : pG} {w : pW} (a : Int32) : PM G M_Reader_isDigit 0 0 0 [.int a] w (fun r w' => (∃ v, r = some (.int (bi v))) ∧ w' = w) := by
  refine PM_of pn_Reader_isDigit (le_b rfl) ?_
  show PW _ _ _ _ _ _ (0, [(0, .int a)], [], w)
  refine P_iload_n d_Reader_isDigit_0 rfl ?_
  refine P_bipush (v := 48) d_Reader_isDigit_1 (by decide) ?_
  refine P_icmp_lt 16 d_Reader_isDigit_3 (by decide) (fun c1 => ?_) (fun c1 => ?_)
  · refine P_iconst (v := 0) d_Reader_isDigit_16 (by decide) ?_
    exact P_zret d_Reader_isDigit_17 rfl rfl (le_b rfl) (le_b rfl) ⟨⟨false, rfl⟩, rfl⟩
  · refine P_iload_n d_Reader_isDigit_6 rfl ?_
    refine P_bipush (v := 57) d_Reader_isDigit_7 (by decide) ?_
    refine P_icmp_gt 16 d_Reader_isDigit_9 (by decide) (fun c2 => ?_) (fun c2 => ?_)
    · refine P_iconst (v := 0) d_Reader_isDigit_16 (by decide) ?_
      exact P_zret d_Reader_isDigit_17 rfl rfl (le_b rfl) (le_b rfl) ⟨⟨false, rfl⟩, rfl⟩
    · obtain ⟨aN, haN, rfl⟩ := nI_of_gt (n := 57) (lt_z (n := 48) c1 rfl) c2 rfl
      refine P_iconst (v := 1) d_Reader_isDigit_12 (by decide) ?_
      refine P_goto 17 d_Reader_isDigit_13 (by decide) ?_
      exact P_zret d_Reader_isDigit_17 rfl rfl (le_b rfl) (le_b rfl) ⟨⟨true, rfl⟩, rfl⟩
theorem s_Reader_isWord {G : pG} {w : pW} {b : Nat} {x1 x2 tk tp vl fa fp : Int32} (er : w.2 164 = rdI b x1 x2 tk tp vl fa fp) (a : Int32) : PM G M_Reader_isWord 0 0 0 [.ref 164, .int a] w (fun r w' => (∃ v, r = some (.int (bi v))) ∧ w' = w) := by
  refine PM_of pn_Reader_isWord (le_b rfl) ?_
  show PW _ _ _ _ _ _ (0, [(0, .ref 164), (1, .int a)], [], w)
  refine P_aload_n d_Reader_isWord_0 rfl ?_
  refine P_getf (i := 9) d_Reader_isWord_1 ok_Reader (by decide) L_Reader_69 er rfl ?_
  refine P_iconst (v := 2) d_Reader_isWord_4 (by decide) ?_
  refine P_icmp_ne 20 d_Reader_isWord_5 (by decide) (fun c1 => ?_) (fun c1 => ?_)
  · refine P_iconst (v := 0) d_Reader_isWord_20 (by decide) ?_
    exact P_zret d_Reader_isWord_21 rfl rfl (le_b rfl) (le_b rfl) ⟨⟨false, rfl⟩, rfl⟩
  · refine P_aload_n d_Reader_isWord_8 rfl ?_
    refine P_getf (i := 11) d_Reader_isWord_9 ok_Reader (by decide) L_Reader_164 er rfl ?_
    refine P_iload_n d_Reader_isWord_12 rfl ?_
    refine P_icmp_ne 20 d_Reader_isWord_13 (by decide) (fun c2 => ?_) (fun c2 => ?_)
    · refine P_iconst (v := 0) d_Reader_isWord_20 (by decide) ?_
      exact P_zret d_Reader_isWord_21 rfl rfl (le_b rfl) (le_b rfl) ⟨⟨false, rfl⟩, rfl⟩
    · refine P_iconst (v := 1) d_Reader_isWord_16 (by decide) ?_
      refine P_goto 21 d_Reader_isWord_17 (by decide) ?_
      exact P_zret d_Reader_isWord_21 rfl rfl (le_b rfl) (le_b rfl) ⟨⟨true, rfl⟩, rfl⟩
theorem s_Reader_isName {G : pG} {w : pW} {b : Nat} {x1 x2 tk tp vl fa fp : Int32} (er : w.2 164 = rdI b x1 x2 tk tp vl fa fp) : PM G M_Reader_isName 0 0 0 [.ref 164] w (fun r w' => (∃ v, r = some (.int (bi v))) ∧ w' = w) := by
  refine PM_of pn_Reader_isName (le_b rfl) ?_
  show PW _ _ _ _ _ _ (0, [(0, .ref 164)], [], w)
  refine P_aload_n d_Reader_isName_0 rfl ?_
  refine P_getf (i := 9) d_Reader_isName_1 ok_Reader (by decide) L_Reader_69 er rfl ?_
  refine P_iconst (v := 2) d_Reader_isName_4 (by decide) ?_
  refine P_icmp_ne 40 d_Reader_isName_5 (by decide) (fun c1 => ?_) (fun c1 => ?_)
  · refine P_iconst (v := 0) d_Reader_isName_40 (by decide) ?_
    exact P_zret d_Reader_isName_41 rfl rfl (le_b rfl) (le_b rfl) ⟨⟨false, rfl⟩, rfl⟩
  · refine P_aload_n d_Reader_isName_8 rfl ?_
    refine P_getf (i := 11) d_Reader_isName_9 ok_Reader (by decide) L_Reader_164 er rfl ?_
    refine P_ldc (v := 349951) d_Reader_isName_12 L_Reader_72 ?_
    refine P_icmp_eq 40 d_Reader_isName_14 (by decide) (fun c2 => ?_) (fun c2 => ?_)
    · refine P_iconst (v := 0) d_Reader_isName_40 (by decide) ?_
      exact P_zret d_Reader_isName_41 rfl rfl (le_b rfl) (le_b rfl) ⟨⟨false, rfl⟩, rfl⟩
    · refine P_aload_n d_Reader_isName_17 rfl ?_
      refine P_getf (i := 11) d_Reader_isName_18 ok_Reader (by decide) L_Reader_164 er rfl ?_
      refine P_sipush (v := 9520) d_Reader_isName_21 (by decide) ?_
      refine P_icmp_eq 40 d_Reader_isName_24 (by decide) (fun c3 => ?_) (fun c3 => ?_)
      · refine P_iconst (v := 0) d_Reader_isName_40 (by decide) ?_
        exact P_zret d_Reader_isName_41 rfl rfl (le_b rfl) (le_b rfl) ⟨⟨false, rfl⟩, rfl⟩
      · refine P_aload_n d_Reader_isName_27 rfl ?_
        refine P_getf (i := 11) d_Reader_isName_28 ok_Reader (by decide) L_Reader_164 er rfl ?_
        refine P_ldc (v := 8805260) d_Reader_isName_31 L_Reader_84 ?_
        refine P_icmp_eq 40 d_Reader_isName_33 (by decide) (fun c4 => ?_) (fun c4 => ?_)
        · refine P_iconst (v := 0) d_Reader_isName_40 (by decide) ?_
          exact P_zret d_Reader_isName_41 rfl rfl (le_b rfl) (le_b rfl) ⟨⟨false, rfl⟩, rfl⟩
        · refine P_iconst (v := 1) d_Reader_isName_36 (by decide) ?_
          refine P_goto 41 d_Reader_isName_37 (by decide) ?_
          exact P_zret d_Reader_isName_41 rfl rfl (le_b rfl) (le_b rfl) ⟨⟨true, rfl⟩, rfl⟩
theorem s_Reader_nextWord {G : pG} {w : pW} (hI : I w) {b en ta : Nat} (hb : b = 1 ∨ b = 77) (hen : en ≤ 900) (hat : ta ≤ en) {tk tp vl fa fp : Int32} (er : w.2 164 = rdI b (nI en) (nI ta) tk tp vl fa fp) : PM G M_Reader_nextWord 1 0 0 [.ref 164] w (fun r w' => r = none ∧ I w' ∧ Fr SR1 w w' ∧ RS b en (w'.2 164)) := by
  refine PM_of pn_Reader_nextWord (le_b rfl) ?_
  show PW _ _ _ _ _ _ (0, [(0, .ref 164)], [], w)
  obtain ⟨hb1, hb2⟩ := pl_rng hb
  refine P_iconst (v := 0) d_Reader_nextWord_0 (by decide) ?_
  refine P_istore_n d_Reader_nextWord_1 (by decide) rfl ?_
  refine PW_ind (σ := Int32 × pW) (en) (fun jj ss => I (ss.2) ∧ Fr SR1 w (ss.2) ∧ ∃ (tk tp vl fa fp : Int32), (ss.2).2 164 = rdI b (nI en) (nI jj) tk tp vl fa fp) (fun jj ss => (2, [(0, .ref 164), (1, .int ss.1)], [], ss.2)) ?_ ?_ ta (0, w) (by omega) ⟨hI, Fr.rf, _, _, _, _, _, er⟩
  · rintro ⟨j1_1, uj1⟩ ⟨hIj1, hFj1, tkj1, tpj1, vlj1, faj1, fpj1, kj1⟩
    show PW _ _ _ _ _ _ (2, [(0, .ref 164), (1, .int j1_1)], [], uj1)
    refine P_aload_n d_Reader_nextWord_2 rfl ?_
    refine P_getf (i := 8) d_Reader_nextWord_3 ok_Reader (by decide) L_Reader_60 kj1 rfl ?_
    refine P_aload_n d_Reader_nextWord_6 rfl ?_
    refine P_getf (i := 7) d_Reader_nextWord_7 ok_Reader (by decide) L_Reader_57 kj1 rfl ?_
    refine P_icmp_ge 82 d_Reader_nextWord_10 (by decide) (fun _ => ?_) (fun h => absurd (Int32.le_refl _) h)
    refine P_aload_n d_Reader_nextWord_82 rfl ?_
    refine P_iload_n d_Reader_nextWord_83 rfl ?_
    refine P_bipush (v := 6) d_Reader_nextWord_84 (by decide) ?_
    refine P_icmp_le 93 d_Reader_nextWord_86 (by decide) (fun c2 => ?_) (fun c2 => ?_)
    · refine P_iconst (v := 2) d_Reader_nextWord_93 (by decide) ?_
      refine P_putG (i := 9) d_Reader_nextWord_94 ok_Reader (by decide) rfl L_Reader_69 kj1 (fun _ => rfl) (fun _ => rfl) (fun w3 e3 s3 n3 z3 => ?_)
      have hI3 : I w3 := hIj1.setR hb (show w3 = (_, wu _ 164 (rdI b (nI en) (nI en) 2 tpj1 vlj1 faj1 fpj1)) from e3)
      have hF3 : Fr SR1 w w3 := Fr.set hFj1 e3 (SR1_t (by omega))
      show PW _ _ _ _ _ _ (97, [(0, .ref 164), (1, .int j1_1)], [], w3)
      exact P_vret d_Reader_nextWord_97 rfl (le_b rfl) (le_b rfl) ⟨rfl, hI3, hF3, ⟨en, _, _, _, _, _, by omega, s3⟩⟩
    · refine P_iconst (v := 5) d_Reader_nextWord_89 (by decide) ?_
      refine P_goto 94 d_Reader_nextWord_90 (by decide) ?_
      refine P_putG (i := 9) d_Reader_nextWord_94 ok_Reader (by decide) rfl L_Reader_69 kj1 (fun _ => rfl) (fun _ => rfl) (fun w4 e4 s4 n4 z4 => ?_)
      have hI4 : I w4 := hIj1.setR hb (show w4 = (_, wu _ 164 (rdI b (nI en) (nI en) 5 tpj1 vlj1 faj1 fpj1)) from e4)
      have hF4 : Fr SR1 w w4 := Fr.set hFj1 e4 (SR1_t (by omega))
      show PW _ _ _ _ _ _ (97, [(0, .ref 164), (1, .int j1_1)], [], w4)
      exact P_vret d_Reader_nextWord_97 rfl (le_b rfl) (le_b rfl) ⟨rfl, hI4, hF4, ⟨en, _, _, _, _, _, by omega, s4⟩⟩
  · rintro j1 ⟨j1_1, uj1⟩ hj1 ⟨hIj1, hFj1, tkj1, tpj1, vlj1, faj1, fpj1, kj1⟩ kkj1
    show PW _ _ _ _ _ _ (2, [(0, .ref 164), (1, .int j1_1)], [], uj1)
    refine P_aload_n d_Reader_nextWord_2 rfl ?_
    refine P_getf (i := 8) d_Reader_nextWord_3 ok_Reader (by decide) L_Reader_60 kj1 rfl ?_
    refine P_aload_n d_Reader_nextWord_6 rfl ?_
    refine P_getf (i := 7) d_Reader_nextWord_7 ok_Reader (by decide) L_Reader_57 kj1 rfl ?_
    refine P_icmp_ge 82 d_Reader_nextWord_10 (by decide) (fun h => absurd h (nI_geF (a := j1) (b := en) (by omega) (by omega))) (fun _ => ?_)
    refine P_aload_n d_Reader_nextWord_13 rfl ?_
    refine P_getf (i := 0) d_Reader_nextWord_14 ok_Reader (by decide) L_Reader_29 kj1 rfl ?_
    obtain ⟨tl, htl, etl⟩ := hI.tape
    refine P_getfN (i := 0) d_Reader_nextWord_17 ok_Tape (by decide) L_Reader_173 ((hFj1.2 _ (SR1_f (by omega))).trans etl) rfl ?_
    refine P_aload_n d_Reader_nextWord_20 rfl ?_
    refine P_getf (i := 8) d_Reader_nextWord_21 ok_Reader (by decide) L_Reader_60 kj1 rfl ?_
    obtain ⟨f5, f5e⟩ := hIj1.ints (r := 154) (by decide) kc_154
    refine P_iald (j := j1) d_Reader_nextWord_24 f5e (ix_nI (by omega)) (by omega) ?_
    refine P_callS (M := M_Reader_nextWord) (pc := 25) (as := [.int (f5 j1)]) d_Reader_nextWord_25 co_Reader_isLetter L_Reader_179 sm_Reader_isLetter (s_Reader_isLetter (f5 j1)) rfl ⟨by decide, by decide⟩ ⟨by decide, by decide⟩ (by exact le_b rfl) ?_ _ rfl
    rintro _ u ⟨⟨v6, rfl⟩, eu⟩
    subst u
    show PW _ _ _ _ _ _ (28, [(0, .ref 164), (1, .int j1_1)], [.int (bi v6)], uj1)
    refine P_if_eq 82 d_Reader_nextWord_28 (by decide) (fun c7 => ?_) (fun c7 => ?_)
    · refine P_aload_n d_Reader_nextWord_82 rfl ?_
      refine P_iload_n d_Reader_nextWord_83 rfl ?_
      refine P_bipush (v := 6) d_Reader_nextWord_84 (by decide) ?_
      refine P_icmp_le 93 d_Reader_nextWord_86 (by decide) (fun c8 => ?_) (fun c8 => ?_)
      · refine P_iconst (v := 2) d_Reader_nextWord_93 (by decide) ?_
        refine P_putG (i := 9) d_Reader_nextWord_94 ok_Reader (by decide) rfl L_Reader_69 kj1 (fun _ => rfl) (fun _ => rfl) (fun w9 e9 s9 n9 z9 => ?_)
        have hI9 : I w9 := hIj1.setR hb (show w9 = (_, wu _ 164 (rdI b (nI en) (nI j1) 2 tpj1 vlj1 faj1 fpj1)) from e9)
        have hF9 : Fr SR1 w w9 := Fr.set hFj1 e9 (SR1_t (by omega))
        show PW _ _ _ _ _ _ (97, [(0, .ref 164), (1, .int j1_1)], [], w9)
        exact P_vret d_Reader_nextWord_97 rfl (le_b rfl) (le_b rfl) ⟨rfl, hI9, hF9, ⟨j1, _, _, _, _, _, by omega, s9⟩⟩
      · refine P_iconst (v := 5) d_Reader_nextWord_89 (by decide) ?_
        refine P_goto 94 d_Reader_nextWord_90 (by decide) ?_
        refine P_putG (i := 9) d_Reader_nextWord_94 ok_Reader (by decide) rfl L_Reader_69 kj1 (fun _ => rfl) (fun _ => rfl) (fun w10 e10 s10 n10 z10 => ?_)
        have hI10 : I w10 := hIj1.setR hb (show w10 = (_, wu _ 164 (rdI b (nI en) (nI j1) 5 tpj1 vlj1 faj1 fpj1)) from e10)
        have hF10 : Fr SR1 w w10 := Fr.set hFj1 e10 (SR1_t (by omega))
        show PW _ _ _ _ _ _ (97, [(0, .ref 164), (1, .int j1_1)], [], w10)
        exact P_vret d_Reader_nextWord_97 rfl (le_b rfl) (le_b rfl) ⟨rfl, hI10, hF10, ⟨j1, _, _, _, _, _, by omega, s10⟩⟩
    · refine P_iload_n d_Reader_nextWord_31 rfl ?_
      refine P_bipush (v := 6) d_Reader_nextWord_32 (by decide) ?_
      refine P_icmp_ge 66 d_Reader_nextWord_34 (by decide) (fun c11 => ?_) (fun c11 => ?_)
      · refine P_iinc (v := j1_1 + Int32.ofInt 1) d_Reader_nextWord_66 (by decide) rfl rfl rfl ?_
        show PW _ _ _ _ _ _ (69, [(0, .ref 164), (1, .int (j1_1 + Int32.ofInt 1))], [], uj1)
        refine P_aload_n d_Reader_nextWord_69 rfl ?_
        refine P_dup d_Reader_nextWord_70 rfl ?_
        refine P_getf (i := 8) d_Reader_nextWord_71 ok_Reader (by decide) L_Reader_60 kj1 rfl ?_
        refine P_iconst (v := 1) d_Reader_nextWord_74 (by decide) ?_
        refine P_iaddN (a := j1) (b := 1) d_Reader_nextWord_75 ?_
        show PW _ _ _ _ _ _ (76, [(0, .ref 164), (1, .int (j1_1 + Int32.ofInt 1))], [.int (nI (j1 + 1)), .ref 164], uj1)
        refine P_putG (i := 8) d_Reader_nextWord_76 ok_Reader (by decide) rfl L_Reader_60 kj1 (fun _ => rfl) (fun _ => rfl) (fun w12 e12 s12 n12 z12 => ?_)
        have hI12 : I w12 := hIj1.setR hb (show w12 = (_, wu _ 164 (rdI b (nI en) (nI (j1 + 1)) tkj1 tpj1 vlj1 faj1 fpj1)) from e12)
        have hF12 : Fr SR1 w w12 := Fr.set hFj1 e12 (SR1_t (by omega))
        show PW _ _ _ _ _ _ (79, [(0, .ref 164), (1, .int (j1_1 + Int32.ofInt 1))], [], w12)
        refine P_goto 2 d_Reader_nextWord_79 (by decide) ?_
        exact kkj1 (j1_1 + Int32.ofInt 1, w12) ⟨hI12, hF12, _, _, _, _, _, s12⟩
      · refine P_aload_n d_Reader_nextWord_37 rfl ?_
        refine P_bipush (v := 27) d_Reader_nextWord_38 (by decide) ?_
        refine P_aload_n d_Reader_nextWord_40 rfl ?_
        refine P_getf (i := 11) d_Reader_nextWord_41 ok_Reader (by decide) L_Reader_164 kj1 rfl ?_
        refine P_imul d_Reader_nextWord_44 ?_
        refine P_aload_n d_Reader_nextWord_45 rfl ?_
        refine P_getf (i := 0) d_Reader_nextWord_46 ok_Reader (by decide) L_Reader_29 kj1 rfl ?_
        refine P_getfN (i := 0) d_Reader_nextWord_49 ok_Tape (by decide) L_Reader_173 ((hFj1.2 _ (SR1_f (by omega))).trans etl) rfl ?_
        refine P_aload_n d_Reader_nextWord_52 rfl ?_
        refine P_getf (i := 8) d_Reader_nextWord_53 ok_Reader (by decide) L_Reader_60 kj1 rfl ?_
        refine P_iald (j := j1) d_Reader_nextWord_56 f5e (ix_nI (by omega)) (by omega) ?_
        refine P_iadd d_Reader_nextWord_57 ?_
        refine P_bipush (v := 97) d_Reader_nextWord_58 (by decide) ?_
        refine P_isub d_Reader_nextWord_60 ?_
        refine P_iconst (v := 1) d_Reader_nextWord_61 (by decide) ?_
        refine P_iadd d_Reader_nextWord_62 ?_
        refine P_putG (i := 11) d_Reader_nextWord_63 ok_Reader (by decide) rfl L_Reader_164 kj1 (fun _ => rfl) (fun _ => rfl) (fun w13 e13 s13 n13 z13 => ?_)
        have hI13 : I w13 := hIj1.setR hb (show w13 = (_, wu _ 164 (rdI b (nI en) (nI j1) tkj1 tpj1 ((((27 * vlj1) + (f5 j1)) - 97) + 1) faj1 fpj1)) from e13)
        have hF13 : Fr SR1 w w13 := Fr.set hFj1 e13 (SR1_t (by omega))
        show PW _ _ _ _ _ _ (66, [(0, .ref 164), (1, .int j1_1)], [], w13)
        refine P_iinc (v := j1_1 + Int32.ofInt 1) d_Reader_nextWord_66 (by decide) rfl rfl rfl ?_
        show PW _ _ _ _ _ _ (69, [(0, .ref 164), (1, .int (j1_1 + Int32.ofInt 1))], [], w13)
        refine P_aload_n d_Reader_nextWord_69 rfl ?_
        refine P_dup d_Reader_nextWord_70 rfl ?_
        refine P_getf (i := 8) d_Reader_nextWord_71 ok_Reader (by decide) L_Reader_60 s13 rfl ?_
        refine P_iconst (v := 1) d_Reader_nextWord_74 (by decide) ?_
        refine P_iaddN (a := j1) (b := 1) d_Reader_nextWord_75 ?_
        show PW _ _ _ _ _ _ (76, [(0, .ref 164), (1, .int (j1_1 + Int32.ofInt 1))], [.int (nI (j1 + 1)), .ref 164], w13)
        refine P_putG (i := 8) d_Reader_nextWord_76 ok_Reader (by decide) rfl L_Reader_60 s13 (fun _ => rfl) (fun _ => rfl) (fun w14 e14 s14 n14 z14 => ?_)
        have hI14 : I w14 := hI13.setR hb (show w14 = (_, wu _ 164 (rdI b (nI en) (nI (j1 + 1)) tkj1 tpj1 ((((27 * vlj1) + (f5 j1)) - 97) + 1) faj1 fpj1)) from e14)
        have hF14 : Fr SR1 w w14 := Fr.set hF13 e14 (SR1_t (by omega))
        show PW _ _ _ _ _ _ (79, [(0, .ref 164), (1, .int (j1_1 + Int32.ofInt 1))], [], w14)
        refine P_goto 2 d_Reader_nextWord_79 (by decide) ?_
        exact kkj1 (j1_1 + Int32.ofInt 1, w14) ⟨hI14, hF14, _, _, _, _, _, s14⟩
theorem s_Reader_nextDigits {G : pG} {w : pW} (hI : I w) {b en ta : Nat} (hb : b = 1 ∨ b = 77) (hen : en ≤ 900) (hat : ta ≤ en) {tk tp vl fa fp : Int32} (er : w.2 164 = rdI b (nI en) (nI ta) tk tp vl fa fp) : PM G M_Reader_nextDigits 1 0 0 [.ref 164] w (fun r w' => r = none ∧ I w' ∧ Fr SR1 w w' ∧ RS b en (w'.2 164)) := by
  refine PM_of pn_Reader_nextDigits (le_b rfl) ?_
  show PW _ _ _ _ _ _ (0, [(0, .ref 164)], [], w)
  obtain ⟨hb1, hb2⟩ := pl_rng hb
  refine PW_ind (σ := pW) (en) (fun jj ss => I (ss) ∧ Fr SR1 w (ss) ∧ ∃ (tk tp vl fa fp : Int32), (ss).2 164 = rdI b (nI en) (nI jj) tk tp vl fa fp) (fun jj ss => (0, [(0, .ref 164)], [], ss)) ?_ ?_ ta w (by omega) ⟨hI, Fr.rf, _, _, _, _, _, er⟩
  · rintro uj1 ⟨hIj1, hFj1, tkj1, tpj1, vlj1, faj1, fpj1, kj1⟩
    show PW _ _ _ _ _ _ (0, [(0, .ref 164)], [], uj1)
    refine P_aload_n d_Reader_nextDigits_0 rfl ?_
    refine P_getf (i := 8) d_Reader_nextDigits_1 ok_Reader (by decide) L_Reader_60 kj1 rfl ?_
    refine P_aload_n d_Reader_nextDigits_4 rfl ?_
    refine P_getf (i := 7) d_Reader_nextDigits_5 ok_Reader (by decide) L_Reader_57 kj1 rfl ?_
    refine P_icmp_ge 74 d_Reader_nextDigits_8 (by decide) (fun _ => ?_) (fun h => absurd (Int32.le_refl _) h)
    refine P_aload_n d_Reader_nextDigits_74 rfl ?_
    refine P_iconst (v := 3) d_Reader_nextDigits_75 (by decide) ?_
    refine P_putG (i := 9) d_Reader_nextDigits_76 ok_Reader (by decide) rfl L_Reader_69 kj1 (fun _ => rfl) (fun _ => rfl) (fun w2 e2 s2 n2 z2 => ?_)
    have hI2 : I w2 := hIj1.setR hb (show w2 = (_, wu _ 164 (rdI b (nI en) (nI en) 3 tpj1 vlj1 faj1 fpj1)) from e2)
    have hF2 : Fr SR1 w w2 := Fr.set hFj1 e2 (SR1_t (by omega))
    show PW _ _ _ _ _ _ (79, [(0, .ref 164)], [], w2)
    exact P_vret d_Reader_nextDigits_79 rfl (le_b rfl) (le_b rfl) ⟨rfl, hI2, hF2, ⟨en, _, _, _, _, _, by omega, s2⟩⟩
  · rintro j1 uj1 hj1 ⟨hIj1, hFj1, tkj1, tpj1, vlj1, faj1, fpj1, kj1⟩ kkj1
    show PW _ _ _ _ _ _ (0, [(0, .ref 164)], [], uj1)
    refine P_aload_n d_Reader_nextDigits_0 rfl ?_
    refine P_getf (i := 8) d_Reader_nextDigits_1 ok_Reader (by decide) L_Reader_60 kj1 rfl ?_
    refine P_aload_n d_Reader_nextDigits_4 rfl ?_
    refine P_getf (i := 7) d_Reader_nextDigits_5 ok_Reader (by decide) L_Reader_57 kj1 rfl ?_
    refine P_icmp_ge 74 d_Reader_nextDigits_8 (by decide) (fun h => absurd h (nI_geF (a := j1) (b := en) (by omega) (by omega))) (fun _ => ?_)
    refine P_aload_n d_Reader_nextDigits_11 rfl ?_
    refine P_getf (i := 0) d_Reader_nextDigits_12 ok_Reader (by decide) L_Reader_29 kj1 rfl ?_
    obtain ⟨tl, htl, etl⟩ := hI.tape
    refine P_getfN (i := 0) d_Reader_nextDigits_15 ok_Tape (by decide) L_Reader_173 ((hFj1.2 _ (SR1_f (by omega))).trans etl) rfl ?_
    refine P_aload_n d_Reader_nextDigits_18 rfl ?_
    refine P_getf (i := 8) d_Reader_nextDigits_19 ok_Reader (by decide) L_Reader_60 kj1 rfl ?_
    obtain ⟨f3, f3e⟩ := hIj1.ints (r := 154) (by decide) kc_154
    refine P_iald (j := j1) d_Reader_nextDigits_22 f3e (ix_nI (by omega)) (by omega) ?_
    refine P_callS (M := M_Reader_nextDigits) (pc := 23) (as := [.int (f3 j1)]) d_Reader_nextDigits_23 co_Reader_isDigit L_Reader_185 sm_Reader_isDigit (s_Reader_isDigit (f3 j1)) rfl ⟨by decide, by decide⟩ ⟨by decide, by decide⟩ (by exact le_b rfl) ?_ _ rfl
    rintro _ u ⟨⟨v4, rfl⟩, eu⟩
    subst u
    show PW _ _ _ _ _ _ (26, [(0, .ref 164)], [.int (bi v4)], uj1)
    refine P_if_eq 74 d_Reader_nextDigits_26 (by decide) (fun c5 => ?_) (fun c5 => ?_)
    · refine P_aload_n d_Reader_nextDigits_74 rfl ?_
      refine P_iconst (v := 3) d_Reader_nextDigits_75 (by decide) ?_
      refine P_putG (i := 9) d_Reader_nextDigits_76 ok_Reader (by decide) rfl L_Reader_69 kj1 (fun _ => rfl) (fun _ => rfl) (fun w6 e6 s6 n6 z6 => ?_)
      have hI6 : I w6 := hIj1.setR hb (show w6 = (_, wu _ 164 (rdI b (nI en) (nI j1) 3 tpj1 vlj1 faj1 fpj1)) from e6)
      have hF6 : Fr SR1 w w6 := Fr.set hFj1 e6 (SR1_t (by omega))
      show PW _ _ _ _ _ _ (79, [(0, .ref 164)], [], w6)
      exact P_vret d_Reader_nextDigits_79 rfl (le_b rfl) (le_b rfl) ⟨rfl, hI6, hF6, ⟨j1, _, _, _, _, _, by omega, s6⟩⟩
    · refine P_aload_n d_Reader_nextDigits_29 rfl ?_
      refine P_ldc (v := 100000) d_Reader_nextDigits_30 L_Reader_195 ?_
      refine P_bipush (v := 10) d_Reader_nextDigits_32 (by decide) ?_
      refine P_aload_n d_Reader_nextDigits_34 rfl ?_
      refine P_getf (i := 11) d_Reader_nextDigits_35 ok_Reader (by decide) L_Reader_164 kj1 rfl ?_
      refine P_imul d_Reader_nextDigits_38 ?_
      refine P_aload_n d_Reader_nextDigits_39 rfl ?_
      refine P_getf (i := 0) d_Reader_nextDigits_40 ok_Reader (by decide) L_Reader_29 kj1 rfl ?_
      refine P_getfN (i := 0) d_Reader_nextDigits_43 ok_Tape (by decide) L_Reader_173 ((hFj1.2 _ (SR1_f (by omega))).trans etl) rfl ?_
      refine P_aload_n d_Reader_nextDigits_46 rfl ?_
      refine P_getf (i := 8) d_Reader_nextDigits_47 ok_Reader (by decide) L_Reader_60 kj1 rfl ?_
      refine P_iald (j := j1) d_Reader_nextDigits_50 f3e (ix_nI (by omega)) (by omega) ?_
      refine P_iadd d_Reader_nextDigits_51 ?_
      refine P_bipush (v := 48) d_Reader_nextDigits_52 (by decide) ?_
      refine P_isub d_Reader_nextDigits_54 ?_
      refine P_mminiZ d_Reader_nextDigits_55 L_Reader_51 st_min in_Math cd_min ⟨by decide, by decide, by decide, by decide⟩ (by exact le_b rfl) (fun zz7 => ?_)
      show PW _ _ _ _ _ _ (58, [(0, .ref 164)], [.int zz7, .ref 164], uj1)
      refine P_putG (i := 11) d_Reader_nextDigits_58 ok_Reader (by decide) rfl L_Reader_164 kj1 (fun _ => rfl) (fun _ => rfl) (fun w8 e8 s8 n8 z8 => ?_)
      have hI8 : I w8 := hIj1.setR hb (show w8 = (_, wu _ 164 (rdI b (nI en) (nI j1) tkj1 tpj1 zz7 faj1 fpj1)) from e8)
      have hF8 : Fr SR1 w w8 := Fr.set hFj1 e8 (SR1_t (by omega))
      show PW _ _ _ _ _ _ (61, [(0, .ref 164)], [], w8)
      refine P_aload_n d_Reader_nextDigits_61 rfl ?_
      refine P_dup d_Reader_nextDigits_62 rfl ?_
      refine P_getf (i := 8) d_Reader_nextDigits_63 ok_Reader (by decide) L_Reader_60 s8 rfl ?_
      refine P_iconst (v := 1) d_Reader_nextDigits_66 (by decide) ?_
      refine P_iaddN (a := j1) (b := 1) d_Reader_nextDigits_67 ?_
      show PW _ _ _ _ _ _ (68, [(0, .ref 164)], [.int (nI (j1 + 1)), .ref 164], w8)
      refine P_putG (i := 8) d_Reader_nextDigits_68 ok_Reader (by decide) rfl L_Reader_60 s8 (fun _ => rfl) (fun _ => rfl) (fun w9 e9 s9 n9 z9 => ?_)
      have hI9 : I w9 := hI8.setR hb (show w9 = (_, wu _ 164 (rdI b (nI en) (nI (j1 + 1)) tkj1 tpj1 zz7 faj1 fpj1)) from e9)
      have hF9 : Fr SR1 w w9 := Fr.set hF8 e9 (SR1_t (by omega))
      show PW _ _ _ _ _ _ (71, [(0, .ref 164)], [], w9)
      refine P_goto 0 d_Reader_nextDigits_71 (by decide) ?_
      exact kkj1 w9 ⟨hI9, hF9, _, _, _, _, _, s9⟩
theorem s_Reader_nextSign {G : pG} {w : pW} (hI : I w) {b en ta : Nat} (hb : b = 1 ∨ b = 77) (hen : en ≤ 900) (hat : ta ≤ en) {tk tp vl fa fp : Int32} (er : w.2 164 = rdI b (nI en) (nI ta) tk tp vl fa fp) (a : Int32) (h1 : ta < en) : PM G M_Reader_nextSign 0 0 0 [.ref 164, .int a] w (fun r w' => r = none ∧ I w' ∧ Fr SR1 w w' ∧ RS b en (w'.2 164)) := by
  refine PM_of pn_Reader_nextSign (le_b rfl) ?_
  show PW _ _ _ _ _ _ (0, [(0, .ref 164), (1, .int a)], [], w)
  obtain ⟨hb1, hb2⟩ := pl_rng hb
  refine P_aload_n d_Reader_nextSign_0 rfl ?_
  refine P_dup d_Reader_nextSign_1 rfl ?_
  refine P_getf (i := 8) d_Reader_nextSign_2 ok_Reader (by decide) L_Reader_60 er rfl ?_
  refine P_iconst (v := 1) d_Reader_nextSign_5 (by decide) ?_
  refine P_iaddN (a := ta) (b := 1) d_Reader_nextSign_6 ?_
  show PW _ _ _ _ _ _ (7, [(0, .ref 164), (1, .int a)], [.int (nI (ta + 1)), .ref 164], w)
  refine P_putG (i := 8) d_Reader_nextSign_7 ok_Reader (by decide) rfl L_Reader_60 er (fun _ => rfl) (fun _ => rfl) (fun w1 e1 s1 n1 z1 => ?_)
  have hI1 : I w1 := hI.setR hb (show w1 = (_, wu _ 164 (rdI b (nI en) (nI (ta + 1)) tk tp vl fa fp)) from e1)
  have hF1 : Fr SR1 w w1 := Fr.set Fr.rf e1 (SR1_t (by omega))
  show PW _ _ _ _ _ _ (10, [(0, .ref 164), (1, .int a)], [], w1)
  refine P_iload_n d_Reader_nextSign_10 rfl ?_
  refine P_bipush (v := 59) d_Reader_nextSign_11 (by decide) ?_
  refine P_icmp_ne 24 d_Reader_nextSign_13 (by decide) (fun c2 => ?_) (fun c2 => ?_)
  · refine P_aload_n d_Reader_nextSign_24 rfl ?_
    refine P_iload_n d_Reader_nextSign_25 rfl ?_
    refine P_bipush (v := 45) d_Reader_nextSign_26 (by decide) ?_
    refine P_icmp_ne 35 d_Reader_nextSign_28 (by decide) (fun c3 => ?_) (fun c3 => ?_)
    · refine P_iconst (v := 5) d_Reader_nextSign_35 (by decide) ?_
      refine P_putG (i := 9) d_Reader_nextSign_36 ok_Reader (by decide) rfl L_Reader_69 s1 (fun _ => rfl) (fun _ => rfl) (fun w4 e4 s4 n4 z4 => ?_)
      have hI4 : I w4 := hI1.setR hb (show w4 = (_, wu _ 164 (rdI b (nI en) (nI (ta + 1)) 5 tp vl fa fp)) from e4)
      have hF4 : Fr SR1 w w4 := Fr.set hF1 e4 (SR1_t (by omega))
      show PW _ _ _ _ _ _ (39, [(0, .ref 164), (1, .int a)], [], w4)
      exact P_vret d_Reader_nextSign_39 rfl (le_b rfl) (le_b rfl) ⟨rfl, hI4, hF4, ⟨(ta + 1), _, _, _, _, _, by omega, s4⟩⟩
    · refine P_iconst (v := 4) d_Reader_nextSign_31 (by decide) ?_
      refine P_goto 36 d_Reader_nextSign_32 (by decide) ?_
      refine P_putG (i := 9) d_Reader_nextSign_36 ok_Reader (by decide) rfl L_Reader_69 s1 (fun _ => rfl) (fun _ => rfl) (fun w5 e5 s5 n5 z5 => ?_)
      have hI5 : I w5 := hI1.setR hb (show w5 = (_, wu _ 164 (rdI b (nI en) (nI (ta + 1)) 4 tp vl fa fp)) from e5)
      have hF5 : Fr SR1 w w5 := Fr.set hF1 e5 (SR1_t (by omega))
      show PW _ _ _ _ _ _ (39, [(0, .ref 164), (1, .int a)], [], w5)
      exact P_vret d_Reader_nextSign_39 rfl (le_b rfl) (le_b rfl) ⟨rfl, hI5, hF5, ⟨(ta + 1), _, _, _, _, _, by omega, s5⟩⟩
  · refine P_aload_n d_Reader_nextSign_16 rfl ?_
    refine P_iconst (v := 1) d_Reader_nextSign_17 (by decide) ?_
    refine P_putG (i := 9) d_Reader_nextSign_18 ok_Reader (by decide) rfl L_Reader_69 s1 (fun _ => rfl) (fun _ => rfl) (fun w6 e6 s6 n6 z6 => ?_)
    have hI6 : I w6 := hI1.setR hb (show w6 = (_, wu _ 164 (rdI b (nI en) (nI (ta + 1)) 1 tp vl fa fp)) from e6)
    have hF6 : Fr SR1 w w6 := Fr.set hF1 e6 (SR1_t (by omega))
    show PW _ _ _ _ _ _ (21, [(0, .ref 164), (1, .int a)], [], w6)
    refine P_goto 39 d_Reader_nextSign_21 (by decide) ?_
    exact P_vret d_Reader_nextSign_39 rfl (le_b rfl) (le_b rfl) ⟨rfl, hI6, hF6, ⟨(ta + 1), _, _, _, _, _, by omega, s6⟩⟩
theorem s_Reader_next {G : pG} {w : pW} (hI : I w) {b en ta : Nat} (hb : b = 1 ∨ b = 77) (hen : en ≤ 900) (hat : ta ≤ en) {tk tp vl fa fp : Int32} (er : w.2 164 = rdI b (nI en) (nI ta) tk tp vl fa fp) : PM G M_Reader_next 2 0 0 [.ref 164] w (fun r w' => r = none ∧ I w' ∧ Fr SR1 w w' ∧ RS b en (w'.2 164)) := by
  refine PM_of pn_Reader_next (le_b rfl) ?_
  show PW _ _ _ _ _ _ (0, [(0, .ref 164)], [], w)
  obtain ⟨hb1, hb2⟩ := pl_rng hb
  refine PW_ind (σ := pW) (en) (fun jj ss => I (ss) ∧ Fr SR1 w (ss) ∧ ∃ (tk tp vl fa fp : Int32), (ss).2 164 = rdI b (nI en) (nI jj) tk tp vl fa fp) (fun jj ss => (0, [(0, .ref 164)], [], ss)) ?_ ?_ ta w (by omega) ⟨hI, Fr.rf, _, _, _, _, _, er⟩
  · rintro uj1 ⟨hIj1, hFj1, tkj1, tpj1, vlj1, faj1, fpj1, kj1⟩
    show PW _ _ _ _ _ _ (0, [(0, .ref 164)], [], uj1)
    refine P_aload_n d_Reader_next_0 rfl ?_
    refine P_getf (i := 8) d_Reader_next_1 ok_Reader (by decide) L_Reader_60 kj1 rfl ?_
    refine P_aload_n d_Reader_next_4 rfl ?_
    refine P_getf (i := 7) d_Reader_next_5 ok_Reader (by decide) L_Reader_57 kj1 rfl ?_
    refine P_icmp_ge 42 d_Reader_next_8 (by decide) (fun _ => ?_) (fun h => absurd (Int32.le_refl _) h)
    refine P_aload_n d_Reader_next_42 rfl ?_
    refine P_aload_n d_Reader_next_43 rfl ?_
    refine P_getf (i := 8) d_Reader_next_44 ok_Reader (by decide) L_Reader_60 kj1 rfl ?_
    refine P_putG (i := 10) d_Reader_next_47 ok_Reader (by decide) rfl L_Reader_167 kj1 (fun _ => rfl) (fun _ => rfl) (fun w2 e2 s2 n2 z2 => ?_)
    have hI2 : I w2 := hIj1.setR hb (show w2 = (_, wu _ 164 (rdI b (nI en) (nI en) tkj1 (nI en) vlj1 faj1 fpj1)) from e2)
    have hF2 : Fr SR1 w w2 := Fr.set hFj1 e2 (SR1_t (by omega))
    show PW _ _ _ _ _ _ (50, [(0, .ref 164)], [], w2)
    refine P_aload_n d_Reader_next_50 rfl ?_
    refine P_iconst (v := 0) d_Reader_next_51 (by decide) ?_
    refine P_putG (i := 11) d_Reader_next_52 ok_Reader (by decide) rfl L_Reader_164 s2 (fun _ => rfl) (fun _ => rfl) (fun w3 e3 s3 n3 z3 => ?_)
    have hI3 : I w3 := hI2.setR hb (show w3 = (_, wu _ 164 (rdI b (nI en) (nI en) tkj1 (nI en) 0 faj1 fpj1)) from e3)
    have hF3 : Fr SR1 w w3 := Fr.set hF2 e3 (SR1_t (by omega))
    show PW _ _ _ _ _ _ (55, [(0, .ref 164)], [], w3)
    refine P_aload_n d_Reader_next_55 rfl ?_
    refine P_getf (i := 8) d_Reader_next_56 ok_Reader (by decide) L_Reader_60 s3 rfl ?_
    refine P_aload_n d_Reader_next_59 rfl ?_
    refine P_getf (i := 7) d_Reader_next_60 ok_Reader (by decide) L_Reader_57 s3 rfl ?_
    refine P_icmp_lt 74 d_Reader_next_63 (by decide) (fun c4 => ?_) (fun c4 => ?_)
    · have ic4 : en < en := nI_ltt (by omega) (by omega) c4
      refine P_aload_n d_Reader_next_74 rfl ?_
      refine P_getf (i := 0) d_Reader_next_75 ok_Reader (by decide) L_Reader_29 s3 rfl ?_
      obtain ⟨tl, htl, etl⟩ := hI.tape
      refine P_getfN (i := 0) d_Reader_next_78 ok_Tape (by decide) L_Reader_173 ((hF3.2 _ (SR1_f (by omega))).trans etl) rfl ?_
      refine P_aload_n d_Reader_next_81 rfl ?_
      refine P_getf (i := 8) d_Reader_next_82 ok_Reader (by decide) L_Reader_60 s3 rfl ?_
      obtain ⟨f5, f5e⟩ := hI3.ints (r := 154) (by decide) kc_154
      refine P_iald (j := en) d_Reader_next_85 f5e (ix_nI (by omega)) (by omega) ?_
      refine P_callS (M := M_Reader_next) (pc := 86) (as := [.int (f5 en)]) d_Reader_next_86 co_Reader_isLetter L_Reader_179 sm_Reader_isLetter (s_Reader_isLetter (f5 en)) rfl ⟨by decide, by decide⟩ ⟨by decide, by decide⟩ (by exact le_b rfl) ?_ _ rfl
      rintro _ u ⟨⟨v6, rfl⟩, eu⟩
      subst u
      show PW _ _ _ _ _ _ (89, [(0, .ref 164)], [.int (bi v6)], w3)
      refine P_if_eq 99 d_Reader_next_89 (by decide) (fun c7 => ?_) (fun c7 => ?_)
      · refine P_aload_n d_Reader_next_99 rfl ?_
        refine P_getf (i := 0) d_Reader_next_100 ok_Reader (by decide) L_Reader_29 s3 rfl ?_
        refine P_getfN (i := 0) d_Reader_next_103 ok_Tape (by decide) L_Reader_173 ((hF3.2 _ (SR1_f (by omega))).trans etl) rfl ?_
        refine P_aload_n d_Reader_next_106 rfl ?_
        refine P_getf (i := 8) d_Reader_next_107 ok_Reader (by decide) L_Reader_60 s3 rfl ?_
        refine P_iald (j := en) d_Reader_next_110 f5e (ix_nI (by omega)) (by omega) ?_
        refine P_callS (M := M_Reader_next) (pc := 111) (as := [.int (f5 en)]) d_Reader_next_111 co_Reader_isDigit L_Reader_185 sm_Reader_isDigit (s_Reader_isDigit (f5 en)) rfl ⟨by decide, by decide⟩ ⟨by decide, by decide⟩ (by exact le_b rfl) ?_ _ rfl
        rintro _ u ⟨⟨v8, rfl⟩, eu⟩
        subst u
        show PW _ _ _ _ _ _ (114, [(0, .ref 164)], [.int (bi v8)], w3)
        refine P_if_eq 124 d_Reader_next_114 (by decide) (fun c9 => ?_) (fun c9 => ?_)
        · refine P_aload_n d_Reader_next_124 rfl ?_
          refine P_aload_n d_Reader_next_125 rfl ?_
          refine P_getf (i := 0) d_Reader_next_126 ok_Reader (by decide) L_Reader_29 s3 rfl ?_
          refine P_getfN (i := 0) d_Reader_next_129 ok_Tape (by decide) L_Reader_173 ((hF3.2 _ (SR1_f (by omega))).trans etl) rfl ?_
          refine P_aload_n d_Reader_next_132 rfl ?_
          refine P_getf (i := 8) d_Reader_next_133 ok_Reader (by decide) L_Reader_60 s3 rfl ?_
          refine P_iald (j := en) d_Reader_next_136 f5e (ix_nI (by omega)) (by omega) ?_
          refine P_callV (M := M_Reader_next) (pc := 137) (as := [.int (f5 en)]) (b := 164) d_Reader_next_137 co_Reader_nextSign ok_Reader s3 L_Reader_191 im_Reader_nextSign se_Reader_nextSign (s_Reader_nextSign hI3 (ta := en) hb hen (by omega) s3 (f5 en) (by omega)) rfl ⟨by decide, by decide⟩ ⟨by decide, by decide⟩ (by exact le_b rfl) ?_ _ rfl
          rintro _ w10 ⟨rfl, hI10, hG10, ⟨ta10, tk10, tp10, vl10, fa10, fp10, ha10, k10⟩⟩
          have hF10 : Fr SR1 w w10 := Fr.tr hF3 hG10
          show PW _ _ _ _ _ _ (140, [(0, .ref 164)], [], w10)
          exact P_vret d_Reader_next_140 rfl (le_b rfl) (le_b rfl) ⟨rfl, hI10, hF10, ⟨ta10, _, _, _, _, _, by omega, k10⟩⟩
        · refine P_aload_n d_Reader_next_117 rfl ?_
          refine P_callV (M := M_Reader_next) (pc := 118) (as := []) (b := 164) d_Reader_next_118 co_Reader_nextDigits ok_Reader s3 L_Reader_188 im_Reader_nextDigits se_Reader_nextDigits (s_Reader_nextDigits hI3 (ta := en) hb hen (by omega) s3) rfl ⟨by decide, by decide⟩ ⟨by decide, by decide⟩ (by exact le_b rfl) ?_ _ rfl
          rintro _ w11 ⟨rfl, hI11, hG11, ⟨ta11, tk11, tp11, vl11, fa11, fp11, ha11, k11⟩⟩
          have hF11 : Fr SR1 w w11 := Fr.tr hF3 hG11
          show PW _ _ _ _ _ _ (121, [(0, .ref 164)], [], w11)
          refine P_goto 140 d_Reader_next_121 (by decide) ?_
          exact P_vret d_Reader_next_140 rfl (le_b rfl) (le_b rfl) ⟨rfl, hI11, hF11, ⟨ta11, _, _, _, _, _, by omega, k11⟩⟩
      · refine P_aload_n d_Reader_next_92 rfl ?_
        refine P_callV (M := M_Reader_next) (pc := 93) (as := []) (b := 164) d_Reader_next_93 co_Reader_nextWord ok_Reader s3 L_Reader_182 im_Reader_nextWord se_Reader_nextWord (s_Reader_nextWord hI3 (ta := en) hb hen (by omega) s3) rfl ⟨by decide, by decide⟩ ⟨by decide, by decide⟩ (by exact le_b rfl) ?_ _ rfl
        rintro _ w12 ⟨rfl, hI12, hG12, ⟨ta12, tk12, tp12, vl12, fa12, fp12, ha12, k12⟩⟩
        have hF12 : Fr SR1 w w12 := Fr.tr hF3 hG12
        show PW _ _ _ _ _ _ (96, [(0, .ref 164)], [], w12)
        refine P_goto 140 d_Reader_next_96 (by decide) ?_
        exact P_vret d_Reader_next_140 rfl (le_b rfl) (le_b rfl) ⟨rfl, hI12, hF12, ⟨ta12, _, _, _, _, _, by omega, k12⟩⟩
    · have ic4 : en ≥ en := nI_ltf (by omega) (by omega) c4
      refine P_aload_n d_Reader_next_66 rfl ?_
      refine P_iconst (v := 0) d_Reader_next_67 (by decide) ?_
      refine P_putG (i := 9) d_Reader_next_68 ok_Reader (by decide) rfl L_Reader_69 s3 (fun _ => rfl) (fun _ => rfl) (fun w13 e13 s13 n13 z13 => ?_)
      have hI13 : I w13 := hI3.setR hb (show w13 = (_, wu _ 164 (rdI b (nI en) (nI en) 0 (nI en) 0 faj1 fpj1)) from e13)
      have hF13 : Fr SR1 w w13 := Fr.set hF3 e13 (SR1_t (by omega))
      show PW _ _ _ _ _ _ (71, [(0, .ref 164)], [], w13)
      refine P_goto 140 d_Reader_next_71 (by decide) ?_
      exact P_vret d_Reader_next_140 rfl (le_b rfl) (le_b rfl) ⟨rfl, hI13, hF13, ⟨en, _, _, _, _, _, by omega, s13⟩⟩
  · rintro j1 uj1 hj1 ⟨hIj1, hFj1, tkj1, tpj1, vlj1, faj1, fpj1, kj1⟩ kkj1
    show PW _ _ _ _ _ _ (0, [(0, .ref 164)], [], uj1)
    refine P_aload_n d_Reader_next_0 rfl ?_
    refine P_getf (i := 8) d_Reader_next_1 ok_Reader (by decide) L_Reader_60 kj1 rfl ?_
    refine P_aload_n d_Reader_next_4 rfl ?_
    refine P_getf (i := 7) d_Reader_next_5 ok_Reader (by decide) L_Reader_57 kj1 rfl ?_
    refine P_icmp_ge 42 d_Reader_next_8 (by decide) (fun h => absurd h (nI_geF (a := j1) (b := en) (by omega) (by omega))) (fun _ => ?_)
    refine P_aload_n d_Reader_next_11 rfl ?_
    refine P_getf (i := 0) d_Reader_next_12 ok_Reader (by decide) L_Reader_29 kj1 rfl ?_
    obtain ⟨tl, htl, etl⟩ := hI.tape
    refine P_getfN (i := 0) d_Reader_next_15 ok_Tape (by decide) L_Reader_173 ((hFj1.2 _ (SR1_f (by omega))).trans etl) rfl ?_
    refine P_aload_n d_Reader_next_18 rfl ?_
    refine P_getf (i := 8) d_Reader_next_19 ok_Reader (by decide) L_Reader_60 kj1 rfl ?_
    obtain ⟨f14, f14e⟩ := hIj1.ints (r := 154) (by decide) kc_154
    refine P_iald (j := j1) d_Reader_next_22 f14e (ix_nI (by omega)) (by omega) ?_
    refine P_callS (M := M_Reader_next) (pc := 23) (as := [.int (f14 j1)]) d_Reader_next_23 co_Reader_isBlank L_Reader_176 sm_Reader_isBlank (s_Reader_isBlank (f14 j1)) rfl ⟨by decide, by decide⟩ ⟨by decide, by decide⟩ (by exact le_b rfl) ?_ _ rfl
    rintro _ u ⟨⟨v15, rfl⟩, eu⟩
    subst u
    show PW _ _ _ _ _ _ (26, [(0, .ref 164)], [.int (bi v15)], uj1)
    refine P_if_eq 42 d_Reader_next_26 (by decide) (fun c16 => ?_) (fun c16 => ?_)
    · refine P_aload_n d_Reader_next_42 rfl ?_
      refine P_aload_n d_Reader_next_43 rfl ?_
      refine P_getf (i := 8) d_Reader_next_44 ok_Reader (by decide) L_Reader_60 kj1 rfl ?_
      refine P_putG (i := 10) d_Reader_next_47 ok_Reader (by decide) rfl L_Reader_167 kj1 (fun _ => rfl) (fun _ => rfl) (fun w17 e17 s17 n17 z17 => ?_)
      have hI17 : I w17 := hIj1.setR hb (show w17 = (_, wu _ 164 (rdI b (nI en) (nI j1) tkj1 (nI j1) vlj1 faj1 fpj1)) from e17)
      have hF17 : Fr SR1 w w17 := Fr.set hFj1 e17 (SR1_t (by omega))
      show PW _ _ _ _ _ _ (50, [(0, .ref 164)], [], w17)
      refine P_aload_n d_Reader_next_50 rfl ?_
      refine P_iconst (v := 0) d_Reader_next_51 (by decide) ?_
      refine P_putG (i := 11) d_Reader_next_52 ok_Reader (by decide) rfl L_Reader_164 s17 (fun _ => rfl) (fun _ => rfl) (fun w18 e18 s18 n18 z18 => ?_)
      have hI18 : I w18 := hI17.setR hb (show w18 = (_, wu _ 164 (rdI b (nI en) (nI j1) tkj1 (nI j1) 0 faj1 fpj1)) from e18)
      have hF18 : Fr SR1 w w18 := Fr.set hF17 e18 (SR1_t (by omega))
      show PW _ _ _ _ _ _ (55, [(0, .ref 164)], [], w18)
      refine P_aload_n d_Reader_next_55 rfl ?_
      refine P_getf (i := 8) d_Reader_next_56 ok_Reader (by decide) L_Reader_60 s18 rfl ?_
      refine P_aload_n d_Reader_next_59 rfl ?_
      refine P_getf (i := 7) d_Reader_next_60 ok_Reader (by decide) L_Reader_57 s18 rfl ?_
      refine P_icmp_lt 74 d_Reader_next_63 (by decide) (fun c19 => ?_) (fun c19 => ?_)
      · have ic19 : j1 < en := nI_ltt (by omega) (by omega) c19
        refine P_aload_n d_Reader_next_74 rfl ?_
        refine P_getf (i := 0) d_Reader_next_75 ok_Reader (by decide) L_Reader_29 s18 rfl ?_
        refine P_getfN (i := 0) d_Reader_next_78 ok_Tape (by decide) L_Reader_173 ((hF18.2 _ (SR1_f (by omega))).trans etl) rfl ?_
        refine P_aload_n d_Reader_next_81 rfl ?_
        refine P_getf (i := 8) d_Reader_next_82 ok_Reader (by decide) L_Reader_60 s18 rfl ?_
        obtain ⟨f20, f20e⟩ := hI18.ints (r := 154) (by decide) kc_154
        refine P_iald (j := j1) d_Reader_next_85 f20e (ix_nI (by omega)) (by omega) ?_
        refine P_callS (M := M_Reader_next) (pc := 86) (as := [.int (f20 j1)]) d_Reader_next_86 co_Reader_isLetter L_Reader_179 sm_Reader_isLetter (s_Reader_isLetter (f20 j1)) rfl ⟨by decide, by decide⟩ ⟨by decide, by decide⟩ (by exact le_b rfl) ?_ _ rfl
        rintro _ u ⟨⟨v21, rfl⟩, eu⟩
        subst u
        show PW _ _ _ _ _ _ (89, [(0, .ref 164)], [.int (bi v21)], w18)
        refine P_if_eq 99 d_Reader_next_89 (by decide) (fun c22 => ?_) (fun c22 => ?_)
        · refine P_aload_n d_Reader_next_99 rfl ?_
          refine P_getf (i := 0) d_Reader_next_100 ok_Reader (by decide) L_Reader_29 s18 rfl ?_
          refine P_getfN (i := 0) d_Reader_next_103 ok_Tape (by decide) L_Reader_173 ((hF18.2 _ (SR1_f (by omega))).trans etl) rfl ?_
          refine P_aload_n d_Reader_next_106 rfl ?_
          refine P_getf (i := 8) d_Reader_next_107 ok_Reader (by decide) L_Reader_60 s18 rfl ?_
          refine P_iald (j := j1) d_Reader_next_110 f20e (ix_nI (by omega)) (by omega) ?_
          refine P_callS (M := M_Reader_next) (pc := 111) (as := [.int (f20 j1)]) d_Reader_next_111 co_Reader_isDigit L_Reader_185 sm_Reader_isDigit (s_Reader_isDigit (f20 j1)) rfl ⟨by decide, by decide⟩ ⟨by decide, by decide⟩ (by exact le_b rfl) ?_ _ rfl
          rintro _ u ⟨⟨v23, rfl⟩, eu⟩
          subst u
          show PW _ _ _ _ _ _ (114, [(0, .ref 164)], [.int (bi v23)], w18)
          refine P_if_eq 124 d_Reader_next_114 (by decide) (fun c24 => ?_) (fun c24 => ?_)
          · refine P_aload_n d_Reader_next_124 rfl ?_
            refine P_aload_n d_Reader_next_125 rfl ?_
            refine P_getf (i := 0) d_Reader_next_126 ok_Reader (by decide) L_Reader_29 s18 rfl ?_
            refine P_getfN (i := 0) d_Reader_next_129 ok_Tape (by decide) L_Reader_173 ((hF18.2 _ (SR1_f (by omega))).trans etl) rfl ?_
            refine P_aload_n d_Reader_next_132 rfl ?_
            refine P_getf (i := 8) d_Reader_next_133 ok_Reader (by decide) L_Reader_60 s18 rfl ?_
            refine P_iald (j := j1) d_Reader_next_136 f20e (ix_nI (by omega)) (by omega) ?_
            refine P_callV (M := M_Reader_next) (pc := 137) (as := [.int (f20 j1)]) (b := 164) d_Reader_next_137 co_Reader_nextSign ok_Reader s18 L_Reader_191 im_Reader_nextSign se_Reader_nextSign (s_Reader_nextSign hI18 (ta := j1) hb hen (by omega) s18 (f20 j1) (by omega)) rfl ⟨by decide, by decide⟩ ⟨by decide, by decide⟩ (by exact le_b rfl) ?_ _ rfl
            rintro _ w25 ⟨rfl, hI25, hG25, ⟨ta25, tk25, tp25, vl25, fa25, fp25, ha25, k25⟩⟩
            have hF25 : Fr SR1 w w25 := Fr.tr hF18 hG25
            show PW _ _ _ _ _ _ (140, [(0, .ref 164)], [], w25)
            exact P_vret d_Reader_next_140 rfl (le_b rfl) (le_b rfl) ⟨rfl, hI25, hF25, ⟨ta25, _, _, _, _, _, by omega, k25⟩⟩
          · refine P_aload_n d_Reader_next_117 rfl ?_
            refine P_callV (M := M_Reader_next) (pc := 118) (as := []) (b := 164) d_Reader_next_118 co_Reader_nextDigits ok_Reader s18 L_Reader_188 im_Reader_nextDigits se_Reader_nextDigits (s_Reader_nextDigits hI18 (ta := j1) hb hen (by omega) s18) rfl ⟨by decide, by decide⟩ ⟨by decide, by decide⟩ (by exact le_b rfl) ?_ _ rfl
            rintro _ w26 ⟨rfl, hI26, hG26, ⟨ta26, tk26, tp26, vl26, fa26, fp26, ha26, k26⟩⟩
            have hF26 : Fr SR1 w w26 := Fr.tr hF18 hG26
            show PW _ _ _ _ _ _ (121, [(0, .ref 164)], [], w26)
            refine P_goto 140 d_Reader_next_121 (by decide) ?_
            exact P_vret d_Reader_next_140 rfl (le_b rfl) (le_b rfl) ⟨rfl, hI26, hF26, ⟨ta26, _, _, _, _, _, by omega, k26⟩⟩
        · refine P_aload_n d_Reader_next_92 rfl ?_
          refine P_callV (M := M_Reader_next) (pc := 93) (as := []) (b := 164) d_Reader_next_93 co_Reader_nextWord ok_Reader s18 L_Reader_182 im_Reader_nextWord se_Reader_nextWord (s_Reader_nextWord hI18 (ta := j1) hb hen (by omega) s18) rfl ⟨by decide, by decide⟩ ⟨by decide, by decide⟩ (by exact le_b rfl) ?_ _ rfl
          rintro _ w27 ⟨rfl, hI27, hG27, ⟨ta27, tk27, tp27, vl27, fa27, fp27, ha27, k27⟩⟩
          have hF27 : Fr SR1 w w27 := Fr.tr hF18 hG27
          show PW _ _ _ _ _ _ (96, [(0, .ref 164)], [], w27)
          refine P_goto 140 d_Reader_next_96 (by decide) ?_
          exact P_vret d_Reader_next_140 rfl (le_b rfl) (le_b rfl) ⟨rfl, hI27, hF27, ⟨ta27, _, _, _, _, _, by omega, k27⟩⟩
      · have ic19 : j1 ≥ en := nI_ltf (by omega) (by omega) c19
        refine P_aload_n d_Reader_next_66 rfl ?_
        refine P_iconst (v := 0) d_Reader_next_67 (by decide) ?_
        refine P_putG (i := 9) d_Reader_next_68 ok_Reader (by decide) rfl L_Reader_69 s18 (fun _ => rfl) (fun _ => rfl) (fun w28 e28 s28 n28 z28 => ?_)
        have hI28 : I w28 := hI18.setR hb (show w28 = (_, wu _ 164 (rdI b (nI en) (nI j1) 0 (nI j1) 0 faj1 fpj1)) from e28)
        have hF28 : Fr SR1 w w28 := Fr.set hF18 e28 (SR1_t (by omega))
        show PW _ _ _ _ _ _ (71, [(0, .ref 164)], [], w28)
        refine P_goto 140 d_Reader_next_71 (by decide) ?_
        exact P_vret d_Reader_next_140 rfl (le_b rfl) (le_b rfl) ⟨rfl, hI28, hF28, ⟨j1, _, _, _, _, _, by omega, s28⟩⟩
    · refine P_aload_n d_Reader_next_29 rfl ?_
      refine P_dup d_Reader_next_30 rfl ?_
      refine P_getf (i := 8) d_Reader_next_31 ok_Reader (by decide) L_Reader_60 kj1 rfl ?_
      refine P_iconst (v := 1) d_Reader_next_34 (by decide) ?_
      refine P_iaddN (a := j1) (b := 1) d_Reader_next_35 ?_
      show PW _ _ _ _ _ _ (36, [(0, .ref 164)], [.int (nI (j1 + 1)), .ref 164], uj1)
      refine P_putG (i := 8) d_Reader_next_36 ok_Reader (by decide) rfl L_Reader_60 kj1 (fun _ => rfl) (fun _ => rfl) (fun w29 e29 s29 n29 z29 => ?_)
      have hI29 : I w29 := hIj1.setR hb (show w29 = (_, wu _ 164 (rdI b (nI en) (nI (j1 + 1)) tkj1 tpj1 vlj1 faj1 fpj1)) from e29)
      have hF29 : Fr SR1 w w29 := Fr.set hFj1 e29 (SR1_t (by omega))
      show PW _ _ _ _ _ _ (39, [(0, .ref 164)], [], w29)
      refine P_goto 0 d_Reader_next_39 (by decide) ?_
      exact kkj1 w29 ⟨hI29, hF29, _, _, _, _, _, s29⟩
theorem s_Reader_refuseAt {G : pG} {w : pW} (hI : I w) {b en ta : Nat} (hb : b = 1 ∨ b = 77) (hen : en ≤ 900) (hat : ta ≤ en) {tk tp vl fa fp : Int32} (er : w.2 164 = rdI b (nI en) (nI ta) tk tp vl fa fp) (a : Int32) (c : Int32) : PM G M_Reader_refuseAt 0 0 0 [.ref 164, .int a, .int c] w (fun r w' => (∃ v, r = some (.int (bi v))) ∧ I w' ∧ Fr SR1 w w' ∧ RS b en (w'.2 164)) := by
  refine PM_of pn_Reader_refuseAt (le_b rfl) ?_
  show PW _ _ _ _ _ _ (0, [(0, .ref 164), (1, .int a), (2, .int c)], [], w)
  obtain ⟨hb1, hb2⟩ := pl_rng hb
  refine P_aload_n d_Reader_refuseAt_0 rfl ?_
  refine P_iload_n d_Reader_refuseAt_1 rfl ?_
  refine P_putG (i := 12) d_Reader_refuseAt_2 ok_Reader (by decide) rfl L_Reader_63 er (fun _ => rfl) (fun _ => rfl) (fun w1 e1 s1 n1 z1 => ?_)
  have hI1 : I w1 := hI.setR hb (show w1 = (_, wu _ 164 (rdI b (nI en) (nI ta) tk tp vl a fp)) from e1)
  have hF1 : Fr SR1 w w1 := Fr.set Fr.rf e1 (SR1_t (by omega))
  show PW _ _ _ _ _ _ (5, [(0, .ref 164), (1, .int a), (2, .int c)], [], w1)
  refine P_aload_n d_Reader_refuseAt_5 rfl ?_
  refine P_iload_n d_Reader_refuseAt_6 rfl ?_
  refine P_putG (i := 13) d_Reader_refuseAt_7 ok_Reader (by decide) rfl L_Reader_25 s1 (fun _ => rfl) (fun _ => rfl) (fun w2 e2 s2 n2 z2 => ?_)
  have hI2 : I w2 := hI1.setR hb (show w2 = (_, wu _ 164 (rdI b (nI en) (nI ta) tk tp vl a c)) from e2)
  have hF2 : Fr SR1 w w2 := Fr.set hF1 e2 (SR1_t (by omega))
  show PW _ _ _ _ _ _ (10, [(0, .ref 164), (1, .int a), (2, .int c)], [], w2)
  refine P_iconst (v := 0) d_Reader_refuseAt_10 (by decide) ?_
  exact P_zret d_Reader_refuseAt_11 rfl rfl (le_b rfl) (le_b rfl) ⟨⟨false, rfl⟩, hI2, hF2, ⟨ta, _, _, _, _, _, by omega, s2⟩⟩
theorem s_Reader_refuse {G : pG} {w : pW} (hI : I w) {b en ta : Nat} (hb : b = 1 ∨ b = 77) (hen : en ≤ 900) (hat : ta ≤ en) {tk tp vl fa fp : Int32} (er : w.2 164 = rdI b (nI en) (nI ta) tk tp vl fa fp) (a : Int32) : PM G M_Reader_refuse 1 0 0 [.ref 164, .int a] w (fun r w' => (∃ v, r = some (.int (bi v))) ∧ I w' ∧ Fr SR1 w w' ∧ RS b en (w'.2 164)) := by
  refine PM_of pn_Reader_refuse (le_b rfl) ?_
  show PW _ _ _ _ _ _ (0, [(0, .ref 164), (1, .int a)], [], w)
  obtain ⟨hb1, hb2⟩ := pl_rng hb
  refine P_aload_n d_Reader_refuse_0 rfl ?_
  refine P_iload_n d_Reader_refuse_1 rfl ?_
  refine P_aload_n d_Reader_refuse_2 rfl ?_
  refine P_getf (i := 10) d_Reader_refuse_3 ok_Reader (by decide) L_Reader_167 er rfl ?_
  refine P_callV (M := M_Reader_refuse) (pc := 6) (as := [.int a, .int tp]) (b := 164) d_Reader_refuse_6 co_Reader_refuseAt ok_Reader er L_Reader_170 im_Reader_refuseAt se_Reader_refuseAt (s_Reader_refuseAt hI (ta := ta) hb hen (by omega) er a tp) rfl ⟨by decide, by decide⟩ ⟨by decide, by decide⟩ (by exact le_b rfl) ?_ _ rfl
  rintro _ w1 ⟨⟨v1, rfl⟩, hI1, hG1, ⟨ta1, tk1, tp1, vl1, fa1, fp1, ha1, k1⟩⟩
  have hF1 : Fr SR1 w w1 := Fr.tr Fr.rf hG1
  show PW _ _ _ _ _ _ (9, [(0, .ref 164), (1, .int a)], [.int (bi v1)], w1)
  exact P_zret d_Reader_refuse_9 rfl (nar_bi _) (le_b rfl) (le_b rfl) ⟨⟨_, rfl⟩, hI1, hF1, ⟨ta1, _, _, _, _, _, by omega, k1⟩⟩
theorem s_Reader_placeAmong {G : pG} {w : pW} {b : Nat} {x1 x2 tk tp vl fa fp : Int32} (er : w.2 164 = rdI b x1 x2 tk tp vl fa fp) {u K : Nat} {fu : Nat → Int32} (hu : w.2 u = .inl (0, K, .inl fu)) (hK : K < 1000000) (c : Nat) (hc : c < 9) : PM G M_Reader_placeAmong 0 0 0 [.ref 164, .ref u, .int (nI c)] w (fun r w' => (∃ z : Int32, r = some (.int z) ∧ (z = -1 ∨ ∃ v, v < c ∧ z = nI v)) ∧ w' = w) := by
  refine PM_of pn_Reader_placeAmong (le_b rfl) ?_
  show PW _ _ _ _ _ _ (0, [(0, .ref 164), (1, .ref u), (2, .int (nI c))], [], w)
  refine P_iconst (v := 0) d_Reader_placeAmong_0 (by decide) ?_
  refine P_istore_n d_Reader_placeAmong_1 (by decide) rfl ?_
  refine PW_ind (σ := Unit) (c) (fun jj ss => True) (fun jj ss => (2, [(0, .ref 164), (1, .ref u), (2, .int (nI c)), (3, .int (nI jj))], [], w)) ?_ ?_ 0 () (by omega) trivial
  · rintro _ _
    show PW _ _ _ _ _ _ (2, [(0, .ref 164), (1, .ref u), (2, .int (nI c)), (3, .int (nI c))], [], w)
    refine P_iload_n d_Reader_placeAmong_2 rfl ?_
    refine P_iload_n d_Reader_placeAmong_3 rfl ?_
    refine P_icmp_ge 31 d_Reader_placeAmong_4 (by decide) (fun _ => ?_) (fun h => absurd (Int32.le_refl _) h)
    refine P_iconst (v := (-1)) d_Reader_placeAmong_31 (by decide) ?_
    exact P_iret d_Reader_placeAmong_32 rfl (le_b rfl) (le_b rfl) ⟨⟨_, rfl, Or.inl rfl⟩, rfl⟩
  · rintro j1 _ hj1 _ kkj1
    show PW _ _ _ _ _ _ (2, [(0, .ref 164), (1, .ref u), (2, .int (nI c)), (3, .int (nI j1))], [], w)
    refine P_iload_n d_Reader_placeAmong_2 rfl ?_
    refine P_iload_n d_Reader_placeAmong_3 rfl ?_
    refine P_icmp_ge 31 d_Reader_placeAmong_4 (by decide) (fun h => absurd h (nI_geF (a := j1) (b := c) (by omega) (by omega))) (fun _ => ?_)
    refine P_iload_n d_Reader_placeAmong_7 rfl ?_
    refine P_aload_n d_Reader_placeAmong_8 rfl ?_
    refine P_alen (v := nI K) d_Reader_placeAmong_9 hu rfl ?_
    refine P_icmp_ge 31 d_Reader_placeAmong_10 (by decide) (fun c2 => ?_) (fun c2 => ?_)
    · have ic2 : j1 ≥ K := nI_get (by omega) (by omega) c2
      refine P_iconst (v := (-1)) d_Reader_placeAmong_31 (by decide) ?_
      exact P_iret d_Reader_placeAmong_32 rfl (le_b rfl) (le_b rfl) ⟨⟨_, rfl, Or.inl rfl⟩, rfl⟩
    · have ic2 : j1 < K := nI_gef (by omega) (by omega) c2
      refine P_aload_n d_Reader_placeAmong_13 rfl ?_
      refine P_iload_n d_Reader_placeAmong_14 rfl ?_
      refine P_iald (j := j1) d_Reader_placeAmong_15 hu (ix_nI (by omega)) (by omega) ?_
      refine P_aload_n d_Reader_placeAmong_16 rfl ?_
      refine P_getf (i := 11) d_Reader_placeAmong_17 ok_Reader (by decide) L_Reader_164 er rfl ?_
      refine P_icmp_ne 25 d_Reader_placeAmong_20 (by decide) (fun c3 => ?_) (fun c3 => ?_)
      · refine P_iinc (v := nI (j1 + 1)) d_Reader_placeAmong_25 (by decide) rfl (nI_add j1 1) rfl ?_
        refine P_goto 2 d_Reader_placeAmong_28 (by decide) ?_
        exact kkj1 () trivial
      · refine P_iload_n d_Reader_placeAmong_23 rfl ?_
        exact P_iret d_Reader_placeAmong_24 rfl (le_b rfl) (le_b rfl) ⟨⟨_, rfl, Or.inr ⟨j1, by omega, rfl⟩⟩, rfl⟩
theorem s_Reader_readName {G : pG} {w : pW} (hI : I w) {b en ta : Nat} (hb : b = 1 ∨ b = 77) (hen : en ≤ 900) (hat : ta ≤ en) {tk tp vl fa fp : Int32} (er : w.2 164 = rdI b (nI en) (nI ta) tk tp vl fa fp) {u : Nat} (hlu : u < 487) (hku : Kc u = (0, 8, 0)) (c : Nat) (hc : c < 9) (hu : 165 ≤ u ∧ u < 167) : PM G M_Reader_readName 3 0 0 [.ref 164, .ref u, .int (nI c)] w (fun r w' => (∃ v, r = some (.int (bi v))) ∧ I w' ∧ Fr SR1 w w' ∧ RS b en (w'.2 164)) := by
  refine PM_of pn_Reader_readName (le_b rfl) ?_
  show PW _ _ _ _ _ _ (0, [(0, .ref 164), (1, .ref u), (2, .int (nI c))], [], w)
  obtain ⟨hb1, hb2⟩ := pl_rng hb
  refine P_aload_n d_Reader_readName_0 rfl ?_
  refine P_callV (M := M_Reader_readName) (pc := 1) (as := []) (b := 164) d_Reader_readName_1 co_Reader_isName ok_Reader er L_Reader_157 im_Reader_isName se_Reader_isName (s_Reader_isName er) rfl ⟨by decide, by decide⟩ ⟨by decide, by decide⟩ (by exact le_b rfl) ?_ _ rfl
  rintro _ u ⟨⟨v1, rfl⟩, eu⟩
  subst u
  show PW _ _ _ _ _ _ (4, [(0, .ref 164), (1, .ref u), (2, .int (nI c))], [.int (bi v1)], w)
  refine P_if_ne 13 d_Reader_readName_4 (by decide) (fun c2 => ?_) (fun c2 => ?_)
  · refine P_aload_n d_Reader_readName_13 rfl ?_
    refine P_aload_n d_Reader_readName_14 rfl ?_
    refine P_iload_n d_Reader_readName_15 rfl ?_
    obtain ⟨f3, f3e⟩ := hI.ints (r := u) hlu hku
    refine P_callV (M := M_Reader_readName) (pc := 16) (as := [.ref u, .int (nI c)]) (b := 164) d_Reader_readName_16 co_Reader_placeAmong ok_Reader er L_Reader_160 im_Reader_placeAmong se_Reader_placeAmong (s_Reader_placeAmong er f3e (by decide) c (by omega)) rfl ⟨by decide, by decide⟩ ⟨by decide, by decide⟩ (by exact le_b rfl) ?_ _ rfl
    rintro _ u ⟨⟨v4, rfl, hv4⟩, eu⟩
    subst u
    show PW _ _ _ _ _ _ (19, [(0, .ref 164), (1, .ref u), (2, .int (nI c))], [.int v4], w)
    refine P_iconst (v := (-1)) d_Reader_readName_19 (by decide) ?_
    refine P_icmp_eq 29 d_Reader_readName_20 (by decide) (fun c5 => ?_) (fun c5 => ?_)
    · refine P_iload_n d_Reader_readName_29 rfl ?_
      refine P_aload_n d_Reader_readName_30 rfl ?_
      refine P_alen (v := 8) d_Reader_readName_31 f3e rfl ?_
      refine P_icmp_ge 42 d_Reader_readName_32 (by decide) (fun c6 => ?_) (fun c6 => ?_)
      · have ic6 : c ≥ 8 := nI_get (by omega) (by omega) c6
        refine P_aload_n d_Reader_readName_42 rfl ?_
        refine P_callV (M := M_Reader_readName) (pc := 43) (as := []) (b := 164) d_Reader_readName_43 co_Reader_next ok_Reader er L_Reader_66 im_Reader_next se_Reader_next (s_Reader_next hI (ta := ta) hb hen (by omega) er) rfl ⟨by decide, by decide⟩ ⟨by decide, by decide⟩ (by exact le_b rfl) ?_ _ rfl
        rintro _ w7 ⟨rfl, hI7, hG7, ⟨ta7, tk7, tp7, vl7, fa7, fp7, ha7, k7⟩⟩
        have hF7 : Fr SR1 w w7 := Fr.tr Fr.rf hG7
        show PW _ _ _ _ _ _ (46, [(0, .ref 164), (1, .ref u), (2, .int (nI c))], [], w7)
        refine P_iconst (v := 1) d_Reader_readName_46 (by decide) ?_
        exact P_zret d_Reader_readName_47 rfl rfl (le_b rfl) (le_b rfl) ⟨⟨true, rfl⟩, hI7, hF7, ⟨ta7, _, _, _, _, _, by omega, k7⟩⟩
      · have ic6 : c < 8 := nI_gef (by omega) (by omega) c6
        refine P_aload_n d_Reader_readName_35 rfl ?_
        refine P_iload_n d_Reader_readName_36 rfl ?_
        refine P_aload_n d_Reader_readName_37 rfl ?_
        refine P_getf (i := 11) d_Reader_readName_38 ok_Reader (by decide) L_Reader_164 er rfl ?_
        refine P_iastG (j := c) d_Reader_readName_41 f3e (by omega) (ix_nI (by omega)) (by omega) (fun w8 e8 s8 n8 z8 => ?_)
        generalize upd _ _ _ = g9 at e8 s8
        have hI8 : I w8 := hI.setI e8 hku
        have hF8 : Fr SR1 w w8 := Fr.set Fr.rf e8 (SR1_t (by omega))
        show PW _ _ _ _ _ _ (42, [(0, .ref 164), (1, .ref u), (2, .int (nI c))], [], w8)
        refine P_aload_n d_Reader_readName_42 rfl ?_
        refine P_callV (M := M_Reader_readName) (pc := 43) (as := []) (b := 164) d_Reader_readName_43 co_Reader_next ok_Reader ((w_n e8 _ (by omega)).trans er) L_Reader_66 im_Reader_next se_Reader_next (s_Reader_next hI8 (ta := ta) hb hen (by omega) ((w_n e8 _ (by omega)).trans er)) rfl ⟨by decide, by decide⟩ ⟨by decide, by decide⟩ (by exact le_b rfl) ?_ _ rfl
        rintro _ w10 ⟨rfl, hI10, hG10, ⟨ta10, tk10, tp10, vl10, fa10, fp10, ha10, k10⟩⟩
        have hF10 : Fr SR1 w w10 := Fr.tr hF8 hG10
        show PW _ _ _ _ _ _ (46, [(0, .ref 164), (1, .ref u), (2, .int (nI c))], [], w10)
        refine P_iconst (v := 1) d_Reader_readName_46 (by decide) ?_
        exact P_zret d_Reader_readName_47 rfl rfl (le_b rfl) (le_b rfl) ⟨⟨true, rfl⟩, hI10, hF10, ⟨ta10, _, _, _, _, _, by omega, k10⟩⟩
    · obtain ⟨v4N, hv4N, rfl⟩ := hv4.resolve_left c5
      refine P_aload_n d_Reader_readName_23 rfl ?_
      refine P_iconst (v := 3) d_Reader_readName_24 (by decide) ?_
      refine P_callV (M := M_Reader_readName) (pc := 25) (as := [.int 3]) (b := 164) d_Reader_readName_25 co_Reader_refuse ok_Reader er L_Reader_88 im_Reader_refuse se_Reader_refuse (s_Reader_refuse hI (ta := ta) hb hen (by omega) er 3) rfl ⟨by decide, by decide⟩ ⟨by decide, by decide⟩ (by exact le_b rfl) ?_ _ rfl
      rintro _ w11 ⟨⟨v11, rfl⟩, hI11, hG11, ⟨ta11, tk11, tp11, vl11, fa11, fp11, ha11, k11⟩⟩
      have hF11 : Fr SR1 w w11 := Fr.tr Fr.rf hG11
      show PW _ _ _ _ _ _ (28, [(0, .ref 164), (1, .ref u), (2, .int (nI c))], [.int (bi v11)], w11)
      exact P_zret d_Reader_readName_28 rfl (nar_bi _) (le_b rfl) (le_b rfl) ⟨⟨_, rfl⟩, hI11, hF11, ⟨ta11, _, _, _, _, _, by omega, k11⟩⟩
  · refine P_aload_n d_Reader_readName_7 rfl ?_
    refine P_iconst (v := 1) d_Reader_readName_8 (by decide) ?_
    refine P_callV (M := M_Reader_readName) (pc := 9) (as := [.int 1]) (b := 164) d_Reader_readName_9 co_Reader_refuse ok_Reader er L_Reader_88 im_Reader_refuse se_Reader_refuse (s_Reader_refuse hI (ta := ta) hb hen (by omega) er 1) rfl ⟨by decide, by decide⟩ ⟨by decide, by decide⟩ (by exact le_b rfl) ?_ _ rfl
    rintro _ w12 ⟨⟨v12, rfl⟩, hI12, hG12, ⟨ta12, tk12, tp12, vl12, fa12, fp12, ha12, k12⟩⟩
    have hF12 : Fr SR1 w w12 := Fr.tr Fr.rf hG12
    show PW _ _ _ _ _ _ (12, [(0, .ref 164), (1, .ref u), (2, .int (nI c))], [.int (bi v12)], w12)
    exact P_zret d_Reader_readName_12 rfl (nar_bi _) (le_b rfl) (le_b rfl) ⟨⟨_, rfl⟩, hI12, hF12, ⟨ta12, _, _, _, _, _, by omega, k12⟩⟩
theorem s_Reader_readNumbers {G : pG} {w : pW} (hI : I w) {b en ta : Nat} (hb : b = 1 ∨ b = 77) (hen : en ≤ 900) (hat : ta ≤ en) {tk tp vl fa fp : Int32} (er : w.2 164 = rdI b (nI en) (nI ta) tk tp vl fa fp) (c : Nat) (hc : c < 4) (m : Int32) : PM G M_Reader_readNumbers 3 0 0 [.ref 164, .int (nI c), .int m] w (fun r w' => (∃ v, r = some (.int (bi v))) ∧ I w' ∧ Fr SR1 w w' ∧ RS b en (w'.2 164)) := by
  refine PM_of pn_Reader_readNumbers (le_b rfl) ?_
  show PW _ _ _ _ _ _ (0, [(0, .ref 164), (1, .int (nI c)), (2, .int m)], [], w)
  obtain ⟨hb1, hb2⟩ := pl_rng hb
  refine P_iconst (v := 0) d_Reader_readNumbers_0 (by decide) ?_
  refine P_istore_n d_Reader_readNumbers_1 (by decide) rfl ?_
  refine PW_ind (σ := pW) (c) (fun jj ss => I (ss) ∧ Fr SR1 w (ss) ∧ RS b en ((ss).2 164)) (fun jj ss => (2, [(0, .ref 164), (1, .int (nI c)), (2, .int m), (3, .int (nI jj))], [], ss)) ?_ ?_ 0 (w) (by omega) ⟨hI, Fr.rf, ⟨ta, _, _, _, _, _, by omega, er⟩⟩
  · rintro uj1 ⟨hIj1, hFj1, ⟨taj1_0, tkj1_0, tpj1_0, vlj1_0, faj1_0, fpj1_0, haj1_0, kj1_0⟩⟩
    show PW _ _ _ _ _ _ (2, [(0, .ref 164), (1, .int (nI c)), (2, .int m), (3, .int (nI c))], [], uj1)
    refine P_iload_n d_Reader_readNumbers_2 rfl ?_
    refine P_iload_n d_Reader_readNumbers_3 rfl ?_
    refine P_icmp_ge 111 d_Reader_readNumbers_4 (by decide) (fun _ => ?_) (fun h => absurd (Int32.le_refl _) h)
    refine P_iconst (v := 1) d_Reader_readNumbers_111 (by decide) ?_
    exact P_zret d_Reader_readNumbers_112 rfl rfl (le_b rfl) (le_b rfl) ⟨⟨true, rfl⟩, hIj1, hFj1, ⟨taj1_0, _, _, _, _, _, by omega, kj1_0⟩⟩
  · rintro j1 uj1 hj1 ⟨hIj1, hFj1, ⟨taj1_0, tkj1_0, tpj1_0, vlj1_0, faj1_0, fpj1_0, haj1_0, kj1_0⟩⟩ kkj1
    show PW _ _ _ _ _ _ (2, [(0, .ref 164), (1, .int (nI c)), (2, .int m), (3, .int (nI j1))], [], uj1)
    refine P_iload_n d_Reader_readNumbers_2 rfl ?_
    refine P_iload_n d_Reader_readNumbers_3 rfl ?_
    refine P_icmp_ge 111 d_Reader_readNumbers_4 (by decide) (fun h => absurd h (nI_geF (a := j1) (b := c) (by omega) (by omega))) (fun _ => ?_)
    refine P_iload_n d_Reader_readNumbers_7 rfl ?_
    refine P_aload_n d_Reader_readNumbers_8 rfl ?_
    refine P_getf (i := 4) d_Reader_readNumbers_9 ok_Reader (by decide) L_Reader_18 kj1_0 rfl ?_
    obtain ⟨f2, f2e⟩ := hIj1.row (r := 167) (by decide) kc_167
    refine P_alen (v := 3) d_Reader_readNumbers_12 f2e rfl ?_
    refine P_icmp_ge 111 d_Reader_readNumbers_13 (by decide) (fun c3 => ?_) (fun c3 => ?_)
    · have ic3 : j1 ≥ 3 := nI_get (by omega) (by omega) c3
      refine P_iconst (v := 1) d_Reader_readNumbers_111 (by decide) ?_
      exact P_zret d_Reader_readNumbers_112 rfl rfl (le_b rfl) (le_b rfl) ⟨⟨true, rfl⟩, hIj1, hFj1, ⟨taj1_0, _, _, _, _, _, by omega, kj1_0⟩⟩
    · have ic3 : j1 < 3 := nI_gef (by omega) (by omega) c3
      refine P_aload_n d_Reader_readNumbers_16 rfl ?_
      refine P_getf (i := 10) d_Reader_readNumbers_17 ok_Reader (by decide) L_Reader_167 kj1_0 rfl ?_
      refine P_istore d_Reader_readNumbers_20 (by decide) rfl ?_
      refine P_aload_n d_Reader_readNumbers_22 rfl ?_
      refine P_getf (i := 9) d_Reader_readNumbers_23 ok_Reader (by decide) L_Reader_69 kj1_0 rfl ?_
      refine P_iconst (v := 4) d_Reader_readNumbers_26 (by decide) ?_
      refine P_icmp_ne 34 d_Reader_readNumbers_27 (by decide) (fun c4 => ?_) (fun c4 => ?_)
      · refine P_iconst (v := 0) d_Reader_readNumbers_34 (by decide) ?_
        refine P_istore d_Reader_readNumbers_35 (by decide) rfl ?_
        refine P_iload d_Reader_readNumbers_37 rfl ?_
        refine P_if_eq 46 d_Reader_readNumbers_39 (by decide) (fun _ => ?_) (fun h => absurd (by decide) h)
        refine P_aload_n d_Reader_readNumbers_46 rfl ?_
        refine P_getf (i := 9) d_Reader_readNumbers_47 ok_Reader (by decide) L_Reader_69 kj1_0 rfl ?_
        refine P_iconst (v := 3) d_Reader_readNumbers_50 (by decide) ?_
        refine P_icmp_eq 60 d_Reader_readNumbers_51 (by decide) (fun c5 => ?_) (fun c5 => ?_)
        · refine P_aload_n d_Reader_readNumbers_60 rfl ?_
          refine P_getf (i := 11) d_Reader_readNumbers_61 ok_Reader (by decide) L_Reader_164 kj1_0 rfl ?_
          refine P_iload_n d_Reader_readNumbers_64 rfl ?_
          refine P_icmp_le 76 d_Reader_readNumbers_65 (by decide) (fun c6 => ?_) (fun c6 => ?_)
          · refine P_aload_n d_Reader_readNumbers_76 rfl ?_
            refine P_getf (i := 4) d_Reader_readNumbers_77 ok_Reader (by decide) L_Reader_18 kj1_0 rfl ?_
            refine P_iload_n d_Reader_readNumbers_80 rfl ?_
            refine P_iload d_Reader_readNumbers_81 rfl ?_
            refine P_if_eq 95 d_Reader_readNumbers_83 (by decide) (fun _ => ?_) (fun h => absurd (by decide) h)
            refine P_aload_n d_Reader_readNumbers_95 rfl ?_
            refine P_getf (i := 11) d_Reader_readNumbers_96 ok_Reader (by decide) L_Reader_164 kj1_0 rfl ?_
            refine P_i2l d_Reader_readNumbers_99 ?_
            refine P_lastG (j := j1) d_Reader_readNumbers_100 f2e (by decide) (ix_nI (by omega)) (by omega) (fun w7 e7 s7 n7 z7 => ?_)
            generalize vp_updL _ _ _ = g8 at e7 s7
            have hI7 : I w7 := hIj1.setL e7 kc_167
            have hF7 : Fr SR1 w w7 := Fr.set hFj1 e7 (SR1_t (by omega))
            show PW _ _ _ _ _ _ (101, [(0, .ref 164), (1, .int (nI c)), (2, .int m), (3, .int (nI j1)), (4, .int tpj1_0), (5, .int 0)], [], w7)
            refine P_aload_n d_Reader_readNumbers_101 rfl ?_
            refine P_callV (M := M_Reader_readNumbers) (pc := 102) (as := []) (b := 164) d_Reader_readNumbers_102 co_Reader_next ok_Reader ((w_n e7 _ (by decide)).trans kj1_0) L_Reader_66 im_Reader_next se_Reader_next (s_Reader_next hI7 (ta := taj1_0) hb hen (by omega) ((w_n e7 _ (by decide)).trans kj1_0)) rfl ⟨by decide, by decide⟩ ⟨by decide, by decide⟩ (by exact le_b rfl) ?_ _ rfl
            rintro _ w9 ⟨rfl, hI9, hG9, ⟨ta9, tk9, tp9, vl9, fa9, fp9, ha9, k9⟩⟩
            have hF9 : Fr SR1 w w9 := Fr.tr hF7 hG9
            show PW _ _ _ _ _ _ (105, [(0, .ref 164), (1, .int (nI c)), (2, .int m), (3, .int (nI j1)), (4, .int tpj1_0), (5, .int 0)], [], w9)
            refine P_iinc (v := nI (j1 + 1)) d_Reader_readNumbers_105 (by decide) rfl (nI_add j1 1) rfl ?_
            refine P_goto 2 d_Reader_readNumbers_108 (by decide) ?_
            show PW _ _ _ _ _ _ (2, [(0, .ref 164), (1, .int (nI c)), (2, .int m), (3, .int (nI (j1 + 1))), (4, .int tpj1_0), (5, .int 0)], [], w9)
            refine PW.drop (lv' := [(0, .ref 164), (1, .int (nI c)), (2, .int m), (3, .int (nI (j1 + 1)))]) (by simp) ?_
            exact kkj1 (w9) ⟨hI9, hF9, ⟨ta9, _, _, _, _, _, by omega, k9⟩⟩
          · refine P_aload_n d_Reader_readNumbers_68 rfl ?_
            refine P_iconst (v := 2) d_Reader_readNumbers_69 (by decide) ?_
            refine P_iload d_Reader_readNumbers_70 rfl ?_
            refine P_callV (M := M_Reader_readNumbers) (pc := 72) (as := [.int 2, .int tpj1_0]) (b := 164) d_Reader_readNumbers_72 co_Reader_refuseAt ok_Reader kj1_0 L_Reader_170 im_Reader_refuseAt se_Reader_refuseAt (s_Reader_refuseAt hIj1 (ta := taj1_0) hb hen (by omega) kj1_0 2 tpj1_0) rfl ⟨by decide, by decide⟩ ⟨by decide, by decide⟩ (by exact le_b rfl) ?_ _ rfl
            rintro _ w10 ⟨⟨v10, rfl⟩, hI10, hG10, ⟨ta10, tk10, tp10, vl10, fa10, fp10, ha10, k10⟩⟩
            have hF10 : Fr SR1 w w10 := Fr.tr hFj1 hG10
            show PW _ _ _ _ _ _ (75, [(0, .ref 164), (1, .int (nI c)), (2, .int m), (3, .int (nI j1)), (4, .int tpj1_0), (5, .int 0)], [.int (bi v10)], w10)
            exact P_zret d_Reader_readNumbers_75 rfl (nar_bi _) (le_b rfl) (le_b rfl) ⟨⟨_, rfl⟩, hI10, hF10, ⟨ta10, _, _, _, _, _, by omega, k10⟩⟩
        · refine P_aload_n d_Reader_readNumbers_54 rfl ?_
          refine P_iconst (v := 1) d_Reader_readNumbers_55 (by decide) ?_
          refine P_callV (M := M_Reader_readNumbers) (pc := 56) (as := [.int 1]) (b := 164) d_Reader_readNumbers_56 co_Reader_refuse ok_Reader kj1_0 L_Reader_88 im_Reader_refuse se_Reader_refuse (s_Reader_refuse hIj1 (ta := taj1_0) hb hen (by omega) kj1_0 1) rfl ⟨by decide, by decide⟩ ⟨by decide, by decide⟩ (by exact le_b rfl) ?_ _ rfl
          rintro _ w11 ⟨⟨v11, rfl⟩, hI11, hG11, ⟨ta11, tk11, tp11, vl11, fa11, fp11, ha11, k11⟩⟩
          have hF11 : Fr SR1 w w11 := Fr.tr hFj1 hG11
          show PW _ _ _ _ _ _ (59, [(0, .ref 164), (1, .int (nI c)), (2, .int m), (3, .int (nI j1)), (4, .int tpj1_0), (5, .int 0)], [.int (bi v11)], w11)
          exact P_zret d_Reader_readNumbers_59 rfl (nar_bi _) (le_b rfl) (le_b rfl) ⟨⟨_, rfl⟩, hI11, hF11, ⟨ta11, _, _, _, _, _, by omega, k11⟩⟩
      · refine P_iconst (v := 1) d_Reader_readNumbers_30 (by decide) ?_
        refine P_goto 35 d_Reader_readNumbers_31 (by decide) ?_
        refine P_istore d_Reader_readNumbers_35 (by decide) rfl ?_
        refine P_iload d_Reader_readNumbers_37 rfl ?_
        refine P_if_eq 46 d_Reader_readNumbers_39 (by decide) (fun h => absurd h (by decide)) (fun _ => ?_)
        refine P_aload_n d_Reader_readNumbers_42 rfl ?_
        refine P_callV (M := M_Reader_readNumbers) (pc := 43) (as := []) (b := 164) d_Reader_readNumbers_43 co_Reader_next ok_Reader kj1_0 L_Reader_66 im_Reader_next se_Reader_next (s_Reader_next hIj1 (ta := taj1_0) hb hen (by omega) kj1_0) rfl ⟨by decide, by decide⟩ ⟨by decide, by decide⟩ (by exact le_b rfl) ?_ _ rfl
        rintro _ w12 ⟨rfl, hI12, hG12, ⟨ta12, tk12, tp12, vl12, fa12, fp12, ha12, k12⟩⟩
        have hF12 : Fr SR1 w w12 := Fr.tr hFj1 hG12
        show PW _ _ _ _ _ _ (46, [(0, .ref 164), (1, .int (nI c)), (2, .int m), (3, .int (nI j1)), (4, .int tpj1_0), (5, .int 1)], [], w12)
        refine P_aload_n d_Reader_readNumbers_46 rfl ?_
        refine P_getf (i := 9) d_Reader_readNumbers_47 ok_Reader (by decide) L_Reader_69 k12 rfl ?_
        refine P_iconst (v := 3) d_Reader_readNumbers_50 (by decide) ?_
        refine P_icmp_eq 60 d_Reader_readNumbers_51 (by decide) (fun c13 => ?_) (fun c13 => ?_)
        · refine P_aload_n d_Reader_readNumbers_60 rfl ?_
          refine P_getf (i := 11) d_Reader_readNumbers_61 ok_Reader (by decide) L_Reader_164 k12 rfl ?_
          refine P_iload_n d_Reader_readNumbers_64 rfl ?_
          refine P_icmp_le 76 d_Reader_readNumbers_65 (by decide) (fun c14 => ?_) (fun c14 => ?_)
          · refine P_aload_n d_Reader_readNumbers_76 rfl ?_
            refine P_getf (i := 4) d_Reader_readNumbers_77 ok_Reader (by decide) L_Reader_18 k12 rfl ?_
            refine P_iload_n d_Reader_readNumbers_80 rfl ?_
            refine P_iload d_Reader_readNumbers_81 rfl ?_
            refine P_if_eq 95 d_Reader_readNumbers_83 (by decide) (fun h => absurd h (by decide)) (fun _ => ?_)
            refine P_aload_n d_Reader_readNumbers_86 rfl ?_
            refine P_getf (i := 11) d_Reader_readNumbers_87 ok_Reader (by decide) L_Reader_164 k12 rfl ?_
            refine P_ineg d_Reader_readNumbers_90 ?_
            refine P_i2l d_Reader_readNumbers_91 ?_
            refine P_goto 100 d_Reader_readNumbers_92 (by decide) ?_
            obtain ⟨f15, f15e⟩ := hI12.row (r := 167) (by decide) kc_167
            refine P_lastG (j := j1) d_Reader_readNumbers_100 f15e (by decide) (ix_nI (by omega)) (by omega) (fun w16 e16 s16 n16 z16 => ?_)
            generalize vp_updL _ _ _ = g17 at e16 s16
            have hI16 : I w16 := hI12.setL e16 kc_167
            have hF16 : Fr SR1 w w16 := Fr.set hF12 e16 (SR1_t (by omega))
            show PW _ _ _ _ _ _ (101, [(0, .ref 164), (1, .int (nI c)), (2, .int m), (3, .int (nI j1)), (4, .int tpj1_0), (5, .int 1)], [], w16)
            refine P_aload_n d_Reader_readNumbers_101 rfl ?_
            refine P_callV (M := M_Reader_readNumbers) (pc := 102) (as := []) (b := 164) d_Reader_readNumbers_102 co_Reader_next ok_Reader ((w_n e16 _ (by decide)).trans k12) L_Reader_66 im_Reader_next se_Reader_next (s_Reader_next hI16 (ta := ta12) hb hen (by omega) ((w_n e16 _ (by decide)).trans k12)) rfl ⟨by decide, by decide⟩ ⟨by decide, by decide⟩ (by exact le_b rfl) ?_ _ rfl
            rintro _ w18 ⟨rfl, hI18, hG18, ⟨ta18, tk18, tp18, vl18, fa18, fp18, ha18, k18⟩⟩
            have hF18 : Fr SR1 w w18 := Fr.tr hF16 hG18
            show PW _ _ _ _ _ _ (105, [(0, .ref 164), (1, .int (nI c)), (2, .int m), (3, .int (nI j1)), (4, .int tpj1_0), (5, .int 1)], [], w18)
            refine P_iinc (v := nI (j1 + 1)) d_Reader_readNumbers_105 (by decide) rfl (nI_add j1 1) rfl ?_
            refine P_goto 2 d_Reader_readNumbers_108 (by decide) ?_
            show PW _ _ _ _ _ _ (2, [(0, .ref 164), (1, .int (nI c)), (2, .int m), (3, .int (nI (j1 + 1))), (4, .int tpj1_0), (5, .int 1)], [], w18)
            refine PW.drop (lv' := [(0, .ref 164), (1, .int (nI c)), (2, .int m), (3, .int (nI (j1 + 1)))]) (by simp) ?_
            exact kkj1 (w18) ⟨hI18, hF18, ⟨ta18, _, _, _, _, _, by omega, k18⟩⟩
          · refine P_aload_n d_Reader_readNumbers_68 rfl ?_
            refine P_iconst (v := 2) d_Reader_readNumbers_69 (by decide) ?_
            refine P_iload d_Reader_readNumbers_70 rfl ?_
            refine P_callV (M := M_Reader_readNumbers) (pc := 72) (as := [.int 2, .int tpj1_0]) (b := 164) d_Reader_readNumbers_72 co_Reader_refuseAt ok_Reader k12 L_Reader_170 im_Reader_refuseAt se_Reader_refuseAt (s_Reader_refuseAt hI12 (ta := ta12) hb hen (by omega) k12 2 tpj1_0) rfl ⟨by decide, by decide⟩ ⟨by decide, by decide⟩ (by exact le_b rfl) ?_ _ rfl
            rintro _ w19 ⟨⟨v19, rfl⟩, hI19, hG19, ⟨ta19, tk19, tp19, vl19, fa19, fp19, ha19, k19⟩⟩
            have hF19 : Fr SR1 w w19 := Fr.tr hF12 hG19
            show PW _ _ _ _ _ _ (75, [(0, .ref 164), (1, .int (nI c)), (2, .int m), (3, .int (nI j1)), (4, .int tpj1_0), (5, .int 1)], [.int (bi v19)], w19)
            exact P_zret d_Reader_readNumbers_75 rfl (nar_bi _) (le_b rfl) (le_b rfl) ⟨⟨_, rfl⟩, hI19, hF19, ⟨ta19, _, _, _, _, _, by omega, k19⟩⟩
        · refine P_aload_n d_Reader_readNumbers_54 rfl ?_
          refine P_iconst (v := 1) d_Reader_readNumbers_55 (by decide) ?_
          refine P_callV (M := M_Reader_readNumbers) (pc := 56) (as := [.int 1]) (b := 164) d_Reader_readNumbers_56 co_Reader_refuse ok_Reader k12 L_Reader_88 im_Reader_refuse se_Reader_refuse (s_Reader_refuse hI12 (ta := ta12) hb hen (by omega) k12 1) rfl ⟨by decide, by decide⟩ ⟨by decide, by decide⟩ (by exact le_b rfl) ?_ _ rfl
          rintro _ w20 ⟨⟨v20, rfl⟩, hI20, hG20, ⟨ta20, tk20, tp20, vl20, fa20, fp20, ha20, k20⟩⟩
          have hF20 : Fr SR1 w w20 := Fr.tr hF12 hG20
          show PW _ _ _ _ _ _ (59, [(0, .ref 164), (1, .int (nI c)), (2, .int m), (3, .int (nI j1)), (4, .int tpj1_0), (5, .int 1)], [.int (bi v20)], w20)
          exact P_zret d_Reader_readNumbers_59 rfl (nar_bi _) (le_b rfl) (le_b rfl) ⟨⟨_, rfl⟩, hI20, hF20, ⟨ta20, _, _, _, _, _, by omega, k20⟩⟩
